/-! ===== town ===== -/
theorem Inv_tape {S S3 : sw_S} (hI : Inv S) {T : Nat → Nat → Nat} (hT : IT T) (h0 : S3.1 0 = T) (h3 : S3.1 3 = T) (hH : S3.2.1 3 = S3.2.1 0) (h1 : S3.1 1 = S.1 1) (h4 : S3.1 4 = S.1 4) (g1 : S3.2.1 1 = S.2.1 1) (g4 : S3.2.1 4 = S.2.1 4) (g6 : ∀ t, 6 ≤ t → S3.2.1 t = S.2.1 t) (hf : ∀ f, f ≠ 5 → f ≠ 25 → S3.2.2 f = S.2.2 f) (z5 : S3.2.2 5 0 = 0) (z25 : S3.2.2 25 0 = 0) : Inv S3 := by
  refine ⟨by rw [h0]; exact hT, by rw [h0, h3], hH, by rw [h1]; exact hI.it1, ?_, ?_, ?_, ?_, ⟨0, by decide, z5, z25⟩, ?_, ?_, ?_, ?_, ?_, ?_⟩
  · rw [hf 9 (by decide) (by decide)]; exact hI.kb
  · rw [hf 9 (by decide) (by decide), hf 21 (by decide) (by decide)]; exact hI.k21
  · rw [hf 9 (by decide) (by decide), h1, h4, g1, g4]; exact hI.kept
  · rw [hf 20 (by decide) (by decide), hf 8 (by decide) (by decide)]; exact hI.f
  · rw [hf 24 (by decide) (by decide), hf 4 (by decide) (by decide)]; exact hI.by
  · rw [hf 4 (by decide) (by decide)]; exact hI.by2
  · rw [hf 26 (by decide) (by decide), hf 6 (by decide) (by decide)]; exact hI.sb
  · rw [hf 27 (by decide) (by decide), hf 7 (by decide) (by decide)]; exact hI.ss
  · rw [hf 7 (by decide) (by decide)]; exact hI.sz
  · intro s hs
    rw [g6 (10 + s) (by omega), g6 (6 + s) (by omega)]; exact hI.row s hs
theorem neg_g : ∀ g, g < 101 → ((-1 : Int32) - nI g < 0) := by decide +kernel
section PT
variable (E : sw_E) {S : sw_S} {p : Nat → Nat} {n : Nat}
set_option maxRecDepth 100000 in
set_option maxHeartbeats 4000000 in
theorem c_tell (hb : ∀ j, S.2.2 4 j = nI (p j)) (hp : ∀ j, p j < 256) (hn : n ≤ 100) (hl : S.2.2 5 0 = nI n) {T : Nat → Nat → Nat} {H : Nat → Int64} {a b c d : Int32} : f_Tape_tellTown E (.ref 59) (.ref (mm_tn 2 0)) (mk (TP 5 2 S T H a b c d)) = sw_ex E 31 19 [.ref 59, .ref (mm_tn 2 0), .int (nI 0), .int (nI 0)] [] (mk (TC S T H p n (sp p n 0) d)) := by
  have k := c_step E (S := S) (T := T) (H := H) (a := a) (b := b) (d := d) hp hb hn hl (Nat.zero_le n)
  have k' : f_Tape_step E (.ref 59) (mk (TP 5 2 S T H a b 0 d)) = _ := k
  have e : ((100 : Int32) < 0) ↔ False := by decide
  simp (disch := first | omega | exact hB _ _ | assumption | decide) only [e_Tape_tellTown, st_Tape_tellTown, u_Tape_tellTown_0, e, k', mr_cl E _, mw_f59_1, mw_f59_2, mw_f59_3, mw_f59_4, mw_f59_5, mw_f71_11, mw_f71_12, mw_f71_13, mw_f71_14, mw_f71_15, TP_T, TP_H, TP_Tn, TP_Hn, TP_fn, TP_f0, TP_f1, TP_f2, TP_f3, TP_f4, TP_w1, TP_w2, TP_w3, TP_w4, TP_wT, TP_wH, Bool.false_eq_true, n_10, true_and, and_true, false_and, and_false, Nat.not_lt_zero, true_or, or_true, eq_self, mm_z, mm_rs, sw_xc_ite, sw_xv_ite, n_m1, Nat.lt_irrefl, not_false_eq_true, not_true_eq_false, inS_0, inS_1, ite_not, sw_xv_some, sw_xm_some, sw_xc_some, sw_xc_void, if_true, if_false, reduceIte, bI_0, bI_01, bI_1, nt_or, Nat.reduceAdd, n_add, n_mul, n_addL, n_Ladd, n_mulL, n_Lmul, n_sub, n_subL, n_lt, n_eq, n_ltL, n_Llt, n_eqL, n_Leq, n_nneg, n_pos]
  rfl
set_option maxRecDepth 100000 in
set_option maxHeartbeats 4000000 in
/-- the class: what town does -/
theorem c_townY (hI : Inv S) (hb : ∀ j, S.2.2 4 j = nI (p j)) (hp : ∀ j, p j < 256) (hn : n ≤ 100) (hl : S.2.2 5 0 = nI n) {T' : Nat → Nat → Nat} {H' : Nat → Int64} {g k : Nat} (hT' : IT T') (hk : k ≤ 101) (h : ∀ d, ∃ d', sw_ex E 31 19 [.ref 59, .ref (mm_tn 2 0), .int (nI 0), .int (nI 0)] [] (mk (TC S (S.1 0) (S.2.1 0) p n (sp p n 0) d)) = some (some (.int (nI k)), mk (TC S T' H' p n g d'))) : ∃ d', f_SW_town E (.ref 0) (mk S) = some (some (.int (nI k)), mk (mm_pL (mm_pI (mm_pM (TC S T' H' p n g d') 5 (upd ((TC S T' H' p n g d').2.2 5) 0 0)) 0 T') 0 H')) := by
  obtain ⟨d', h⟩ := h (S.2.2 5 4)
  refine ⟨d', ?_⟩
  have h23 : 2 < 3 := by decide
  have h03 : 0 < 3 := by decide
  have k0 : f_Town_become E (.ref (mm_tn 2 0)) (.ref (mm_tn 0 0)) (mk S) = some (none, mk (TP 5 2 S (S.1 0) (S.2.1 0) (S.2.2 5 1) (S.2.2 5 2) (S.2.2 5 3) (S.2.2 5 4))) := by
    rw [c_Town_become E S (by decide) (by decide) (by decide) (fun i => hI.it.st i)]
    refine congrArg (fun q => some (none, mk q)) ?_
    have e := TP_id 5 2 S
    have e2 := TP_wT 5 2 S (S.1 2) (S.1 0) (S.2.1 2) (S.2.2 5 1) (S.2.2 5 2) (S.2.2 5 3) (S.2.2 5 4)
    have e3 := TP_wH 5 2 S (S.1 0) (S.2.1 2) (S.2.1 0) (S.2.2 5 1) (S.2.2 5 2) (S.2.2 5 3) (S.2.2 5 4)
    rw [e] at e2
    rw [← e3, ← e2]
  have k1 := (c_tell E (T := S.1 0) (H := S.2.1 0) (a := S.2.2 5 1) (b := S.2.2 5 2) (c := S.2.2 5 3) (d := S.2.2 5 4) hb hp hn hl).trans h
  have k2 : f_Town_become E (.ref (mm_tn 0 0)) (.ref (mm_tn 2 0)) (mk (mm_pM (TC S T' H' p n g d') 5 (upd ((TC S T' H' p n g d').2.2 5) 0 0))) = some (none, mk (mm_pL (mm_pI (mm_pM (TC S T' H' p n g d') 5 (upd ((TC S T' H' p n g d').2.2 5) 0 0)) 0 T') 0 H')) := by
    have q := c_Town_become E (mm_pM (TC S T' H' p n g d') 5 (upd ((TC S T' H' p n g d').2.2 5) 0 0)) (a := 0) (b := 2) (by decide) (by decide) (by decide) (by rw [mm_pM_1, TP_T]; exact fun i => hT'.st i)
    rw [mm_pM_1, mm_pM_2, TP_T, TP_H] at q
    exact q
  have k3 : f_Tape_clear E (.ref 59) (mk (TC S T' H' p n g d')) = some (some (.int (nI n)), mk (mm_pM (TC S T' H' p n g d') 5 (upd ((TC S T' H' p n g d').2.2 5) 0 0))) := by
    simp (disch := first | omega | exact hB _ _ | assumption | decide) only [e_Tape_clear, st_Tape_clear, hl, mr_cl E _, mw_f59_1, mw_f59_2, mw_f59_3, mw_f59_4, mw_f59_5, mw_f71_11, mw_f71_12, mw_f71_13, mw_f71_14, mw_f71_15, TP_T, TP_H, TP_Tn, TP_Hn, TP_fn, TP_f0, TP_f1, TP_f2, TP_f3, TP_f4, TP_w1, TP_w2, TP_w3, TP_w4, TP_wT, TP_wH, Bool.false_eq_true, n_10, true_and, and_true, false_and, and_false, Nat.not_lt_zero, true_or, or_true, eq_self, mm_z, mm_rs, sw_xc_ite, sw_xv_ite, n_m1, Nat.lt_irrefl, not_false_eq_true, not_true_eq_false, inS_0, inS_1, ite_not, sw_xv_some, sw_xm_some, sw_xc_some, sw_xc_void, if_true, if_false, reduceIte, bI_0, bI_01, bI_1, nt_or, Nat.reduceAdd, n_add, n_mul, n_addL, n_Ladd, n_mulL, n_Lmul, n_sub, n_subL, n_lt, n_eq, n_ltL, n_Llt, n_eqL, n_Leq, n_nneg, n_pos]
  have kp : ¬ nI k < 0 := nI_pos (by omega)
  simp (disch := first | omega | exact hB _ _ | assumption | decide) only [e_SW_town, st_SW_town, mr_cl E _, mr_town E _ 2 h23, mr_town E _ 0 h03, k0, k1, k2, k3, kp, Bool.false_eq_true, n_10, true_and, and_true, false_and, and_false, Nat.not_lt_zero, true_or, or_true, eq_self, mm_z, mm_rs, sw_xc_ite, sw_xv_ite, n_m1, Nat.lt_irrefl, not_false_eq_true, not_true_eq_false, inS_0, inS_1, ite_not, sw_xv_some, sw_xm_some, sw_xc_some, sw_xc_void, if_true, if_false, reduceIte, bI_0, bI_01, n_add, n_mul, n_addL, n_Ladd, n_mulL, n_Lmul, n_sub, n_subL, n_lt, n_eq, n_ltL, n_Llt, n_eqL, n_Leq, n_nneg, n_pos]
set_option maxRecDepth 100000 in
set_option maxHeartbeats 4000000 in
theorem c_townN (hI : Inv S) (hb : ∀ j, S.2.2 4 j = nI (p j)) (hp : ∀ j, p j < 256) (hn : n ≤ 100) (hl : S.2.2 5 0 = nI n) {T' : Nat → Nat → Nat} {H' : Nat → Int64} {g : Nat} (hg : g ≤ n) (h : ∀ d, ∃ d', sw_ex E 31 19 [.ref 59, .ref (mm_tn 2 0), .int (nI 0), .int (nI 0)] [] (mk (TC S (S.1 0) (S.2.1 0) p n (sp p n 0) d)) = some (some (.int (-1 - nI g)), mk (TC S T' H' p n g d'))) : ∃ d', f_SW_town E (.ref 0) (mk S) = some (some (.int (-1 - nI g)), mk (mm_pM (TC S T' H' p n g d') 5 (upd ((TC S T' H' p n g d').2.2 5) 0 0))) := by
  obtain ⟨d', h⟩ := h (S.2.2 5 4)
  refine ⟨d', ?_⟩
  have h23 : 2 < 3 := by decide
  have h03 : 0 < 3 := by decide
  have k0 : f_Town_become E (.ref (mm_tn 2 0)) (.ref (mm_tn 0 0)) (mk S) = some (none, mk (TP 5 2 S (S.1 0) (S.2.1 0) (S.2.2 5 1) (S.2.2 5 2) (S.2.2 5 3) (S.2.2 5 4))) := by
    rw [c_Town_become E S (by decide) (by decide) (by decide) (fun i => hI.it.st i)]
    refine congrArg (fun q => some (none, mk q)) ?_
    have e := TP_id 5 2 S
    have e2 := TP_wT 5 2 S (S.1 2) (S.1 0) (S.2.1 2) (S.2.2 5 1) (S.2.2 5 2) (S.2.2 5 3) (S.2.2 5 4)
    have e3 := TP_wH 5 2 S (S.1 0) (S.2.1 2) (S.2.1 0) (S.2.2 5 1) (S.2.2 5 2) (S.2.2 5 3) (S.2.2 5 4)
    rw [e] at e2
    rw [← e3, ← e2]
  have k1 := (c_tell E (T := S.1 0) (H := S.2.1 0) (a := S.2.2 5 1) (b := S.2.2 5 2) (c := S.2.2 5 3) (d := S.2.2 5 4) hb hp hn hl).trans h
  have k3 : f_Tape_clear E (.ref 59) (mk (TC S T' H' p n g d')) = some (some (.int (nI n)), mk (mm_pM (TC S T' H' p n g d') 5 (upd ((TC S T' H' p n g d').2.2 5) 0 0))) := by
    simp (disch := first | omega | exact hB _ _ | assumption | decide) only [e_Tape_clear, st_Tape_clear, hl, mr_cl E _, mw_f59_1, mw_f59_2, mw_f59_3, mw_f59_4, mw_f59_5, mw_f71_11, mw_f71_12, mw_f71_13, mw_f71_14, mw_f71_15, TP_T, TP_H, TP_Tn, TP_Hn, TP_fn, TP_f0, TP_f1, TP_f2, TP_f3, TP_f4, TP_w1, TP_w2, TP_w3, TP_w4, TP_wT, TP_wH, Bool.false_eq_true, n_10, true_and, and_true, false_and, and_false, Nat.not_lt_zero, true_or, or_true, eq_self, mm_z, mm_rs, sw_xc_ite, sw_xv_ite, n_m1, Nat.lt_irrefl, not_false_eq_true, not_true_eq_false, inS_0, inS_1, ite_not, sw_xv_some, sw_xm_some, sw_xc_some, sw_xc_void, if_true, if_false, reduceIte, bI_0, bI_01, bI_1, nt_or, Nat.reduceAdd, n_add, n_mul, n_addL, n_Ladd, n_mulL, n_Lmul, n_sub, n_subL, n_lt, n_eq, n_ltL, n_Llt, n_eqL, n_Leq, n_nneg, n_pos]
  have kp : (-1 : Int32) - nI g < 0 := neg_g g (by omega)
  simp (disch := first | omega | exact hB _ _ | assumption | decide) only [e_SW_town, st_SW_town, mr_cl E _, mr_town E _ 2 h23, mr_town E _ 0 h03, k0, k1, k3, kp, Bool.false_eq_true, n_10, true_and, and_true, false_and, and_false, Nat.not_lt_zero, true_or, or_true, eq_self, mm_z, mm_rs, sw_xc_ite, sw_xv_ite, n_m1, Nat.lt_irrefl, not_false_eq_true, not_true_eq_false, inS_0, inS_1, ite_not, sw_xv_some, sw_xm_some, sw_xc_some, sw_xc_void, if_true, if_false, reduceIte, bI_0, bI_01, n_add, n_mul, n_addL, n_Ladd, n_mulL, n_Lmul, n_sub, n_subL, n_lt, n_eq, n_ltL, n_Llt, n_eqL, n_Leq, n_nneg, n_pos]
set_option maxRecDepth 100000 in
set_option maxHeartbeats 4000000 in
/-- the reference, up to the end of the words -/
theorem md_town1 (hb : ∀ j, S.2.2 24 j = nI (p j)) (hp : ∀ j, p j < 256) (hn : n ≤ 100) (hl : S.2.2 25 0 = nI n) {S1 : sw_S} {M : Option sw_R} (hit : f_MD_item E (.ref 71) (mk (TR (mm_pL (mm_pI S 5 (S.1 3)) 5 (S.2.1 3)) (S.1 3) (S.2.1 3) p n (sp p n 0) (S.2.2 25 3) 0)) = some (none, mk S1)) (hh : h_MD_town_0 E [.ref 71, .int (nI (0 + 1))] (mk S1) = M) : f_MD_town E (.ref 71) (mk S) = M := by
  have k0 := md_puts E S
  have e : mm_pL (mm_pI S 5 (S.1 3)) 5 (S.2.1 3) = TP 25 3 (mm_pL (mm_pI S 5 (S.1 3)) 5 (S.2.1 3)) (S.1 3) (S.2.1 3) (S.2.2 25 1) (S.2.2 25 2) (S.2.2 25 3) (S.2.2 25 4) := by
    have q := TP_id 25 3 (mm_pL (mm_pI S 5 (S.1 3)) 5 (S.2.1 3))
    rw [mm_pL_1, mm_pI_ne _ _ (by decide), mm_pL_ne _ _ (by decide), mm_pL_3, mm_pI_2] at q
    exact q.symm
  have hb2 : ∀ j, (mm_pL (mm_pI S 5 (S.1 3)) 5 (S.2.1 3)).2.2 24 j = nI (p j) := hb
  have hl2 : (mm_pL (mm_pI S 5 (S.1 3)) 5 (S.2.1 3)).2.2 25 0 = nI n := hl
  generalize mm_pL (mm_pI S 5 (S.1 3)) 5 (S.2.1 3) = Q at *
  have k1 := md_nxt E (T := S.1 3) (H := S.2.1 3) (a := S.2.2 25 1) (v := S.2.2 25 3) (w := 0) hp hb2 hn hl2 (Nat.zero_le n)
  have k1' : f_MD_next E (.ref 71) (mk (TP 25 3 Q (S.1 3) (S.2.1 3) (S.2.2 25 1) 0 (S.2.2 25 3) 0)) = _ := k1
  rw [e] at k0
  rw [← hh]
  simp (disch := first | omega | exact hB _ _ | assumption | decide) only [e_MD_town, st_MD_town, k0, k1', hit, mr_md E _, mw_f59_1, mw_f59_2, mw_f59_3, mw_f59_4, mw_f59_5, mw_f71_11, mw_f71_12, mw_f71_13, mw_f71_14, mw_f71_15, TP_T, TP_H, TP_Tn, TP_Hn, TP_fn, TP_f0, TP_f1, TP_f2, TP_f3, TP_f4, TP_w1, TP_w2, TP_w3, TP_w4, TP_wT, TP_wH, Bool.false_eq_true, n_10, true_and, and_true, false_and, and_false, Nat.not_lt_zero, true_or, or_true, eq_self, mm_z, mm_rs, sw_xc_ite, sw_xv_ite, n_m1, Nat.lt_irrefl, not_false_eq_true, not_true_eq_false, inS_0, inS_1, ite_not, sw_xv_some, sw_xm_some, sw_xc_some, sw_xc_void, if_true, if_false, reduceIte, bI_0, bI_01, bI_1, nt_or, Nat.reduceAdd, n_add, n_mul, n_addL, n_Ladd, n_mulL, n_Lmul, n_sub, n_subL, n_lt, n_eq, n_ltL, n_Llt, n_eqL, n_Leq, n_nneg, n_pos]
  rfl
end PT
section PT2
variable (E : sw_E)
set_option maxRecDepth 100000 in
set_option maxHeartbeats 4000000 in
theorem md_t74Y {Q : sw_S} {T : Nat → Nat → Nat} {H : Nat → Int64} {a b v : Int32} (k : Int32) : sw_ex E 206 74 [.ref 71, .int k] [] (mk (TP 25 3 Q T H a b v 0)) = some (some (.int k), mk (mm_pM (TP 25 3 Q T H a b v 0) 25 (upd ((TP 25 3 Q T H a b v 0).2.2 25) 0 0))) := by
  have e : (mm_pM (TP 25 3 Q T H a b v 0) 25 (upd ((TP 25 3 Q T H a b v 0).2.2 25) 0 0)).2.2 25 4 = 0 := by
    rw [mm_pM_at, TP_f]; rfl
  simp (disch := first | omega | exact hB _ _ | assumption | decide) only [st_MD_town, e, mr_md E _, mw_f59_1, mw_f59_2, mw_f59_3, mw_f59_4, mw_f59_5, mw_f71_11, mw_f71_12, mw_f71_13, mw_f71_14, mw_f71_15, TP_T, TP_H, TP_Tn, TP_Hn, TP_fn, TP_f0, TP_f1, TP_f2, TP_f3, TP_f4, TP_w1, TP_w2, TP_w3, TP_w4, TP_wT, TP_wH, Bool.false_eq_true, n_10, true_and, and_true, false_and, and_false, Nat.not_lt_zero, true_or, or_true, eq_self, mm_z, mm_rs, sw_xc_ite, sw_xv_ite, n_m1, Nat.lt_irrefl, not_false_eq_true, not_true_eq_false, inS_0, inS_1, ite_not, sw_xv_some, sw_xm_some, sw_xc_some, sw_xc_void, if_true, if_false, reduceIte, bI_0, bI_01, bI_1, nt_or, Nat.reduceAdd, n_add, n_mul, n_addL, n_Ladd, n_mulL, n_Lmul, n_sub, n_subL, n_lt, n_eq, n_ltL, n_Llt, n_eqL, n_Leq, n_nneg, n_pos]
set_option maxRecDepth 100000 in
set_option maxHeartbeats 4000000 in
theorem md_t74N {Q : sw_S} {T : Nat → Nat → Nat} {H : Nat → Int64} {b v : Int32} (k g : Int32) : sw_ex E 206 74 [.ref 71, .int k] [] (mk (TP 25 3 Q T H g b v 1)) = some (some (.int (-1 - g)), mk (mm_pL (mm_pI (mm_pM (TP 25 3 Q T H g b v 1) 25 (upd ((TP 25 3 Q T H g b v 1).2.2 25) 0 0)) 3 (Q.1 5)) 3 (Q.2.1 5))) := by
  have e : (mm_pM (TP 25 3 Q T H g b v 1) 25 (upd ((TP 25 3 Q T H g b v 1).2.2 25) 0 0)).2.2 25 4 = 1 := by
    rw [mm_pM_at, TP_f]; rfl
  have e1 : (mm_pM (TP 25 3 Q T H g b v 1) 25 (upd ((TP 25 3 Q T H g b v 1).2.2 25) 0 0)).2.2 25 1 = g := by
    rw [mm_pM_at, TP_f]; rfl
  have q := md_putsBack E (mm_pM (TP 25 3 Q T H g b v 1) 25 (upd ((TP 25 3 Q T H g b v 1).2.2 25) 0 0))
  rw [mm_pM_1, mm_pM_2, TP_Tn _ _ _ _ _ _ _ _ _ (by decide), TP_Hn _ _ _ _ _ _ _ _ _ (by decide)] at q
  have e2 : (mm_pL (mm_pI (mm_pM (TP 25 3 Q T H g b v 1) 25 (upd ((TP 25 3 Q T H g b v 1).2.2 25) 0 0)) 3 (Q.1 5)) 3 (Q.2.1 5)).2.2 25 1 = g := by
    rw [mm_pL_3, mm_pI_2]; exact e1
  simp (disch := first | omega | exact hB _ _ | assumption | decide) only [st_MD_town, e, q, e2, i_ne, mr_md E _, mw_f59_1, mw_f59_2, mw_f59_3, mw_f59_4, mw_f59_5, mw_f71_11, mw_f71_12, mw_f71_13, mw_f71_14, mw_f71_15, TP_T, TP_H, TP_Tn, TP_Hn, TP_fn, TP_f0, TP_f1, TP_f2, TP_f3, TP_f4, TP_w1, TP_w2, TP_w3, TP_w4, TP_wT, TP_wH, Bool.false_eq_true, n_10, true_and, and_true, false_and, and_false, Nat.not_lt_zero, true_or, or_true, eq_self, mm_z, mm_rs, sw_xc_ite, sw_xv_ite, n_m1, Nat.lt_irrefl, not_false_eq_true, not_true_eq_false, inS_0, inS_1, ite_not, sw_xv_some, sw_xm_some, sw_xc_some, sw_xc_void, if_true, if_false, reduceIte, bI_0, bI_01, bI_1, nt_or, Nat.reduceAdd, n_add, n_mul, n_addL, n_Ladd, n_mulL, n_Lmul, n_sub, n_subL, n_lt, n_eq, n_ltL, n_Llt, n_eqL, n_Leq, n_nneg, n_pos]
set_option maxRecDepth 100000 in
set_option maxHeartbeats 4000000 in
theorem p_town (hE : E.2.2 = .null ∨ ∃ a, E.2.2 = .ref a) {S : sw_S} (hI : Inv S) : AgI S (f_SW_town E (.ref 0)) (f_MD_town E (.ref 71)) := by
  obtain ⟨p, hpb⟩ : ∃ p : Nat → Nat, ∀ i, p i < 256 ∧ S.2.2 4 i = nI (p i) := ⟨fun i => Classical.choose (hI.by2 i), fun i => Classical.choose_spec (hI.by2 i)⟩
  have hp := fun i => (hpb i).1
  have hb := fun i => (hpb i).2
  obtain ⟨n, hn, hl, hl2⟩ := hI.tape
  have h0n : sp p n 0 ≤ n := (run_le (Nat.zero_le n)).2
  rcases town_J hE hp hn n (S.1 0) (S.2.1 0) (sp p n 0) 0 (by omega) h0n (Nat.zero_le _) hI.it with ⟨T', H', g, k, hT', hg, hk, lc, lm⟩ | ⟨T', H', g, k, hT', hg, lc, lm⟩
  · obtain ⟨S1, c, a0, b0, a1, a3, a4, b1, b3, b4, b6, ff, z5⟩ : ∃ S1, f_SW_town E (.ref 0) (mk S) = some (some (.int (nI k)), mk S1) ∧ S1.1 0 = T' ∧ S1.2.1 0 = H' ∧ S1.1 1 = S.1 1 ∧ S1.1 3 = S.1 0 ∧ S1.1 4 = S.1 4 ∧ S1.2.1 1 = S.2.1 1 ∧ S1.2.1 3 = S.2.1 0 ∧ S1.2.1 4 = S.2.1 4 ∧ (∀ t, 6 ≤ t → S1.2.1 t = S.2.1 t) ∧ (∀ f, f ≠ 5 → S1.2.2 f = S.2.2 f) ∧ S1.2.2 5 0 = 0 := by
      obtain ⟨d', c⟩ := c_townY E hI hb hp hn hl hT' hk (lc S hb hl)
      refine ⟨_, c, ?_, ?_, ?_, ?_, ?_, ?_, ?_, ?_, ?_, ?_, ?_⟩
      · rw [mm_pL_1, mm_pI_at]
      · rw [mm_pL_at]
      · rw [mm_pL_1, mm_pI_ne _ _ (by decide), mm_pM_1, TP_Tn _ _ _ _ _ _ _ _ _ (by decide)]
      · rw [mm_pL_1, mm_pI_ne _ _ (by decide), mm_pM_1, TP_Tn _ _ _ _ _ _ _ _ _ (by decide)]; exact hI.s3
      · rw [mm_pL_1, mm_pI_ne _ _ (by decide), mm_pM_1, TP_Tn _ _ _ _ _ _ _ _ _ (by decide)]
      · rw [mm_pL_ne _ _ (by decide), mm_pI_2, mm_pM_2, TP_Hn _ _ _ _ _ _ _ _ _ (by decide)]
      · rw [mm_pL_ne _ _ (by decide), mm_pI_2, mm_pM_2, TP_Hn _ _ _ _ _ _ _ _ _ (by decide)]; exact hI.h3
      · rw [mm_pL_ne _ _ (by decide), mm_pI_2, mm_pM_2, TP_Hn _ _ _ _ _ _ _ _ _ (by decide)]
      · intro t ht
        rw [mm_pL_ne _ _ (by omega), mm_pI_2, mm_pM_2, TP_Hn _ _ _ _ _ _ _ _ _ (by omega)]
      · intro f hf
        rw [mm_pL_3, mm_pI_2, mm_pM_ne _ _ hf, TP_fn _ _ _ _ _ _ _ _ _ hf]
      · rw [mm_pL_3, mm_pI_2, mm_pM_at]; rfl
    have hb2 : ∀ j, S1.2.2 24 j = nI (p j) := fun j => by rw [ff 24 (by decide), hI.by]; exact hb j
    have hl3 : S1.2.2 25 0 = nI n := by rw [ff 25 (by decide)]; exact hl2
    obtain ⟨R1, v', i1, i2⟩ := lm (mm_pL (mm_pI S1 5 (S1.1 3)) 5 (S1.2.1 3)) hb2 hl3 (S1.2.2 25 3)
    rw [← a3, ← b3] at i1
    have k1 := md_town1 E hb2 hp hn hl3 i1 (i2.trans (md_t74Y E (nI k)))
    refine ⟨nI k, S1, _, c, k1, Inv_tape hI hT' ?_ ?_ ?_ ?_ ?_ ?_ ?_ ?_ ?_ ?_ ?_⟩
    · rw [mm_pM_1, TP_Tn _ _ _ _ _ _ _ _ _ (by decide), mm_pL_1, mm_pI_ne _ _ (by decide)]; exact a0
    · rw [mm_pM_1, TP_T]
    · rw [mm_pM_2, TP_H, TP_Hn _ _ _ _ _ _ _ _ _ (by decide), mm_pL_ne _ _ (by decide), mm_pI_2]; exact b0.symm
    · rw [mm_pM_1, TP_Tn _ _ _ _ _ _ _ _ _ (by decide), mm_pL_1, mm_pI_ne _ _ (by decide)]; exact a1
    · rw [mm_pM_1, TP_Tn _ _ _ _ _ _ _ _ _ (by decide), mm_pL_1, mm_pI_ne _ _ (by decide)]; exact a4
    · rw [mm_pM_2, TP_Hn _ _ _ _ _ _ _ _ _ (by decide), mm_pL_ne _ _ (by decide), mm_pI_2]; exact b1
    · rw [mm_pM_2, TP_Hn _ _ _ _ _ _ _ _ _ (by decide), mm_pL_ne _ _ (by decide), mm_pI_2]; exact b4
    · intro t ht
      rw [mm_pM_2, TP_Hn _ _ _ _ _ _ _ _ _ (by omega), mm_pL_ne _ _ (by omega), mm_pI_2]; exact b6 t ht
    · intro f h5 h25
      rw [mm_pM_ne _ _ h25, TP_fn _ _ _ _ _ _ _ _ _ h25, mm_pL_3, mm_pI_2]; exact ff f h5
    · rw [mm_pM_ne _ _ (by decide), TP_fn _ _ _ _ _ _ _ _ _ (by decide), mm_pL_3, mm_pI_2]; exact z5
    · rw [mm_pM_at]; rfl
  · obtain ⟨S1, c, a0, b0, a1, a3, a4, b1, b3, b4, b6, ff, z5⟩ : ∃ S1, f_SW_town E (.ref 0) (mk S) = some (some (.int (-1 - nI g)), mk S1) ∧ S1.1 0 = S.1 0 ∧ S1.2.1 0 = S.2.1 0 ∧ S1.1 1 = S.1 1 ∧ S1.1 3 = S.1 0 ∧ S1.1 4 = S.1 4 ∧ S1.2.1 1 = S.2.1 1 ∧ S1.2.1 3 = S.2.1 0 ∧ S1.2.1 4 = S.2.1 4 ∧ (∀ t, 6 ≤ t → S1.2.1 t = S.2.1 t) ∧ (∀ f, f ≠ 5 → S1.2.2 f = S.2.2 f) ∧ S1.2.2 5 0 = 0 := by
      obtain ⟨d', c⟩ := c_townN E hI hb hp hn hl hg (lc S hb hl)
      refine ⟨_, c, ?_, ?_, ?_, ?_, ?_, ?_, ?_, ?_, ?_, ?_, ?_⟩
      · rw [mm_pM_1, TP_Tn _ _ _ _ _ _ _ _ _ (by decide)]
      · rw [mm_pM_2, TP_Hn _ _ _ _ _ _ _ _ _ (by decide)]
      · rw [mm_pM_1, TP_Tn _ _ _ _ _ _ _ _ _ (by decide)]
      · rw [mm_pM_1, TP_Tn _ _ _ _ _ _ _ _ _ (by decide)]; exact hI.s3
      · rw [mm_pM_1, TP_Tn _ _ _ _ _ _ _ _ _ (by decide)]
      · rw [mm_pM_2, TP_Hn _ _ _ _ _ _ _ _ _ (by decide)]
      · rw [mm_pM_2, TP_Hn _ _ _ _ _ _ _ _ _ (by decide)]; exact hI.h3
      · rw [mm_pM_2, TP_Hn _ _ _ _ _ _ _ _ _ (by decide)]
      · intro t ht
        rw [mm_pM_2, TP_Hn _ _ _ _ _ _ _ _ _ (by omega)]
      · intro f hf
        rw [mm_pM_ne _ _ hf, TP_fn _ _ _ _ _ _ _ _ _ hf]
      · rw [mm_pM_at]; rfl
    have hb2 : ∀ j, S1.2.2 24 j = nI (p j) := fun j => by rw [ff 24 (by decide), hI.by]; exact hb j
    have hl3 : S1.2.2 25 0 = nI n := by rw [ff 25 (by decide)]; exact hl2
    obtain ⟨R1, v', i1, i2⟩ := lm (mm_pL (mm_pI S1 5 (S1.1 3)) 5 (S1.2.1 3)) hb2 hl3 (S1.2.2 25 3)
    rw [← a3, ← b3] at i1
    have k1 := md_town1 E hb2 hp hn hl3 i1 (i2.trans (md_t74N E (nI k) (nI g)))
    refine ⟨-1 - nI g, S1, _, c, k1, Inv_tape hI hI.it ?_ ?_ ?_ ?_ ?_ ?_ ?_ ?_ ?_ ?_ ?_⟩
    · rw [mm_pL_1, mm_pI_ne _ _ (by decide), mm_pM_1, TP_Tn _ _ _ _ _ _ _ _ _ (by decide), mm_pL_1, mm_pI_ne _ _ (by decide)]; exact a0
    · rw [mm_pL_1, mm_pI_at, mm_pL_1, mm_pI_at]; exact a3
    · rw [mm_pL_at, mm_pL_at, mm_pL_ne _ _ (by decide), mm_pI_2, mm_pM_2, TP_Hn _ _ _ _ _ _ _ _ _ (by decide), mm_pL_ne _ _ (by decide), mm_pI_2]; exact b3.trans b0.symm
    · rw [mm_pL_1, mm_pI_ne _ _ (by decide), mm_pM_1, TP_Tn _ _ _ _ _ _ _ _ _ (by decide), mm_pL_1, mm_pI_ne _ _ (by decide)]; exact a1
    · rw [mm_pL_1, mm_pI_ne _ _ (by decide), mm_pM_1, TP_Tn _ _ _ _ _ _ _ _ _ (by decide), mm_pL_1, mm_pI_ne _ _ (by decide)]; exact a4
    · rw [mm_pL_ne _ _ (by decide), mm_pI_2, mm_pM_2, TP_Hn _ _ _ _ _ _ _ _ _ (by decide), mm_pL_ne _ _ (by decide), mm_pI_2]; exact b1
    · rw [mm_pL_ne _ _ (by decide), mm_pI_2, mm_pM_2, TP_Hn _ _ _ _ _ _ _ _ _ (by decide), mm_pL_ne _ _ (by decide), mm_pI_2]; exact b4
    · intro t ht
      rw [mm_pL_ne _ _ (by omega), mm_pI_2, mm_pM_2, TP_Hn _ _ _ _ _ _ _ _ _ (by omega), mm_pL_ne _ _ (by omega), mm_pI_2]; exact b6 t ht
    · intro f h5 h25
      rw [mm_pL_3, mm_pI_2, mm_pM_ne _ _ h25, TP_fn _ _ _ _ _ _ _ _ _ h25, mm_pL_3, mm_pI_2]; exact ff f h5
    · rw [mm_pL_3, mm_pI_2, mm_pM_ne _ _ (by decide), TP_fn _ _ _ _ _ _ _ _ _ (by decide), mm_pL_3, mm_pI_2]; exact z5
    · rw [mm_pL_3, mm_pI_2, mm_pM_at]; rfl
end PT2
