/-! ===== an item, by both ===== -/
def JY (E : sw_E) (p : Nat → Nat) (n : Nat) (T : Nat → Nat → Nat) (H : Nat → Int64) (f : Nat) (T' : Nat → Nat → Nat) (H' : Nat → Int64) (f' : Nat) : Prop := (∀ S : sw_S, (∀ j, S.2.2 4 j = nI (p j)) → S.2.2 5 0 = nI n → ∀ d, ∃ d', f_Tape_tellItem E (.ref 59) (.ref (mm_tn 2 0)) (mk (TC S T H p n f d)) = some (some (.int 1), mk (TC S T' H' p n f' d'))) ∧ (∀ S : sw_S, (∀ j, S.2.2 24 j = nI (p j)) → S.2.2 25 0 = nI n → ∀ v, ∃ v', f_MD_item E (.ref 71) (mk (TR S T H p n f v 0)) = some (none, mk (TR S T' H' p n f' v' 0)))
def JN (E : sw_E) (p : Nat → Nat) (n : Nat) (T : Nat → Nat → Nat) (H : Nat → Int64) (f f' : Nat) : Prop := (∀ S : sw_S, (∀ j, S.2.2 4 j = nI (p j)) → S.2.2 5 0 = nI n → ∀ d, ∃ d', f_Tape_tellItem E (.ref 59) (.ref (mm_tn 2 0)) (mk (TC S T H p n f d)) = some (some (.int 0), mk (TC S T H p n f' d'))) ∧ (∀ S : sw_S, (∀ j, S.2.2 24 j = nI (p j)) → S.2.2 25 0 = nI n → ∀ v, ∃ v', f_MD_item E (.ref 71) (mk (TR S T H p n f v 0)) = some (none, mk (TR S T H p n f' v' 1)))
theorem c_stq (E : sw_E) {S : sw_S} {T : Nat → Nat → Nat} {H : Nat → Int64} {a b d : Int32} {p : Nat → Nat} {n : Nat} (hp : ∀ j, p j < 256) (hb : ∀ j, S.2.2 4 j = nI (p j)) (hn : n ≤ 100) (hl : S.2.2 5 0 = nI n) {f : Nat} (hf : f ≤ n) : f_Tape_step E (.ref 59) (mk (TP 5 2 S T H a b (nI (en p n f)) d)) = some (none, mk (TC S T H p n (nx p n f) d)) := c_step E hp hb hn hl (en_b (p := p) hf).2.1
theorem i_lt0 : (((0 : Int32) < 0) ↔ False) ∧ (((1 : Int32) < 0) ↔ False) ∧ (((-1 : Int32) = 0) ↔ False) := by decide
theorem kd_i {p : Nat → Nat} {n f : Nat} : ∀ i, i < 6 → isw p n f (kw i) = true → kd p n f = nI i := by
  intro i hi h
  have z : ∀ q, q < 10 → q ≠ kw i → ¬ (isw p n f q = true) := fun q hq hne g => hne (isw_1 hq (by unfold kw; split <;> omega) g h)
  unfold kd
  rcases (show i = 0 ∨ i = 1 ∨ i = 2 ∨ i = 3 ∨ i = 4 ∨ i = 5 by omega) with rfl | rfl | rfl | rfl | rfl | rfl
  · have h : isw p n f 9 = true := h
    rw [if_pos h]; rfl
  · have h : isw p n f 4 = true := h
    rw [if_neg (z 9 (by decide) (by decide)), if_pos h]; rfl
  · have h : isw p n f 5 = true := h
    rw [if_neg (z 9 (by decide) (by decide)), if_neg (z 4 (by decide) (by decide)), if_pos h]; rfl
  · have h : isw p n f 6 = true := h
    rw [if_neg (z 9 (by decide) (by decide)), if_neg (z 4 (by decide) (by decide)), if_neg (z 5 (by decide) (by decide)), if_pos h]; rfl
  · have h : isw p n f 7 = true := h
    rw [if_neg (z 9 (by decide) (by decide)), if_neg (z 4 (by decide) (by decide)), if_neg (z 5 (by decide) (by decide)), if_neg (z 6 (by decide) (by decide)), if_pos h]; rfl
  · have h : isw p n f 8 = true := h
    rw [if_neg (z 9 (by decide) (by decide)), if_neg (z 4 (by decide) (by decide)), if_neg (z 5 (by decide) (by decide)), if_neg (z 6 (by decide) (by decide)), if_neg (z 7 (by decide) (by decide)), if_pos h]; rfl
theorem kd_no {p : Nat → Nat} {n f : Nat} (z : ∀ q, 4 ≤ q → q < 10 → ¬ isw p n f q = true) : kd p n f = -1 := by
  unfold kd
  rw [if_neg (z 9 (by decide) (by decide)), if_neg (z 4 (by decide) (by decide)), if_neg (z 5 (by decide) (by decide)), if_neg (z 6 (by decide) (by decide)), if_neg (z 7 (by decide) (by decide)), if_neg (z 8 (by decide) (by decide))]
section JS
variable {E : sw_E} {T : Nat → Nat → Nat} {H : Nat → Int64} {p : Nat → Nat} {n f : Nat}
set_option maxRecDepth 100000 in
set_option maxHeartbeats 4000000 in
theorem j_none (hE : E.2.2 = .null ∨ ∃ a, E.2.2 = .ref a) (hp : ∀ j, p j < 256) (hn : n ≤ 100) (hf : f ≤ n) (hT : IT T) (z0 : ¬ isw p n f 0 = true) (z2 : ¬ isw p n f 2 = true) (z3 : ¬ isw p n f 3 = true) (z : ∀ q, 4 ≤ q → q < 10 → ¬ isw p n f q = true) : JN E p n T H f f := by
  have h23 : 2 < 3 := by decide
  have m1 : ((-1 : Int32) < 0) ↔ True := by decide
  have hB := hT.b
  have hB00 := hB 0 0
  have hB01 := hB 0 1
  have k := kd_no z
  refine ⟨fun S hb hl d => ⟨d, ?_⟩, fun S hb hl v => ?_⟩
  · simp (maxSteps := 2000000) (disch := first | omega | exact hB _ _ | assumption | decide) only [e_Tape_tellItem, st_Tape_tellItem, e_Tape_tellThing, st_Tape_tellThing, e_People_isFull, st_People_isFull, e_Things_isFull, st_Things_isFull, mr_town E _ 2 h23, mw_t0_3 _ h23, mw_t0_4 _ h23, i_ne, c_w0 E hE hp hb hn hl hf, c_w2 E hE hp hb hn hl hf, c_w3 E hE hp hb hn hl hf, c_kind E hE hp hb hn hl hf, z0, z2, z3, k, mr_cl E _, mw_f59_1, mw_f59_2, mw_f59_3, mw_f59_4, mw_f59_5, mw_f71_11, mw_f71_12, mw_f71_13, mw_f71_14, mw_f71_15, TP_T, TP_H, TP_Tn, TP_Hn, TP_fn, TP_f0, TP_f1, TP_f2, TP_f3, TP_f4, TP_w1, TP_w2, TP_w3, TP_w4, TP_wT, TP_wH, Bool.false_eq_true, n_10, true_and, and_true, false_and, and_false, Nat.not_lt_zero, true_or, or_true, eq_self, mm_z, mm_rs, sw_xc_ite, sw_xv_ite, n_m1, Nat.lt_irrefl, not_false_eq_true, not_true_eq_false, inS_0, inS_1, ite_not, sw_xv_some, sw_xm_some, sw_xc_some, sw_xc_void, if_true, if_false, reduceIte, bI_0, bI_01, bI_1, nt_or, Nat.reduceAdd, n_add, n_mul, n_addL, n_Ladd, n_mulL, n_Lmul, n_sub, n_subL, n_lt, n_eq, n_ltL, n_Llt, n_eqL, n_Leq, n_nneg, n_pos]
  · skip
    refine ⟨v, ?_⟩
    simp (maxSteps := 2000000) (disch := first | omega | exact hB _ _ | assumption | decide) only [e_MD_item, st_MD_item, e_MD_thingItem, st_MD_thingItem, rs_L, i_ne, i_lt0, ite_self, md_w0 E hp hb hn hl hf, md_w2 E hp hb hn hl hf, md_w3 E hp hb hn hl hf, md_kind E hp hb hn hl hf, z0, z2, z3, k, m1, md_needN, md_numW, mr_md E _, mw_f59_1, mw_f59_2, mw_f59_3, mw_f59_4, mw_f59_5, mw_f71_11, mw_f71_12, mw_f71_13, mw_f71_14, mw_f71_15, TP_T, TP_H, TP_Tn, TP_Hn, TP_fn, TP_f0, TP_f1, TP_f2, TP_f3, TP_f4, TP_w1, TP_w2, TP_w3, TP_w4, TP_wT, TP_wH, Bool.false_eq_true, n_10, true_and, and_true, false_and, and_false, Nat.not_lt_zero, true_or, or_true, eq_self, mm_z, mm_rs, sw_xc_ite, sw_xv_ite, n_m1, Nat.lt_irrefl, not_false_eq_true, not_true_eq_false, inS_0, inS_1, ite_not, sw_xv_some, sw_xm_some, sw_xc_some, sw_xc_void, if_true, if_false, reduceIte, bI_0, bI_01, bI_1, nt_or, Nat.reduceAdd, n_add, n_mul, n_addL, n_Ladd, n_mulL, n_Lmul, n_sub, n_subL, n_lt, n_eq, n_ltL, n_Llt, n_eqL, n_Leq, n_nneg, n_pos]
set_option maxRecDepth 100000 in
set_option maxHeartbeats 4000000 in
theorem j_full (hE : E.2.2 = .null ∨ ∃ a, E.2.2 = .ref a) (hp : ∀ j, p j < 256) (hn : n ≤ 100) (hf : f ≤ n) (hT : IT T) {i : Nat} (hi : i < 6) (hw : isw p n f (kw i) = true) (h10 : ¬ T 0 0 < 10) : JN E p n T H f f := by
  have h23 : 2 < 3 := by decide
  have m1 : ((-1 : Int32) < 0) ↔ True := by decide
  have hB := hT.b
  have hB00 := hB 0 0
  have hB01 := hB 0 1
  have z : ∀ q, q < 10 → q ≠ kw i → ((isw p n f q = true) ↔ False) := fun q hq hne => ⟨fun g => hne (isw_1 hq (by first | decide | (unfold kw; split <;> omega)) g hw), False.elim⟩
  have z0 := z 0 (by decide) (by unfold kw; split <;> omega)
  have z2 := z 2 (by decide) (by unfold kw; split <;> omega)
  have z3 := z 3 (by decide) (by unfold kw; split <;> omega)
  have k := kd_i i hi hw
  have i0 : ¬ nI i < 0 := nI_pos (by omega)
  refine ⟨fun S hb hl d => ⟨d, ?_⟩, fun S hb hl v => ?_⟩
  · simp (maxSteps := 2000000) (disch := first | omega | exact hB _ _ | assumption | decide) only [e_Tape_tellItem, st_Tape_tellItem, e_Tape_tellThing, st_Tape_tellThing, e_People_isFull, st_People_isFull, e_Things_isFull, st_Things_isFull, mr_town E _ 2 h23, mw_t0_3 _ h23, mw_t0_4 _ h23, i_ne, c_w0 E hE hp hb hn hl hf, c_w2 E hE hp hb hn hl hf, c_w3 E hE hp hb hn hl hf, c_kind E hE hp hb hn hl hf, z0, z2, z3, k, i0, h10, mr_cl E _, mw_f59_1, mw_f59_2, mw_f59_3, mw_f59_4, mw_f59_5, mw_f71_11, mw_f71_12, mw_f71_13, mw_f71_14, mw_f71_15, TP_T, TP_H, TP_Tn, TP_Hn, TP_fn, TP_f0, TP_f1, TP_f2, TP_f3, TP_f4, TP_w1, TP_w2, TP_w3, TP_w4, TP_wT, TP_wH, Bool.false_eq_true, n_10, true_and, and_true, false_and, and_false, Nat.not_lt_zero, true_or, or_true, eq_self, mm_z, mm_rs, sw_xc_ite, sw_xv_ite, n_m1, Nat.lt_irrefl, not_false_eq_true, not_true_eq_false, inS_0, inS_1, ite_not, sw_xv_some, sw_xm_some, sw_xc_some, sw_xc_void, if_true, if_false, reduceIte, bI_0, bI_01, bI_1, nt_or, Nat.reduceAdd, n_add, n_mul, n_addL, n_Ladd, n_mulL, n_Lmul, n_sub, n_subL, n_lt, n_eq, n_ltL, n_Llt, n_eqL, n_Leq, n_nneg, n_pos]
  · skip
    refine ⟨v, ?_⟩
    simp (maxSteps := 2000000) (disch := first | omega | exact hB _ _ | assumption | decide) only [e_MD_item, st_MD_item, e_MD_thingItem, st_MD_thingItem, rs_L, i_ne, i_lt0, ite_self, md_kind E hp hb hn hl hf, k, i0, h10, md_needN, mr_md E _, mw_f59_1, mw_f59_2, mw_f59_3, mw_f59_4, mw_f59_5, mw_f71_11, mw_f71_12, mw_f71_13, mw_f71_14, mw_f71_15, TP_T, TP_H, TP_Tn, TP_Hn, TP_fn, TP_f0, TP_f1, TP_f2, TP_f3, TP_f4, TP_w1, TP_w2, TP_w3, TP_w4, TP_wT, TP_wH, Bool.false_eq_true, n_10, true_and, and_true, false_and, and_false, Nat.not_lt_zero, true_or, or_true, eq_self, mm_z, mm_rs, sw_xc_ite, sw_xv_ite, n_m1, Nat.lt_irrefl, not_false_eq_true, not_true_eq_false, inS_0, inS_1, ite_not, sw_xv_some, sw_xm_some, sw_xc_some, sw_xc_void, if_true, if_false, reduceIte, bI_0, bI_01, bI_1, nt_or, Nat.reduceAdd, n_add, n_mul, n_addL, n_Ladd, n_mulL, n_Lmul, n_sub, n_subL, n_lt, n_eq, n_ltL, n_Llt, n_eqL, n_Leq, n_nneg, n_pos]
set_option maxRecDepth 100000 in
set_option maxHeartbeats 4000000 in
theorem j_person (hE : E.2.2 = .null ∨ ∃ a, E.2.2 = .ref a) (hp : ∀ j, p j < 256) (hn : n ≤ 100) (hf : f ≤ n) (hT : IT T) {i : Nat} (hi : i < 6) (hw : isw p n f (kw i) = true) (h10 : T 0 0 < 10) : JY E p n T H f (tw_newP T i) (vp_updL H (T 0 0) 0) (nx p n f) := by
  have h23 : 2 < 3 := by decide
  have m1 : ((-1 : Int32) < 0) ↔ True := by decide
  have hB := hT.b
  have hB00 := hB 0 0
  have hB01 := hB 0 1
  have z : ∀ q, q < 10 → q ≠ kw i → ((isw p n f q = true) ↔ False) := fun q hq hne => ⟨fun g => hne (isw_1 hq (by first | decide | (unfold kw; split <;> omega)) g hw), False.elim⟩
  have z0 := z 0 (by decide) (by unfold kw; split <;> omega)
  have z2 := z 2 (by decide) (by unfold kw; split <;> omega)
  have z3 := z 3 (by decide) (by unfold kw; split <;> omega)
  have k := kd_i i hi hw
  have i0 : ¬ nI i < 0 := nI_pos (by omega)
  refine ⟨fun S hb hl d => ⟨dd p n f d, ?_⟩, fun S hb hl v => ?_⟩
  · simp (maxSteps := 2000000) (disch := first | omega | exact hB _ _ | assumption | decide) only [e_Tape_tellItem, st_Tape_tellItem, e_Tape_tellThing, st_Tape_tellThing, e_People_isFull, st_People_isFull, e_Things_isFull, st_Things_isFull, mr_town E _ 2 h23, mw_t0_3 _ h23, mw_t0_4 _ h23, i_ne, c_w0 E hE hp hb hn hl hf, c_w2 E hE hp hb hn hl hf, c_w3 E hE hp hb hn hl hf, c_kind E hE hp hb hn hl hf, z0, z2, z3, k, i0, h10, c_nP E hB h10, c_stq E hp hb hn hl hf, mr_cl E _, mw_f59_1, mw_f59_2, mw_f59_3, mw_f59_4, mw_f59_5, mw_f71_11, mw_f71_12, mw_f71_13, mw_f71_14, mw_f71_15, TP_T, TP_H, TP_Tn, TP_Hn, TP_fn, TP_f0, TP_f1, TP_f2, TP_f3, TP_f4, TP_w1, TP_w2, TP_w3, TP_w4, TP_wT, TP_wH, Bool.false_eq_true, n_10, true_and, and_true, false_and, and_false, Nat.not_lt_zero, true_or, or_true, eq_self, mm_z, mm_rs, sw_xc_ite, sw_xv_ite, n_m1, Nat.lt_irrefl, not_false_eq_true, not_true_eq_false, inS_0, inS_1, ite_not, sw_xv_some, sw_xm_some, sw_xc_some, sw_xc_void, if_true, if_false, reduceIte, bI_0, bI_01, bI_1, nt_or, Nat.reduceAdd, n_add, n_mul, n_addL, n_Ladd, n_mulL, n_Lmul, n_sub, n_subL, n_lt, n_eq, n_ltL, n_Llt, n_eqL, n_Leq, n_nneg, n_pos]
  · skip
    refine ⟨v, ?_⟩
    simp (maxSteps := 2000000) (disch := first | omega | exact hB _ _ | assumption | decide) only [e_MD_item, st_MD_item, e_MD_thingItem, st_MD_thingItem, rs_L, i_ne, i_lt0, ite_self, md_kind E hp hb hn hl hf, k, i0, h10, md_needY E hp hb hn hl hf, md_nP E hT h10, mr_md E _, mw_f59_1, mw_f59_2, mw_f59_3, mw_f59_4, mw_f59_5, mw_f71_11, mw_f71_12, mw_f71_13, mw_f71_14, mw_f71_15, TP_T, TP_H, TP_Tn, TP_Hn, TP_fn, TP_f0, TP_f1, TP_f2, TP_f3, TP_f4, TP_w1, TP_w2, TP_w3, TP_w4, TP_wT, TP_wH, Bool.false_eq_true, n_10, true_and, and_true, false_and, and_false, Nat.not_lt_zero, true_or, or_true, eq_self, mm_z, mm_rs, sw_xc_ite, sw_xv_ite, n_m1, Nat.lt_irrefl, not_false_eq_true, not_true_eq_false, inS_0, inS_1, ite_not, sw_xv_some, sw_xm_some, sw_xc_some, sw_xc_void, if_true, if_false, reduceIte, bI_0, bI_01, bI_1, nt_or, Nat.reduceAdd, n_add, n_mul, n_addL, n_Ladd, n_mulL, n_Lmul, n_sub, n_subL, n_lt, n_eq, n_ltL, n_Llt, n_eqL, n_Leq, n_nneg, n_pos]
set_option maxRecDepth 100000 in
set_option maxHeartbeats 4000000 in
theorem j_passN (hE : E.2.2 = .null ∨ ∃ a, E.2.2 = .ref a) (hp : ∀ j, p j < 256) (hn : n ≤ 100) (hf : f ≤ n) (hT : IT T) (hw : isw p n f 2 = true) (hv : ¬ (tk p n (nx p n f) = 2 ∧ vl p n (nx p n f) < 6)) : JN E p n T H f (nx p n f) := by
  have h23 : 2 < 3 := by decide
  have m1 : ((-1 : Int32) < 0) ↔ True := by decide
  have hB := hT.b
  have hB00 := hB 0 0
  have hB01 := hB 0 1
  have z : ∀ q, q < 10 → q ≠ 2 → ((isw p n f q = true) ↔ False) := fun q hq hne => ⟨fun g => hne (isw_1 hq (by first | decide | (unfold kw; split <;> omega)) g hw), False.elim⟩
  have z0 := z 0 (by decide) (by decide)
  have k := kd_no (fun q h4 h10 g => (z q h10 (by omega)).mp g)
  have hg := (nx_b (p := p) hf).2.1
  have w : (isw p n f 2 = true) ↔ True := iff_true_intro hw
  refine ⟨fun S hb hl d => ⟨dd p n f d, ?_⟩, fun S hb hl v => ?_⟩
  · simp (maxSteps := 2000000) (disch := first | omega | exact hB _ _ | assumption | decide) only [e_Tape_tellItem, st_Tape_tellItem, e_Tape_tellThing, st_Tape_tellThing, e_People_isFull, st_People_isFull, e_Things_isFull, st_Things_isFull, mr_town E _ 2 h23, mw_t0_3 _ h23, mw_t0_4 _ h23, i_ne, c_w0 E hE hp hb hn hl hf, c_w2 E hE hp hb hn hl hf, z0, k, w, c_stq E hp hb hn hl hf, c_isNum E (show (5 : Int32) = nI 6 - 1 by decide) hp (by decide), hv, mr_cl E _, mw_f59_1, mw_f59_2, mw_f59_3, mw_f59_4, mw_f59_5, mw_f71_11, mw_f71_12, mw_f71_13, mw_f71_14, mw_f71_15, TP_T, TP_H, TP_Tn, TP_Hn, TP_fn, TP_f0, TP_f1, TP_f2, TP_f3, TP_f4, TP_w1, TP_w2, TP_w3, TP_w4, TP_wT, TP_wH, Bool.false_eq_true, n_10, true_and, and_true, false_and, and_false, Nat.not_lt_zero, true_or, or_true, eq_self, mm_z, mm_rs, sw_xc_ite, sw_xv_ite, n_m1, Nat.lt_irrefl, not_false_eq_true, not_true_eq_false, inS_0, inS_1, ite_not, sw_xv_some, sw_xm_some, sw_xc_some, sw_xc_void, if_true, if_false, reduceIte, bI_0, bI_01, bI_1, nt_or, Nat.reduceAdd, n_add, n_mul, n_addL, n_Ladd, n_mulL, n_Lmul, n_sub, n_subL, n_lt, n_eq, n_ltL, n_Llt, n_eqL, n_Leq, n_nneg, n_pos]
  · obtain ⟨v1, k1⟩ := md_numN E (T := T) (H := H) (v := v) hp hb hn hl (show (5 : Int32) = nI 6 - 1 by decide) (by decide) hg hv
    refine ⟨v1, ?_⟩
    simp (maxSteps := 2000000) (disch := first | omega | exact hB _ _ | assumption | decide) only [e_MD_item, st_MD_item, e_MD_thingItem, st_MD_thingItem, rs_L, i_ne, i_lt0, ite_self, md_w0 E hp hb hn hl hf, md_w2 E hp hb hn hl hf, z0, k, w, md_kind E hp hb hn hl hf, m1, md_needY E hp hb hn hl hf, k1, mr_md E _, mw_f59_1, mw_f59_2, mw_f59_3, mw_f59_4, mw_f59_5, mw_f71_11, mw_f71_12, mw_f71_13, mw_f71_14, mw_f71_15, TP_T, TP_H, TP_Tn, TP_Hn, TP_fn, TP_f0, TP_f1, TP_f2, TP_f3, TP_f4, TP_w1, TP_w2, TP_w3, TP_w4, TP_wT, TP_wH, Bool.false_eq_true, n_10, true_and, and_true, false_and, and_false, Nat.not_lt_zero, true_or, or_true, eq_self, mm_z, mm_rs, sw_xc_ite, sw_xv_ite, n_m1, Nat.lt_irrefl, not_false_eq_true, not_true_eq_false, inS_0, inS_1, ite_not, sw_xv_some, sw_xm_some, sw_xc_some, sw_xc_void, if_true, if_false, reduceIte, bI_0, bI_01, bI_1, nt_or, Nat.reduceAdd, n_add, n_mul, n_addL, n_Ladd, n_mulL, n_Lmul, n_sub, n_subL, n_lt, n_eq, n_ltL, n_Llt, n_eqL, n_Leq, n_nneg, n_pos]
set_option maxRecDepth 100000 in
set_option maxHeartbeats 4000000 in
theorem j_passY (hE : E.2.2 = .null ∨ ∃ a, E.2.2 = .ref a) (hp : ∀ j, p j < 256) (hn : n ≤ 100) (hf : f ≤ n) (hT : IT T) (hw : isw p n f 2 = true) (ht : tk p n (nx p n f) = 2) (hv : vl p n (nx p n f) < 6) : JY E p n T H f (mm_u T 0 4 (vl p n (nx p n f))) H (nx p n (nx p n f)) := by
  have h23 : 2 < 3 := by decide
  have m1 : ((-1 : Int32) < 0) ↔ True := by decide
  have hB := hT.b
  have hB00 := hB 0 0
  have hB01 := hB 0 1
  have z : ∀ q, q < 10 → q ≠ 2 → ((isw p n f q = true) ↔ False) := fun q hq hne => ⟨fun g => hne (isw_1 hq (by first | decide | (unfold kw; split <;> omega)) g hw), False.elim⟩
  have z0 := z 0 (by decide) (by decide)
  have k := kd_no (fun q h4 h10 g => (z q h10 (by omega)).mp g)
  have hg := (nx_b (p := p) hf).2.1
  have w : (isw p n f 2 = true) ↔ True := iff_true_intro hw
  have e : ∀ x, dd p n (nx p n f) x = nI (vl p n (nx p n f)) := fun x => by unfold dd; rw [if_pos ht]
  have hv2 : (tk p n (nx p n f) = 2 ∧ vl p n (nx p n f) < 6) ↔ True := iff_true_intro ⟨ht, hv⟩
  refine ⟨fun S hb hl d => ⟨dd p n (nx p n f) (dd p n f d), ?_⟩, fun S hb hl v => ?_⟩
  · simp (maxSteps := 2000000) (disch := first | omega | exact hB _ _ | assumption | decide) only [e_Tape_tellItem, st_Tape_tellItem, e_Tape_tellThing, st_Tape_tellThing, e_People_isFull, st_People_isFull, e_Things_isFull, st_Things_isFull, mr_town E _ 2 h23, mw_t0_3 _ h23, mw_t0_4 _ h23, i_ne, c_w0 E hE hp hb hn hl hf, c_w2 E hE hp hb hn hl hf, z0, k, w, c_stq E hp hb hn hl hf, c_stq E hp hb hn hl hg, c_isNum E (show (5 : Int32) = nI 6 - 1 by decide) hp (by decide), hv2, e, mr_cl E _, mw_f59_1, mw_f59_2, mw_f59_3, mw_f59_4, mw_f59_5, mw_f71_11, mw_f71_12, mw_f71_13, mw_f71_14, mw_f71_15, TP_T, TP_H, TP_Tn, TP_Hn, TP_fn, TP_f0, TP_f1, TP_f2, TP_f3, TP_f4, TP_w1, TP_w2, TP_w3, TP_w4, TP_wT, TP_wH, Bool.false_eq_true, n_10, true_and, and_true, false_and, and_false, Nat.not_lt_zero, true_or, or_true, eq_self, mm_z, mm_rs, sw_xc_ite, sw_xv_ite, n_m1, Nat.lt_irrefl, not_false_eq_true, not_true_eq_false, inS_0, inS_1, ite_not, sw_xv_some, sw_xm_some, sw_xc_some, sw_xc_void, if_true, if_false, reduceIte, bI_0, bI_01, bI_1, nt_or, Nat.reduceAdd, n_add, n_mul, n_addL, n_Ladd, n_mulL, n_Lmul, n_sub, n_subL, n_lt, n_eq, n_ltL, n_Llt, n_eqL, n_Leq, n_nneg, n_pos]
  · skip
    refine ⟨nI (vl p n (nx p n f)), ?_⟩
    simp (maxSteps := 2000000) (disch := first | omega | exact hB _ _ | assumption | decide) only [e_MD_item, st_MD_item, e_MD_thingItem, st_MD_thingItem, rs_L, i_ne, i_lt0, ite_self, md_w0 E hp hb hn hl hf, md_w2 E hp hb hn hl hf, z0, k, w, md_kind E hp hb hn hl hf, m1, md_needY E hp hb hn hl hf, md_numY E hp hb hn hl (show (5 : Int32) = nI 6 - 1 by decide) (by decide) hg ht hv, rs_0, ws_0, show (4 : Int32) + 0 = nI 4 from rfl, show (4 : Int32) + 1 = nI 5 from rfl, mr_md E _, mw_f59_1, mw_f59_2, mw_f59_3, mw_f59_4, mw_f59_5, mw_f71_11, mw_f71_12, mw_f71_13, mw_f71_14, mw_f71_15, TP_T, TP_H, TP_Tn, TP_Hn, TP_fn, TP_f0, TP_f1, TP_f2, TP_f3, TP_f4, TP_w1, TP_w2, TP_w3, TP_w4, TP_wT, TP_wH, Bool.false_eq_true, n_10, true_and, and_true, false_and, and_false, Nat.not_lt_zero, true_or, or_true, eq_self, mm_z, mm_rs, sw_xc_ite, sw_xv_ite, n_m1, Nat.lt_irrefl, not_false_eq_true, not_true_eq_false, inS_0, inS_1, ite_not, sw_xv_some, sw_xm_some, sw_xc_some, sw_xc_void, if_true, if_false, reduceIte, bI_0, bI_01, bI_1, nt_or, Nat.reduceAdd, n_add, n_mul, n_addL, n_Ladd, n_mulL, n_Lmul, n_sub, n_subL, n_lt, n_eq, n_ltL, n_Llt, n_eqL, n_Leq, n_nneg, n_pos]
set_option maxRecDepth 100000 in
set_option maxHeartbeats 4000000 in
theorem j_partN (hE : E.2.2 = .null ∨ ∃ a, E.2.2 = .ref a) (hp : ∀ j, p j < 256) (hn : n ≤ 100) (hf : f ≤ n) (hT : IT T) (hw : isw p n f 3 = true) (hv : ¬ (tk p n (nx p n f) = 2 ∧ vl p n (nx p n f) < 101)) : JN E p n T H f (nx p n f) := by
  have h23 : 2 < 3 := by decide
  have m1 : ((-1 : Int32) < 0) ↔ True := by decide
  have hB := hT.b
  have hB00 := hB 0 0
  have hB01 := hB 0 1
  have z : ∀ q, q < 10 → q ≠ 3 → ((isw p n f q = true) ↔ False) := fun q hq hne => ⟨fun g => hne (isw_1 hq (by first | decide | (unfold kw; split <;> omega)) g hw), False.elim⟩
  have z0 := z 0 (by decide) (by decide)
  have z2 := z 2 (by decide) (by decide)
  have k := kd_no (fun q h4 h10 g => (z q h10 (by omega)).mp g)
  have hg := (nx_b (p := p) hf).2.1
  have w : (isw p n f 3 = true) ↔ True := iff_true_intro hw
  refine ⟨fun S hb hl d => ⟨dd p n f d, ?_⟩, fun S hb hl v => ?_⟩
  · simp (maxSteps := 2000000) (disch := first | omega | exact hB _ _ | assumption | decide) only [e_Tape_tellItem, st_Tape_tellItem, e_Tape_tellThing, st_Tape_tellThing, e_People_isFull, st_People_isFull, e_Things_isFull, st_Things_isFull, mr_town E _ 2 h23, mw_t0_3 _ h23, mw_t0_4 _ h23, i_ne, c_w0 E hE hp hb hn hl hf, c_w2 E hE hp hb hn hl hf, c_w3 E hE hp hb hn hl hf, z0, k, w, z2, c_stq E hp hb hn hl hf, c_isNum E (show (100 : Int32) = nI 101 - 1 by decide) hp (by decide), hv, mr_cl E _, mw_f59_1, mw_f59_2, mw_f59_3, mw_f59_4, mw_f59_5, mw_f71_11, mw_f71_12, mw_f71_13, mw_f71_14, mw_f71_15, TP_T, TP_H, TP_Tn, TP_Hn, TP_fn, TP_f0, TP_f1, TP_f2, TP_f3, TP_f4, TP_w1, TP_w2, TP_w3, TP_w4, TP_wT, TP_wH, Bool.false_eq_true, n_10, true_and, and_true, false_and, and_false, Nat.not_lt_zero, true_or, or_true, eq_self, mm_z, mm_rs, sw_xc_ite, sw_xv_ite, n_m1, Nat.lt_irrefl, not_false_eq_true, not_true_eq_false, inS_0, inS_1, ite_not, sw_xv_some, sw_xm_some, sw_xc_some, sw_xc_void, if_true, if_false, reduceIte, bI_0, bI_01, bI_1, nt_or, Nat.reduceAdd, n_add, n_mul, n_addL, n_Ladd, n_mulL, n_Lmul, n_sub, n_subL, n_lt, n_eq, n_ltL, n_Llt, n_eqL, n_Leq, n_nneg, n_pos]
  · obtain ⟨v1, k1⟩ := md_numN E (T := T) (H := H) (v := v) hp hb hn hl (show (100 : Int32) = nI 101 - 1 by decide) (by decide) hg hv
    refine ⟨v1, ?_⟩
    simp (maxSteps := 2000000) (disch := first | omega | exact hB _ _ | assumption | decide) only [e_MD_item, st_MD_item, e_MD_thingItem, st_MD_thingItem, rs_L, i_ne, i_lt0, ite_self, md_w0 E hp hb hn hl hf, md_w2 E hp hb hn hl hf, md_w3 E hp hb hn hl hf, z0, k, w, z2, md_kind E hp hb hn hl hf, m1, md_needY E hp hb hn hl hf, k1, mr_md E _, mw_f59_1, mw_f59_2, mw_f59_3, mw_f59_4, mw_f59_5, mw_f71_11, mw_f71_12, mw_f71_13, mw_f71_14, mw_f71_15, TP_T, TP_H, TP_Tn, TP_Hn, TP_fn, TP_f0, TP_f1, TP_f2, TP_f3, TP_f4, TP_w1, TP_w2, TP_w3, TP_w4, TP_wT, TP_wH, Bool.false_eq_true, n_10, true_and, and_true, false_and, and_false, Nat.not_lt_zero, true_or, or_true, eq_self, mm_z, mm_rs, sw_xc_ite, sw_xv_ite, n_m1, Nat.lt_irrefl, not_false_eq_true, not_true_eq_false, inS_0, inS_1, ite_not, sw_xv_some, sw_xm_some, sw_xc_some, sw_xc_void, if_true, if_false, reduceIte, bI_0, bI_01, bI_1, nt_or, Nat.reduceAdd, n_add, n_mul, n_addL, n_Ladd, n_mulL, n_Lmul, n_sub, n_subL, n_lt, n_eq, n_ltL, n_Llt, n_eqL, n_Leq, n_nneg, n_pos]
set_option maxRecDepth 100000 in
set_option maxHeartbeats 4000000 in
theorem j_partY (hE : E.2.2 = .null ∨ ∃ a, E.2.2 = .ref a) (hp : ∀ j, p j < 256) (hn : n ≤ 100) (hf : f ≤ n) (hT : IT T) (hw : isw p n f 3 = true) (ht : tk p n (nx p n f) = 2) (hv : vl p n (nx p n f) < 101) : JY E p n T H f (mm_u T 0 5 (vl p n (nx p n f))) H (nx p n (nx p n f)) := by
  have h23 : 2 < 3 := by decide
  have m1 : ((-1 : Int32) < 0) ↔ True := by decide
  have hB := hT.b
  have hB00 := hB 0 0
  have hB01 := hB 0 1
  have z : ∀ q, q < 10 → q ≠ 3 → ((isw p n f q = true) ↔ False) := fun q hq hne => ⟨fun g => hne (isw_1 hq (by first | decide | (unfold kw; split <;> omega)) g hw), False.elim⟩
  have z0 := z 0 (by decide) (by decide)
  have z2 := z 2 (by decide) (by decide)
  have k := kd_no (fun q h4 h10 g => (z q h10 (by omega)).mp g)
  have hg := (nx_b (p := p) hf).2.1
  have w : (isw p n f 3 = true) ↔ True := iff_true_intro hw
  have e : ∀ x, dd p n (nx p n f) x = nI (vl p n (nx p n f)) := fun x => by unfold dd; rw [if_pos ht]
  have hv2 : (tk p n (nx p n f) = 2 ∧ vl p n (nx p n f) < 101) ↔ True := iff_true_intro ⟨ht, hv⟩
  refine ⟨fun S hb hl d => ⟨dd p n (nx p n f) (dd p n f d), ?_⟩, fun S hb hl v => ?_⟩
  · simp (maxSteps := 2000000) (disch := first | omega | exact hB _ _ | assumption | decide) only [e_Tape_tellItem, st_Tape_tellItem, e_Tape_tellThing, st_Tape_tellThing, e_People_isFull, st_People_isFull, e_Things_isFull, st_Things_isFull, mr_town E _ 2 h23, mw_t0_3 _ h23, mw_t0_4 _ h23, i_ne, c_w0 E hE hp hb hn hl hf, c_w2 E hE hp hb hn hl hf, c_w3 E hE hp hb hn hl hf, z0, k, w, z2, c_stq E hp hb hn hl hf, c_stq E hp hb hn hl hg, c_isNum E (show (100 : Int32) = nI 101 - 1 by decide) hp (by decide), hv2, e, mr_cl E _, mw_f59_1, mw_f59_2, mw_f59_3, mw_f59_4, mw_f59_5, mw_f71_11, mw_f71_12, mw_f71_13, mw_f71_14, mw_f71_15, TP_T, TP_H, TP_Tn, TP_Hn, TP_fn, TP_f0, TP_f1, TP_f2, TP_f3, TP_f4, TP_w1, TP_w2, TP_w3, TP_w4, TP_wT, TP_wH, Bool.false_eq_true, n_10, true_and, and_true, false_and, and_false, Nat.not_lt_zero, true_or, or_true, eq_self, mm_z, mm_rs, sw_xc_ite, sw_xv_ite, n_m1, Nat.lt_irrefl, not_false_eq_true, not_true_eq_false, inS_0, inS_1, ite_not, sw_xv_some, sw_xm_some, sw_xc_some, sw_xc_void, if_true, if_false, reduceIte, bI_0, bI_01, bI_1, nt_or, Nat.reduceAdd, n_add, n_mul, n_addL, n_Ladd, n_mulL, n_Lmul, n_sub, n_subL, n_lt, n_eq, n_ltL, n_Llt, n_eqL, n_Leq, n_nneg, n_pos]
  · skip
    refine ⟨nI (vl p n (nx p n f)), ?_⟩
    simp (maxSteps := 2000000) (disch := first | omega | exact hB _ _ | assumption | decide) only [e_MD_item, st_MD_item, e_MD_thingItem, st_MD_thingItem, rs_L, i_ne, i_lt0, ite_self, md_w0 E hp hb hn hl hf, md_w2 E hp hb hn hl hf, md_w3 E hp hb hn hl hf, z0, k, w, z2, md_kind E hp hb hn hl hf, m1, md_needY E hp hb hn hl hf, md_numY E hp hb hn hl (show (100 : Int32) = nI 101 - 1 by decide) (by decide) hg ht hv, rs_0, ws_0, show (4 : Int32) + 0 = nI 4 from rfl, show (4 : Int32) + 1 = nI 5 from rfl, mr_md E _, mw_f59_1, mw_f59_2, mw_f59_3, mw_f59_4, mw_f59_5, mw_f71_11, mw_f71_12, mw_f71_13, mw_f71_14, mw_f71_15, TP_T, TP_H, TP_Tn, TP_Hn, TP_fn, TP_f0, TP_f1, TP_f2, TP_f3, TP_f4, TP_w1, TP_w2, TP_w3, TP_w4, TP_wT, TP_wH, Bool.false_eq_true, n_10, true_and, and_true, false_and, and_false, Nat.not_lt_zero, true_or, or_true, eq_self, mm_z, mm_rs, sw_xc_ite, sw_xv_ite, n_m1, Nat.lt_irrefl, not_false_eq_true, not_true_eq_false, inS_0, inS_1, ite_not, sw_xv_some, sw_xm_some, sw_xc_some, sw_xc_void, if_true, if_false, reduceIte, bI_0, bI_01, bI_1, nt_or, Nat.reduceAdd, n_add, n_mul, n_addL, n_Ladd, n_mulL, n_Lmul, n_sub, n_subL, n_lt, n_eq, n_ltL, n_Llt, n_eqL, n_Leq, n_nneg, n_pos]
set_option maxRecDepth 100000 in
set_option maxHeartbeats 4000000 in
theorem j_thFull (hE : E.2.2 = .null ∨ ∃ a, E.2.2 = .ref a) (hp : ∀ j, p j < 256) (hn : n ≤ 100) (hf : f ≤ n) (hT : IT T) (hw : isw p n f 0 = true) (h16 : ¬ T 0 1 < 16) : JN E p n T H f f := by
  have h23 : 2 < 3 := by decide
  have m1 : ((-1 : Int32) < 0) ↔ True := by decide
  have hB := hT.b
  have hB00 := hB 0 0
  have hB01 := hB 0 1
  have z : ∀ q, q < 10 → q ≠ 0 → ((isw p n f q = true) ↔ False) := fun q hq hne => ⟨fun g => hne (isw_1 hq (by first | decide | (unfold kw; split <;> omega)) g hw), False.elim⟩
  have z9 := kd_no (fun q h4 h10 g => (z q h10 (by omega)).mp g)
  have w : (isw p n f 0 = true) ↔ True := iff_true_intro hw
  have hf1 := (nx_b (p := p) hf).2.1
  have hf2 := (nx_b (p := p) hf1).2.1
  have hf3 := (nx_b (p := p) hf2).2.1
  have hf4 := (nx_b (p := p) hf3).2.1
  refine ⟨fun S hb hl d => ⟨d, ?_⟩, fun S hb hl v => ?_⟩
  · simp (maxSteps := 2000000) (disch := first | omega | exact hB _ _ | assumption | decide) only [e_Tape_tellItem, st_Tape_tellItem, e_Tape_tellThing, st_Tape_tellThing, e_People_isFull, st_People_isFull, e_Things_isFull, st_Things_isFull, mr_town E _ 2 h23, mw_t0_3 _ h23, mw_t0_4 _ h23, i_ne, c_w0 E hE hp hb hn hl hf, w, z9, h16, mr_cl E _, mw_f59_1, mw_f59_2, mw_f59_3, mw_f59_4, mw_f59_5, mw_f71_11, mw_f71_12, mw_f71_13, mw_f71_14, mw_f71_15, TP_T, TP_H, TP_Tn, TP_Hn, TP_fn, TP_f0, TP_f1, TP_f2, TP_f3, TP_f4, TP_w1, TP_w2, TP_w3, TP_w4, TP_wT, TP_wH, Bool.false_eq_true, n_10, true_and, and_true, false_and, and_false, Nat.not_lt_zero, true_or, or_true, eq_self, mm_z, mm_rs, sw_xc_ite, sw_xv_ite, n_m1, Nat.lt_irrefl, not_false_eq_true, not_true_eq_false, inS_0, inS_1, ite_not, sw_xv_some, sw_xm_some, sw_xc_some, sw_xc_void, if_true, if_false, reduceIte, bI_0, bI_01, bI_1, nt_or, Nat.reduceAdd, n_add, n_mul, n_addL, n_Ladd, n_mulL, n_Lmul, n_sub, n_subL, n_lt, n_eq, n_ltL, n_Llt, n_eqL, n_Leq, n_nneg, n_pos]
  · skip
    refine ⟨v, ?_⟩
    simp (maxSteps := 2000000) (disch := first | omega | exact hB _ _ | assumption | decide) only [e_MD_item, st_MD_item, e_MD_thingItem, st_MD_thingItem, rs_L, i_ne, i_lt0, ite_self, md_w0 E hp hb hn hl hf, w, md_kind E hp hb hn hl hf, z9, m1, h16, md_needN, md_numW, md_wW, mr_md E _, mw_f59_1, mw_f59_2, mw_f59_3, mw_f59_4, mw_f59_5, mw_f71_11, mw_f71_12, mw_f71_13, mw_f71_14, mw_f71_15, TP_T, TP_H, TP_Tn, TP_Hn, TP_fn, TP_f0, TP_f1, TP_f2, TP_f3, TP_f4, TP_w1, TP_w2, TP_w3, TP_w4, TP_wT, TP_wH, Bool.false_eq_true, n_10, true_and, and_true, false_and, and_false, Nat.not_lt_zero, true_or, or_true, eq_self, mm_z, mm_rs, sw_xc_ite, sw_xv_ite, n_m1, Nat.lt_irrefl, not_false_eq_true, not_true_eq_false, inS_0, inS_1, ite_not, sw_xv_some, sw_xm_some, sw_xc_some, sw_xc_void, if_true, if_false, reduceIte, bI_0, bI_01, bI_1, nt_or, Nat.reduceAdd, n_add, n_mul, n_addL, n_Ladd, n_mulL, n_Lmul, n_sub, n_subL, n_lt, n_eq, n_ltL, n_Llt, n_eqL, n_Leq, n_nneg, n_pos]
set_option maxRecDepth 100000 in
set_option maxHeartbeats 4000000 in
theorem j_thOwn (hE : E.2.2 = .null ∨ ∃ a, E.2.2 = .ref a) (hp : ∀ j, p j < 256) (hn : n ≤ 100) (hf : f ≤ n) (hT : IT T) (hw : isw p n f 0 = true) (h16 : T 0 1 < 16) (hv : ¬ (tk p n (nx p n f) = 2 ∧ vl p n (nx p n f) < T 0 0)) : JN E p n T H f (nx p n f) := by
  have h23 : 2 < 3 := by decide
  have m1 : ((-1 : Int32) < 0) ↔ True := by decide
  have hB := hT.b
  have hB00 := hB 0 0
  have hB01 := hB 0 1
  have z : ∀ q, q < 10 → q ≠ 0 → ((isw p n f q = true) ↔ False) := fun q hq hne => ⟨fun g => hne (isw_1 hq (by first | decide | (unfold kw; split <;> omega)) g hw), False.elim⟩
  have z9 := kd_no (fun q h4 h10 g => (z q h10 (by omega)).mp g)
  have w : (isw p n f 0 = true) ↔ True := iff_true_intro hw
  have hf1 := (nx_b (p := p) hf).2.1
  have hf2 := (nx_b (p := p) hf1).2.1
  have hf3 := (nx_b (p := p) hf2).2.1
  have hf4 := (nx_b (p := p) hf3).2.1
  refine ⟨fun S hb hl d => ⟨dd p n f d, ?_⟩, fun S hb hl v => ?_⟩
  · simp (maxSteps := 2000000) (disch := first | omega | exact hB _ _ | assumption | decide) only [e_Tape_tellItem, st_Tape_tellItem, e_Tape_tellThing, st_Tape_tellThing, e_People_isFull, st_People_isFull, e_Things_isFull, st_Things_isFull, mr_town E _ 2 h23, mw_t0_3 _ h23, mw_t0_4 _ h23, i_ne, c_w0 E hE hp hb hn hl hf, w, z9, h16, c_stq E hp hb hn hl hf, c_isNum E (show (nI (T 0 0) - 1 : Int32) = nI (T 0 0) - 1 from rfl) hp (by first | decide | omega), hv, mr_cl E _, mw_f59_1, mw_f59_2, mw_f59_3, mw_f59_4, mw_f59_5, mw_f71_11, mw_f71_12, mw_f71_13, mw_f71_14, mw_f71_15, TP_T, TP_H, TP_Tn, TP_Hn, TP_fn, TP_f0, TP_f1, TP_f2, TP_f3, TP_f4, TP_w1, TP_w2, TP_w3, TP_w4, TP_wT, TP_wH, Bool.false_eq_true, n_10, true_and, and_true, false_and, and_false, Nat.not_lt_zero, true_or, or_true, eq_self, mm_z, mm_rs, sw_xc_ite, sw_xv_ite, n_m1, Nat.lt_irrefl, not_false_eq_true, not_true_eq_false, inS_0, inS_1, ite_not, sw_xv_some, sw_xm_some, sw_xc_some, sw_xc_void, if_true, if_false, reduceIte, bI_0, bI_01, bI_1, nt_or, Nat.reduceAdd, n_add, n_mul, n_addL, n_Ladd, n_mulL, n_Lmul, n_sub, n_subL, n_lt, n_eq, n_ltL, n_Llt, n_eqL, n_Leq, n_nneg, n_pos]
  · obtain ⟨v1, k1⟩ := md_numN E (T := T) (H := H) (v := v) hp hb hn hl (show (nI (T 0 0) - 1 : Int32) = nI (T 0 0) - 1 from rfl) hB00 hf1 hv
    refine ⟨v1, ?_⟩
    simp (maxSteps := 2000000) (disch := first | omega | exact hB _ _ | assumption | decide) only [e_MD_item, st_MD_item, e_MD_thingItem, st_MD_thingItem, rs_L, i_ne, i_lt0, ite_self, md_w0 E hp hb hn hl hf, w, md_kind E hp hb hn hl hf, z9, m1, h16, md_needY E hp hb hn hl hf, k1, md_numW, md_wW, mr_md E _, mw_f59_1, mw_f59_2, mw_f59_3, mw_f59_4, mw_f59_5, mw_f71_11, mw_f71_12, mw_f71_13, mw_f71_14, mw_f71_15, TP_T, TP_H, TP_Tn, TP_Hn, TP_fn, TP_f0, TP_f1, TP_f2, TP_f3, TP_f4, TP_w1, TP_w2, TP_w3, TP_w4, TP_wT, TP_wH, Bool.false_eq_true, n_10, true_and, and_true, false_and, and_false, Nat.not_lt_zero, true_or, or_true, eq_self, mm_z, mm_rs, sw_xc_ite, sw_xv_ite, n_m1, Nat.lt_irrefl, not_false_eq_true, not_true_eq_false, inS_0, inS_1, ite_not, sw_xv_some, sw_xm_some, sw_xc_some, sw_xc_void, if_true, if_false, reduceIte, bI_0, bI_01, bI_1, nt_or, Nat.reduceAdd, n_add, n_mul, n_addL, n_Ladd, n_mulL, n_Lmul, n_sub, n_subL, n_lt, n_eq, n_ltL, n_Llt, n_eqL, n_Leq, n_nneg, n_pos]
set_option maxRecDepth 100000 in
set_option maxHeartbeats 4000000 in
theorem j_thBase (hE : E.2.2 = .null ∨ ∃ a, E.2.2 = .ref a) (hp : ∀ j, p j < 256) (hn : n ≤ 100) (hf : f ≤ n) (hT : IT T) (hw : isw p n f 0 = true) (h16 : T 0 1 < 16) (t1 : tk p n (nx p n f) = 2) (v1 : vl p n (nx p n f) < T 0 0) (hv : ¬ (tk p n (nx p n (nx p n f)) = 2 ∧ vl p n (nx p n (nx p n f)) < 10000)) : JN E p n T H f (nx p n (nx p n f)) := by
  have h23 : 2 < 3 := by decide
  have m1 : ((-1 : Int32) < 0) ↔ True := by decide
  have hB := hT.b
  have hB00 := hB 0 0
  have hB01 := hB 0 1
  have z : ∀ q, q < 10 → q ≠ 0 → ((isw p n f q = true) ↔ False) := fun q hq hne => ⟨fun g => hne (isw_1 hq (by first | decide | (unfold kw; split <;> omega)) g hw), False.elim⟩
  have z9 := kd_no (fun q h4 h10 g => (z q h10 (by omega)).mp g)
  have w : (isw p n f 0 = true) ↔ True := iff_true_intro hw
  have hf1 := (nx_b (p := p) hf).2.1
  have hf2 := (nx_b (p := p) hf1).2.1
  have hf3 := (nx_b (p := p) hf2).2.1
  have hf4 := (nx_b (p := p) hf3).2.1
  have hx : nI (T 0 0 - 1) = nI (T 0 0) - 1 := (n_subL (n := 1) (show (1 : Nat) ≤ T 0 0 by omega)).symm
  have e1 : ∀ x, dd p n (nx p n f) x = nI (vl p n (nx p n f)) := fun x => by unfold dd; rw [if_pos t1]
  have i1 : (tk p n (nx p n f) = 2 ∧ vl p n (nx p n f) < T 0 0) ↔ True := iff_true_intro ⟨t1, v1⟩
  refine ⟨fun S hb hl d => ⟨dd p n (nx p n f) (dd p n f d), ?_⟩, fun S hb hl v => ?_⟩
  · simp (maxSteps := 2000000) (disch := first | omega | exact hB _ _ | assumption | decide) only [e_Tape_tellItem, st_Tape_tellItem, e_Tape_tellThing, st_Tape_tellThing, e_People_isFull, st_People_isFull, e_Things_isFull, st_Things_isFull, mr_town E _ 2 h23, mw_t0_3 _ h23, mw_t0_4 _ h23, i_ne, c_w0 E hE hp hb hn hl hf, w, z9, h16, c_stq E hp hb hn hl hf, c_stq E hp hb hn hl hf1, c_isNum E hx hp hB00, i1, e1, c_isNum E (show (9999 : Int32) = nI 10000 - 1 from by decide) hp (by first | decide | omega), hv, mr_cl E _, mw_f59_1, mw_f59_2, mw_f59_3, mw_f59_4, mw_f59_5, mw_f71_11, mw_f71_12, mw_f71_13, mw_f71_14, mw_f71_15, TP_T, TP_H, TP_Tn, TP_Hn, TP_fn, TP_f0, TP_f1, TP_f2, TP_f3, TP_f4, TP_w1, TP_w2, TP_w3, TP_w4, TP_wT, TP_wH, Bool.false_eq_true, n_10, true_and, and_true, false_and, and_false, Nat.not_lt_zero, true_or, or_true, eq_self, mm_z, mm_rs, sw_xc_ite, sw_xv_ite, n_m1, Nat.lt_irrefl, not_false_eq_true, not_true_eq_false, inS_0, inS_1, ite_not, sw_xv_some, sw_xm_some, sw_xc_some, sw_xc_void, if_true, if_false, reduceIte, bI_0, bI_01, bI_1, nt_or, Nat.reduceAdd, n_add, n_mul, n_addL, n_Ladd, n_mulL, n_Lmul, n_sub, n_subL, n_lt, n_eq, n_ltL, n_Llt, n_eqL, n_Leq, n_nneg, n_pos]
  · obtain ⟨v2, k2⟩ := md_numN E (T := T) (H := H) (v := nI (vl p n (nx p n f))) hp hb hn hl (show (9999 : Int32) = nI 10000 - 1 by decide) (by decide) hf2 hv
    refine ⟨v2, ?_⟩
    simp (maxSteps := 2000000) (disch := first | omega | exact hB _ _ | assumption | decide) only [e_MD_item, st_MD_item, e_MD_thingItem, st_MD_thingItem, rs_L, i_ne, i_lt0, ite_self, md_w0 E hp hb hn hl hf, w, md_kind E hp hb hn hl hf, z9, m1, h16, md_needY E hp hb hn hl hf, md_numY E hp hb hn hl hx hB00 hf1 t1 v1, k2, md_numW, md_wW, mr_md E _, mw_f59_1, mw_f59_2, mw_f59_3, mw_f59_4, mw_f59_5, mw_f71_11, mw_f71_12, mw_f71_13, mw_f71_14, mw_f71_15, TP_T, TP_H, TP_Tn, TP_Hn, TP_fn, TP_f0, TP_f1, TP_f2, TP_f3, TP_f4, TP_w1, TP_w2, TP_w3, TP_w4, TP_wT, TP_wH, Bool.false_eq_true, n_10, true_and, and_true, false_and, and_false, Nat.not_lt_zero, true_or, or_true, eq_self, mm_z, mm_rs, sw_xc_ite, sw_xv_ite, n_m1, Nat.lt_irrefl, not_false_eq_true, not_true_eq_false, inS_0, inS_1, ite_not, sw_xv_some, sw_xm_some, sw_xc_some, sw_xc_void, if_true, if_false, reduceIte, bI_0, bI_01, bI_1, nt_or, Nat.reduceAdd, n_add, n_mul, n_addL, n_Ladd, n_mulL, n_Lmul, n_sub, n_subL, n_lt, n_eq, n_ltL, n_Llt, n_eqL, n_Leq, n_nneg, n_pos]
set_option maxRecDepth 100000 in
set_option maxHeartbeats 4000000 in
theorem j_thing (hE : E.2.2 = .null ∨ ∃ a, E.2.2 = .ref a) (hp : ∀ j, p j < 256) (hn : n ≤ 100) (hf : f ≤ n) (hT : IT T) (hw : isw p n f 0 = true) (h16 : T 0 1 < 16) (t1 : tk p n (nx p n f) = 2) (v1 : vl p n (nx p n f) < T 0 0) (t2 : tk p n (nx p n (nx p n f)) = 2) (v2 : vl p n (nx p n (nx p n f)) < 10000) (r : ¬ isw p n (nx p n (nx p n (nx p n f))) 1 = true) : JY E p n T H f (tw_newT T (vl p n (nx p n f)) (vl p n (nx p n (nx p n f))) 0) H (nx p n (nx p n (nx p n f))) := by
  have h23 : 2 < 3 := by decide
  have m1 : ((-1 : Int32) < 0) ↔ True := by decide
  have hB := hT.b
  have hB00 := hB 0 0
  have hB01 := hB 0 1
  have z : ∀ q, q < 10 → q ≠ 0 → ((isw p n f q = true) ↔ False) := fun q hq hne => ⟨fun g => hne (isw_1 hq (by first | decide | (unfold kw; split <;> omega)) g hw), False.elim⟩
  have z9 := kd_no (fun q h4 h10 g => (z q h10 (by omega)).mp g)
  have w : (isw p n f 0 = true) ↔ True := iff_true_intro hw
  have hf1 := (nx_b (p := p) hf).2.1
  have hf2 := (nx_b (p := p) hf1).2.1
  have hf3 := (nx_b (p := p) hf2).2.1
  have hf4 := (nx_b (p := p) hf3).2.1
  have hx : nI (T 0 0 - 1) = nI (T 0 0) - 1 := (n_subL (n := 1) (show (1 : Nat) ≤ T 0 0 by omega)).symm
  have e1 : ∀ x, dd p n (nx p n f) x = nI (vl p n (nx p n f)) := fun x => by unfold dd; rw [if_pos t1]
  have i1 : (tk p n (nx p n f) = 2 ∧ vl p n (nx p n f) < T 0 0) ↔ True := iff_true_intro ⟨t1, v1⟩
  have e2 : ∀ x, dd p n (nx p n (nx p n f)) x = nI (vl p n (nx p n (nx p n f))) := fun x => by unfold dd; rw [if_pos t2]
  have i2 : (tk p n (nx p n (nx p n f)) = 2 ∧ vl p n (nx p n (nx p n f)) < 10000) ↔ True := iff_true_intro ⟨t2, v2⟩
  have cz : ∀ (S : sw_S) (a b c d : Int32), f_Things_enter E (.ref (mm_tn 2 4)) (.int (nI (vl p n (nx p n f)))) (.int (nI (vl p n (nx p n (nx p n f))))) (.int 0) (mk (TP 5 2 S T H a b c d)) = some (some (.int (nI (T 0 1))), mk (TP 5 2 S (tw_newT T (vl p n (nx p n f)) (vl p n (nx p n (nx p n f))) 0) H a b c d)) := fun S a b c d => c_nT E hB h16 (z := 0)
  have mz : ∀ (S : sw_S) (a b c d : Int32), f_MD_newThing E (.ref 71) (.int (nI (vl p n (nx p n f)))) (.int (nI (vl p n (nx p n (nx p n f))))) (.int 0) (mk (TP 25 3 S T H a b c d)) = some (some (.int (nI (T 0 1))), mk (TP 25 3 S (tw_newT T (vl p n (nx p n f)) (vl p n (nx p n (nx p n f))) 0) H a b c d)) := fun S a b c d => md_nT E hT h16 (z := 0)
  refine ⟨fun S hb hl d => ⟨dd p n (nx p n (nx p n f)) (dd p n (nx p n f) (dd p n f d)), ?_⟩, fun S hb hl v => ?_⟩
  · simp (maxSteps := 2000000) (disch := first | omega | exact hB _ _ | assumption | decide) only [e_Tape_tellItem, st_Tape_tellItem, e_Tape_tellThing, st_Tape_tellThing, e_People_isFull, st_People_isFull, e_Things_isFull, st_Things_isFull, mr_town E _ 2 h23, mw_t0_3 _ h23, mw_t0_4 _ h23, i_ne, c_w0 E hE hp hb hn hl hf, w, z9, h16, c_stq E hp hb hn hl hf, c_stq E hp hb hn hl hf1, c_stq E hp hb hn hl hf2, c_isNum E hx hp hB00, i1, e1, c_isNum E (show (9999 : Int32) = nI 10000 - 1 from by decide) hp (by first | decide | omega), i2, e2, c_w1 E hE hp hb hn hl hf3, r, cz, mr_cl E _, mw_f59_1, mw_f59_2, mw_f59_3, mw_f59_4, mw_f59_5, mw_f71_11, mw_f71_12, mw_f71_13, mw_f71_14, mw_f71_15, TP_T, TP_H, TP_Tn, TP_Hn, TP_fn, TP_f0, TP_f1, TP_f2, TP_f3, TP_f4, TP_w1, TP_w2, TP_w3, TP_w4, TP_wT, TP_wH, Bool.false_eq_true, n_10, true_and, and_true, false_and, and_false, Nat.not_lt_zero, true_or, or_true, eq_self, mm_z, mm_rs, sw_xc_ite, sw_xv_ite, n_m1, Nat.lt_irrefl, not_false_eq_true, not_true_eq_false, inS_0, inS_1, ite_not, sw_xv_some, sw_xm_some, sw_xc_some, sw_xc_void, if_true, if_false, reduceIte, bI_0, bI_01, bI_1, nt_or, Nat.reduceAdd, n_add, n_mul, n_addL, n_Ladd, n_mulL, n_Lmul, n_sub, n_subL, n_lt, n_eq, n_ltL, n_Llt, n_eqL, n_Leq, n_nneg, n_pos]
  · skip
    refine ⟨nI (vl p n (nx p n (nx p n f))), ?_⟩
    simp (maxSteps := 2000000) (disch := first | omega | exact hB _ _ | assumption | decide) only [e_MD_item, st_MD_item, e_MD_thingItem, st_MD_thingItem, rs_L, i_ne, i_lt0, ite_self, md_w0 E hp hb hn hl hf, w, md_kind E hp hb hn hl hf, z9, m1, h16, md_needY E hp hb hn hl hf, md_numY E hp hb hn hl hx hB00 hf1 t1 v1, md_numY E hp hb hn hl (show (9999 : Int32) = nI 10000 - 1 by decide) (by decide) hf2 t2 v2, md_w1 E hp hb hn hl hf3, r, mz, mr_md E _, mw_f59_1, mw_f59_2, mw_f59_3, mw_f59_4, mw_f59_5, mw_f71_11, mw_f71_12, mw_f71_13, mw_f71_14, mw_f71_15, TP_T, TP_H, TP_Tn, TP_Hn, TP_fn, TP_f0, TP_f1, TP_f2, TP_f3, TP_f4, TP_w1, TP_w2, TP_w3, TP_w4, TP_wT, TP_wH, Bool.false_eq_true, n_10, true_and, and_true, false_and, and_false, Nat.not_lt_zero, true_or, or_true, eq_self, mm_z, mm_rs, sw_xc_ite, sw_xv_ite, n_m1, Nat.lt_irrefl, not_false_eq_true, not_true_eq_false, inS_0, inS_1, ite_not, sw_xv_some, sw_xm_some, sw_xc_some, sw_xc_void, if_true, if_false, reduceIte, bI_0, bI_01, bI_1, nt_or, Nat.reduceAdd, n_add, n_mul, n_addL, n_Ladd, n_mulL, n_Lmul, n_sub, n_subL, n_lt, n_eq, n_ltL, n_Llt, n_eqL, n_Leq, n_nneg, n_pos]
set_option maxRecDepth 100000 in
set_option maxHeartbeats 4000000 in
theorem j_thRot (hE : E.2.2 = .null ∨ ∃ a, E.2.2 = .ref a) (hp : ∀ j, p j < 256) (hn : n ≤ 100) (hf : f ≤ n) (hT : IT T) (hw : isw p n f 0 = true) (h16 : T 0 1 < 16) (t1 : tk p n (nx p n f) = 2) (v1 : vl p n (nx p n f) < T 0 0) (t2 : tk p n (nx p n (nx p n f)) = 2) (v2 : vl p n (nx p n (nx p n f)) < 10000) (r : isw p n (nx p n (nx p n (nx p n f))) 1 = true) (hv : ¬ (tk p n (nx p n (nx p n (nx p n (nx p n f)))) = 2 ∧ vl p n (nx p n (nx p n (nx p n (nx p n f)))) < 100)) : JN E p n T H f (nx p n (nx p n (nx p n (nx p n f)))) := by
  have h23 : 2 < 3 := by decide
  have m1 : ((-1 : Int32) < 0) ↔ True := by decide
  have hB := hT.b
  have hB00 := hB 0 0
  have hB01 := hB 0 1
  have z : ∀ q, q < 10 → q ≠ 0 → ((isw p n f q = true) ↔ False) := fun q hq hne => ⟨fun g => hne (isw_1 hq (by first | decide | (unfold kw; split <;> omega)) g hw), False.elim⟩
  have z9 := kd_no (fun q h4 h10 g => (z q h10 (by omega)).mp g)
  have w : (isw p n f 0 = true) ↔ True := iff_true_intro hw
  have hf1 := (nx_b (p := p) hf).2.1
  have hf2 := (nx_b (p := p) hf1).2.1
  have hf3 := (nx_b (p := p) hf2).2.1
  have hf4 := (nx_b (p := p) hf3).2.1
  have hx : nI (T 0 0 - 1) = nI (T 0 0) - 1 := (n_subL (n := 1) (show (1 : Nat) ≤ T 0 0 by omega)).symm
  have e1 : ∀ x, dd p n (nx p n f) x = nI (vl p n (nx p n f)) := fun x => by unfold dd; rw [if_pos t1]
  have i1 : (tk p n (nx p n f) = 2 ∧ vl p n (nx p n f) < T 0 0) ↔ True := iff_true_intro ⟨t1, v1⟩
  have e2 : ∀ x, dd p n (nx p n (nx p n f)) x = nI (vl p n (nx p n (nx p n f))) := fun x => by unfold dd; rw [if_pos t2]
  have i2 : (tk p n (nx p n (nx p n f)) = 2 ∧ vl p n (nx p n (nx p n f)) < 10000) ↔ True := iff_true_intro ⟨t2, v2⟩
  have r1 : (isw p n (nx p n (nx p n (nx p n f))) 1 = true) ↔ True := iff_true_intro r
  refine ⟨fun S hb hl d => ⟨dd p n (nx p n (nx p n (nx p n f))) (dd p n (nx p n (nx p n f)) (dd p n (nx p n f) (dd p n f d))), ?_⟩, fun S hb hl v => ?_⟩
  · simp (maxSteps := 2000000) (disch := first | omega | exact hB _ _ | assumption | decide) only [e_Tape_tellItem, st_Tape_tellItem, e_Tape_tellThing, st_Tape_tellThing, e_People_isFull, st_People_isFull, e_Things_isFull, st_Things_isFull, mr_town E _ 2 h23, mw_t0_3 _ h23, mw_t0_4 _ h23, i_ne, c_w0 E hE hp hb hn hl hf, w, z9, h16, c_stq E hp hb hn hl hf, c_stq E hp hb hn hl hf1, c_stq E hp hb hn hl hf2, c_isNum E hx hp hB00, i1, e1, c_isNum E (show (9999 : Int32) = nI 10000 - 1 from by decide) hp (by first | decide | omega), i2, e2, c_w1 E hE hp hb hn hl hf3, r1, c_stq E hp hb hn hl hf3, c_isNum E (show (99 : Int32) = nI 100 - 1 from by decide) hp (by first | decide | omega), hv, mr_cl E _, mw_f59_1, mw_f59_2, mw_f59_3, mw_f59_4, mw_f59_5, mw_f71_11, mw_f71_12, mw_f71_13, mw_f71_14, mw_f71_15, TP_T, TP_H, TP_Tn, TP_Hn, TP_fn, TP_f0, TP_f1, TP_f2, TP_f3, TP_f4, TP_w1, TP_w2, TP_w3, TP_w4, TP_wT, TP_wH, Bool.false_eq_true, n_10, true_and, and_true, false_and, and_false, Nat.not_lt_zero, true_or, or_true, eq_self, mm_z, mm_rs, sw_xc_ite, sw_xv_ite, n_m1, Nat.lt_irrefl, not_false_eq_true, not_true_eq_false, inS_0, inS_1, ite_not, sw_xv_some, sw_xm_some, sw_xc_some, sw_xc_void, if_true, if_false, reduceIte, bI_0, bI_01, bI_1, nt_or, Nat.reduceAdd, n_add, n_mul, n_addL, n_Ladd, n_mulL, n_Lmul, n_sub, n_subL, n_lt, n_eq, n_ltL, n_Llt, n_eqL, n_Leq, n_nneg, n_pos]
  · obtain ⟨v3, k3⟩ := md_numN E (T := T) (H := H) (v := nI (vl p n (nx p n (nx p n f)))) hp hb hn hl (show (99 : Int32) = nI 100 - 1 by decide) (by decide) hf4 hv
    refine ⟨v3, ?_⟩
    simp (maxSteps := 2000000) (disch := first | omega | exact hB _ _ | assumption | decide) only [e_MD_item, st_MD_item, e_MD_thingItem, st_MD_thingItem, rs_L, i_ne, i_lt0, ite_self, md_w0 E hp hb hn hl hf, w, md_kind E hp hb hn hl hf, z9, m1, h16, md_needY E hp hb hn hl hf, md_numY E hp hb hn hl hx hB00 hf1 t1 v1, md_numY E hp hb hn hl (show (9999 : Int32) = nI 10000 - 1 by decide) (by decide) hf2 t2 v2, md_w1 E hp hb hn hl hf3, r1, md_needY E hp hb hn hl hf3, k3, mr_md E _, mw_f59_1, mw_f59_2, mw_f59_3, mw_f59_4, mw_f59_5, mw_f71_11, mw_f71_12, mw_f71_13, mw_f71_14, mw_f71_15, TP_T, TP_H, TP_Tn, TP_Hn, TP_fn, TP_f0, TP_f1, TP_f2, TP_f3, TP_f4, TP_w1, TP_w2, TP_w3, TP_w4, TP_wT, TP_wH, Bool.false_eq_true, n_10, true_and, and_true, false_and, and_false, Nat.not_lt_zero, true_or, or_true, eq_self, mm_z, mm_rs, sw_xc_ite, sw_xv_ite, n_m1, Nat.lt_irrefl, not_false_eq_true, not_true_eq_false, inS_0, inS_1, ite_not, sw_xv_some, sw_xm_some, sw_xc_some, sw_xc_void, if_true, if_false, reduceIte, bI_0, bI_01, bI_1, nt_or, Nat.reduceAdd, n_add, n_mul, n_addL, n_Ladd, n_mulL, n_Lmul, n_sub, n_subL, n_lt, n_eq, n_ltL, n_Llt, n_eqL, n_Leq, n_nneg, n_pos]
set_option maxRecDepth 100000 in
set_option maxHeartbeats 4000000 in
theorem j_thingR (hE : E.2.2 = .null ∨ ∃ a, E.2.2 = .ref a) (hp : ∀ j, p j < 256) (hn : n ≤ 100) (hf : f ≤ n) (hT : IT T) (hw : isw p n f 0 = true) (h16 : T 0 1 < 16) (t1 : tk p n (nx p n f) = 2) (v1 : vl p n (nx p n f) < T 0 0) (t2 : tk p n (nx p n (nx p n f)) = 2) (v2 : vl p n (nx p n (nx p n f)) < 10000) (r : isw p n (nx p n (nx p n (nx p n f))) 1 = true) (t4 : tk p n (nx p n (nx p n (nx p n (nx p n f)))) = 2) (v4 : vl p n (nx p n (nx p n (nx p n (nx p n f)))) < 100) : JY E p n T H f (tw_newT T (vl p n (nx p n f)) (vl p n (nx p n (nx p n f))) (vl p n (nx p n (nx p n (nx p n (nx p n f)))))) H (nx p n (nx p n (nx p n (nx p n (nx p n f))))) := by
  have h23 : 2 < 3 := by decide
  have m1 : ((-1 : Int32) < 0) ↔ True := by decide
  have hB := hT.b
  have hB00 := hB 0 0
  have hB01 := hB 0 1
  have z : ∀ q, q < 10 → q ≠ 0 → ((isw p n f q = true) ↔ False) := fun q hq hne => ⟨fun g => hne (isw_1 hq (by first | decide | (unfold kw; split <;> omega)) g hw), False.elim⟩
  have z9 := kd_no (fun q h4 h10 g => (z q h10 (by omega)).mp g)
  have w : (isw p n f 0 = true) ↔ True := iff_true_intro hw
  have hf1 := (nx_b (p := p) hf).2.1
  have hf2 := (nx_b (p := p) hf1).2.1
  have hf3 := (nx_b (p := p) hf2).2.1
  have hf4 := (nx_b (p := p) hf3).2.1
  have hx : nI (T 0 0 - 1) = nI (T 0 0) - 1 := (n_subL (n := 1) (show (1 : Nat) ≤ T 0 0 by omega)).symm
  have e1 : ∀ x, dd p n (nx p n f) x = nI (vl p n (nx p n f)) := fun x => by unfold dd; rw [if_pos t1]
  have i1 : (tk p n (nx p n f) = 2 ∧ vl p n (nx p n f) < T 0 0) ↔ True := iff_true_intro ⟨t1, v1⟩
  have e2 : ∀ x, dd p n (nx p n (nx p n f)) x = nI (vl p n (nx p n (nx p n f))) := fun x => by unfold dd; rw [if_pos t2]
  have i2 : (tk p n (nx p n (nx p n f)) = 2 ∧ vl p n (nx p n (nx p n f)) < 10000) ↔ True := iff_true_intro ⟨t2, v2⟩
  have r1 : (isw p n (nx p n (nx p n (nx p n f))) 1 = true) ↔ True := iff_true_intro r
  have e4 : ∀ x, dd p n (nx p n (nx p n (nx p n (nx p n f)))) x = nI (vl p n (nx p n (nx p n (nx p n (nx p n f))))) := fun x => by unfold dd; rw [if_pos t4]
  have i4 : (tk p n (nx p n (nx p n (nx p n (nx p n f)))) = 2 ∧ vl p n (nx p n (nx p n (nx p n (nx p n f)))) < 100) ↔ True := iff_true_intro ⟨t4, v4⟩
  refine ⟨fun S hb hl d => ⟨dd p n (nx p n (nx p n (nx p n (nx p n f)))) (dd p n (nx p n (nx p n (nx p n f))) (dd p n (nx p n (nx p n f)) (dd p n (nx p n f) (dd p n f d)))), ?_⟩, fun S hb hl v => ?_⟩
  · simp (maxSteps := 2000000) (disch := first | omega | exact hB _ _ | assumption | decide) only [e_Tape_tellItem, st_Tape_tellItem, e_Tape_tellThing, st_Tape_tellThing, e_People_isFull, st_People_isFull, e_Things_isFull, st_Things_isFull, mr_town E _ 2 h23, mw_t0_3 _ h23, mw_t0_4 _ h23, i_ne, c_w0 E hE hp hb hn hl hf, w, z9, h16, c_stq E hp hb hn hl hf, c_stq E hp hb hn hl hf1, c_stq E hp hb hn hl hf2, c_isNum E hx hp hB00, i1, e1, c_isNum E (show (9999 : Int32) = nI 10000 - 1 from by decide) hp (by first | decide | omega), i2, e2, c_w1 E hE hp hb hn hl hf3, r1, c_stq E hp hb hn hl hf3, c_stq E hp hb hn hl hf4, c_isNum E (show (99 : Int32) = nI 100 - 1 from by decide) hp (by first | decide | omega), i4, e4, c_nT E hB h16, mr_cl E _, mw_f59_1, mw_f59_2, mw_f59_3, mw_f59_4, mw_f59_5, mw_f71_11, mw_f71_12, mw_f71_13, mw_f71_14, mw_f71_15, TP_T, TP_H, TP_Tn, TP_Hn, TP_fn, TP_f0, TP_f1, TP_f2, TP_f3, TP_f4, TP_w1, TP_w2, TP_w3, TP_w4, TP_wT, TP_wH, Bool.false_eq_true, n_10, true_and, and_true, false_and, and_false, Nat.not_lt_zero, true_or, or_true, eq_self, mm_z, mm_rs, sw_xc_ite, sw_xv_ite, n_m1, Nat.lt_irrefl, not_false_eq_true, not_true_eq_false, inS_0, inS_1, ite_not, sw_xv_some, sw_xm_some, sw_xc_some, sw_xc_void, if_true, if_false, reduceIte, bI_0, bI_01, bI_1, nt_or, Nat.reduceAdd, n_add, n_mul, n_addL, n_Ladd, n_mulL, n_Lmul, n_sub, n_subL, n_lt, n_eq, n_ltL, n_Llt, n_eqL, n_Leq, n_nneg, n_pos]
  · skip
    refine ⟨nI (vl p n (nx p n (nx p n (nx p n (nx p n f))))), ?_⟩
    simp (maxSteps := 2000000) (disch := first | omega | exact hB _ _ | assumption | decide) only [e_MD_item, st_MD_item, e_MD_thingItem, st_MD_thingItem, rs_L, i_ne, i_lt0, ite_self, md_w0 E hp hb hn hl hf, w, md_kind E hp hb hn hl hf, z9, m1, h16, md_needY E hp hb hn hl hf, md_numY E hp hb hn hl hx hB00 hf1 t1 v1, md_numY E hp hb hn hl (show (9999 : Int32) = nI 10000 - 1 by decide) (by decide) hf2 t2 v2, md_w1 E hp hb hn hl hf3, r1, md_needY E hp hb hn hl hf3, md_numY E hp hb hn hl (show (99 : Int32) = nI 100 - 1 by decide) (by decide) hf4 t4 v4, md_nT E hT h16, mr_md E _, mw_f59_1, mw_f59_2, mw_f59_3, mw_f59_4, mw_f59_5, mw_f71_11, mw_f71_12, mw_f71_13, mw_f71_14, mw_f71_15, TP_T, TP_H, TP_Tn, TP_Hn, TP_fn, TP_f0, TP_f1, TP_f2, TP_f3, TP_f4, TP_w1, TP_w2, TP_w3, TP_w4, TP_wT, TP_wH, Bool.false_eq_true, n_10, true_and, and_true, false_and, and_false, Nat.not_lt_zero, true_or, or_true, eq_self, mm_z, mm_rs, sw_xc_ite, sw_xv_ite, n_m1, Nat.lt_irrefl, not_false_eq_true, not_true_eq_false, inS_0, inS_1, ite_not, sw_xv_some, sw_xm_some, sw_xc_some, sw_xc_void, if_true, if_false, reduceIte, bI_0, bI_01, bI_1, nt_or, Nat.reduceAdd, n_add, n_mul, n_addL, n_Ladd, n_mulL, n_Lmul, n_sub, n_subL, n_lt, n_eq, n_ltL, n_Llt, n_eqL, n_Leq, n_nneg, n_pos]
end JS
