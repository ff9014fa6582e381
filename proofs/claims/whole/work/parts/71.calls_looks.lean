/-! ===== public calls: least, look, fewest, night ===== -/
def lpp (T : Nat → Nat → Nat) (s : Int32) (y z c : Nat) : Bool := decide (z ≤ tw_wa T s y c)
def lt1 (p : Nat → Bool) (i : Nat) (a : Int32) : Int32 := if p (100 - i) = true then nI (100 - i) else a
theorem lt_first (p : Nat → Bool) : ∀ K, K = 101 → lp (lt1 p) K (-1) = if fa_first p K < K then nI (fa_first p K) else -1 := by
  intro K hK
  have key := lp_inv (f := lt1 p) (P := fun i a => i ≤ K → (∀ c, K - i ≤ c → c < K → p c = true → (∀ d, K - i ≤ d → d < c → p d = false) → a = nI c) ∧ ((∀ c, K - i ≤ c → c < K → p c = false) → a = -1)) (n := K) (a := -1) (fun _ => ⟨fun c h1 h2 => by omega, fun _ => rfl⟩) (fun i a hi hP hle => by
    obtain ⟨h1, h2⟩ := hP (by omega)
    unfold lt1
    by_cases hp : p (100 - i) = true
    · rw [if_pos hp]
      refine ⟨fun c hc1 hc2 hc3 hc4 => ?_, fun hn => ?_⟩
      · by_cases e : c = 100 - i
        · rw [e]
        · have := hc4 (100 - i) (by omega) (by omega)
          rw [hp] at this; cases this
      · have := hn (100 - i) (by omega) (by omega)
        rw [hp] at this; cases this
    · rw [if_neg hp]
      refine ⟨fun c hc1 hc2 hc3 hc4 => ?_, fun hn => h2 (fun c hc1 hc2 => hn c (by omega) hc2)⟩
      by_cases e : c = 100 - i
      · rw [e] at hc3; exact absurd hc3 hp
      · exact h1 c (by omega) hc2 hc3 (fun d hd1 hd2 => hc4 d (by omega) hd2))
  obtain ⟨k1, k2⟩ := key (Nat.le_refl K)
  split
  · next hf => exact k1 _ (by omega) hf (fa_first_yes p K hf) (fun d _ hd => fa_first_no p K d hd)
  · next hf => exact k2 (fun c _ hc => fa_first_no p K c (by omega))
section LS
variable (E : sw_E) (S : sw_S)
set_option maxRecDepth 100000 in
set_option maxHeartbeats 4000000 in
theorem c_least_l (hI : IT (S.1 0)) {y z : Nat} (s : Int32) (hy : y < 10) (hz : z ≤ 9999) {K : Nat} (hK : K = 101) : h_SW_least_0 E [.ref 0, .int s, .int (nI y), .int (nI z), .int 0] (mk S) = if fa_first (lpp (S.1 0) s y z) K < K then some (some (.int (nI (fa_first (lpp (S.1 0) s y z) K))), mk S) else some (some (.int (-1000000004)), mk (mm_pM S 8 (upd (S.2.2 8) 3 (S.2.2 8 3 + 1)))) := by
  have h03 : 0 < 3 := by decide
  have hB := hI.b
  refine lp_find (G := fun i => h_SW_least_0 E [.ref 0, .int s, .int (nI y), .int (nI z), .int (nI i)] (mk S)) (p := lpp (S.1 0) s y z) (yes := fun i => some (some (.int (nI i)), mk S)) (n := K) (fun i hi => ?_) ?_
  · have hi100 : i ≤ 100 := by omega
    have h1 : ¬ 100 < i := by omega
    have hw := tw_wa_le hI (s := s) (p := y) hi100
    rw [u_SW_least_0]
    unfold lpp
    by_cases q : tw_wa (S.1 0) s y i < z
    · rw [if_neg (by rw [decide_eq_true_eq]; omega)]
      simp (disch := first | omega | exact hB _ _ | assumption | decide) only [st_SW_least, mr_town E _ 0 h03, h1, c_Town_worthOfAll E S 0 h03 hI s hy hi100, q, mr_cl E _, mm_pI_at, mm_pI_pI, mm_pI_2, mm_pL_1, mm_pL_at, mm_pL_pL, mm_pL_3, mm_pM_1, mm_pM_2, mm_pM_at, mm_pM_pM, mm_pI_pL, mm_pI_pM, mm_pL_pM, Bool.false_eq_true, n_10, true_and, and_true, false_and, and_false, Nat.not_lt_zero, true_or, or_true, eq_self, mm_z, mm_rs, sw_xc_ite, sw_xv_ite, n_m1, Nat.lt_irrefl, not_false_eq_true, not_true_eq_false, inS_0, inS_1, ite_not, sw_xv_some, sw_xm_some, sw_xc_some, sw_xc_void, if_true, if_false, reduceIte, bI_0, bI_01, bI_1, nt_or, Nat.reduceAdd, n_add, n_mul, n_addL, n_Ladd, n_mulL, n_Lmul, n_sub, n_subL, n_lt, n_eq, n_ltL, n_Llt, n_eqL, n_Leq, n_nneg, n_pos]
    · rw [if_pos (by rw [decide_eq_true_eq]; omega)]
      simp (disch := first | omega | exact hB _ _ | assumption | decide) only [st_SW_least, mr_town E _ 0 h03, h1, c_Town_worthOfAll E S 0 h03 hI s hy hi100, q, mr_cl E _, mm_pI_at, mm_pI_pI, mm_pI_2, mm_pL_1, mm_pL_at, mm_pL_pL, mm_pL_3, mm_pM_1, mm_pM_2, mm_pM_at, mm_pM_pM, mm_pI_pL, mm_pI_pM, mm_pL_pM, Bool.false_eq_true, n_10, true_and, and_true, false_and, and_false, Nat.not_lt_zero, true_or, or_true, eq_self, mm_z, mm_rs, sw_xc_ite, sw_xv_ite, n_m1, Nat.lt_irrefl, not_false_eq_true, not_true_eq_false, inS_0, inS_1, ite_not, sw_xv_some, sw_xm_some, sw_xc_some, sw_xc_void, if_true, if_false, reduceIte, bI_0, bI_01, bI_1, nt_or, Nat.reduceAdd, n_add, n_mul, n_addL, n_Ladd, n_mulL, n_Lmul, n_sub, n_subL, n_lt, n_eq, n_ltL, n_Llt, n_eqL, n_Leq, n_nneg, n_pos]
  · subst hK
    have h1 : (100 : Int32) < nI 101 := by decide
    rw [u_SW_least_0]
    simp (disch := first | omega | exact hB _ _ | assumption | decide) only [st_SW_least, h1, c_tell3, mr_cl E _, mm_pI_at, mm_pI_pI, mm_pI_2, mm_pL_1, mm_pL_at, mm_pL_pL, mm_pL_3, mm_pM_1, mm_pM_2, mm_pM_at, mm_pM_pM, mm_pI_pL, mm_pI_pM, mm_pL_pM, Bool.false_eq_true, n_10, true_and, and_true, false_and, and_false, Nat.not_lt_zero, true_or, or_true, eq_self, mm_z, mm_rs, sw_xc_ite, sw_xv_ite, n_m1, Nat.lt_irrefl, not_false_eq_true, not_true_eq_false, inS_0, inS_1, ite_not, sw_xv_some, sw_xm_some, sw_xc_some, sw_xc_void, if_true, if_false, reduceIte, bI_0, bI_01, bI_1, nt_or, Nat.reduceAdd, n_add, n_mul, n_addL, n_Ladd, n_mulL, n_Lmul, n_sub, n_subL, n_lt, n_eq, n_ltL, n_Llt, n_eqL, n_Leq, n_nneg, n_pos]
set_option maxRecDepth 100000 in
set_option maxHeartbeats 4000000 in
theorem md_least_l (hI : IT (S.1 3)) {y z : Nat} (s : Int32) (hy : y < 10) (hz : z ≤ 9999) : h_MD_least_0 E [.ref 71, .int s, .int (nI y), .int (nI z), .int (nI (S.1 3 0 5)), .int (-1), .int 100] (mk S) = sw_ex E 191 96 [.ref 71, .int s, .int (nI y), .int (nI z), .int (nI (S.1 3 0 5)), .int (if fa_first (lpp (S.1 3) s y z) 101 < 101 then nI (fa_first (lpp (S.1 3) s y z) 101) else -1), .int (-1)] [] (mk S) := by
  have hB := hI.b
  have hself : mm_u (S.1 3) 0 5 (S.1 3 0 5) = S.1 3 := by
    funext f i
    unfold mm_u
    split
    · next h => rw [h.1, h.2]
    · rfl
  rw [← lt_first (lpp (S.1 3) s y z) 101 rfl]
  generalize hK : (101 : Nat) = K
  have key := lp_upD (δ := Nat) (G := fun i q a => h_MD_least_0 E [.ref 71, .int s, .int (nI y), .int (nI z), .int (nI (S.1 3 0 5)), .int a, .int (vdn K i)] (mk (mm_pI S 3 (mm_u (S.1 3) 0 5 q)))) (P := fun _ _ => True) (f := lt1 (lpp (S.1 3) s y z)) (fin := fun a => sw_ex E 191 96 [.ref 71, .int s, .int (nI y), .int (nI z), .int (nI (S.1 3 0 5)), .int a, .int (-1)] [] (mk S)) (n := K) (a0 := -1) trivial (fun i q a hi _ => ⟨⟨100 - i, ?_⟩, trivial⟩) (fun q a _ => ?_) (S.1 3 0 5)
  · have e0 : vdn K 0 = 100 := by subst hK; decide
    rw [e0, hself, mm_pI_id] at key
    exact key
  · have ev : vdn K i = nI (100 - i) := by unfold vdn; rw [if_pos hi, ← hK]
    have es := vdn_s hi
    rw [← hK] at es
    have es' : nI (100 - i) + (-1) = vdn K (i + 1) := by rw [← hK]; exact es
    have hI' : IT ((mm_pI S 3 (mm_u (S.1 3) 0 5 (100 - i))).1 3) := by rw [mm_pI_at]; exact IT_u05 hI (by omega)
    have cA := md_countsAll E (mm_pI S 3 (mm_u (S.1 3) 0 5 (100 - i))) hI' s hy
    rw [mm_pI_at] at cA
    have ew : tw_wa (mm_u (S.1 3) 0 5 (100 - i)) s y (mm_u (S.1 3) 0 5 (100 - i) 0 5) = tw_wa (S.1 3) s y (100 - i) := by
      rw [mm_u_at]
      rfl
    rw [ew] at cA
    have hw := tw_wa_le hI (s := s) (p := y) (show 100 - i ≤ 100 by omega)
    rw [u_MD_least_0, ev]
    unfold lt1 lpp
    by_cases g : tw_wa (S.1 3) s y (100 - i) < z
    · rw [if_neg (by rw [decide_eq_true_eq]; omega)]
      simp (disch := first | omega | exact hB _ _ | assumption | decide) only [st_MD_least, ws_L, mm_u_u, cA, g, es', mr_md E _, mm_pI_at, mm_pI_pI, mm_pI_2, mm_pL_1, mm_pL_at, mm_pL_pL, mm_pL_3, mm_pM_1, mm_pM_2, mm_pM_at, mm_pM_pM, mm_pI_pL, mm_pI_pM, mm_pL_pM, Bool.false_eq_true, n_10, true_and, and_true, false_and, and_false, Nat.not_lt_zero, true_or, or_true, eq_self, mm_z, mm_rs, sw_xc_ite, sw_xv_ite, n_m1, Nat.lt_irrefl, not_false_eq_true, not_true_eq_false, inS_0, inS_1, ite_not, sw_xv_some, sw_xm_some, sw_xc_some, sw_xc_void, if_true, if_false, reduceIte, bI_0, bI_01, bI_1, nt_or, Nat.reduceAdd, n_add, n_mul, n_addL, n_Ladd, n_mulL, n_Lmul, n_sub, n_subL, n_lt, n_eq, n_ltL, n_Llt, n_eqL, n_Leq, n_nneg, n_pos]
    · rw [if_pos (by rw [decide_eq_true_eq]; omega)]
      simp (disch := first | omega | exact hB _ _ | assumption | decide) only [st_MD_least, ws_L, mm_u_u, cA, g, es', mr_md E _, mm_pI_at, mm_pI_pI, mm_pI_2, mm_pL_1, mm_pL_at, mm_pL_pL, mm_pL_3, mm_pM_1, mm_pM_2, mm_pM_at, mm_pM_pM, mm_pI_pL, mm_pI_pM, mm_pL_pM, Bool.false_eq_true, n_10, true_and, and_true, false_and, and_false, Nat.not_lt_zero, true_or, or_true, eq_self, mm_z, mm_rs, sw_xc_ite, sw_xv_ite, n_m1, Nat.lt_irrefl, not_false_eq_true, not_true_eq_false, inS_0, inS_1, ite_not, sw_xv_some, sw_xm_some, sw_xc_some, sw_xc_void, if_true, if_false, reduceIte, bI_0, bI_01, bI_1, nt_or, Nat.reduceAdd, n_add, n_mul, n_addL, n_Ladd, n_mulL, n_Lmul, n_sub, n_subL, n_lt, n_eq, n_ltL, n_Llt, n_eqL, n_Leq, n_nneg, n_pos]
  · have ev : vdn K K = -1 := if_neg (Nat.lt_irrefl K)
    rw [u_MD_least_0, ev]
    simp (disch := first | omega | exact hB _ _ | assumption | decide) only [st_MD_least, ws_L, mm_u_u, hself, mm_pI_id, mr_md E _, mm_pI_at, mm_pI_pI, mm_pI_2, mm_pL_1, mm_pL_at, mm_pL_pL, mm_pL_3, mm_pM_1, mm_pM_2, mm_pM_at, mm_pM_pM, mm_pI_pL, mm_pI_pM, mm_pL_pM, Bool.false_eq_true, n_10, true_and, and_true, false_and, and_false, Nat.not_lt_zero, true_or, or_true, eq_self, mm_z, mm_rs, sw_xc_ite, sw_xv_ite, n_m1, Nat.lt_irrefl, not_false_eq_true, not_true_eq_false, inS_0, inS_1, ite_not, sw_xv_some, sw_xm_some, sw_xc_some, sw_xc_void, if_true, if_false, reduceIte, bI_0, bI_01, bI_1, nt_or, Nat.reduceAdd, n_add, n_mul, n_addL, n_Ladd, n_mulL, n_Lmul, n_sub, n_subL, n_lt, n_eq, n_ltL, n_Llt, n_eqL, n_Leq, n_nneg, n_pos]
end LS
theorem Inv_scr {S : sw_S} (h : Inv S) (A : Nat → Nat → Nat) (B : Nat → Int64) : Inv (mm_pL (mm_pI (mm_pL (mm_pI (mm_pL (mm_pI S 2 A) 2 B) 5 (S.1 0)) 5 (S.2.1 0)) 3 (S.1 0)) 3 (S.2.1 0)) := by
  obtain ⟨h1, h2, h3, h4, h5, h6, h7, h8, h9, h10, h11, h12, h13, h14, h15⟩ := h
  refine ⟨h1, rfl, rfl, h4, h5, h6, h7, h8, h9, h10, h11, h12, h13, h14, fun s hs => ?_⟩
  have q : ∀ t, 6 ≤ t → (mm_pL (mm_pI (mm_pL (mm_pI (mm_pL (mm_pI S 2 A) 2 B) 5 (S.1 0)) 5 (S.2.1 0)) 3 (S.1 0)) 3 (S.2.1 0)).2.1 t = S.2.1 t := fun t ht => by
    rw [mm_pL_ne _ _ (by omega), mm_pI_2, mm_pL_ne _ _ (by omega), mm_pI_2, mm_pL_ne _ _ (by omega), mm_pI_2]
  rw [q _ (by omega), q _ (by omega)]
  exact h15 s hs
set_option maxRecDepth 100000 in
set_option maxHeartbeats 4000000 in
theorem p_least (E : sw_E) {S : sw_S} (hI : Inv S) (s : Int32) (y : Int32) (z : Int32) : AgI S (f_SW_least E (.ref 0) (.int s) (.int y) (.int z)) (f_MD_least E (.ref 71) (.int s) (.int y) (.int z)) := by
  have h03 : 0 < 3 := by decide
  have hT := hI.it
  have hB := hT.b
  have hn := hT.n
  have hp := hT.p
  have hk := hT.k
  have e3 : ∀ S1, MP S S1 → S1.1 3 = S.1 0 := fun S1 h => (h.1 3 (by decide)).trans hI.s3
  have eh : ∀ S1, MP S S1 → S1.2.1 3 = S.2.1 0 := fun S1 h => (h.2.1 3 (by decide)).trans hI.h3
  by_cases h1 : ok s (2 ^ S.1 0 0 1) = true
  · by_cases h2 : ok y (S.1 0 0 0) = true
    · by_cases h3 : okS z = true
      · obtain ⟨y, h2_, rfl⟩ := (ok_iff (by omega)).mp h2
        obtain ⟨z, hz1, hz2, rfl⟩ := okS_iff.mp h3
        have hy10 : y < 10 := by omega
        have cL := c_least_l E S hT s hy10 hz2 (K := 101) rfl
        by_cases h4 : fa_first (lpp (S.1 0) s y z) 101 < 101
        · rw [if_pos h4] at cL
          have hb : fa_first (lpp (S.1 0) s y z) 101 < 2147483648 := by omega
          refine ag_read (v := nI (fa_first (lpp (S.1 0) s y z) 101)) ?_ ?_ hI
          · simp (disch := first | omega | exact hB _ _ | exact hB3 | exact hI3 | assumption | decide) only [e_SW_least, st_SW_least, h1, h2, h3, c_Thasall E _ _ h03 hn, cL, c_isKind, c_isUpTo, c_isSum, c_Phas E _ _ h03, c_Thas E _ _ h03, c_Khas E _ _ h03, e_SW_isPair, st_SW_isPair, e_People_isFull, st_People_isFull, e_Things_isFull, st_Things_isFull, e_Promises_isFull, st_Promises_isFull, e_Promises_isOpen, st_Promises_isOpen, c_tell0, c_tell1, c_tell2, c_tell3, c_tell4, c_tell5, c_tell6, mr_cl E _, mr_town E _ 0 h03, mm_pI_at, mm_pI_pI, mm_pI_2, mm_pL_1, mm_pL_at, mm_pL_pL, mm_pL_3, mm_pM_1, mm_pM_2, mm_pM_at, mm_pM_pM, mm_pI_pL, mm_pI_pM, mm_pL_pM, mm_pI_ne, mm_pL_ne, mm_pM_ne, mm_u_f, mm_u_at, mm_u_ne, Bool.false_eq_true, n_10, true_and, and_true, false_and, and_false, Nat.not_lt_zero, true_or, or_true, eq_self, mm_z, mm_rs, sw_xc_ite, sw_xv_ite, n_m1, Nat.lt_irrefl, not_false_eq_true, not_true_eq_false, inS_0, inS_1, ite_not, sw_xv_some, sw_xm_some, sw_xc_some, sw_xc_void, if_true, if_false, reduceIte, bI_0, bI_01, bI_1, nt_or, Nat.reduceAdd, n_add, n_mul, n_addL, n_Ladd, n_mulL, n_Lmul, n_sub, n_subL, n_lt, n_eq, n_ltL, n_Llt, n_eqL, n_Leq, n_nneg, n_pos]
          · intro S1 hM
            have e3 := e3 S1 hM
            have eh := eh S1 hM
            have hI3 : IT (S1.1 3) := by rw [e3]; exact hT
            have hB3 := hI3.b
            have mL := md_least_l E S1 hI3 s hy10 hz2
            rw [e3, if_pos h4] at mL
            simp (disch := first | omega | exact hB _ _ | exact hB3 | exact hI3 | assumption | decide) only [e_MD_least, st_MD_least, h1, h2, h3, md_isSet E _ _ hB3 hI3.n, mL, in_ok, in_okS, md_isPersonX, md_isThingX, md_isPromiseX, e_MD_areTwo, st_MD_areTwo, rs_L, md_finds0, md_finds1, md_finds2, md_finds3, md_finds4, md_finds5, md_finds6, mr_md E _, e3, eh, mm_pI_at, mm_pI_pI, mm_pI_2, mm_pL_1, mm_pL_at, mm_pL_pL, mm_pL_3, mm_pM_1, mm_pM_2, mm_pM_at, mm_pM_pM, mm_pI_pL, mm_pI_pM, mm_pL_pM, mm_pI_ne, mm_pL_ne, mm_pM_ne, mm_u_f, mm_u_at, mm_u_ne, Bool.false_eq_true, n_10, true_and, and_true, false_and, and_false, Nat.not_lt_zero, true_or, or_true, eq_self, mm_z, mm_rs, sw_xc_ite, sw_xv_ite, n_m1, Nat.lt_irrefl, not_false_eq_true, not_true_eq_false, inS_0, inS_1, ite_not, sw_xv_some, sw_xm_some, sw_xc_some, sw_xc_void, if_true, if_false, reduceIte, bI_0, bI_01, bI_1, nt_or, Nat.reduceAdd, n_add, n_mul, n_addL, n_Ladd, n_mulL, n_Lmul, n_sub, n_subL, n_lt, n_eq, n_ltL, n_Llt, n_eqL, n_Leq, n_nneg, n_pos]
        · rw [if_neg h4] at cL
          refine ag_find (v := -1000000004) 3 ?_ ?_ hI
          · simp (disch := first | omega | exact hB _ _ | exact hB3 | exact hI3 | assumption | decide) only [e_SW_least, st_SW_least, h1, h2, h3, c_Thasall E _ _ h03 hn, cL, c_isKind, c_isUpTo, c_isSum, c_Phas E _ _ h03, c_Thas E _ _ h03, c_Khas E _ _ h03, e_SW_isPair, st_SW_isPair, e_People_isFull, st_People_isFull, e_Things_isFull, st_Things_isFull, e_Promises_isFull, st_Promises_isFull, e_Promises_isOpen, st_Promises_isOpen, c_tell0, c_tell1, c_tell2, c_tell3, c_tell4, c_tell5, c_tell6, mr_cl E _, mr_town E _ 0 h03, mm_pI_at, mm_pI_pI, mm_pI_2, mm_pL_1, mm_pL_at, mm_pL_pL, mm_pL_3, mm_pM_1, mm_pM_2, mm_pM_at, mm_pM_pM, mm_pI_pL, mm_pI_pM, mm_pL_pM, mm_pI_ne, mm_pL_ne, mm_pM_ne, mm_u_f, mm_u_at, mm_u_ne, Bool.false_eq_true, n_10, true_and, and_true, false_and, and_false, Nat.not_lt_zero, true_or, or_true, eq_self, mm_z, mm_rs, sw_xc_ite, sw_xv_ite, n_m1, Nat.lt_irrefl, not_false_eq_true, not_true_eq_false, inS_0, inS_1, ite_not, sw_xv_some, sw_xm_some, sw_xc_some, sw_xc_void, if_true, if_false, reduceIte, bI_0, bI_01, bI_1, nt_or, Nat.reduceAdd, n_add, n_mul, n_addL, n_Ladd, n_mulL, n_Lmul, n_sub, n_subL, n_lt, n_eq, n_ltL, n_Llt, n_eqL, n_Leq, n_nneg, n_pos]
          · intro S1 hM
            have e3 := e3 S1 hM
            have eh := eh S1 hM
            have hI3 : IT (S1.1 3) := by rw [e3]; exact hT
            have hB3 := hI3.b
            have mL := md_least_l E S1 hI3 s hy10 hz2
            rw [e3, if_neg h4] at mL
            simp (disch := first | omega | exact hB _ _ | exact hB3 | exact hI3 | assumption | decide) only [e_MD_least, st_MD_least, h1, h2, h3, md_isSet E _ _ hB3 hI3.n, mL, in_ok, in_okS, md_isPersonX, md_isThingX, md_isPromiseX, e_MD_areTwo, st_MD_areTwo, rs_L, md_finds0, md_finds1, md_finds2, md_finds3, md_finds4, md_finds5, md_finds6, mr_md E _, e3, eh, mm_pI_at, mm_pI_pI, mm_pI_2, mm_pL_1, mm_pL_at, mm_pL_pL, mm_pL_3, mm_pM_1, mm_pM_2, mm_pM_at, mm_pM_pM, mm_pI_pL, mm_pI_pM, mm_pL_pM, mm_pI_ne, mm_pL_ne, mm_pM_ne, mm_u_f, mm_u_at, mm_u_ne, Bool.false_eq_true, n_10, true_and, and_true, false_and, and_false, Nat.not_lt_zero, true_or, or_true, eq_self, mm_z, mm_rs, sw_xc_ite, sw_xv_ite, n_m1, Nat.lt_irrefl, not_false_eq_true, not_true_eq_false, inS_0, inS_1, ite_not, sw_xv_some, sw_xm_some, sw_xc_some, sw_xc_void, if_true, if_false, reduceIte, bI_0, bI_01, bI_1, nt_or, Nat.reduceAdd, n_add, n_mul, n_addL, n_Ladd, n_mulL, n_Lmul, n_sub, n_subL, n_lt, n_eq, n_ltL, n_Llt, n_eqL, n_Leq, n_nneg, n_pos]
      · refine ag_find (v := -1000000001) 0 ?_ ?_ hI
        · simp (disch := first | omega | exact hB _ _ | exact hB3 | exact hI3 | assumption | decide) only [e_SW_least, st_SW_least, h1, h2, h3, c_Thasall E _ _ h03 hn, c_isKind, c_isUpTo, c_isSum, c_Phas E _ _ h03, c_Thas E _ _ h03, c_Khas E _ _ h03, e_SW_isPair, st_SW_isPair, e_People_isFull, st_People_isFull, e_Things_isFull, st_Things_isFull, e_Promises_isFull, st_Promises_isFull, e_Promises_isOpen, st_Promises_isOpen, c_tell0, c_tell1, c_tell2, c_tell3, c_tell4, c_tell5, c_tell6, mr_cl E _, mr_town E _ 0 h03, mm_pI_at, mm_pI_pI, mm_pI_2, mm_pL_1, mm_pL_at, mm_pL_pL, mm_pL_3, mm_pM_1, mm_pM_2, mm_pM_at, mm_pM_pM, mm_pI_pL, mm_pI_pM, mm_pL_pM, mm_pI_ne, mm_pL_ne, mm_pM_ne, mm_u_f, mm_u_at, mm_u_ne, Bool.false_eq_true, n_10, true_and, and_true, false_and, and_false, Nat.not_lt_zero, true_or, or_true, eq_self, mm_z, mm_rs, sw_xc_ite, sw_xv_ite, n_m1, Nat.lt_irrefl, not_false_eq_true, not_true_eq_false, inS_0, inS_1, ite_not, sw_xv_some, sw_xm_some, sw_xc_some, sw_xc_void, if_true, if_false, reduceIte, bI_0, bI_01, bI_1, nt_or, Nat.reduceAdd, n_add, n_mul, n_addL, n_Ladd, n_mulL, n_Lmul, n_sub, n_subL, n_lt, n_eq, n_ltL, n_Llt, n_eqL, n_Leq, n_nneg, n_pos]
        · intro S1 hM
          have e3 := e3 S1 hM
          have eh := eh S1 hM
          have hI3 : IT (S1.1 3) := by rw [e3]; exact hT
          have hB3 := hI3.b
          simp (disch := first | omega | exact hB _ _ | exact hB3 | exact hI3 | assumption | decide) only [e_MD_least, st_MD_least, h1, h2, h3, md_isSet E _ _ hB3 hI3.n, in_ok, in_okS, md_isPersonX, md_isThingX, md_isPromiseX, e_MD_areTwo, st_MD_areTwo, rs_L, md_finds0, md_finds1, md_finds2, md_finds3, md_finds4, md_finds5, md_finds6, mr_md E _, e3, eh, mm_pI_at, mm_pI_pI, mm_pI_2, mm_pL_1, mm_pL_at, mm_pL_pL, mm_pL_3, mm_pM_1, mm_pM_2, mm_pM_at, mm_pM_pM, mm_pI_pL, mm_pI_pM, mm_pL_pM, mm_pI_ne, mm_pL_ne, mm_pM_ne, mm_u_f, mm_u_at, mm_u_ne, Bool.false_eq_true, n_10, true_and, and_true, false_and, and_false, Nat.not_lt_zero, true_or, or_true, eq_self, mm_z, mm_rs, sw_xc_ite, sw_xv_ite, n_m1, Nat.lt_irrefl, not_false_eq_true, not_true_eq_false, inS_0, inS_1, ite_not, sw_xv_some, sw_xm_some, sw_xc_some, sw_xc_void, if_true, if_false, reduceIte, bI_0, bI_01, bI_1, nt_or, Nat.reduceAdd, n_add, n_mul, n_addL, n_Ladd, n_mulL, n_Lmul, n_sub, n_subL, n_lt, n_eq, n_ltL, n_Llt, n_eqL, n_Leq, n_nneg, n_pos]
    · refine ag_find (v := -1000000001) 0 ?_ ?_ hI
      · simp (disch := first | omega | exact hB _ _ | exact hB3 | exact hI3 | assumption | decide) only [e_SW_least, st_SW_least, h1, h2, c_Thasall E _ _ h03 hn, c_isKind, c_isUpTo, c_isSum, c_Phas E _ _ h03, c_Thas E _ _ h03, c_Khas E _ _ h03, e_SW_isPair, st_SW_isPair, e_People_isFull, st_People_isFull, e_Things_isFull, st_Things_isFull, e_Promises_isFull, st_Promises_isFull, e_Promises_isOpen, st_Promises_isOpen, c_tell0, c_tell1, c_tell2, c_tell3, c_tell4, c_tell5, c_tell6, mr_cl E _, mr_town E _ 0 h03, mm_pI_at, mm_pI_pI, mm_pI_2, mm_pL_1, mm_pL_at, mm_pL_pL, mm_pL_3, mm_pM_1, mm_pM_2, mm_pM_at, mm_pM_pM, mm_pI_pL, mm_pI_pM, mm_pL_pM, mm_pI_ne, mm_pL_ne, mm_pM_ne, mm_u_f, mm_u_at, mm_u_ne, Bool.false_eq_true, n_10, true_and, and_true, false_and, and_false, Nat.not_lt_zero, true_or, or_true, eq_self, mm_z, mm_rs, sw_xc_ite, sw_xv_ite, n_m1, Nat.lt_irrefl, not_false_eq_true, not_true_eq_false, inS_0, inS_1, ite_not, sw_xv_some, sw_xm_some, sw_xc_some, sw_xc_void, if_true, if_false, reduceIte, bI_0, bI_01, bI_1, nt_or, Nat.reduceAdd, n_add, n_mul, n_addL, n_Ladd, n_mulL, n_Lmul, n_sub, n_subL, n_lt, n_eq, n_ltL, n_Llt, n_eqL, n_Leq, n_nneg, n_pos]
      · intro S1 hM
        have e3 := e3 S1 hM
        have eh := eh S1 hM
        have hI3 : IT (S1.1 3) := by rw [e3]; exact hT
        have hB3 := hI3.b
        simp (disch := first | omega | exact hB _ _ | exact hB3 | exact hI3 | assumption | decide) only [e_MD_least, st_MD_least, h1, h2, md_isSet E _ _ hB3 hI3.n, in_ok, in_okS, md_isPersonX, md_isThingX, md_isPromiseX, e_MD_areTwo, st_MD_areTwo, rs_L, md_finds0, md_finds1, md_finds2, md_finds3, md_finds4, md_finds5, md_finds6, mr_md E _, e3, eh, mm_pI_at, mm_pI_pI, mm_pI_2, mm_pL_1, mm_pL_at, mm_pL_pL, mm_pL_3, mm_pM_1, mm_pM_2, mm_pM_at, mm_pM_pM, mm_pI_pL, mm_pI_pM, mm_pL_pM, mm_pI_ne, mm_pL_ne, mm_pM_ne, mm_u_f, mm_u_at, mm_u_ne, Bool.false_eq_true, n_10, true_and, and_true, false_and, and_false, Nat.not_lt_zero, true_or, or_true, eq_self, mm_z, mm_rs, sw_xc_ite, sw_xv_ite, n_m1, Nat.lt_irrefl, not_false_eq_true, not_true_eq_false, inS_0, inS_1, ite_not, sw_xv_some, sw_xm_some, sw_xc_some, sw_xc_void, if_true, if_false, reduceIte, bI_0, bI_01, bI_1, nt_or, Nat.reduceAdd, n_add, n_mul, n_addL, n_Ladd, n_mulL, n_Lmul, n_sub, n_subL, n_lt, n_eq, n_ltL, n_Llt, n_eqL, n_Leq, n_nneg, n_pos]
  · refine ag_find (v := -1000000001) 0 ?_ ?_ hI
    · simp (disch := first | omega | exact hB _ _ | exact hB3 | exact hI3 | assumption | decide) only [e_SW_least, st_SW_least, h1, c_Thasall E _ _ h03 hn, c_isKind, c_isUpTo, c_isSum, c_Phas E _ _ h03, c_Thas E _ _ h03, c_Khas E _ _ h03, e_SW_isPair, st_SW_isPair, e_People_isFull, st_People_isFull, e_Things_isFull, st_Things_isFull, e_Promises_isFull, st_Promises_isFull, e_Promises_isOpen, st_Promises_isOpen, c_tell0, c_tell1, c_tell2, c_tell3, c_tell4, c_tell5, c_tell6, mr_cl E _, mr_town E _ 0 h03, mm_pI_at, mm_pI_pI, mm_pI_2, mm_pL_1, mm_pL_at, mm_pL_pL, mm_pL_3, mm_pM_1, mm_pM_2, mm_pM_at, mm_pM_pM, mm_pI_pL, mm_pI_pM, mm_pL_pM, mm_pI_ne, mm_pL_ne, mm_pM_ne, mm_u_f, mm_u_at, mm_u_ne, Bool.false_eq_true, n_10, true_and, and_true, false_and, and_false, Nat.not_lt_zero, true_or, or_true, eq_self, mm_z, mm_rs, sw_xc_ite, sw_xv_ite, n_m1, Nat.lt_irrefl, not_false_eq_true, not_true_eq_false, inS_0, inS_1, ite_not, sw_xv_some, sw_xm_some, sw_xc_some, sw_xc_void, if_true, if_false, reduceIte, bI_0, bI_01, bI_1, nt_or, Nat.reduceAdd, n_add, n_mul, n_addL, n_Ladd, n_mulL, n_Lmul, n_sub, n_subL, n_lt, n_eq, n_ltL, n_Llt, n_eqL, n_Leq, n_nneg, n_pos]
    · intro S1 hM
      have e3 := e3 S1 hM
      have eh := eh S1 hM
      have hI3 : IT (S1.1 3) := by rw [e3]; exact hT
      have hB3 := hI3.b
      simp (disch := first | omega | exact hB _ _ | exact hB3 | exact hI3 | assumption | decide) only [e_MD_least, st_MD_least, h1, md_isSet E _ _ hB3 hI3.n, in_ok, in_okS, md_isPersonX, md_isThingX, md_isPromiseX, e_MD_areTwo, st_MD_areTwo, rs_L, md_finds0, md_finds1, md_finds2, md_finds3, md_finds4, md_finds5, md_finds6, mr_md E _, e3, eh, mm_pI_at, mm_pI_pI, mm_pI_2, mm_pL_1, mm_pL_at, mm_pL_pL, mm_pL_3, mm_pM_1, mm_pM_2, mm_pM_at, mm_pM_pM, mm_pI_pL, mm_pI_pM, mm_pL_pM, mm_pI_ne, mm_pL_ne, mm_pM_ne, mm_u_f, mm_u_at, mm_u_ne, Bool.false_eq_true, n_10, true_and, and_true, false_and, and_false, Nat.not_lt_zero, true_or, or_true, eq_self, mm_z, mm_rs, sw_xc_ite, sw_xv_ite, n_m1, Nat.lt_irrefl, not_false_eq_true, not_true_eq_false, inS_0, inS_1, ite_not, sw_xv_some, sw_xm_some, sw_xc_some, sw_xc_void, if_true, if_false, reduceIte, bI_0, bI_01, bI_1, nt_or, Nat.reduceAdd, n_add, n_mul, n_addL, n_Ladd, n_mulL, n_Lmul, n_sub, n_subL, n_lt, n_eq, n_ltL, n_Llt, n_eqL, n_Leq, n_nneg, n_pos]
set_option maxRecDepth 100000 in
set_option maxHeartbeats 4000000 in
theorem p_fewest (E : sw_E) {S : sw_S} (hI : Inv S) (x : Int32) (y : Int32) (z : Int32) : AgI S (f_SW_fewest E (.ref 0) (.int x) (.int y) (.int z)) (f_MD_fewest E (.ref 71) (.int x) (.int y) (.int z)) := by
  have h03 : 0 < 3 := by decide
  have hT := hI.it
  have hB := hT.b
  have hn := hT.n
  have hp := hT.p
  have hk := hT.k
  have e3 : ∀ S1, MP S S1 → S1.1 3 = S.1 0 := fun S1 h => (h.1 3 (by decide)).trans hI.s3
  have eh : ∀ S1, MP S S1 → S1.2.1 3 = S.2.1 0 := fun S1 h => (h.2.1 3 (by decide)).trans hI.h3
  by_cases h1 : ok x (S.1 0 0 0) = true
  · by_cases h2 : ok y (S.1 0 0 0) = true
    · by_cases h3 : x = y
      · refine ag_find (v := -1000000001) 0 ?_ ?_ hI
        · simp (disch := first | omega | exact hB _ _ | exact hB3 | exact hI3 | assumption | decide) only [e_SW_fewest, st_SW_fewest, h2, h3, c_isKind, c_isUpTo, c_isSum, c_Phas E _ _ h03, c_Thas E _ _ h03, c_Khas E _ _ h03, e_SW_isPair, st_SW_isPair, e_People_isFull, st_People_isFull, e_Things_isFull, st_Things_isFull, e_Promises_isFull, st_Promises_isFull, e_Promises_isOpen, st_Promises_isOpen, c_tell0, c_tell1, c_tell2, c_tell3, c_tell4, c_tell5, c_tell6, mr_cl E _, mr_town E _ 0 h03, mm_pI_at, mm_pI_pI, mm_pI_2, mm_pL_1, mm_pL_at, mm_pL_pL, mm_pL_3, mm_pM_1, mm_pM_2, mm_pM_at, mm_pM_pM, mm_pI_pL, mm_pI_pM, mm_pL_pM, mm_pI_ne, mm_pL_ne, mm_pM_ne, mm_u_f, mm_u_at, mm_u_ne, Bool.false_eq_true, n_10, true_and, and_true, false_and, and_false, Nat.not_lt_zero, true_or, or_true, eq_self, mm_z, mm_rs, sw_xc_ite, sw_xv_ite, n_m1, Nat.lt_irrefl, not_false_eq_true, not_true_eq_false, inS_0, inS_1, ite_not, sw_xv_some, sw_xm_some, sw_xc_some, sw_xc_void, if_true, if_false, reduceIte, bI_0, bI_01, bI_1, nt_or, Nat.reduceAdd, n_add, n_mul, n_addL, n_Ladd, n_mulL, n_Lmul, n_sub, n_subL, n_lt, n_eq, n_ltL, n_Llt, n_eqL, n_Leq, n_nneg, n_pos]
        · intro S1 hM
          have e3 := e3 S1 hM
          have eh := eh S1 hM
          have hI3 : IT (S1.1 3) := by rw [e3]; exact hT
          have hB3 := hI3.b
          simp (disch := first | omega | exact hB _ _ | exact hB3 | exact hI3 | assumption | decide) only [e_MD_fewest, st_MD_fewest, h2, h3, in_ok, in_okS, md_isPersonX, md_isThingX, md_isPromiseX, e_MD_areTwo, st_MD_areTwo, rs_L, md_finds0, md_finds1, md_finds2, md_finds3, md_finds4, md_finds5, md_finds6, mr_md E _, e3, eh, mm_pI_at, mm_pI_pI, mm_pI_2, mm_pL_1, mm_pL_at, mm_pL_pL, mm_pL_3, mm_pM_1, mm_pM_2, mm_pM_at, mm_pM_pM, mm_pI_pL, mm_pI_pM, mm_pL_pM, mm_pI_ne, mm_pL_ne, mm_pM_ne, mm_u_f, mm_u_at, mm_u_ne, Bool.false_eq_true, n_10, true_and, and_true, false_and, and_false, Nat.not_lt_zero, true_or, or_true, eq_self, mm_z, mm_rs, sw_xc_ite, sw_xv_ite, n_m1, Nat.lt_irrefl, not_false_eq_true, not_true_eq_false, inS_0, inS_1, ite_not, sw_xv_some, sw_xm_some, sw_xc_some, sw_xc_void, if_true, if_false, reduceIte, bI_0, bI_01, bI_1, nt_or, Nat.reduceAdd, n_add, n_mul, n_addL, n_Ladd, n_mulL, n_Lmul, n_sub, n_subL, n_lt, n_eq, n_ltL, n_Llt, n_eqL, n_Leq, n_nneg, n_pos]
      · by_cases h4 : okS z = true
        · obtain ⟨x, h1_, rfl⟩ := (ok_iff (by omega)).mp h1
          obtain ⟨y, h2_, rfl⟩ := (ok_iff (by omega)).mp h2
          obtain ⟨z, hz1, hz2, rfl⟩ := okS_iff.mp h4
          have hne : ¬ x = y := fun e => h3 (by rw [e])
          have hy10 : y < 10 := by omega
          obtain ⟨C, hC, eC⟩ : ∃ C, C < 65536 ∧ tw_put (S.1 0) x = nI C := set_nat16 hn _
          have cP := c_Town_couldPut E S 0 h03 hT (p := x) (by omega)
          rw [eC] at cP
          have mP : ∀ S1 : sw_S, IT (S1.1 3) → S1.1 3 = S.1 0 → f_MD_couldPut E (.ref 71) (.int (nI x)) (mk S1) = some (some (.int (nI C)), mk S1) := fun S1 h e => by
            have := md_couldPut E S1 h (p := x) (by omega)
            rw [e, eC] at this
            exact this
          have pl := pcN_le 32 C
          have cB := fun M => c_bitCount E (a := C) (by omega) M
          have hw := tw_wa_le hT (s := nI C) (p := y) hT.part
          by_cases h5 : 10 < pcN 32 C
          · refine ag_find (v := -1000000007) 6 ?_ ?_ hI
            · simp (disch := first | omega | exact hB _ _ | exact hB3 | exact hI3 | assumption | decide) only [e_SW_fewest, st_SW_fewest, h1, h2, hne, h4, h5, cP, cB, c_isKind, c_isUpTo, c_isSum, c_Phas E _ _ h03, c_Thas E _ _ h03, c_Khas E _ _ h03, e_SW_isPair, st_SW_isPair, e_People_isFull, st_People_isFull, e_Things_isFull, st_Things_isFull, e_Promises_isFull, st_Promises_isFull, e_Promises_isOpen, st_Promises_isOpen, c_tell0, c_tell1, c_tell2, c_tell3, c_tell4, c_tell5, c_tell6, mr_cl E _, mr_town E _ 0 h03, mm_pI_at, mm_pI_pI, mm_pI_2, mm_pL_1, mm_pL_at, mm_pL_pL, mm_pL_3, mm_pM_1, mm_pM_2, mm_pM_at, mm_pM_pM, mm_pI_pL, mm_pI_pM, mm_pL_pM, mm_pI_ne, mm_pL_ne, mm_pM_ne, mm_u_f, mm_u_at, mm_u_ne, Bool.false_eq_true, n_10, true_and, and_true, false_and, and_false, Nat.not_lt_zero, true_or, or_true, eq_self, mm_z, mm_rs, sw_xc_ite, sw_xv_ite, n_m1, Nat.lt_irrefl, not_false_eq_true, not_true_eq_false, inS_0, inS_1, ite_not, sw_xv_some, sw_xm_some, sw_xc_some, sw_xc_void, if_true, if_false, reduceIte, bI_0, bI_01, bI_1, nt_or, Nat.reduceAdd, n_add, n_mul, n_addL, n_Ladd, n_mulL, n_Lmul, n_sub, n_subL, n_lt, n_eq, n_ltL, n_Llt, n_eqL, n_Leq, n_nneg, n_pos]
            · intro S1 hM
              have e3 := e3 S1 hM
              have eh := eh S1 hM
              have hI3 : IT (S1.1 3) := by rw [e3]; exact hT
              have hB3 := hI3.b
              simp (disch := first | omega | exact hB _ _ | exact hB3 | exact hI3 | assumption | decide) only [e_MD_fewest, st_MD_fewest, h1, h2, hne, h4, h5, mP S1 hI3 e3, md_ones E S1 (show C < 2147483648 by omega), in_ok, in_okS, md_isPersonX, md_isThingX, md_isPromiseX, e_MD_areTwo, st_MD_areTwo, rs_L, md_finds0, md_finds1, md_finds2, md_finds3, md_finds4, md_finds5, md_finds6, mr_md E _, e3, eh, mm_pI_at, mm_pI_pI, mm_pI_2, mm_pL_1, mm_pL_at, mm_pL_pL, mm_pL_3, mm_pM_1, mm_pM_2, mm_pM_at, mm_pM_pM, mm_pI_pL, mm_pI_pM, mm_pL_pM, mm_pI_ne, mm_pL_ne, mm_pM_ne, mm_u_f, mm_u_at, mm_u_ne, Bool.false_eq_true, n_10, true_and, and_true, false_and, and_false, Nat.not_lt_zero, true_or, or_true, eq_self, mm_z, mm_rs, sw_xc_ite, sw_xv_ite, n_m1, Nat.lt_irrefl, not_false_eq_true, not_true_eq_false, inS_0, inS_1, ite_not, sw_xv_some, sw_xm_some, sw_xc_some, sw_xc_void, if_true, if_false, reduceIte, bI_0, bI_01, bI_1, nt_or, Nat.reduceAdd, n_add, n_mul, n_addL, n_Ladd, n_mulL, n_Lmul, n_sub, n_subL, n_lt, n_eq, n_ltL, n_Llt, n_eqL, n_Leq, n_nneg, n_pos]
          · by_cases h6 : tw_wa (S.1 0) (nI C) y (S.1 0 0 5) < z
            · have q1 : ∀ s, s &&& C = s → qf (S.1 0) y z s = false := fun s hs => by
                have := wa_mono hT (y := y) (part := S.1 0 0 5) hs
                unfold qf
                rw [decide_eq_false_iff_not]
                omega
              have ef := fm_none (qf (S.1 0) y z) q1
              refine ag_find (v := -1000000004) 3 ?_ ?_ hI
              · simp (disch := first | omega | exact hB _ _ | exact hB3 | exact hI3 | assumption | decide) only [e_SW_fewest, st_SW_fewest, h1, h2, hne, h4, cP, cB, h5, c_Town_worthOfAll E S 0 h03 hT (nI C) hy10 hT.part, h6, c_isKind, c_isUpTo, c_isSum, c_Phas E _ _ h03, c_Thas E _ _ h03, c_Khas E _ _ h03, e_SW_isPair, st_SW_isPair, e_People_isFull, st_People_isFull, e_Things_isFull, st_Things_isFull, e_Promises_isFull, st_Promises_isFull, e_Promises_isOpen, st_Promises_isOpen, c_tell0, c_tell1, c_tell2, c_tell3, c_tell4, c_tell5, c_tell6, mr_cl E _, mr_town E _ 0 h03, mm_pI_at, mm_pI_pI, mm_pI_2, mm_pL_1, mm_pL_at, mm_pL_pL, mm_pL_3, mm_pM_1, mm_pM_2, mm_pM_at, mm_pM_pM, mm_pI_pL, mm_pI_pM, mm_pL_pM, mm_pI_ne, mm_pL_ne, mm_pM_ne, mm_u_f, mm_u_at, mm_u_ne, Bool.false_eq_true, n_10, true_and, and_true, false_and, and_false, Nat.not_lt_zero, true_or, or_true, eq_self, mm_z, mm_rs, sw_xc_ite, sw_xv_ite, n_m1, Nat.lt_irrefl, not_false_eq_true, not_true_eq_false, inS_0, inS_1, ite_not, sw_xv_some, sw_xm_some, sw_xc_some, sw_xc_void, if_true, if_false, reduceIte, bI_0, bI_01, bI_1, nt_or, Nat.reduceAdd, n_add, n_mul, n_addL, n_Ladd, n_mulL, n_Lmul, n_sub, n_subL, n_lt, n_eq, n_ltL, n_Llt, n_eqL, n_Leq, n_nneg, n_pos]
              · intro S1 hM
                have e3 := e3 S1 hM
                have eh := eh S1 hM
                have hI3 : IT (S1.1 3) := by rw [e3]; exact hT
                have hB3 := hI3.b
                obtain ⟨d6, mL, _⟩ := md_few_l E S1 hI3 hC hy10 hz2 (.int (nI x))
                rw [e3, ef] at mL
                simp (disch := first | omega | exact hB _ _ | exact hB3 | exact hI3 | assumption | decide) only [e_MD_fewest, st_MD_fewest, h1, h2, hne, h4, mP S1 hI3 e3, md_ones E S1 (show C < 2147483648 by omega), h5, mL, oI, in_ok, in_okS, md_isPersonX, md_isThingX, md_isPromiseX, e_MD_areTwo, st_MD_areTwo, rs_L, md_finds0, md_finds1, md_finds2, md_finds3, md_finds4, md_finds5, md_finds6, mr_md E _, e3, eh, mm_pI_at, mm_pI_pI, mm_pI_2, mm_pL_1, mm_pL_at, mm_pL_pL, mm_pL_3, mm_pM_1, mm_pM_2, mm_pM_at, mm_pM_pM, mm_pI_pL, mm_pI_pM, mm_pL_pM, mm_pI_ne, mm_pL_ne, mm_pM_ne, mm_u_f, mm_u_at, mm_u_ne, Bool.false_eq_true, n_10, true_and, and_true, false_and, and_false, Nat.not_lt_zero, true_or, or_true, eq_self, mm_z, mm_rs, sw_xc_ite, sw_xv_ite, n_m1, Nat.lt_irrefl, not_false_eq_true, not_true_eq_false, inS_0, inS_1, ite_not, sw_xv_some, sw_xm_some, sw_xc_some, sw_xc_void, if_true, if_false, reduceIte, bI_0, bI_01, bI_1, nt_or, Nat.reduceAdd, n_add, n_mul, n_addL, n_Ladd, n_mulL, n_Lmul, n_sub, n_subL, n_lt, n_eq, n_ltL, n_Llt, n_eqL, n_Leq, n_nneg, n_pos]
            · have q1 : qf (S.1 0) y z C = true := by unfold qf; rw [decide_eq_true_eq]; omega
              have ef := fw_fm hC (by omega) (qf (S.1 0) y z) q1
              have hle := fw_le (C := C) (qf (S.1 0) y z)
              refine ag_read (v := nI (tw_fw C (qf (S.1 0) y z))) ?_ ?_ hI
              · simp (disch := first | omega | exact hB _ _ | exact hB3 | exact hI3 | assumption | decide) only [e_SW_fewest, st_SW_fewest, h1, h2, hne, h4, cP, cB, h5, c_Town_worthOfAll E S 0 h03 hT (nI C) hy10 hT.part, h6, c_fewestOf E S hT hC hy10 hz2, c_isKind, c_isUpTo, c_isSum, c_Phas E _ _ h03, c_Thas E _ _ h03, c_Khas E _ _ h03, e_SW_isPair, st_SW_isPair, e_People_isFull, st_People_isFull, e_Things_isFull, st_Things_isFull, e_Promises_isFull, st_Promises_isFull, e_Promises_isOpen, st_Promises_isOpen, c_tell0, c_tell1, c_tell2, c_tell3, c_tell4, c_tell5, c_tell6, mr_cl E _, mr_town E _ 0 h03, mm_pI_at, mm_pI_pI, mm_pI_2, mm_pL_1, mm_pL_at, mm_pL_pL, mm_pL_3, mm_pM_1, mm_pM_2, mm_pM_at, mm_pM_pM, mm_pI_pL, mm_pI_pM, mm_pL_pM, mm_pI_ne, mm_pL_ne, mm_pM_ne, mm_u_f, mm_u_at, mm_u_ne, Bool.false_eq_true, n_10, true_and, and_true, false_and, and_false, Nat.not_lt_zero, true_or, or_true, eq_self, mm_z, mm_rs, sw_xc_ite, sw_xv_ite, n_m1, Nat.lt_irrefl, not_false_eq_true, not_true_eq_false, inS_0, inS_1, ite_not, sw_xv_some, sw_xm_some, sw_xc_some, sw_xc_void, if_true, if_false, reduceIte, bI_0, bI_01, bI_1, nt_or, Nat.reduceAdd, n_add, n_mul, n_addL, n_Ladd, n_mulL, n_Lmul, n_sub, n_subL, n_lt, n_eq, n_ltL, n_Llt, n_eqL, n_Leq, n_nneg, n_pos]
              · intro S1 hM
                have e3 := e3 S1 hM
                have eh := eh S1 hM
                have hI3 : IT (S1.1 3) := by rw [e3]; exact hT
                have hB3 := hI3.b
                obtain ⟨d6, mL, _⟩ := md_few_l E S1 hI3 hC hy10 hz2 (.int (nI x))
                rw [e3, ef] at mL
                simp (disch := first | omega | exact hB _ _ | exact hB3 | exact hI3 | assumption | decide) only [e_MD_fewest, st_MD_fewest, h1, h2, hne, h4, mP S1 hI3 e3, md_ones E S1 (show C < 2147483648 by omega), h5, mL, oI, in_ok, in_okS, md_isPersonX, md_isThingX, md_isPromiseX, e_MD_areTwo, st_MD_areTwo, rs_L, md_finds0, md_finds1, md_finds2, md_finds3, md_finds4, md_finds5, md_finds6, mr_md E _, e3, eh, mm_pI_at, mm_pI_pI, mm_pI_2, mm_pL_1, mm_pL_at, mm_pL_pL, mm_pL_3, mm_pM_1, mm_pM_2, mm_pM_at, mm_pM_pM, mm_pI_pL, mm_pI_pM, mm_pL_pM, mm_pI_ne, mm_pL_ne, mm_pM_ne, mm_u_f, mm_u_at, mm_u_ne, Bool.false_eq_true, n_10, true_and, and_true, false_and, and_false, Nat.not_lt_zero, true_or, or_true, eq_self, mm_z, mm_rs, sw_xc_ite, sw_xv_ite, n_m1, Nat.lt_irrefl, not_false_eq_true, not_true_eq_false, inS_0, inS_1, ite_not, sw_xv_some, sw_xm_some, sw_xc_some, sw_xc_void, if_true, if_false, reduceIte, bI_0, bI_01, bI_1, nt_or, Nat.reduceAdd, n_add, n_mul, n_addL, n_Ladd, n_mulL, n_Lmul, n_sub, n_subL, n_lt, n_eq, n_ltL, n_Llt, n_eqL, n_Leq, n_nneg, n_pos]
        · refine ag_find (v := -1000000001) 0 ?_ ?_ hI
          · simp (disch := first | omega | exact hB _ _ | exact hB3 | exact hI3 | assumption | decide) only [e_SW_fewest, st_SW_fewest, h1, h2, h3, h4, c_isKind, c_isUpTo, c_isSum, c_Phas E _ _ h03, c_Thas E _ _ h03, c_Khas E _ _ h03, e_SW_isPair, st_SW_isPair, e_People_isFull, st_People_isFull, e_Things_isFull, st_Things_isFull, e_Promises_isFull, st_Promises_isFull, e_Promises_isOpen, st_Promises_isOpen, c_tell0, c_tell1, c_tell2, c_tell3, c_tell4, c_tell5, c_tell6, mr_cl E _, mr_town E _ 0 h03, mm_pI_at, mm_pI_pI, mm_pI_2, mm_pL_1, mm_pL_at, mm_pL_pL, mm_pL_3, mm_pM_1, mm_pM_2, mm_pM_at, mm_pM_pM, mm_pI_pL, mm_pI_pM, mm_pL_pM, mm_pI_ne, mm_pL_ne, mm_pM_ne, mm_u_f, mm_u_at, mm_u_ne, Bool.false_eq_true, n_10, true_and, and_true, false_and, and_false, Nat.not_lt_zero, true_or, or_true, eq_self, mm_z, mm_rs, sw_xc_ite, sw_xv_ite, n_m1, Nat.lt_irrefl, not_false_eq_true, not_true_eq_false, inS_0, inS_1, ite_not, sw_xv_some, sw_xm_some, sw_xc_some, sw_xc_void, if_true, if_false, reduceIte, bI_0, bI_01, bI_1, nt_or, Nat.reduceAdd, n_add, n_mul, n_addL, n_Ladd, n_mulL, n_Lmul, n_sub, n_subL, n_lt, n_eq, n_ltL, n_Llt, n_eqL, n_Leq, n_nneg, n_pos]
          · intro S1 hM
            have e3 := e3 S1 hM
            have eh := eh S1 hM
            have hI3 : IT (S1.1 3) := by rw [e3]; exact hT
            have hB3 := hI3.b
            simp (disch := first | omega | exact hB _ _ | exact hB3 | exact hI3 | assumption | decide) only [e_MD_fewest, st_MD_fewest, h1, h2, h3, h4, in_ok, in_okS, md_isPersonX, md_isThingX, md_isPromiseX, e_MD_areTwo, st_MD_areTwo, rs_L, md_finds0, md_finds1, md_finds2, md_finds3, md_finds4, md_finds5, md_finds6, mr_md E _, e3, eh, mm_pI_at, mm_pI_pI, mm_pI_2, mm_pL_1, mm_pL_at, mm_pL_pL, mm_pL_3, mm_pM_1, mm_pM_2, mm_pM_at, mm_pM_pM, mm_pI_pL, mm_pI_pM, mm_pL_pM, mm_pI_ne, mm_pL_ne, mm_pM_ne, mm_u_f, mm_u_at, mm_u_ne, Bool.false_eq_true, n_10, true_and, and_true, false_and, and_false, Nat.not_lt_zero, true_or, or_true, eq_self, mm_z, mm_rs, sw_xc_ite, sw_xv_ite, n_m1, Nat.lt_irrefl, not_false_eq_true, not_true_eq_false, inS_0, inS_1, ite_not, sw_xv_some, sw_xm_some, sw_xc_some, sw_xc_void, if_true, if_false, reduceIte, bI_0, bI_01, bI_1, nt_or, Nat.reduceAdd, n_add, n_mul, n_addL, n_Ladd, n_mulL, n_Lmul, n_sub, n_subL, n_lt, n_eq, n_ltL, n_Llt, n_eqL, n_Leq, n_nneg, n_pos]
    · refine ag_find (v := -1000000001) 0 ?_ ?_ hI
      · simp (disch := first | omega | exact hB _ _ | exact hB3 | exact hI3 | assumption | decide) only [e_SW_fewest, st_SW_fewest, h1, h2, c_isKind, c_isUpTo, c_isSum, c_Phas E _ _ h03, c_Thas E _ _ h03, c_Khas E _ _ h03, e_SW_isPair, st_SW_isPair, e_People_isFull, st_People_isFull, e_Things_isFull, st_Things_isFull, e_Promises_isFull, st_Promises_isFull, e_Promises_isOpen, st_Promises_isOpen, c_tell0, c_tell1, c_tell2, c_tell3, c_tell4, c_tell5, c_tell6, mr_cl E _, mr_town E _ 0 h03, mm_pI_at, mm_pI_pI, mm_pI_2, mm_pL_1, mm_pL_at, mm_pL_pL, mm_pL_3, mm_pM_1, mm_pM_2, mm_pM_at, mm_pM_pM, mm_pI_pL, mm_pI_pM, mm_pL_pM, mm_pI_ne, mm_pL_ne, mm_pM_ne, mm_u_f, mm_u_at, mm_u_ne, Bool.false_eq_true, n_10, true_and, and_true, false_and, and_false, Nat.not_lt_zero, true_or, or_true, eq_self, mm_z, mm_rs, sw_xc_ite, sw_xv_ite, n_m1, Nat.lt_irrefl, not_false_eq_true, not_true_eq_false, inS_0, inS_1, ite_not, sw_xv_some, sw_xm_some, sw_xc_some, sw_xc_void, if_true, if_false, reduceIte, bI_0, bI_01, bI_1, nt_or, Nat.reduceAdd, n_add, n_mul, n_addL, n_Ladd, n_mulL, n_Lmul, n_sub, n_subL, n_lt, n_eq, n_ltL, n_Llt, n_eqL, n_Leq, n_nneg, n_pos]
      · intro S1 hM
        have e3 := e3 S1 hM
        have eh := eh S1 hM
        have hI3 : IT (S1.1 3) := by rw [e3]; exact hT
        have hB3 := hI3.b
        simp (disch := first | omega | exact hB _ _ | exact hB3 | exact hI3 | assumption | decide) only [e_MD_fewest, st_MD_fewest, h1, h2, in_ok, in_okS, md_isPersonX, md_isThingX, md_isPromiseX, e_MD_areTwo, st_MD_areTwo, rs_L, md_finds0, md_finds1, md_finds2, md_finds3, md_finds4, md_finds5, md_finds6, mr_md E _, e3, eh, mm_pI_at, mm_pI_pI, mm_pI_2, mm_pL_1, mm_pL_at, mm_pL_pL, mm_pL_3, mm_pM_1, mm_pM_2, mm_pM_at, mm_pM_pM, mm_pI_pL, mm_pI_pM, mm_pL_pM, mm_pI_ne, mm_pL_ne, mm_pM_ne, mm_u_f, mm_u_at, mm_u_ne, Bool.false_eq_true, n_10, true_and, and_true, false_and, and_false, Nat.not_lt_zero, true_or, or_true, eq_self, mm_z, mm_rs, sw_xc_ite, sw_xv_ite, n_m1, Nat.lt_irrefl, not_false_eq_true, not_true_eq_false, inS_0, inS_1, ite_not, sw_xv_some, sw_xm_some, sw_xc_some, sw_xc_void, if_true, if_false, reduceIte, bI_0, bI_01, bI_1, nt_or, Nat.reduceAdd, n_add, n_mul, n_addL, n_Ladd, n_mulL, n_Lmul, n_sub, n_subL, n_lt, n_eq, n_ltL, n_Llt, n_eqL, n_Leq, n_nneg, n_pos]
  · refine ag_find (v := -1000000001) 0 ?_ ?_ hI
    · simp (disch := first | omega | exact hB _ _ | exact hB3 | exact hI3 | assumption | decide) only [e_SW_fewest, st_SW_fewest, h1, c_isKind, c_isUpTo, c_isSum, c_Phas E _ _ h03, c_Thas E _ _ h03, c_Khas E _ _ h03, e_SW_isPair, st_SW_isPair, e_People_isFull, st_People_isFull, e_Things_isFull, st_Things_isFull, e_Promises_isFull, st_Promises_isFull, e_Promises_isOpen, st_Promises_isOpen, c_tell0, c_tell1, c_tell2, c_tell3, c_tell4, c_tell5, c_tell6, mr_cl E _, mr_town E _ 0 h03, mm_pI_at, mm_pI_pI, mm_pI_2, mm_pL_1, mm_pL_at, mm_pL_pL, mm_pL_3, mm_pM_1, mm_pM_2, mm_pM_at, mm_pM_pM, mm_pI_pL, mm_pI_pM, mm_pL_pM, mm_pI_ne, mm_pL_ne, mm_pM_ne, mm_u_f, mm_u_at, mm_u_ne, Bool.false_eq_true, n_10, true_and, and_true, false_and, and_false, Nat.not_lt_zero, true_or, or_true, eq_self, mm_z, mm_rs, sw_xc_ite, sw_xv_ite, n_m1, Nat.lt_irrefl, not_false_eq_true, not_true_eq_false, inS_0, inS_1, ite_not, sw_xv_some, sw_xm_some, sw_xc_some, sw_xc_void, if_true, if_false, reduceIte, bI_0, bI_01, bI_1, nt_or, Nat.reduceAdd, n_add, n_mul, n_addL, n_Ladd, n_mulL, n_Lmul, n_sub, n_subL, n_lt, n_eq, n_ltL, n_Llt, n_eqL, n_Leq, n_nneg, n_pos]
    · intro S1 hM
      have e3 := e3 S1 hM
      have eh := eh S1 hM
      have hI3 : IT (S1.1 3) := by rw [e3]; exact hT
      have hB3 := hI3.b
      simp (disch := first | omega | exact hB _ _ | exact hB3 | exact hI3 | assumption | decide) only [e_MD_fewest, st_MD_fewest, h1, in_ok, in_okS, md_isPersonX, md_isThingX, md_isPromiseX, e_MD_areTwo, st_MD_areTwo, rs_L, md_finds0, md_finds1, md_finds2, md_finds3, md_finds4, md_finds5, md_finds6, mr_md E _, e3, eh, mm_pI_at, mm_pI_pI, mm_pI_2, mm_pL_1, mm_pL_at, mm_pL_pL, mm_pL_3, mm_pM_1, mm_pM_2, mm_pM_at, mm_pM_pM, mm_pI_pL, mm_pI_pM, mm_pL_pM, mm_pI_ne, mm_pL_ne, mm_pM_ne, mm_u_f, mm_u_at, mm_u_ne, Bool.false_eq_true, n_10, true_and, and_true, false_and, and_false, Nat.not_lt_zero, true_or, or_true, eq_self, mm_z, mm_rs, sw_xc_ite, sw_xv_ite, n_m1, Nat.lt_irrefl, not_false_eq_true, not_true_eq_false, inS_0, inS_1, ite_not, sw_xv_some, sw_xm_some, sw_xc_some, sw_xc_void, if_true, if_false, reduceIte, bI_0, bI_01, bI_1, nt_or, Nat.reduceAdd, n_add, n_mul, n_addL, n_Ladd, n_mulL, n_Lmul, n_sub, n_subL, n_lt, n_eq, n_ltL, n_Llt, n_eqL, n_Leq, n_nneg, n_pos]
set_option maxRecDepth 100000 in
set_option maxHeartbeats 4000000 in
theorem p_look (E : sw_E) {S : sw_S} (hI : Inv S) (x : Int32) (y : Int32) : AgL S (f_SW_look E (.ref 0) (.int x) (.int y)) (f_MD_look E (.ref 71) (.int x) (.int y)) := by
  have h03 : 0 < 3 := by decide
  have hT := hI.it
  have hB := hT.b
  have hn := hT.n
  have hp := hT.p
  have hk := hT.k
  have e3 : ∀ S1, MP S S1 → S1.1 3 = S.1 0 := fun S1 h => (h.1 3 (by decide)).trans hI.s3
  have eh : ∀ S1, MP S S1 → S1.2.1 3 = S.2.1 0 := fun S1 h => (h.2.1 3 (by decide)).trans hI.h3
  by_cases h1 : ok x (S.1 0 0 2) = true
  · by_cases h2 : ok y (1 + 1) = true
    · obtain ⟨x, h1_, rfl⟩ := (ok_iff (by omega)).mp h1
      obtain ⟨y, h2_, rfl⟩ := (ok_iff (by omega)).mp h2
      have hx24 : x < 24 := by omega
      by_cases h3 : S.1 0 13 x = 0
      · rcases (show y = 0 ∨ y = 1 by omega) with rfl | rfl
        · simp only [n_i] at h2 ⊢
          refine ag_readL (w := (nI (tw_harm (S.1 0) x)).toInt64) ?_ ?_ hI
          · have cH := c_Town_harmOf E S 0 h03 hT (k := x) (by omega)
            rw [tw_harm_eq hT] at cH
            simp (disch := first | omega | exact hB _ _ | exact hB3 | exact hI3 | assumption | decide) only [e_SW_look, st_SW_look, h1, h2, h3, cH, c_isKind, c_isUpTo, c_isSum, c_Phas E _ _ h03, c_Thas E _ _ h03, c_Khas E _ _ h03, e_SW_isPair, st_SW_isPair, e_People_isFull, st_People_isFull, e_Things_isFull, st_Things_isFull, e_Promises_isFull, st_Promises_isFull, e_Promises_isOpen, st_Promises_isOpen, c_tell0, c_tell1, c_tell2, c_tell3, c_tell4, c_tell5, c_tell6, mr_cl E _, mr_town E _ 0 h03, mm_pI_at, mm_pI_pI, mm_pI_2, mm_pL_1, mm_pL_at, mm_pL_pL, mm_pL_3, mm_pM_1, mm_pM_2, mm_pM_at, mm_pM_pM, mm_pI_pL, mm_pI_pM, mm_pL_pM, mm_pI_ne, mm_pL_ne, mm_pM_ne, mm_u_f, mm_u_at, mm_u_ne, Bool.false_eq_true, n_10, true_and, and_true, false_and, and_false, Nat.not_lt_zero, true_or, or_true, eq_self, mm_z, mm_rs, sw_xc_ite, sw_xv_ite, n_m1, Nat.lt_irrefl, not_false_eq_true, not_true_eq_false, inS_0, inS_1, ite_not, sw_xv_some, sw_xm_some, sw_xc_some, sw_xc_void, if_true, if_false, reduceIte, bI_0, bI_01, bI_1, nt_or, Nat.reduceAdd, n_add, n_mul, n_addL, n_Ladd, n_mulL, n_Lmul, n_sub, n_subL, n_lt, n_eq, n_ltL, n_Llt, n_eqL, n_Leq, n_nneg, n_pos]
          · intro S1 hM
            have e3 := e3 S1 hM
            have eh := eh S1 hM
            have hI3 : IT (S1.1 3) := by rw [e3]; exact hT
            have hB3 := hI3.b
            simp (disch := first | omega | exact hB _ _ | exact hB3 | exact hI3 | assumption | decide) only [e_MD_look, st_MD_look, h1, h2, h3, md_isOpen E _ hB3 hx24, md_harmBy E _ hI3 (k := x) (by omega), in_ok, in_okS, md_isPersonX, md_isThingX, md_isPromiseX, e_MD_areTwo, st_MD_areTwo, rs_L, md_finds0, md_finds1, md_finds2, md_finds3, md_finds4, md_finds5, md_finds6, mr_md E _, e3, eh, mm_pI_at, mm_pI_pI, mm_pI_2, mm_pL_1, mm_pL_at, mm_pL_pL, mm_pL_3, mm_pM_1, mm_pM_2, mm_pM_at, mm_pM_pM, mm_pI_pL, mm_pI_pM, mm_pL_pM, mm_pI_ne, mm_pL_ne, mm_pM_ne, mm_u_f, mm_u_at, mm_u_ne, Bool.false_eq_true, n_10, true_and, and_true, false_and, and_false, Nat.not_lt_zero, true_or, or_true, eq_self, mm_z, mm_rs, sw_xc_ite, sw_xv_ite, n_m1, Nat.lt_irrefl, not_false_eq_true, not_true_eq_false, inS_0, inS_1, ite_not, sw_xv_some, sw_xm_some, sw_xc_some, sw_xc_void, if_true, if_false, reduceIte, bI_0, bI_01, bI_1, nt_or, Nat.reduceAdd, n_add, n_mul, n_addL, n_Ladd, n_mulL, n_Lmul, n_sub, n_subL, n_lt, n_eq, n_ltL, n_Llt, n_eqL, n_Leq, n_nneg, n_pos]
        · simp only [n_i] at h2 ⊢
          have hf := IT_fl (H := S.2.1 0) hT h1_
          obtain ⟨a, ha, ea⟩ : ∃ a, a < 16777216 ∧ tw_bare (tw_fl (S.1 0) (S.2.1 0) x).2.1 &&& (tw_bare (S.1 0) ^^^ -1) = nI a := set_nat (fun i h1 h2 => by
            rw [b_and]
            have hk2 := hf.1.k
            unfold tw_bare
            rw [bt_set (by omega) h2, decide_eq_false (by omega), Bool.false_and, Bool.false_and])
          refine ⟨(nI (pcN 32 a)).toInt64, mm_pL (mm_pI S 2 (tw_fl (S.1 0) (S.2.1 0) x).2.1) 2 (tw_fl (S.1 0) (S.2.1 0) x).2.2, mm_pL (mm_pI (mm_pL (mm_pI (mm_pL (mm_pI S 2 (tw_fl (S.1 0) (S.2.1 0) x).2.1) 2 (tw_fl (S.1 0) (S.2.1 0) x).2.2) 5 (S.1 0)) 5 (S.2.1 0)) 3 (S.1 0)) 3 (S.2.1 0), ?_, ?_, Inv_scr hI _ _⟩
          · have h23 : 2 < 3 := by decide
            have cb := c_Town_become E S (a := 2) (b := 0) (by decide) (by decide) (by decide) hT.st
            have cf := c_Town_fail E (mm_pL (mm_pI S 2 (S.1 0)) 2 (S.2.1 0)) 2 h23 (by rw [mm_pL_1, mm_pI_at]; exact hT) (k := x) (by rw [mm_pL_1, mm_pI_at]; exact h1_)
            rw [mm_pL_at, mm_pL_1, mm_pI_at, mm_pI_pL, mm_pL_pL, mm_pI_pI] at cf
            have cu := c_Town_uncovered E (mm_pL (mm_pI S 2 (tw_fl (S.1 0) (S.2.1 0) x).2.1) 2 (tw_fl (S.1 0) (S.2.1 0) x).2.2) 2 h23 (by rw [mm_pL_1, mm_pI_at]; exact hf.1)
            rw [mm_pL_1, mm_pI_at] at cu
            have cv := c_Town_uncovered E (mm_pL (mm_pI S 2 (tw_fl (S.1 0) (S.2.1 0) x).2.1) 2 (tw_fl (S.1 0) (S.2.1 0) x).2.2) 0 h03 (by rw [mm_pL_1, mm_pI_ne _ _ (by decide)]; exact hT)
            rw [mm_pL_1, mm_pI_ne _ _ (by decide)] at cv
            simp (disch := first | omega | exact hB _ _ | exact hB3 | exact hI3 | assumption | decide) only [e_SW_look, st_SW_look, h1, h2, h3, i_ne, mr_town E _ 2 h23, cb, cf, cu, cv, ea, c_bitCount E ha, c_isKind, c_isUpTo, c_isSum, c_Phas E _ _ h03, c_Thas E _ _ h03, c_Khas E _ _ h03, e_SW_isPair, st_SW_isPair, e_People_isFull, st_People_isFull, e_Things_isFull, st_Things_isFull, e_Promises_isFull, st_Promises_isFull, e_Promises_isOpen, st_Promises_isOpen, c_tell0, c_tell1, c_tell2, c_tell3, c_tell4, c_tell5, c_tell6, mr_cl E _, mr_town E _ 0 h03, mm_pI_at, mm_pI_pI, mm_pI_2, mm_pL_1, mm_pL_at, mm_pL_pL, mm_pL_3, mm_pM_1, mm_pM_2, mm_pM_at, mm_pM_pM, mm_pI_pL, mm_pI_pM, mm_pL_pM, mm_pI_ne, mm_pL_ne, mm_pM_ne, mm_u_f, mm_u_at, mm_u_ne, Bool.false_eq_true, n_10, true_and, and_true, false_and, and_false, Nat.not_lt_zero, true_or, or_true, eq_self, mm_z, mm_rs, sw_xc_ite, sw_xv_ite, n_m1, Nat.lt_irrefl, not_false_eq_true, not_true_eq_false, inS_0, inS_1, ite_not, sw_xv_some, sw_xm_some, sw_xc_some, sw_xc_void, if_true, if_false, reduceIte, bI_0, bI_01, bI_1, nt_or, Nat.reduceAdd, n_add, n_mul, n_addL, n_Ladd, n_mulL, n_Lmul, n_sub, n_subL, n_lt, n_eq, n_ltL, n_Llt, n_eqL, n_Leq, n_nneg, n_pos]
          · have hM : MP S (mm_pL (mm_pI S 2 (tw_fl (S.1 0) (S.2.1 0) x).2.1) 2 (tw_fl (S.1 0) (S.2.1 0) x).2.2) := MP_pL (MP_pI (MP_refl S) (by decide) _) (by decide) _
            have e3 := e3 _ hM
            have eh := eh _ hM
            generalize mm_pL (mm_pI S 2 (tw_fl (S.1 0) (S.2.1 0) x).2.1) 2 (tw_fl (S.1 0) (S.2.1 0) x).2.2 = S1 at *
            have hI3 : IT (S1.1 3) := by rw [e3]; exact hT
            have hB3 := hI3.b
            have mb := md_bareSet E S1 hI3
            have mp := md_puts E S1
            rw [e3] at mb
            rw [e3, eh] at mp
            have e3p : (mm_pL (mm_pI S1 5 (S.1 0)) 5 (S.2.1 0)).1 3 = S.1 0 := by rw [mm_pL_1, mm_pI_ne _ _ (by decide)]; exact e3
            have ehp : (mm_pL (mm_pI S1 5 (S.1 0)) 5 (S.2.1 0)).2.1 3 = S.2.1 0 := by rw [mm_pL_ne _ _ (by decide), mm_pI_2]; exact eh
            have mf := md_breaking E (mm_pL (mm_pI S1 5 (S.1 0)) 5 (S.2.1 0)) (by rw [e3p]; exact hT) (k := x) (by rw [e3p]; exact h1_)
            rw [e3p, ehp] at mf
            have mb2 := md_bareSet E (mm_pL (mm_pI (mm_pL (mm_pI S1 5 (S.1 0)) 5 (S.2.1 0)) 3 (tw_fl (S.1 0) (S.2.1 0) x).2.1) 3 (tw_fl (S.1 0) (S.2.1 0) x).2.2) (by rw [mm_pL_1, mm_pI_at]; exact hf.1)
            rw [mm_pL_1, mm_pI_at] at mb2
            have mpb := md_putsBack E (mm_pL (mm_pI (mm_pL (mm_pI S1 5 (S.1 0)) 5 (S.2.1 0)) 3 (tw_fl (S.1 0) (S.2.1 0) x).2.1) 3 (tw_fl (S.1 0) (S.2.1 0) x).2.2)
            rw [mm_pL_1, mm_pI_ne _ _ (show 5 ≠ 3 by decide), mm_pL_1, mm_pI_at, mm_pL_ne _ _ (show 5 ≠ 3 by decide), mm_pI_2, mm_pL_at] at mpb
            simp only [mm_pI_pL, mm_pL_pL, mm_pI_pI] at mb mp mf mb2 mpb
            simp (disch := first | omega | exact hB _ _ | exact hB3 | exact hI3 | assumption | decide) only [e_MD_look, st_MD_look, h1, h2, h3, i_ne, md_isOpen E _ hB3 hx24, mb, mp, mf, mb2, mpb, ea, md_ones E _ (show a < 2147483648 by omega), in_ok, in_okS, md_isPersonX, md_isThingX, md_isPromiseX, e_MD_areTwo, st_MD_areTwo, rs_L, md_finds0, md_finds1, md_finds2, md_finds3, md_finds4, md_finds5, md_finds6, mr_md E _, e3, eh, mm_pI_at, mm_pI_pI, mm_pI_2, mm_pL_1, mm_pL_at, mm_pL_pL, mm_pL_3, mm_pM_1, mm_pM_2, mm_pM_at, mm_pM_pM, mm_pI_pL, mm_pI_pM, mm_pL_pM, mm_pI_ne, mm_pL_ne, mm_pM_ne, mm_u_f, mm_u_at, mm_u_ne, Bool.false_eq_true, n_10, true_and, and_true, false_and, and_false, Nat.not_lt_zero, true_or, or_true, eq_self, mm_z, mm_rs, sw_xc_ite, sw_xv_ite, n_m1, Nat.lt_irrefl, not_false_eq_true, not_true_eq_false, inS_0, inS_1, ite_not, sw_xv_some, sw_xm_some, sw_xc_some, sw_xc_void, if_true, if_false, reduceIte, bI_0, bI_01, bI_1, nt_or, Nat.reduceAdd, n_add, n_mul, n_addL, n_Ladd, n_mulL, n_Lmul, n_sub, n_subL, n_lt, n_eq, n_ltL, n_Llt, n_eqL, n_Leq, n_nneg, n_pos]
      · refine ag_findL (w := Int32.toInt64 (-1000000005)) 4 ?_ ?_ hI
        · simp (disch := first | omega | exact hB _ _ | exact hB3 | exact hI3 | assumption | decide) only [e_SW_look, st_SW_look, h1, h2, h3, c_isKind, c_isUpTo, c_isSum, c_Phas E _ _ h03, c_Thas E _ _ h03, c_Khas E _ _ h03, e_SW_isPair, st_SW_isPair, e_People_isFull, st_People_isFull, e_Things_isFull, st_Things_isFull, e_Promises_isFull, st_Promises_isFull, e_Promises_isOpen, st_Promises_isOpen, c_tell0, c_tell1, c_tell2, c_tell3, c_tell4, c_tell5, c_tell6, mr_cl E _, mr_town E _ 0 h03, mm_pI_at, mm_pI_pI, mm_pI_2, mm_pL_1, mm_pL_at, mm_pL_pL, mm_pL_3, mm_pM_1, mm_pM_2, mm_pM_at, mm_pM_pM, mm_pI_pL, mm_pI_pM, mm_pL_pM, mm_pI_ne, mm_pL_ne, mm_pM_ne, mm_u_f, mm_u_at, mm_u_ne, Bool.false_eq_true, n_10, true_and, and_true, false_and, and_false, Nat.not_lt_zero, true_or, or_true, eq_self, mm_z, mm_rs, sw_xc_ite, sw_xv_ite, n_m1, Nat.lt_irrefl, not_false_eq_true, not_true_eq_false, inS_0, inS_1, ite_not, sw_xv_some, sw_xm_some, sw_xc_some, sw_xc_void, if_true, if_false, reduceIte, bI_0, bI_01, bI_1, nt_or, Nat.reduceAdd, n_add, n_mul, n_addL, n_Ladd, n_mulL, n_Lmul, n_sub, n_subL, n_lt, n_eq, n_ltL, n_Llt, n_eqL, n_Leq, n_nneg, n_pos]
        · intro S1 hM
          have e3 := e3 S1 hM
          have eh := eh S1 hM
          have hI3 : IT (S1.1 3) := by rw [e3]; exact hT
          have hB3 := hI3.b
          simp (disch := first | omega | exact hB _ _ | exact hB3 | exact hI3 | assumption | decide) only [e_MD_look, st_MD_look, h1, h2, h3, md_isOpen E _ hB3 hx24, in_ok, in_okS, md_isPersonX, md_isThingX, md_isPromiseX, e_MD_areTwo, st_MD_areTwo, rs_L, md_finds0, md_finds1, md_finds2, md_finds3, md_finds4, md_finds5, md_finds6, mr_md E _, e3, eh, mm_pI_at, mm_pI_pI, mm_pI_2, mm_pL_1, mm_pL_at, mm_pL_pL, mm_pL_3, mm_pM_1, mm_pM_2, mm_pM_at, mm_pM_pM, mm_pI_pL, mm_pI_pM, mm_pL_pM, mm_pI_ne, mm_pL_ne, mm_pM_ne, mm_u_f, mm_u_at, mm_u_ne, Bool.false_eq_true, n_10, true_and, and_true, false_and, and_false, Nat.not_lt_zero, true_or, or_true, eq_self, mm_z, mm_rs, sw_xc_ite, sw_xv_ite, n_m1, Nat.lt_irrefl, not_false_eq_true, not_true_eq_false, inS_0, inS_1, ite_not, sw_xv_some, sw_xm_some, sw_xc_some, sw_xc_void, if_true, if_false, reduceIte, bI_0, bI_01, bI_1, nt_or, Nat.reduceAdd, n_add, n_mul, n_addL, n_Ladd, n_mulL, n_Lmul, n_sub, n_subL, n_lt, n_eq, n_ltL, n_Llt, n_eqL, n_Leq, n_nneg, n_pos]
    · refine ag_findL (w := Int32.toInt64 (-1000000001)) 0 ?_ ?_ hI
      · simp (disch := first | omega | exact hB _ _ | exact hB3 | exact hI3 | assumption | decide) only [e_SW_look, st_SW_look, h1, h2, c_isKind, c_isUpTo, c_isSum, c_Phas E _ _ h03, c_Thas E _ _ h03, c_Khas E _ _ h03, e_SW_isPair, st_SW_isPair, e_People_isFull, st_People_isFull, e_Things_isFull, st_Things_isFull, e_Promises_isFull, st_Promises_isFull, e_Promises_isOpen, st_Promises_isOpen, c_tell0, c_tell1, c_tell2, c_tell3, c_tell4, c_tell5, c_tell6, mr_cl E _, mr_town E _ 0 h03, mm_pI_at, mm_pI_pI, mm_pI_2, mm_pL_1, mm_pL_at, mm_pL_pL, mm_pL_3, mm_pM_1, mm_pM_2, mm_pM_at, mm_pM_pM, mm_pI_pL, mm_pI_pM, mm_pL_pM, mm_pI_ne, mm_pL_ne, mm_pM_ne, mm_u_f, mm_u_at, mm_u_ne, Bool.false_eq_true, n_10, true_and, and_true, false_and, and_false, Nat.not_lt_zero, true_or, or_true, eq_self, mm_z, mm_rs, sw_xc_ite, sw_xv_ite, n_m1, Nat.lt_irrefl, not_false_eq_true, not_true_eq_false, inS_0, inS_1, ite_not, sw_xv_some, sw_xm_some, sw_xc_some, sw_xc_void, if_true, if_false, reduceIte, bI_0, bI_01, bI_1, nt_or, Nat.reduceAdd, n_add, n_mul, n_addL, n_Ladd, n_mulL, n_Lmul, n_sub, n_subL, n_lt, n_eq, n_ltL, n_Llt, n_eqL, n_Leq, n_nneg, n_pos]
      · intro S1 hM
        have e3 := e3 S1 hM
        have eh := eh S1 hM
        have hI3 : IT (S1.1 3) := by rw [e3]; exact hT
        have hB3 := hI3.b
        simp (disch := first | omega | exact hB _ _ | exact hB3 | exact hI3 | assumption | decide) only [e_MD_look, st_MD_look, h1, h2, in_ok, in_okS, md_isPersonX, md_isThingX, md_isPromiseX, e_MD_areTwo, st_MD_areTwo, rs_L, md_finds0, md_finds1, md_finds2, md_finds3, md_finds4, md_finds5, md_finds6, mr_md E _, e3, eh, mm_pI_at, mm_pI_pI, mm_pI_2, mm_pL_1, mm_pL_at, mm_pL_pL, mm_pL_3, mm_pM_1, mm_pM_2, mm_pM_at, mm_pM_pM, mm_pI_pL, mm_pI_pM, mm_pL_pM, mm_pI_ne, mm_pL_ne, mm_pM_ne, mm_u_f, mm_u_at, mm_u_ne, Bool.false_eq_true, n_10, true_and, and_true, false_and, and_false, Nat.not_lt_zero, true_or, or_true, eq_self, mm_z, mm_rs, sw_xc_ite, sw_xv_ite, n_m1, Nat.lt_irrefl, not_false_eq_true, not_true_eq_false, inS_0, inS_1, ite_not, sw_xv_some, sw_xm_some, sw_xc_some, sw_xc_void, if_true, if_false, reduceIte, bI_0, bI_01, bI_1, nt_or, Nat.reduceAdd, n_add, n_mul, n_addL, n_Ladd, n_mulL, n_Lmul, n_sub, n_subL, n_lt, n_eq, n_ltL, n_Llt, n_eqL, n_Leq, n_nneg, n_pos]
  · refine ag_findL (w := Int32.toInt64 (-1000000001)) 0 ?_ ?_ hI
    · simp (disch := first | omega | exact hB _ _ | exact hB3 | exact hI3 | assumption | decide) only [e_SW_look, st_SW_look, h1, c_isKind, c_isUpTo, c_isSum, c_Phas E _ _ h03, c_Thas E _ _ h03, c_Khas E _ _ h03, e_SW_isPair, st_SW_isPair, e_People_isFull, st_People_isFull, e_Things_isFull, st_Things_isFull, e_Promises_isFull, st_Promises_isFull, e_Promises_isOpen, st_Promises_isOpen, c_tell0, c_tell1, c_tell2, c_tell3, c_tell4, c_tell5, c_tell6, mr_cl E _, mr_town E _ 0 h03, mm_pI_at, mm_pI_pI, mm_pI_2, mm_pL_1, mm_pL_at, mm_pL_pL, mm_pL_3, mm_pM_1, mm_pM_2, mm_pM_at, mm_pM_pM, mm_pI_pL, mm_pI_pM, mm_pL_pM, mm_pI_ne, mm_pL_ne, mm_pM_ne, mm_u_f, mm_u_at, mm_u_ne, Bool.false_eq_true, n_10, true_and, and_true, false_and, and_false, Nat.not_lt_zero, true_or, or_true, eq_self, mm_z, mm_rs, sw_xc_ite, sw_xv_ite, n_m1, Nat.lt_irrefl, not_false_eq_true, not_true_eq_false, inS_0, inS_1, ite_not, sw_xv_some, sw_xm_some, sw_xc_some, sw_xc_void, if_true, if_false, reduceIte, bI_0, bI_01, bI_1, nt_or, Nat.reduceAdd, n_add, n_mul, n_addL, n_Ladd, n_mulL, n_Lmul, n_sub, n_subL, n_lt, n_eq, n_ltL, n_Llt, n_eqL, n_Leq, n_nneg, n_pos]
    · intro S1 hM
      have e3 := e3 S1 hM
      have eh := eh S1 hM
      have hI3 : IT (S1.1 3) := by rw [e3]; exact hT
      have hB3 := hI3.b
      simp (disch := first | omega | exact hB _ _ | exact hB3 | exact hI3 | assumption | decide) only [e_MD_look, st_MD_look, h1, in_ok, in_okS, md_isPersonX, md_isThingX, md_isPromiseX, e_MD_areTwo, st_MD_areTwo, rs_L, md_finds0, md_finds1, md_finds2, md_finds3, md_finds4, md_finds5, md_finds6, mr_md E _, e3, eh, mm_pI_at, mm_pI_pI, mm_pI_2, mm_pL_1, mm_pL_at, mm_pL_pL, mm_pL_3, mm_pM_1, mm_pM_2, mm_pM_at, mm_pM_pM, mm_pI_pL, mm_pI_pM, mm_pL_pM, mm_pI_ne, mm_pL_ne, mm_pM_ne, mm_u_f, mm_u_at, mm_u_ne, Bool.false_eq_true, n_10, true_and, and_true, false_and, and_false, Nat.not_lt_zero, true_or, or_true, eq_self, mm_z, mm_rs, sw_xc_ite, sw_xv_ite, n_m1, Nat.lt_irrefl, not_false_eq_true, not_true_eq_false, inS_0, inS_1, ite_not, sw_xv_some, sw_xm_some, sw_xc_some, sw_xc_void, if_true, if_false, reduceIte, bI_0, bI_01, bI_1, nt_or, Nat.reduceAdd, n_add, n_mul, n_addL, n_Ladd, n_mulL, n_Lmul, n_sub, n_subL, n_lt, n_eq, n_ltL, n_Llt, n_eqL, n_Leq, n_nneg, n_pos]
set_option maxRecDepth 100000 in
set_option maxHeartbeats 4000000 in
theorem p_night (E : sw_E) {S : sw_S} (hI : Inv S) (x : Int32) : AgI S (f_SW_night E (.ref 0) (.int x)) (f_MD_night E (.ref 71) (.int x)) := by
  have h03 : 0 < 3 := by decide
  have hT := hI.it
  have hB := hT.b
  have hn := hT.n
  have hp := hT.p
  have hk := hT.k
  have e3 : ∀ S1, MP S S1 → S1.1 3 = S.1 0 := fun S1 h => (h.1 3 (by decide)).trans hI.s3
  have eh : ∀ S1, MP S S1 → S1.2.1 3 = S.2.1 0 := fun S1 h => (h.2.1 3 (by decide)).trans hI.h3
  by_cases h1 : ok x (2 + 1) = true
  · obtain ⟨x, h1_, rfl⟩ := (ok_iff (by omega)).mp h1
    have hng := IT_ng hT
    refine ⟨nga x (tw_ng (S.1 0)), mm_pL (mm_pI S 2 (tw_ng (S.1 0)).2.2) 2 (S.2.1 0), mm_pL (mm_pI (mm_pL (mm_pI (mm_pL (mm_pI S 2 (tw_ng (S.1 0)).2.2) 2 (S.2.1 0)) 5 (S.1 0)) 5 (S.2.1 0)) 3 (S.1 0)) 3 (S.2.1 0), ?_, ?_, Inv_scr hI _ _⟩
    · have h23 : 2 < 3 := by decide
      have cb := c_Town_become E S (a := 2) (b := 0) (by decide) (by decide) (by decide) hT.st
      have cn := c_night_l E (mm_pL (mm_pI S 2 (S.1 0)) 2 (S.2.1 0)) (by rw [mm_pL_1, mm_pI_at]; exact hT) (w := x) (by omega)
      rw [mm_pL_1, mm_pI_at, mm_pI_pL, mm_pI_pI] at cn
      simp (disch := first | omega | exact hB _ _ | exact hB3 | exact hI3 | assumption | decide) only [e_SW_night, st_SW_night, h1, mr_town E _ 2 h23, cb, cn, c_isKind, c_isUpTo, c_isSum, c_Phas E _ _ h03, c_Thas E _ _ h03, c_Khas E _ _ h03, e_SW_isPair, st_SW_isPair, e_People_isFull, st_People_isFull, e_Things_isFull, st_Things_isFull, e_Promises_isFull, st_Promises_isFull, e_Promises_isOpen, st_Promises_isOpen, c_tell0, c_tell1, c_tell2, c_tell3, c_tell4, c_tell5, c_tell6, mr_cl E _, mr_town E _ 0 h03, mm_pI_at, mm_pI_pI, mm_pI_2, mm_pL_1, mm_pL_at, mm_pL_pL, mm_pL_3, mm_pM_1, mm_pM_2, mm_pM_at, mm_pM_pM, mm_pI_pL, mm_pI_pM, mm_pL_pM, mm_pI_ne, mm_pL_ne, mm_pM_ne, mm_u_f, mm_u_at, mm_u_ne, Bool.false_eq_true, n_10, true_and, and_true, false_and, and_false, Nat.not_lt_zero, true_or, or_true, eq_self, mm_z, mm_rs, sw_xc_ite, sw_xv_ite, n_m1, Nat.lt_irrefl, not_false_eq_true, not_true_eq_false, inS_0, inS_1, ite_not, sw_xv_some, sw_xm_some, sw_xc_some, sw_xc_void, if_true, if_false, reduceIte, bI_0, bI_01, bI_1, nt_or, Nat.reduceAdd, n_add, n_mul, n_addL, n_Ladd, n_mulL, n_Lmul, n_sub, n_subL, n_lt, n_eq, n_ltL, n_Llt, n_eqL, n_Leq, n_nneg, n_pos]
    · have hM : MP S (mm_pL (mm_pI S 2 (tw_ng (S.1 0)).2.2) 2 (S.2.1 0)) := MP_pL (MP_pI (MP_refl S) (by decide) _) (by decide) _
      have e3 := e3 _ hM
      have eh := eh _ hM
      generalize mm_pL (mm_pI S 2 (tw_ng (S.1 0)).2.2) 2 (S.2.1 0) = S1 at *
      have mp := md_puts E S1
      rw [e3, eh] at mp
      have e3p : (mm_pL (mm_pI S1 5 (S.1 0)) 5 (S.2.1 0)).1 3 = S.1 0 := by rw [mm_pL_1, mm_pI_ne _ _ (by decide)]; exact e3
      have ehp : (mm_pL (mm_pI S1 5 (S.1 0)) 5 (S.2.1 0)).2.1 3 = S.2.1 0 := by rw [mm_pL_ne _ _ (by decide), mm_pI_2]; exact eh
      have ho : opn (S.1 0) ≤ 24 := opn_le hT
      have ml := md_night_l E (w := x) 24 (mm_pL (mm_pI S1 5 (S.1 0)) 5 (S.2.1 0)) 0 0 sw_J sw_J (by rw [e3p]; exact hT) (by rw [e3p]; exact ho)
      rw [e3p] at ml
      have et : lp nr1 24 (0, 0, S.1 0) = tw_ng (S.1 0) := by unfold tw_ng; rfl
      rw [et] at ml
      have mh := fun a1 a2 a3 a4 => md_home E (mm_pI (mm_pL (mm_pI S1 5 (S.1 0)) 5 (S.2.1 0)) 3 (tw_ng (S.1 0)).2.2) (by rw [mm_pI_at]; exact hng.1) a1 a2 a3 a4
      simp only [mm_pI_at] at mh
      have mpb := md_putsBack E (mm_pI (mm_pL (mm_pI S1 5 (S.1 0)) 5 (S.2.1 0)) 3 (tw_ng (S.1 0)).2.2)
      rw [mm_pI_ne _ _ (show 5 ≠ 3 by decide), mm_pL_1, mm_pI_at, mm_pI_2, mm_pL_at, mm_pI_pI] at mpb
      simp only [mm_pI_pL, mm_pL_pL, mm_pI_pI, show nI 0 = 0 from rfl] at mp ml mh mpb
      generalize tw_ng (S.1 0) = R at *
      rcases (show x = 0 ∨ x = 1 ∨ x = 2 by omega) with rfl | rfl | rfl
      · simp only [n_i] at ml h1 ⊢
        simp (disch := first | omega | exact hB _ _ | assumption | decide) only [e_MD_night, st_MD_night, h1, in_ok, mp, ml, mh, mpb, mr_md E _, mm_pI_at, mm_pI_pI, mm_pI_2, mm_pL_1, mm_pL_at, mm_pL_pL, mm_pL_3, mm_pM_1, mm_pM_2, mm_pM_at, mm_pM_pM, mm_pI_pL, mm_pI_pM, mm_pL_pM, Bool.false_eq_true, n_10, true_and, and_true, false_and, and_false, Nat.not_lt_zero, true_or, or_true, eq_self, mm_z, mm_rs, sw_xc_ite, sw_xv_ite, n_m1, Nat.lt_irrefl, not_false_eq_true, not_true_eq_false, inS_0, inS_1, ite_not, sw_xv_some, sw_xm_some, sw_xc_some, sw_xc_void, if_true, if_false, reduceIte, bI_0, bI_01, bI_1, nt_or, Nat.reduceAdd, n_add, n_mul, n_addL, n_Ladd, n_mulL, n_Lmul, n_sub, n_subL, n_lt, n_eq, n_ltL, n_Llt, n_eqL, n_Leq, n_nneg, n_pos]
        rfl
      · simp only [n_i] at ml h1 ⊢
        simp (disch := first | omega | exact hB _ _ | assumption | decide) only [e_MD_night, st_MD_night, h1, in_ok, i_ne, mp, ml, mh, mpb, mr_md E _, mm_pI_at, mm_pI_pI, mm_pI_2, mm_pL_1, mm_pL_at, mm_pL_pL, mm_pL_3, mm_pM_1, mm_pM_2, mm_pM_at, mm_pM_pM, mm_pI_pL, mm_pI_pM, mm_pL_pM, Bool.false_eq_true, n_10, true_and, and_true, false_and, and_false, Nat.not_lt_zero, true_or, or_true, eq_self, mm_z, mm_rs, sw_xc_ite, sw_xv_ite, n_m1, Nat.lt_irrefl, not_false_eq_true, not_true_eq_false, inS_0, inS_1, ite_not, sw_xv_some, sw_xm_some, sw_xc_some, sw_xc_void, if_true, if_false, reduceIte, bI_0, bI_01, bI_1, nt_or, Nat.reduceAdd, n_add, n_mul, n_addL, n_Ladd, n_mulL, n_Lmul, n_sub, n_subL, n_lt, n_eq, n_ltL, n_Llt, n_eqL, n_Leq, n_nneg, n_pos]
        rfl
      · simp only [n_i] at ml h1 ⊢
        simp (disch := first | omega | exact hB _ _ | assumption | decide) only [e_MD_night, st_MD_night, h1, in_ok, i_ne, mp, ml, mh, mpb, mr_md E _, mm_pI_at, mm_pI_pI, mm_pI_2, mm_pL_1, mm_pL_at, mm_pL_pL, mm_pL_3, mm_pM_1, mm_pM_2, mm_pM_at, mm_pM_pM, mm_pI_pL, mm_pI_pM, mm_pL_pM, Bool.false_eq_true, n_10, true_and, and_true, false_and, and_false, Nat.not_lt_zero, true_or, or_true, eq_self, mm_z, mm_rs, sw_xc_ite, sw_xv_ite, n_m1, Nat.lt_irrefl, not_false_eq_true, not_true_eq_false, inS_0, inS_1, ite_not, sw_xv_some, sw_xm_some, sw_xc_some, sw_xc_void, if_true, if_false, reduceIte, bI_0, bI_01, bI_1, nt_or, Nat.reduceAdd, n_add, n_mul, n_addL, n_Ladd, n_mulL, n_Lmul, n_sub, n_subL, n_lt, n_eq, n_ltL, n_Llt, n_eqL, n_Leq, n_nneg, n_pos]
        rfl
  · refine ag_find (v := -1000000001) 0 ?_ ?_ hI
    · simp (disch := first | omega | exact hB _ _ | exact hB3 | exact hI3 | assumption | decide) only [e_SW_night, st_SW_night, h1, c_isKind, c_isUpTo, c_isSum, c_Phas E _ _ h03, c_Thas E _ _ h03, c_Khas E _ _ h03, e_SW_isPair, st_SW_isPair, e_People_isFull, st_People_isFull, e_Things_isFull, st_Things_isFull, e_Promises_isFull, st_Promises_isFull, e_Promises_isOpen, st_Promises_isOpen, c_tell0, c_tell1, c_tell2, c_tell3, c_tell4, c_tell5, c_tell6, mr_cl E _, mr_town E _ 0 h03, mm_pI_at, mm_pI_pI, mm_pI_2, mm_pL_1, mm_pL_at, mm_pL_pL, mm_pL_3, mm_pM_1, mm_pM_2, mm_pM_at, mm_pM_pM, mm_pI_pL, mm_pI_pM, mm_pL_pM, mm_pI_ne, mm_pL_ne, mm_pM_ne, mm_u_f, mm_u_at, mm_u_ne, Bool.false_eq_true, n_10, true_and, and_true, false_and, and_false, Nat.not_lt_zero, true_or, or_true, eq_self, mm_z, mm_rs, sw_xc_ite, sw_xv_ite, n_m1, Nat.lt_irrefl, not_false_eq_true, not_true_eq_false, inS_0, inS_1, ite_not, sw_xv_some, sw_xm_some, sw_xc_some, sw_xc_void, if_true, if_false, reduceIte, bI_0, bI_01, bI_1, nt_or, Nat.reduceAdd, n_add, n_mul, n_addL, n_Ladd, n_mulL, n_Lmul, n_sub, n_subL, n_lt, n_eq, n_ltL, n_Llt, n_eqL, n_Leq, n_nneg, n_pos]
    · intro S1 hM
      have e3 := e3 S1 hM
      have eh := eh S1 hM
      have hI3 : IT (S1.1 3) := by rw [e3]; exact hT
      have hB3 := hI3.b
      simp (disch := first | omega | exact hB _ _ | exact hB3 | exact hI3 | assumption | decide) only [e_MD_night, st_MD_night, h1, in_ok, in_okS, md_isPersonX, md_isThingX, md_isPromiseX, e_MD_areTwo, st_MD_areTwo, rs_L, md_finds0, md_finds1, md_finds2, md_finds3, md_finds4, md_finds5, md_finds6, mr_md E _, e3, eh, mm_pI_at, mm_pI_pI, mm_pI_2, mm_pL_1, mm_pL_at, mm_pL_pL, mm_pL_3, mm_pM_1, mm_pM_2, mm_pM_at, mm_pM_pM, mm_pI_pL, mm_pI_pM, mm_pL_pM, mm_pI_ne, mm_pL_ne, mm_pM_ne, mm_u_f, mm_u_at, mm_u_ne, Bool.false_eq_true, n_10, true_and, and_true, false_and, and_false, Nat.not_lt_zero, true_or, or_true, eq_self, mm_z, mm_rs, sw_xc_ite, sw_xv_ite, n_m1, Nat.lt_irrefl, not_false_eq_true, not_true_eq_false, inS_0, inS_1, ite_not, sw_xv_some, sw_xm_some, sw_xc_some, sw_xc_void, if_true, if_false, reduceIte, bI_0, bI_01, bI_1, nt_or, Nat.reduceAdd, n_add, n_mul, n_addL, n_Ladd, n_mulL, n_Lmul, n_sub, n_subL, n_lt, n_eq, n_ltL, n_Llt, n_eqL, n_Leq, n_nneg, n_pos]
