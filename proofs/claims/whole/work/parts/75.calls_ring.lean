/-! ===== public calls: ring, cancel ===== -/
theorem R2_pM8 (S : sw_S) (f r g : Nat → Int32) : R2 (mm_pM S 8 g) f r = mm_pM (R2 S f r) 8 g := by
  refine Prod.ext rfl (Prod.ext rfl (funext fun q => ?_))
  simp only [R2, mm_pM]
  by_cases h : q = 8
  · subst h; rfl
  · simp [h]
theorem Inv_ring {S : sw_S} (h : Inv S) (m o l : Nat → Int32) (n : Int32) (f r : Nat → Int32) : Inv (R2 (R4 S m o l n) f r) := by
  obtain ⟨h1, h2, h3, h4, h5, h6, h7, h8, h9, h10, h11, h12, h13, h14, h15⟩ := h
  exact ⟨h1, h2, h3, h4, h5, h6, h7, h8, h9, h10, h11, h12, h13, h14, h15⟩
theorem MP_R4 (S : sw_S) (m o l : Nat → Int32) (n : Int32) : MP S (R4 S m o l n) := MP_pM (MP_pM (MP_pM (MP_pM (MP_refl S) (by decide) _) (by decide) _) (by decide) _) (by decide) _
/-- a finding behind a ring that was looked for -/
theorem ag_ringf {S : sw_S} {F G : sw_M → Option sw_R} {v : Int32} {j : Nat} {m o l : Nat → Int32} {n : Int32} (hI : Inv S) (h1 : F (mk S) = some (some (.int v), mk (mm_pM (R4 S m o l n) 8 (upd (S.2.2 8) j (S.2.2 8 j + 1))))) (h2 : ∀ S1, MP S S1 → ∃ f r, G (mk S1) = some (some (.int v), mk (mm_pM (R2 S1 f r) 20 (upd (S1.2.2 20) j (S1.2.2 20 j + 1))))) : AgI S F G := by
  obtain ⟨f, r, h3⟩ := h2 _ (MP_pM (t := 8) (MP_R4 S m o l n) (by decide) (upd (S.2.2 8) j (S.2.2 8 j + 1)))
  refine ⟨v, _, _, h1, h3, ?_⟩
  have := Inv_find (Inv_ring hI m o l n f r) j
  rw [R2_pM8]
  exact this
theorem ag_ringr {S : sw_S} {F G : sw_M → Option sw_R} {v : Int32} {m o l : Nat → Int32} {n : Int32} (hI : Inv S) (h1 : F (mk S) = some (some (.int v), mk (R4 S m o l n))) (h2 : ∀ S1, MP S S1 → ∃ f r, G (mk S1) = some (some (.int v), mk (R2 S1 f r))) : AgI S F G := by
  obtain ⟨f, r, h3⟩ := h2 _ (MP_R4 S m o l n)
  exact ⟨v, _, _, h1, h3, Inv_ring hI m o l n f r⟩
theorem R2_20 (S : sw_S) (f r : Nat → Int32) : (R2 S f r).2.2 20 = S.2.2 20 := rfl
set_option maxRecDepth 100000 in
set_option maxHeartbeats 4000000 in
theorem p_ring (E : sw_E) {S : sw_S} (hI : Inv S) (x : Int32) (y : Int32) : AgI S (f_SW_ring E (.ref 0) (.int x) (.int y)) (f_MD_ring E (.ref 71) (.int x) (.int y)) := by
  have h03 : 0 < 3 := by decide
  have hT := hI.it
  have hB := hT.b
  have hn := hT.n
  have hp := hT.p
  have hk := hT.k
  have e3 : ∀ S1, MP S S1 → S1.1 3 = S.1 0 := fun S1 h => (h.1 3 (by decide)).trans hI.s3
  have eh : ∀ S1, MP S S1 → S1.2.1 3 = S.2.1 0 := fun S1 h => (h.2.1 3 (by decide)).trans hI.h3
  by_cases h1 : ok x (S.1 0 0 0) = true
  · by_cases h2 : y < -1
    · refine ag_find (v := -1000000001) 0 ?_ ?_ hI
      · simp (disch := first | omega | exact hB _ _ | exact hB3 | exact hI3 | assumption | decide) only [e_SW_ring, st_SW_ring, h1, h2, c_isKind, c_isUpTo, c_isSum, c_Phas E _ _ h03, c_Thas E _ _ h03, c_Khas E _ _ h03, e_SW_isPair, st_SW_isPair, e_People_isFull, st_People_isFull, e_Things_isFull, st_Things_isFull, e_Promises_isFull, st_Promises_isFull, e_Promises_isOpen, st_Promises_isOpen, c_tell0, c_tell1, c_tell2, c_tell3, c_tell4, c_tell5, c_tell6, mr_cl E _, mr_town E _ 0 h03, mm_pI_at, mm_pI_pI, mm_pI_2, mm_pL_1, mm_pL_at, mm_pL_pL, mm_pL_3, mm_pM_1, mm_pM_2, mm_pM_at, mm_pM_pM, mm_pI_pL, mm_pI_pM, mm_pL_pM, mm_pI_ne, mm_pL_ne, mm_pM_ne, mm_u_f, mm_u_at, mm_u_ne, Bool.false_eq_true, n_10, true_and, and_true, false_and, and_false, Nat.not_lt_zero, true_or, or_true, eq_self, mm_z, mm_rs, sw_xc_ite, sw_xv_ite, n_m1, Nat.lt_irrefl, not_false_eq_true, not_true_eq_false, inS_0, inS_1, ite_not, sw_xv_some, sw_xm_some, sw_xc_some, sw_xc_void, if_true, if_false, reduceIte, bI_0, bI_01, bI_1, nt_or, Nat.reduceAdd, n_add, n_mul, n_addL, n_Ladd, n_mulL, n_Lmul, n_sub, n_subL, n_lt, n_eq, n_ltL, n_Llt, n_eqL, n_Leq, n_nneg, n_pos]
      · intro S1 hM
        have e3 := e3 S1 hM
        have eh := eh S1 hM
        have hI3 : IT (S1.1 3) := by rw [e3]; exact hT
        have hB3 := hI3.b
        simp (disch := first | omega | exact hB _ _ | exact hB3 | exact hI3 | assumption | decide) only [e_MD_ring, st_MD_ring, h1, h2, in_m9, in_ok, in_okS, md_isPersonX, md_isThingX, md_isPromiseX, e_MD_areTwo, st_MD_areTwo, rs_L, md_finds0, md_finds1, md_finds2, md_finds3, md_finds4, md_finds5, md_finds6, mr_md E _, e3, eh, mm_pI_at, mm_pI_pI, mm_pI_2, mm_pL_1, mm_pL_at, mm_pL_pL, mm_pL_3, mm_pM_1, mm_pM_2, mm_pM_at, mm_pM_pM, mm_pI_pL, mm_pI_pM, mm_pL_pM, mm_pI_ne, mm_pL_ne, mm_pM_ne, mm_u_f, mm_u_at, mm_u_ne, Bool.false_eq_true, n_10, true_and, and_true, false_and, and_false, Nat.not_lt_zero, true_or, or_true, eq_self, mm_z, mm_rs, sw_xc_ite, sw_xv_ite, n_m1, Nat.lt_irrefl, not_false_eq_true, not_true_eq_false, inS_0, inS_1, ite_not, sw_xv_some, sw_xm_some, sw_xc_some, sw_xc_void, if_true, if_false, reduceIte, bI_0, bI_01, bI_1, nt_or, Nat.reduceAdd, n_add, n_mul, n_addL, n_Ladd, n_mulL, n_Lmul, n_sub, n_subL, n_lt, n_eq, n_ltL, n_Llt, n_eqL, n_Leq, n_nneg, n_pos]
    · by_cases h3 : y < 10
      · obtain ⟨x, h1_, rfl⟩ := (ok_iff (by omega)).mp h1
        have mR : ∀ S1, MP S S1 → ∃ f r, f_MD_findRing E (.ref 71) (.int (nI x)) (mk S1) = some (some (.int (nI (rgl (ed (S.1 0)) (S.1 0 0 0) x))), mk (R2 S1 f r)) ∧ ∀ i, i < rgl (ed (S.1 0)) (S.1 0 0 0) x → r i = nI (rgm (ed (S.1 0)) (S.1 0 0 0) x (rgl (ed (S.1 0)) (S.1 0 0 0) x) i) := fun S1 hM => by
          have e3 := e3 S1 hM
          have hI3 : IT (S1.1 3) := by rw [e3]; exact hT
          have := md_findRing E S1 hI3 (p := x) (by rw [e3]; exact h1_)
          rw [e3] at this
          exact this
        have hLe := rgl_le (e := ed (S.1 0)) (P := S.1 0 0 0) (p := x)
        have hL2 : 0 < rgl (ed (S.1 0)) (S.1 0 0 0) x → 2 ≤ rgl (ed (S.1 0)) (S.1 0 0 0) x := fun h => (rgl_2 h).1
        have hok := fun h => rgm_ok (e := ed (S.1 0)) (P := S.1 0 0 0) (p := x) h1_ h
        obtain ⟨m, o, l, cF, cm⟩ := c_find E S hT h1_
        generalize rgm (ed (S.1 0)) (S.1 0 0 0) x (rgl (ed (S.1 0)) (S.1 0 0 0) x) = g at *
        generalize rgl (ed (S.1 0)) (S.1 0 0 0) x = L at *
        rcases n_of1 h2 with rfl | ⟨y, hy, rfl⟩
        · by_cases hL : L = 0
          · refine ag_ringf (v := -1000000004) (j := 3) (m := m) (o := o) (l := l) (n := nI L) hI ?_ ?_
            · simp (disch := first | omega | exact hB _ _ | exact hB3 | exact hI3 | assumption | decide) only [e_SW_ring, st_SW_ring, h1, h2, h3, cF, R4_f3, hL, R4_ne, show nI 0 = 0 from rfl, c_isKind, c_isUpTo, c_isSum, c_Phas E _ _ h03, c_Thas E _ _ h03, c_Khas E _ _ h03, e_SW_isPair, st_SW_isPair, e_People_isFull, st_People_isFull, e_Things_isFull, st_Things_isFull, e_Promises_isFull, st_Promises_isFull, e_Promises_isOpen, st_Promises_isOpen, c_tell0, c_tell1, c_tell2, c_tell3, c_tell4, c_tell5, c_tell6, mr_cl E _, mr_town E _ 0 h03, mm_pI_at, mm_pI_pI, mm_pI_2, mm_pL_1, mm_pL_at, mm_pL_pL, mm_pL_3, mm_pM_1, mm_pM_2, mm_pM_at, mm_pM_pM, mm_pI_pL, mm_pI_pM, mm_pL_pM, mm_pI_ne, mm_pL_ne, mm_pM_ne, mm_u_f, mm_u_at, mm_u_ne, Bool.false_eq_true, n_10, true_and, and_true, false_and, and_false, Nat.not_lt_zero, true_or, or_true, eq_self, mm_z, mm_rs, sw_xc_ite, sw_xv_ite, n_m1, Nat.lt_irrefl, not_false_eq_true, not_true_eq_false, inS_0, inS_1, ite_not, sw_xv_some, sw_xm_some, sw_xc_some, sw_xc_void, if_true, if_false, reduceIte, bI_0, bI_01, bI_1, nt_or, Nat.reduceAdd, n_add, n_mul, n_addL, n_Ladd, n_mulL, n_Lmul, n_sub, n_subL, n_lt, n_eq, n_ltL, n_Llt, n_eqL, n_Leq, n_nneg, n_pos]
            · intro S1 hM
              obtain ⟨f, r, mF, mr⟩ := mR S1 hM
              have e3 := e3 S1 hM
              have eh := eh S1 hM
              have hI3 : IT (S1.1 3) := by rw [e3]; exact hT
              have hB3 := hI3.b
              refine ⟨f, r, ?_⟩
              simp (disch := first | omega | exact hB _ _ | exact hB3 | exact hI3 | assumption | decide) only [e_MD_ring, st_MD_ring, h1, h2, h3, in_m9, mF, hL, show nI 0 = 0 from rfl, R2_20, in_ok, in_okS, md_isPersonX, md_isThingX, md_isPromiseX, e_MD_areTwo, st_MD_areTwo, rs_L, md_finds0, md_finds1, md_finds2, md_finds3, md_finds4, md_finds5, md_finds6, mr_md E _, e3, eh, mm_pI_at, mm_pI_pI, mm_pI_2, mm_pL_1, mm_pL_at, mm_pL_pL, mm_pL_3, mm_pM_1, mm_pM_2, mm_pM_at, mm_pM_pM, mm_pI_pL, mm_pI_pM, mm_pL_pM, mm_pI_ne, mm_pL_ne, mm_pM_ne, mm_u_f, mm_u_at, mm_u_ne, Bool.false_eq_true, n_10, true_and, and_true, false_and, and_false, Nat.not_lt_zero, true_or, or_true, eq_self, mm_z, mm_rs, sw_xc_ite, sw_xv_ite, n_m1, Nat.lt_irrefl, not_false_eq_true, not_true_eq_false, inS_0, inS_1, ite_not, sw_xv_some, sw_xm_some, sw_xc_some, sw_xc_void, if_true, if_false, reduceIte, bI_0, bI_01, bI_1, nt_or, Nat.reduceAdd, n_add, n_mul, n_addL, n_Ladd, n_mulL, n_Lmul, n_sub, n_subL, n_lt, n_eq, n_ltL, n_Llt, n_eqL, n_Leq, n_nneg, n_pos]
          · have hl1 : (-1 : Int32) < nI L := by
              rw [Int32.lt_iff_toInt_lt, nI_toInt (by omega)]
              have : (-1 : Int32).toInt = -1 := by decide
              omega
            refine ag_ringr (v := nI L) (m := m) (o := o) (l := l) (n := nI L) hI ?_ ?_
            · simp (disch := first | omega | exact hB _ _ | exact hB3 | exact hI3 | assumption | decide) only [e_SW_ring, st_SW_ring, h1, h2, h3, cF, R4_f3, hL, hl1, c_isKind, c_isUpTo, c_isSum, c_Phas E _ _ h03, c_Thas E _ _ h03, c_Khas E _ _ h03, e_SW_isPair, st_SW_isPair, e_People_isFull, st_People_isFull, e_Things_isFull, st_Things_isFull, e_Promises_isFull, st_Promises_isFull, e_Promises_isOpen, st_Promises_isOpen, c_tell0, c_tell1, c_tell2, c_tell3, c_tell4, c_tell5, c_tell6, mr_cl E _, mr_town E _ 0 h03, mm_pI_at, mm_pI_pI, mm_pI_2, mm_pL_1, mm_pL_at, mm_pL_pL, mm_pL_3, mm_pM_1, mm_pM_2, mm_pM_at, mm_pM_pM, mm_pI_pL, mm_pI_pM, mm_pL_pM, mm_pI_ne, mm_pL_ne, mm_pM_ne, mm_u_f, mm_u_at, mm_u_ne, Bool.false_eq_true, n_10, true_and, and_true, false_and, and_false, Nat.not_lt_zero, true_or, or_true, eq_self, mm_z, mm_rs, sw_xc_ite, sw_xv_ite, n_m1, Nat.lt_irrefl, not_false_eq_true, not_true_eq_false, inS_0, inS_1, ite_not, sw_xv_some, sw_xm_some, sw_xc_some, sw_xc_void, if_true, if_false, reduceIte, bI_0, bI_01, bI_1, nt_or, Nat.reduceAdd, n_add, n_mul, n_addL, n_Ladd, n_mulL, n_Lmul, n_sub, n_subL, n_lt, n_eq, n_ltL, n_Llt, n_eqL, n_Leq, n_nneg, n_pos]
            · intro S1 hM
              obtain ⟨f, r, mF, mr⟩ := mR S1 hM
              have e3 := e3 S1 hM
              have eh := eh S1 hM
              have hI3 : IT (S1.1 3) := by rw [e3]; exact hT
              have hB3 := hI3.b
              refine ⟨f, r, ?_⟩
              simp (disch := first | omega | exact hB _ _ | exact hB3 | exact hI3 | assumption | decide) only [e_MD_ring, st_MD_ring, h1, h2, h3, in_m9, mF, hL, hl1, in_ok, in_okS, md_isPersonX, md_isThingX, md_isPromiseX, e_MD_areTwo, st_MD_areTwo, rs_L, md_finds0, md_finds1, md_finds2, md_finds3, md_finds4, md_finds5, md_finds6, mr_md E _, e3, eh, mm_pI_at, mm_pI_pI, mm_pI_2, mm_pL_1, mm_pL_at, mm_pL_pL, mm_pL_3, mm_pM_1, mm_pM_2, mm_pM_at, mm_pM_pM, mm_pI_pL, mm_pI_pM, mm_pL_pM, mm_pI_ne, mm_pL_ne, mm_pM_ne, mm_u_f, mm_u_at, mm_u_ne, Bool.false_eq_true, n_10, true_and, and_true, false_and, and_false, Nat.not_lt_zero, true_or, or_true, eq_self, mm_z, mm_rs, sw_xc_ite, sw_xv_ite, n_m1, Nat.lt_irrefl, not_false_eq_true, not_true_eq_false, inS_0, inS_1, ite_not, sw_xv_some, sw_xm_some, sw_xc_some, sw_xc_void, if_true, if_false, reduceIte, bI_0, bI_01, bI_1, nt_or, Nat.reduceAdd, n_add, n_mul, n_addL, n_Ladd, n_mulL, n_Lmul, n_sub, n_subL, n_lt, n_eq, n_ltL, n_Llt, n_eqL, n_Leq, n_nneg, n_pos]
        · have hy10 : y < 10 := (n_ltL hy (by decide)).mp h3
          by_cases hL : L = 0
          · refine ag_ringf (v := -1000000004) (j := 3) (m := m) (o := o) (l := l) (n := nI L) hI ?_ ?_
            · simp (disch := first | omega | exact hB _ _ | exact hB3 | exact hI3 | assumption | decide) only [e_SW_ring, st_SW_ring, h1, h2, hy10, cF, R4_f3, hL, R4_ne, show nI 0 = 0 from rfl, c_isKind, c_isUpTo, c_isSum, c_Phas E _ _ h03, c_Thas E _ _ h03, c_Khas E _ _ h03, e_SW_isPair, st_SW_isPair, e_People_isFull, st_People_isFull, e_Things_isFull, st_Things_isFull, e_Promises_isFull, st_Promises_isFull, e_Promises_isOpen, st_Promises_isOpen, c_tell0, c_tell1, c_tell2, c_tell3, c_tell4, c_tell5, c_tell6, mr_cl E _, mr_town E _ 0 h03, mm_pI_at, mm_pI_pI, mm_pI_2, mm_pL_1, mm_pL_at, mm_pL_pL, mm_pL_3, mm_pM_1, mm_pM_2, mm_pM_at, mm_pM_pM, mm_pI_pL, mm_pI_pM, mm_pL_pM, mm_pI_ne, mm_pL_ne, mm_pM_ne, mm_u_f, mm_u_at, mm_u_ne, Bool.false_eq_true, n_10, true_and, and_true, false_and, and_false, Nat.not_lt_zero, true_or, or_true, eq_self, mm_z, mm_rs, sw_xc_ite, sw_xv_ite, n_m1, Nat.lt_irrefl, not_false_eq_true, not_true_eq_false, inS_0, inS_1, ite_not, sw_xv_some, sw_xm_some, sw_xc_some, sw_xc_void, if_true, if_false, reduceIte, bI_0, bI_01, bI_1, nt_or, Nat.reduceAdd, n_add, n_mul, n_addL, n_Ladd, n_mulL, n_Lmul, n_sub, n_subL, n_lt, n_eq, n_ltL, n_Llt, n_eqL, n_Leq, n_nneg, n_pos]
            · intro S1 hM
              obtain ⟨f, r, mF, mr⟩ := mR S1 hM
              have e3 := e3 S1 hM
              have eh := eh S1 hM
              have hI3 : IT (S1.1 3) := by rw [e3]; exact hT
              have hB3 := hI3.b
              refine ⟨f, r, ?_⟩
              simp (disch := first | omega | exact hB _ _ | exact hB3 | exact hI3 | assumption | decide) only [e_MD_ring, st_MD_ring, h1, h2, in_m9, mF, hy10, hL, show nI 0 = 0 from rfl, R2_20, in_ok, in_okS, md_isPersonX, md_isThingX, md_isPromiseX, e_MD_areTwo, st_MD_areTwo, rs_L, md_finds0, md_finds1, md_finds2, md_finds3, md_finds4, md_finds5, md_finds6, mr_md E _, e3, eh, mm_pI_at, mm_pI_pI, mm_pI_2, mm_pL_1, mm_pL_at, mm_pL_pL, mm_pL_3, mm_pM_1, mm_pM_2, mm_pM_at, mm_pM_pM, mm_pI_pL, mm_pI_pM, mm_pL_pM, mm_pI_ne, mm_pL_ne, mm_pM_ne, mm_u_f, mm_u_at, mm_u_ne, Bool.false_eq_true, n_10, true_and, and_true, false_and, and_false, Nat.not_lt_zero, true_or, or_true, eq_self, mm_z, mm_rs, sw_xc_ite, sw_xv_ite, n_m1, Nat.lt_irrefl, not_false_eq_true, not_true_eq_false, inS_0, inS_1, ite_not, sw_xv_some, sw_xm_some, sw_xc_some, sw_xc_void, if_true, if_false, reduceIte, bI_0, bI_01, bI_1, nt_or, Nat.reduceAdd, n_add, n_mul, n_addL, n_Ladd, n_mulL, n_Lmul, n_sub, n_subL, n_lt, n_eq, n_ltL, n_Llt, n_eqL, n_Leq, n_nneg, n_pos]
          · by_cases hyL : y < L
            · refine ag_ringr (v := nI (g y)) (m := m) (o := o) (l := l) (n := nI L) hI ?_ ?_
              · simp (disch := first | omega | exact hB _ _ | exact hB3 | exact hI3 | assumption | decide) only [e_SW_ring, st_SW_ring, h1, h2, hy10, cF, R4_f3, hL, hyL, R4_f0, cm y hyL, c_isKind, c_isUpTo, c_isSum, c_Phas E _ _ h03, c_Thas E _ _ h03, c_Khas E _ _ h03, e_SW_isPair, st_SW_isPair, e_People_isFull, st_People_isFull, e_Things_isFull, st_Things_isFull, e_Promises_isFull, st_Promises_isFull, e_Promises_isOpen, st_Promises_isOpen, c_tell0, c_tell1, c_tell2, c_tell3, c_tell4, c_tell5, c_tell6, mr_cl E _, mr_town E _ 0 h03, mm_pI_at, mm_pI_pI, mm_pI_2, mm_pL_1, mm_pL_at, mm_pL_pL, mm_pL_3, mm_pM_1, mm_pM_2, mm_pM_at, mm_pM_pM, mm_pI_pL, mm_pI_pM, mm_pL_pM, mm_pI_ne, mm_pL_ne, mm_pM_ne, mm_u_f, mm_u_at, mm_u_ne, Bool.false_eq_true, n_10, true_and, and_true, false_and, and_false, Nat.not_lt_zero, true_or, or_true, eq_self, mm_z, mm_rs, sw_xc_ite, sw_xv_ite, n_m1, Nat.lt_irrefl, not_false_eq_true, not_true_eq_false, inS_0, inS_1, ite_not, sw_xv_some, sw_xm_some, sw_xc_some, sw_xc_void, if_true, if_false, reduceIte, bI_0, bI_01, bI_1, nt_or, Nat.reduceAdd, n_add, n_mul, n_addL, n_Ladd, n_mulL, n_Lmul, n_sub, n_subL, n_lt, n_eq, n_ltL, n_Llt, n_eqL, n_Leq, n_nneg, n_pos]
              · intro S1 hM
                obtain ⟨f, r, mF, mr⟩ := mR S1 hM
                have e3 := e3 S1 hM
                have eh := eh S1 hM
                have hI3 : IT (S1.1 3) := by rw [e3]; exact hT
                have hB3 := hI3.b
                refine ⟨f, r, ?_⟩
                simp (disch := first | omega | exact hB _ _ | exact hB3 | exact hI3 | assumption | decide) only [e_MD_ring, st_MD_ring, h1, h2, in_m9, mF, hy10, hL, hyL, R2_r, mr y hyL, in_ok, in_okS, md_isPersonX, md_isThingX, md_isPromiseX, e_MD_areTwo, st_MD_areTwo, rs_L, md_finds0, md_finds1, md_finds2, md_finds3, md_finds4, md_finds5, md_finds6, mr_md E _, e3, eh, mm_pI_at, mm_pI_pI, mm_pI_2, mm_pL_1, mm_pL_at, mm_pL_pL, mm_pL_3, mm_pM_1, mm_pM_2, mm_pM_at, mm_pM_pM, mm_pI_pL, mm_pI_pM, mm_pL_pM, mm_pI_ne, mm_pL_ne, mm_pM_ne, mm_u_f, mm_u_at, mm_u_ne, Bool.false_eq_true, n_10, true_and, and_true, false_and, and_false, Nat.not_lt_zero, true_or, or_true, eq_self, mm_z, mm_rs, sw_xc_ite, sw_xv_ite, n_m1, Nat.lt_irrefl, not_false_eq_true, not_true_eq_false, inS_0, inS_1, ite_not, sw_xv_some, sw_xm_some, sw_xc_some, sw_xc_void, if_true, if_false, reduceIte, bI_0, bI_01, bI_1, nt_or, Nat.reduceAdd, n_add, n_mul, n_addL, n_Ladd, n_mulL, n_Lmul, n_sub, n_subL, n_lt, n_eq, n_ltL, n_Llt, n_eqL, n_Leq, n_nneg, n_pos]
            · refine ag_ringf (v := -1000000004) (j := 3) (m := m) (o := o) (l := l) (n := nI L) hI ?_ ?_
              · simp (disch := first | omega | exact hB _ _ | exact hB3 | exact hI3 | assumption | decide) only [e_SW_ring, st_SW_ring, h1, h2, hy10, cF, R4_f3, hL, hyL, R4_ne, c_isKind, c_isUpTo, c_isSum, c_Phas E _ _ h03, c_Thas E _ _ h03, c_Khas E _ _ h03, e_SW_isPair, st_SW_isPair, e_People_isFull, st_People_isFull, e_Things_isFull, st_Things_isFull, e_Promises_isFull, st_Promises_isFull, e_Promises_isOpen, st_Promises_isOpen, c_tell0, c_tell1, c_tell2, c_tell3, c_tell4, c_tell5, c_tell6, mr_cl E _, mr_town E _ 0 h03, mm_pI_at, mm_pI_pI, mm_pI_2, mm_pL_1, mm_pL_at, mm_pL_pL, mm_pL_3, mm_pM_1, mm_pM_2, mm_pM_at, mm_pM_pM, mm_pI_pL, mm_pI_pM, mm_pL_pM, mm_pI_ne, mm_pL_ne, mm_pM_ne, mm_u_f, mm_u_at, mm_u_ne, Bool.false_eq_true, n_10, true_and, and_true, false_and, and_false, Nat.not_lt_zero, true_or, or_true, eq_self, mm_z, mm_rs, sw_xc_ite, sw_xv_ite, n_m1, Nat.lt_irrefl, not_false_eq_true, not_true_eq_false, inS_0, inS_1, ite_not, sw_xv_some, sw_xm_some, sw_xc_some, sw_xc_void, if_true, if_false, reduceIte, bI_0, bI_01, bI_1, nt_or, Nat.reduceAdd, n_add, n_mul, n_addL, n_Ladd, n_mulL, n_Lmul, n_sub, n_subL, n_lt, n_eq, n_ltL, n_Llt, n_eqL, n_Leq, n_nneg, n_pos]
              · intro S1 hM
                obtain ⟨f, r, mF, mr⟩ := mR S1 hM
                have e3 := e3 S1 hM
                have eh := eh S1 hM
                have hI3 : IT (S1.1 3) := by rw [e3]; exact hT
                have hB3 := hI3.b
                refine ⟨f, r, ?_⟩
                simp (disch := first | omega | exact hB _ _ | exact hB3 | exact hI3 | assumption | decide) only [e_MD_ring, st_MD_ring, h1, h2, in_m9, mF, hy10, hL, hyL, R2_20, in_ok, in_okS, md_isPersonX, md_isThingX, md_isPromiseX, e_MD_areTwo, st_MD_areTwo, rs_L, md_finds0, md_finds1, md_finds2, md_finds3, md_finds4, md_finds5, md_finds6, mr_md E _, e3, eh, mm_pI_at, mm_pI_pI, mm_pI_2, mm_pL_1, mm_pL_at, mm_pL_pL, mm_pL_3, mm_pM_1, mm_pM_2, mm_pM_at, mm_pM_pM, mm_pI_pL, mm_pI_pM, mm_pL_pM, mm_pI_ne, mm_pL_ne, mm_pM_ne, mm_u_f, mm_u_at, mm_u_ne, Bool.false_eq_true, n_10, true_and, and_true, false_and, and_false, Nat.not_lt_zero, true_or, or_true, eq_self, mm_z, mm_rs, sw_xc_ite, sw_xv_ite, n_m1, Nat.lt_irrefl, not_false_eq_true, not_true_eq_false, inS_0, inS_1, ite_not, sw_xv_some, sw_xm_some, sw_xc_some, sw_xc_void, if_true, if_false, reduceIte, bI_0, bI_01, bI_1, nt_or, Nat.reduceAdd, n_add, n_mul, n_addL, n_Ladd, n_mulL, n_Lmul, n_sub, n_subL, n_lt, n_eq, n_ltL, n_Llt, n_eqL, n_Leq, n_nneg, n_pos]
      · refine ag_find (v := -1000000001) 0 ?_ ?_ hI
        · simp (disch := first | omega | exact hB _ _ | exact hB3 | exact hI3 | assumption | decide) only [e_SW_ring, st_SW_ring, h1, h2, h3, c_isKind, c_isUpTo, c_isSum, c_Phas E _ _ h03, c_Thas E _ _ h03, c_Khas E _ _ h03, e_SW_isPair, st_SW_isPair, e_People_isFull, st_People_isFull, e_Things_isFull, st_Things_isFull, e_Promises_isFull, st_Promises_isFull, e_Promises_isOpen, st_Promises_isOpen, c_tell0, c_tell1, c_tell2, c_tell3, c_tell4, c_tell5, c_tell6, mr_cl E _, mr_town E _ 0 h03, mm_pI_at, mm_pI_pI, mm_pI_2, mm_pL_1, mm_pL_at, mm_pL_pL, mm_pL_3, mm_pM_1, mm_pM_2, mm_pM_at, mm_pM_pM, mm_pI_pL, mm_pI_pM, mm_pL_pM, mm_pI_ne, mm_pL_ne, mm_pM_ne, mm_u_f, mm_u_at, mm_u_ne, Bool.false_eq_true, n_10, true_and, and_true, false_and, and_false, Nat.not_lt_zero, true_or, or_true, eq_self, mm_z, mm_rs, sw_xc_ite, sw_xv_ite, n_m1, Nat.lt_irrefl, not_false_eq_true, not_true_eq_false, inS_0, inS_1, ite_not, sw_xv_some, sw_xm_some, sw_xc_some, sw_xc_void, if_true, if_false, reduceIte, bI_0, bI_01, bI_1, nt_or, Nat.reduceAdd, n_add, n_mul, n_addL, n_Ladd, n_mulL, n_Lmul, n_sub, n_subL, n_lt, n_eq, n_ltL, n_Llt, n_eqL, n_Leq, n_nneg, n_pos]
        · intro S1 hM
          have e3 := e3 S1 hM
          have eh := eh S1 hM
          have hI3 : IT (S1.1 3) := by rw [e3]; exact hT
          have hB3 := hI3.b
          simp (disch := first | omega | exact hB _ _ | exact hB3 | exact hI3 | assumption | decide) only [e_MD_ring, st_MD_ring, h1, h2, h3, in_m9, in_ok, in_okS, md_isPersonX, md_isThingX, md_isPromiseX, e_MD_areTwo, st_MD_areTwo, rs_L, md_finds0, md_finds1, md_finds2, md_finds3, md_finds4, md_finds5, md_finds6, mr_md E _, e3, eh, mm_pI_at, mm_pI_pI, mm_pI_2, mm_pL_1, mm_pL_at, mm_pL_pL, mm_pL_3, mm_pM_1, mm_pM_2, mm_pM_at, mm_pM_pM, mm_pI_pL, mm_pI_pM, mm_pL_pM, mm_pI_ne, mm_pL_ne, mm_pM_ne, mm_u_f, mm_u_at, mm_u_ne, Bool.false_eq_true, n_10, true_and, and_true, false_and, and_false, Nat.not_lt_zero, true_or, or_true, eq_self, mm_z, mm_rs, sw_xc_ite, sw_xv_ite, n_m1, Nat.lt_irrefl, not_false_eq_true, not_true_eq_false, inS_0, inS_1, ite_not, sw_xv_some, sw_xm_some, sw_xc_some, sw_xc_void, if_true, if_false, reduceIte, bI_0, bI_01, bI_1, nt_or, Nat.reduceAdd, n_add, n_mul, n_addL, n_Ladd, n_mulL, n_Lmul, n_sub, n_subL, n_lt, n_eq, n_ltL, n_Llt, n_eqL, n_Leq, n_nneg, n_pos]
  · refine ag_find (v := -1000000001) 0 ?_ ?_ hI
    · simp (disch := first | omega | exact hB _ _ | exact hB3 | exact hI3 | assumption | decide) only [e_SW_ring, st_SW_ring, h1, c_isKind, c_isUpTo, c_isSum, c_Phas E _ _ h03, c_Thas E _ _ h03, c_Khas E _ _ h03, e_SW_isPair, st_SW_isPair, e_People_isFull, st_People_isFull, e_Things_isFull, st_Things_isFull, e_Promises_isFull, st_Promises_isFull, e_Promises_isOpen, st_Promises_isOpen, c_tell0, c_tell1, c_tell2, c_tell3, c_tell4, c_tell5, c_tell6, mr_cl E _, mr_town E _ 0 h03, mm_pI_at, mm_pI_pI, mm_pI_2, mm_pL_1, mm_pL_at, mm_pL_pL, mm_pL_3, mm_pM_1, mm_pM_2, mm_pM_at, mm_pM_pM, mm_pI_pL, mm_pI_pM, mm_pL_pM, mm_pI_ne, mm_pL_ne, mm_pM_ne, mm_u_f, mm_u_at, mm_u_ne, Bool.false_eq_true, n_10, true_and, and_true, false_and, and_false, Nat.not_lt_zero, true_or, or_true, eq_self, mm_z, mm_rs, sw_xc_ite, sw_xv_ite, n_m1, Nat.lt_irrefl, not_false_eq_true, not_true_eq_false, inS_0, inS_1, ite_not, sw_xv_some, sw_xm_some, sw_xc_some, sw_xc_void, if_true, if_false, reduceIte, bI_0, bI_01, bI_1, nt_or, Nat.reduceAdd, n_add, n_mul, n_addL, n_Ladd, n_mulL, n_Lmul, n_sub, n_subL, n_lt, n_eq, n_ltL, n_Llt, n_eqL, n_Leq, n_nneg, n_pos]
    · intro S1 hM
      have e3 := e3 S1 hM
      have eh := eh S1 hM
      have hI3 : IT (S1.1 3) := by rw [e3]; exact hT
      have hB3 := hI3.b
      simp (disch := first | omega | exact hB _ _ | exact hB3 | exact hI3 | assumption | decide) only [e_MD_ring, st_MD_ring, h1, in_ok, in_okS, md_isPersonX, md_isThingX, md_isPromiseX, e_MD_areTwo, st_MD_areTwo, rs_L, md_finds0, md_finds1, md_finds2, md_finds3, md_finds4, md_finds5, md_finds6, mr_md E _, e3, eh, mm_pI_at, mm_pI_pI, mm_pI_2, mm_pL_1, mm_pL_at, mm_pL_pL, mm_pL_3, mm_pM_1, mm_pM_2, mm_pM_at, mm_pM_pM, mm_pI_pL, mm_pI_pM, mm_pL_pM, mm_pI_ne, mm_pL_ne, mm_pM_ne, mm_u_f, mm_u_at, mm_u_ne, Bool.false_eq_true, n_10, true_and, and_true, false_and, and_false, Nat.not_lt_zero, true_or, or_true, eq_self, mm_z, mm_rs, sw_xc_ite, sw_xv_ite, n_m1, Nat.lt_irrefl, not_false_eq_true, not_true_eq_false, inS_0, inS_1, ite_not, sw_xv_some, sw_xm_some, sw_xc_some, sw_xc_void, if_true, if_false, reduceIte, bI_0, bI_01, bI_1, nt_or, Nat.reduceAdd, n_add, n_mul, n_addL, n_Ladd, n_mulL, n_Lmul, n_sub, n_subL, n_lt, n_eq, n_ltL, n_Llt, n_eqL, n_Leq, n_nneg, n_pos]
/-! cancelling -/
theorem n_rem {a L : Nat} (ha : a < 2147483648) (hL : L < 2147483648) (h0 : 0 < L) : nI a - nI a / nI L * nI L = nI (a % L) := by
  have hd : a / L * L ≤ a := Nat.div_mul_le_self a L
  rw [n_div ha hL h0, n_mul, n_sub hd]
  congr 1
  have := Nat.div_add_mod a L
  rw [Nat.mul_comm] at this
  omega
theorem mod_next {i L : Nat} (hi : i < L) : (i + 1) % L = if i + 1 < L then i + 1 else 0 := by
  split
  · next h => exact Nat.mod_eq_of_lt h
  · next h => rw [show i + 1 = L by omega, Nat.mod_self]
/-- what is owed along a ring -/
def rw_ (T : Nat → Nat → Nat) (g : Nat → Nat) (L i : Nat) : Nat := tw_owed T (g i) (g ((i + 1) % L))
def rls (T : Nat → Nat → Nat) (g : Nat → Nat) (L : Nat) : Nat := lp (fun j a => if rw_ T g L (j + 1) < a then rw_ T g L (j + 1) else a) (L - 1) (rw_ T g L 0)
def rtk (T : Nat → Nat → Nat) (g : Nat → Nat) (L v : Nat) : Nat → Nat → Nat := lp (fun i T => tw_to T (g i) (g ((i + 1) % L)) v) L T
theorem owed_le {T : Nat → Nat → Nat} (h : IT T) (u v : Nat) : tw_owed T u v ≤ 24 * 9999 := by
  have hob := tw_sum_le (n := T 0 2) (c := 9999) (p := fun k => T 13 k == 0 && (T 9 k == u && T 10 k == v)) (v := T 11) (fun i hi _ => (h.pr i hi).2.2.2.1)
  exact Nat.le_trans hob (Nat.mul_le_mul_right _ h.k)
theorem rls_le {T : Nat → Nat → Nat} (h : IT T) (g : Nat → Nat) (L : Nat) : rls T g L ≤ 24 * 9999 :=
  lp_inv (f := fun j a => if rw_ T g L (j + 1) < a then rw_ T g L (j + 1) else a) (P := fun _ a => a ≤ 24 * 9999) (n := L - 1) (a := rw_ T g L 0) (owed_le h _ _) (fun j a _ ha => by
    split <;> omega)
theorem rls_m {T : Nat → Nat → Nat} (g : Nat → Nat) {L : Nat} (hL : 0 < L) : lp (fun i a => if i = 0 ∨ rw_ T g L i < a then rw_ T g L i else a) L 0 = rls T g L := by
  have e : L = 1 + (L - 1) := by omega
  have h := lp_split (fun i a => if i = 0 ∨ rw_ T g L i < a then rw_ T g L i else a) 1 (L - 1) 0
  rw [← e] at h
  rw [h]
  unfold rls
  have h1 : lp (fun i a => if i = 0 ∨ rw_ T g L i < a then rw_ T g L i else a) 1 0 = rw_ T g L 0 := by
    rw [lp_s, lp_0, if_pos (Or.inl rfl)]
  rw [h1]
  refine lp_cong (fun j hj a => ?_)
  rw [Nat.add_comm 1 j]
  have : (j + 1 = 0 ∨ rw_ T g L (j + 1) < a) ↔ rw_ T g L (j + 1) < a := by omega
  simp only [this]
theorem IT_rtk {T : Nat → Nat → Nat} (h : IT T) (g : Nat → Nat) (L v : Nat) : IT (rtk T g L v) ∧ rtk T g L v 0 = T 0 := by
  have key := lp_inv (f := fun i T => tw_to T (g i) (g ((i + 1) % L)) v) (P := fun _ a => IT a ∧ a 0 = T 0) (n := L) (a := T) ⟨h, rfl⟩ (fun i a _ hP => by
    obtain ⟨g1, g2⟩ := IT_to hP.1 (p := g i) (q := g ((i + 1) % L)) (v := v)
    exact ⟨g1, g2.trans hP.2⟩)
  exact key
section CN
variable (E : sw_E) (S : sw_S)
set_option maxRecDepth 100000 in
set_option maxHeartbeats 4000000 in
theorem c_next {L i : Nat} (hL : L ≤ 10) (hi : i < L) (hl : S.2.2 3 0 = nI L) {g : Nat → Nat} (hm : ∀ i, i < L → S.2.2 0 i = nI (g i)) : f_Ring_next E (.ref 55) (.int (nI i)) (mk S) = some (some (.int (nI (g ((i + 1) % L)))), mk S) := by
  rw [mod_next hi]
  by_cases h : i + 1 < L
  · rw [if_pos h]
    simp (disch := first | omega | exact hB _ _ | assumption | decide) only [e_Ring_next, st_Ring_next, hl, h, hm (i + 1) h, mr_cl E _, mm_pI_at, mm_pI_pI, mm_pI_2, mm_pL_1, mm_pL_at, mm_pL_pL, mm_pL_3, mm_pM_1, mm_pM_2, mm_pM_at, mm_pM_pM, mm_pI_pL, mm_pI_pM, mm_pL_pM, Bool.false_eq_true, n_10, true_and, and_true, false_and, and_false, Nat.not_lt_zero, true_or, or_true, eq_self, mm_z, mm_rs, sw_xc_ite, sw_xv_ite, n_m1, Nat.lt_irrefl, not_false_eq_true, not_true_eq_false, inS_0, inS_1, ite_not, sw_xv_some, sw_xm_some, sw_xc_some, sw_xc_void, if_true, if_false, reduceIte, bI_0, bI_01, bI_1, nt_or, Nat.reduceAdd, n_add, n_mul, n_addL, n_Ladd, n_mulL, n_Lmul, n_sub, n_subL, n_lt, n_eq, n_ltL, n_Llt, n_eqL, n_Leq, n_nneg, n_pos]
  · rw [if_neg h]
    have r0 : sw_aI E (mk S) 56 0 = some (.int (nI (g 0))) := by
      have := (mr_cl E S).2.2.2.2.2.2.2.2.2.2.2.2.2.2.2.2.2.2.2.2.2
      have h0 := hm 0 (by omega)
      have := mm_aI (E := E) (S := S) (r := 56) (n := 10) (i := 0) (f := S.2.2 0) (by decide) rfl (by decide) (by decide)
      rw [h0] at this
      exact this
    simp (disch := first | omega | exact hB _ _ | assumption | decide) only [e_Ring_next, st_Ring_next, hl, h, r0, mr_cl E _, mm_pI_at, mm_pI_pI, mm_pI_2, mm_pL_1, mm_pL_at, mm_pL_pL, mm_pL_3, mm_pM_1, mm_pM_2, mm_pM_at, mm_pM_pM, mm_pI_pL, mm_pI_pM, mm_pL_pM, Bool.false_eq_true, n_10, true_and, and_true, false_and, and_false, Nat.not_lt_zero, true_or, or_true, eq_self, mm_z, mm_rs, sw_xc_ite, sw_xv_ite, n_m1, Nat.lt_irrefl, not_false_eq_true, not_true_eq_false, inS_0, inS_1, ite_not, sw_xv_some, sw_xm_some, sw_xc_some, sw_xc_void, if_true, if_false, reduceIte, bI_0, bI_01, bI_1, nt_or, Nat.reduceAdd, n_add, n_mul, n_addL, n_Ladd, n_mulL, n_Lmul, n_sub, n_subL, n_lt, n_eq, n_ltL, n_Llt, n_eqL, n_Leq, n_nneg, n_pos]
set_option maxRecDepth 100000 in
set_option maxHeartbeats 4000000 in
theorem c_leastOwed (hI : IT (S.1 0)) {L : Nat} (hL : L ≤ 10) (hL0 : 0 < L) (hl : S.2.2 3 0 = nI L) {g : Nat → Nat} (hm : ∀ i, i < L → S.2.2 0 i = nI (g i)) (hg : ∀ i, i < L → g i < 10) : f_Ring_leastOwed E (.ref 55) (.ref (mm_tn 0 0)) (mk S) = some (some (.int (nI (rls (S.1 0) g L))), mk S) := by
  have h03 : 0 < 3 := by decide
  have hB := hI.b
  have hgm : ∀ i, i < L → g ((i + 1) % L) < 10 := fun i _ => hg _ (Nat.mod_lt _ hL0)
  have r0 : sw_aI E (mk S) 56 0 = some (.int (nI (g 0))) := by
    have h0 := hm 0 hL0
    have := mm_aI (E := E) (S := S) (r := 56) (n := 10) (i := 0) (f := S.2.2 0) (by decide) rfl (by decide) (by decide)
    rw [h0] at this
    exact this
  have key := lp_up (G := fun j a => h_Ring_leastOwed_0 E [.ref 55, .ref (mm_tn 0 0), .int (nI a), .int (nI (j + 1))] (mk S)) (P := fun _ a => a ≤ 24 * 9999) (f := fun j a => if rw_ (S.1 0) g L (j + 1) < a then rw_ (S.1 0) g L (j + 1) else a) (fin := fun a => some (some (.int (nI a)), mk S)) (n := L - 1) (a0 := rw_ (S.1 0) g L 0) (owed_le hI _ _) (fun j a hj ha => ⟨?_, ?_⟩) (fun a ha => ?_)
  · have g1 := hg 0 hL0
    have g2 := hgm 0 hL0
    have cn := c_next E S hL hL0 hl hm
    rw [show nI 0 = 0 from rfl] at cn
    have cs := c_Promises_sumBetween E S 0 h03 hI (a := g 0) (b := g ((0 + 1) % L)) (by omega) (by omega)
    simp (disch := first | omega | exact hB _ _ | assumption | decide) only [e_Ring_leastOwed, st_Ring_leastOwed, mr_town E _ 0 h03, r0, cn, cs, mr_cl E _, mm_pI_at, mm_pI_pI, mm_pI_2, mm_pL_1, mm_pL_at, mm_pL_pL, mm_pL_3, mm_pM_1, mm_pM_2, mm_pM_at, mm_pM_pM, mm_pI_pL, mm_pI_pM, mm_pL_pM, Bool.false_eq_true, n_10, true_and, and_true, false_and, and_false, Nat.not_lt_zero, true_or, or_true, eq_self, mm_z, mm_rs, sw_xc_ite, sw_xv_ite, n_m1, Nat.lt_irrefl, not_false_eq_true, not_true_eq_false, inS_0, inS_1, ite_not, sw_xv_some, sw_xm_some, sw_xc_some, sw_xc_void, if_true, if_false, reduceIte, bI_0, bI_01, bI_1, nt_or, Nat.reduceAdd, n_add, n_mul, n_addL, n_Ladd, n_mulL, n_Lmul, n_sub, n_subL, n_lt, n_eq, n_ltL, n_Llt, n_eqL, n_Leq, n_nneg, n_pos]
    exact key
  · have hjL : j + 1 < L := by omega
    have g1 := hg (j + 1) hjL
    have g2 := hgm (j + 1) hjL
    have cn := c_next E S hL hjL hl hm
    have cs := c_Promises_sumBetween E S 0 h03 hI (a := g (j + 1)) (b := g ((j + 1 + 1) % L)) (by omega) (by omega)
    have ow := owed_le hI (g (j + 1)) (g ((j + 1 + 1) % L))
    rw [u_Ring_leastOwed_0]
    unfold rw_
    by_cases hc : tw_owed (S.1 0) (g (j + 1)) (g ((j + 1 + 1) % L)) < a
    · simp (disch := first | omega | exact hB _ _ | assumption | decide) only [st_Ring_leastOwed, mr_town E _ 0 h03, hl, hjL, hm (j + 1) hjL, cn, cs, hc, mr_cl E _, mm_pI_at, mm_pI_pI, mm_pI_2, mm_pL_1, mm_pL_at, mm_pL_pL, mm_pL_3, mm_pM_1, mm_pM_2, mm_pM_at, mm_pM_pM, mm_pI_pL, mm_pI_pM, mm_pL_pM, Bool.false_eq_true, n_10, true_and, and_true, false_and, and_false, Nat.not_lt_zero, true_or, or_true, eq_self, mm_z, mm_rs, sw_xc_ite, sw_xv_ite, n_m1, Nat.lt_irrefl, not_false_eq_true, not_true_eq_false, inS_0, inS_1, ite_not, sw_xv_some, sw_xm_some, sw_xc_some, sw_xc_void, if_true, if_false, reduceIte, bI_0, bI_01, bI_1, nt_or, Nat.reduceAdd, n_add, n_mul, n_addL, n_Ladd, n_mulL, n_Lmul, n_sub, n_subL, n_lt, n_eq, n_ltL, n_Llt, n_eqL, n_Leq, n_nneg, n_pos]
    · simp (disch := first | omega | exact hB _ _ | assumption | decide) only [st_Ring_leastOwed, mr_town E _ 0 h03, hl, hjL, hm (j + 1) hjL, cn, cs, hc, mr_cl E _, mm_pI_at, mm_pI_pI, mm_pI_2, mm_pL_1, mm_pL_at, mm_pL_pL, mm_pL_3, mm_pM_1, mm_pM_2, mm_pM_at, mm_pM_pM, mm_pI_pL, mm_pI_pM, mm_pL_pM, Bool.false_eq_true, n_10, true_and, and_true, false_and, and_false, Nat.not_lt_zero, true_or, or_true, eq_self, mm_z, mm_rs, sw_xc_ite, sw_xv_ite, n_m1, Nat.lt_irrefl, not_false_eq_true, not_true_eq_false, inS_0, inS_1, ite_not, sw_xv_some, sw_xm_some, sw_xc_some, sw_xc_void, if_true, if_false, reduceIte, bI_0, bI_01, bI_1, nt_or, Nat.reduceAdd, n_add, n_mul, n_addL, n_Ladd, n_mulL, n_Lmul, n_sub, n_subL, n_lt, n_eq, n_ltL, n_Llt, n_eqL, n_Leq, n_nneg, n_pos]
  · have ow := owed_le hI (g (j + 1)) (g ((j + 1 + 1) % L))
    have e : rw_ (S.1 0) g L (j + 1) = tw_owed (S.1 0) (g (j + 1)) (g ((j + 1 + 1) % L)) := rfl
    split <;> omega
  · have e : L - 1 + 1 = L := by omega
    rw [u_Ring_leastOwed_0, e]
    simp (disch := first | omega | exact hB _ _ | assumption | decide) only [st_Ring_leastOwed, hl, mr_cl E _, mm_pI_at, mm_pI_pI, mm_pI_2, mm_pL_1, mm_pL_at, mm_pL_pL, mm_pL_3, mm_pM_1, mm_pM_2, mm_pM_at, mm_pM_pM, mm_pI_pL, mm_pI_pM, mm_pL_pM, Bool.false_eq_true, n_10, true_and, and_true, false_and, and_false, Nat.not_lt_zero, true_or, or_true, eq_self, mm_z, mm_rs, sw_xc_ite, sw_xv_ite, n_m1, Nat.lt_irrefl, not_false_eq_true, not_true_eq_false, inS_0, inS_1, ite_not, sw_xv_some, sw_xm_some, sw_xc_some, sw_xc_void, if_true, if_false, reduceIte, bI_0, bI_01, bI_1, nt_or, Nat.reduceAdd, n_add, n_mul, n_addL, n_Ladd, n_mulL, n_Lmul, n_sub, n_subL, n_lt, n_eq, n_ltL, n_Llt, n_eqL, n_Leq, n_nneg, n_pos]
set_option maxRecDepth 100000 in
set_option maxHeartbeats 4000000 in
theorem c_cancel_l (hI : IT (S.1 0)) {L v : Nat} (hL : L ≤ 10) (hL0 : 0 < L) (hv : v < 2147483648) (hl : S.2.2 3 0 = nI L) {g : Nat → Nat} (hm : ∀ i, i < L → S.2.2 0 i = nI (g i)) (hg : ∀ i, i < L → g i < 10) (a1 : Value) : h_SW_cancel_0 E [.ref 0, a1, .int (nI v), .int 0] (mk S) = some (some (.int (nI v)), mk (mm_pI S 0 (rtk (S.1 0) g L v))) := by
  have h03 : 0 < 3 := by decide
  have hgm : ∀ i, i < L → g ((i + 1) % L) < 10 := fun i _ => hg _ (Nat.mod_lt _ hL0)
  have key := lp_up (G := fun i T => h_SW_cancel_0 E [.ref 0, a1, .int (nI v), .int (nI i)] (mk (mm_pI S 0 T))) (P := fun _ T => IT T) (f := fun i T => tw_to T (g i) (g ((i + 1) % L)) v) (fin := fun T => some (some (.int (nI v)), mk (mm_pI S 0 T))) (n := L) (a0 := S.1 0) hI (fun i T hi hT => ⟨?_, (IT_to hT).1⟩) (fun T hT => ?_)
  · rw [mm_pI_id] at key
    exact key
  · have hB := hT.b
    have g1 := hg i hi
    have g2 := hgm i hi
    have hI' : IT ((mm_pI S 0 T).1 0) := by rw [mm_pI_at]; exact hT
    have cn := c_next E (mm_pI S 0 T) hL hi (g := g) hl hm
    have ct := c_Town_takeOff E (mm_pI S 0 T) 0 h03 hI' (p := g i) (q := g ((i + 1) % L)) (l := v) (by omega) (by omega) hv
    rw [mm_pI_at, mm_pI_pI] at ct
    rw [u_SW_cancel_0]
    simp (disch := first | omega | exact hB _ _ | assumption | decide) only [st_SW_cancel, mr_town E _ 0 h03, hl, hi, hm i hi, cn, ct, mr_cl E _, mm_pI_at, mm_pI_pI, mm_pI_2, mm_pL_1, mm_pL_at, mm_pL_pL, mm_pL_3, mm_pM_1, mm_pM_2, mm_pM_at, mm_pM_pM, mm_pI_pL, mm_pI_pM, mm_pL_pM, Bool.false_eq_true, n_10, true_and, and_true, false_and, and_false, Nat.not_lt_zero, true_or, or_true, eq_self, mm_z, mm_rs, sw_xc_ite, sw_xv_ite, n_m1, Nat.lt_irrefl, not_false_eq_true, not_true_eq_false, inS_0, inS_1, ite_not, sw_xv_some, sw_xm_some, sw_xc_some, sw_xc_void, if_true, if_false, reduceIte, bI_0, bI_01, bI_1, nt_or, Nat.reduceAdd, n_add, n_mul, n_addL, n_Ladd, n_mulL, n_Lmul, n_sub, n_subL, n_lt, n_eq, n_ltL, n_Llt, n_eqL, n_Leq, n_nneg, n_pos]
  · rw [u_SW_cancel_0]
    simp (disch := first | omega | exact hB _ _ | assumption | decide) only [st_SW_cancel, hl, mr_cl E _, mm_pI_at, mm_pI_pI, mm_pI_2, mm_pL_1, mm_pL_at, mm_pL_pL, mm_pL_3, mm_pM_1, mm_pM_2, mm_pM_at, mm_pM_pM, mm_pI_pL, mm_pI_pM, mm_pL_pM, Bool.false_eq_true, n_10, true_and, and_true, false_and, and_false, Nat.not_lt_zero, true_or, or_true, eq_self, mm_z, mm_rs, sw_xc_ite, sw_xv_ite, n_m1, Nat.lt_irrefl, not_false_eq_true, not_true_eq_false, inS_0, inS_1, ite_not, sw_xv_some, sw_xm_some, sw_xc_some, sw_xc_void, if_true, if_false, reduceIte, bI_0, bI_01, bI_1, nt_or, Nat.reduceAdd, n_add, n_mul, n_addL, n_Ladd, n_mulL, n_Lmul, n_sub, n_subL, n_lt, n_eq, n_ltL, n_Llt, n_eqL, n_Leq, n_nneg, n_pos]
set_option maxRecDepth 100000 in
set_option maxHeartbeats 4000000 in
theorem md_cancel_0 (hI : IT (S.1 3)) {L : Nat} (hL : L ≤ 10) (hL0 : 0 < L) {g : Nat → Nat} (hm : ∀ i, i < L → S.2.2 23 i = nI (g i)) (hg : ∀ i, i < L → g i < 10) (a1 a5 : Value) : ∃ d5, h_MD_cancel_0 E [.ref 71, a1, .int (nI L), .int 0, .int 0, a5] (mk S) = h_MD_cancel_1 E [.ref 71, a1, .int (nI L), .int (nI (rls (S.1 3) g L)), .int 0, d5] (mk S) := by
  have hB := hI.b
  have key := lp_inv (f := fun i a => if i = 0 ∨ rw_ (S.1 3) g L i < a then rw_ (S.1 3) g L i else a) (P := fun i a => i ≤ L → a ≤ 24 * 9999 ∧ ∃ d5, h_MD_cancel_0 E [.ref 71, a1, .int (nI L), .int 0, .int 0, a5] (mk S) = h_MD_cancel_0 E [.ref 71, a1, .int (nI L), .int (nI a), .int (nI i), d5] (mk S)) (n := L) (a := 0) (fun _ => ⟨by omega, a5, rfl⟩) (fun i a hi hQ _ => by
    obtain ⟨ha, d5, e⟩ := hQ (by omega)
    have hmd : (i + 1) % L < L := Nat.mod_lt _ hL0
    have g1 := hg i hi
    have g2 := hg _ hmd
    have mo := md_owes E S hI (a := g i) (b := g ((i + 1) % L)) (by omega) (by omega)
    have ow := owed_le hI (g i) (g ((i + 1) % L))
    have er : rw_ (S.1 3) g L i = tw_owed (S.1 3) (g i) (g ((i + 1) % L)) := rfl
    have nr := n_rem (a := i + 1) (L := L) (by omega) (by omega) hL0
    have hLn : ¬ L = 0 := by omega
    have hm10 : (i + 1) % L < 10 := by omega
    rw [er]
    refine ⟨by split <;> omega, .int (nI (tw_owed (S.1 3) (g i) (g ((i + 1) % L)))), ?_⟩
    rw [e, u_MD_cancel_0]
    by_cases h0 : i = 0
    · rw [if_pos (Or.inl h0)]
      have h0' : (i = 0) ↔ True := by simp [h0]
      simp (disch := first | omega | exact hB _ _ | assumption | decide) only [st_MD_cancel, hi, hm i hi, hLn, nr, hm _ hmd, mo, h0', mr_md E _, mm_pI_at, mm_pI_pI, mm_pI_2, mm_pL_1, mm_pL_at, mm_pL_pL, mm_pL_3, mm_pM_1, mm_pM_2, mm_pM_at, mm_pM_pM, mm_pI_pL, mm_pI_pM, mm_pL_pM, Bool.false_eq_true, n_10, true_and, and_true, false_and, and_false, Nat.not_lt_zero, true_or, or_true, eq_self, mm_z, mm_rs, sw_xc_ite, sw_xv_ite, n_m1, Nat.lt_irrefl, not_false_eq_true, not_true_eq_false, inS_0, inS_1, ite_not, sw_xv_some, sw_xm_some, sw_xc_some, sw_xc_void, if_true, if_false, reduceIte, bI_0, bI_01, bI_1, nt_or, Nat.reduceAdd, n_add, n_mul, n_addL, n_Ladd, n_mulL, n_Lmul, n_sub, n_subL, n_lt, n_eq, n_ltL, n_Llt, n_eqL, n_Leq, n_nneg, n_pos]
    · by_cases hc : tw_owed (S.1 3) (g i) (g ((i + 1) % L)) < a
      · rw [if_pos (Or.inr hc)]
        simp (disch := first | omega | exact hB _ _ | assumption | decide) only [st_MD_cancel, hi, hm i hi, hLn, nr, hm _ hmd, mo, h0, hc, mr_md E _, mm_pI_at, mm_pI_pI, mm_pI_2, mm_pL_1, mm_pL_at, mm_pL_pL, mm_pL_3, mm_pM_1, mm_pM_2, mm_pM_at, mm_pM_pM, mm_pI_pL, mm_pI_pM, mm_pL_pM, Bool.false_eq_true, n_10, true_and, and_true, false_and, and_false, Nat.not_lt_zero, true_or, or_true, eq_self, mm_z, mm_rs, sw_xc_ite, sw_xv_ite, n_m1, Nat.lt_irrefl, not_false_eq_true, not_true_eq_false, inS_0, inS_1, ite_not, sw_xv_some, sw_xm_some, sw_xc_some, sw_xc_void, if_true, if_false, reduceIte, bI_0, bI_01, bI_1, nt_or, Nat.reduceAdd, n_add, n_mul, n_addL, n_Ladd, n_mulL, n_Lmul, n_sub, n_subL, n_lt, n_eq, n_ltL, n_Llt, n_eqL, n_Leq, n_nneg, n_pos]
      · rw [if_neg (fun q => q.elim h0 hc)]
        simp (disch := first | omega | exact hB _ _ | assumption | decide) only [st_MD_cancel, hi, hm i hi, hLn, nr, hm _ hmd, mo, h0, hc, mr_md E _, mm_pI_at, mm_pI_pI, mm_pI_2, mm_pL_1, mm_pL_at, mm_pL_pL, mm_pL_3, mm_pM_1, mm_pM_2, mm_pM_at, mm_pM_pM, mm_pI_pL, mm_pI_pM, mm_pL_pM, Bool.false_eq_true, n_10, true_and, and_true, false_and, and_false, Nat.not_lt_zero, true_or, or_true, eq_self, mm_z, mm_rs, sw_xc_ite, sw_xv_ite, n_m1, Nat.lt_irrefl, not_false_eq_true, not_true_eq_false, inS_0, inS_1, ite_not, sw_xv_some, sw_xm_some, sw_xc_some, sw_xc_void, if_true, if_false, reduceIte, bI_0, bI_01, bI_1, nt_or, Nat.reduceAdd, n_add, n_mul, n_addL, n_Ladd, n_mulL, n_Lmul, n_sub, n_subL, n_lt, n_eq, n_ltL, n_Llt, n_eqL, n_Leq, n_nneg, n_pos])
  obtain ⟨_, d5, e⟩ := key (Nat.le_refl L)
  rw [rls_m g hL0] at e
  refine ⟨d5, ?_⟩
  rw [e, u_MD_cancel_0]
  simp (disch := first | omega | exact hB _ _ | assumption | decide) only [st_MD_cancel, mr_md E _, mm_pI_at, mm_pI_pI, mm_pI_2, mm_pL_1, mm_pL_at, mm_pL_pL, mm_pL_3, mm_pM_1, mm_pM_2, mm_pM_at, mm_pM_pM, mm_pI_pL, mm_pI_pM, mm_pL_pM, Bool.false_eq_true, n_10, true_and, and_true, false_and, and_false, Nat.not_lt_zero, true_or, or_true, eq_self, mm_z, mm_rs, sw_xc_ite, sw_xv_ite, n_m1, Nat.lt_irrefl, not_false_eq_true, not_true_eq_false, inS_0, inS_1, ite_not, sw_xv_some, sw_xm_some, sw_xc_some, sw_xc_void, if_true, if_false, reduceIte, bI_0, bI_01, bI_1, nt_or, Nat.reduceAdd, n_add, n_mul, n_addL, n_Ladd, n_mulL, n_Lmul, n_sub, n_subL, n_lt, n_eq, n_ltL, n_Llt, n_eqL, n_Leq, n_nneg, n_pos]
set_option maxRecDepth 100000 in
set_option maxHeartbeats 4000000 in
theorem md_cancel_1 (hI : IT (S.1 3)) {L v : Nat} (hL : L ≤ 10) (hL0 : 0 < L) (hv : v < 2147483648) {g : Nat → Nat} (hm : ∀ i, i < L → S.2.2 23 i = nI (g i)) (hg : ∀ i, i < L → g i < 10) (a1 a5 : Value) : h_MD_cancel_1 E [.ref 71, a1, .int (nI L), .int (nI v), .int 0, a5] (mk S) = some (some (.int (nI v)), mk (mm_pI S 3 (rtk (S.1 3) g L v))) := by
  have key := lp_up (G := fun i T => h_MD_cancel_1 E [.ref 71, a1, .int (nI L), .int (nI v), .int (nI i), a5] (mk (mm_pI S 3 T))) (P := fun _ T => IT T) (f := fun i T => tw_to T (g i) (g ((i + 1) % L)) v) (fin := fun T => some (some (.int (nI v)), mk (mm_pI S 3 T))) (n := L) (a0 := S.1 3) hI (fun i T hi hT => ⟨?_, (IT_to hT).1⟩) (fun T hT => ?_)
  · rw [mm_pI_id] at key
    exact key
  · have hB := hT.b
    have hmd : (i + 1) % L < L := Nat.mod_lt _ hL0
    have g1 := hg i hi
    have g2 := hg _ hmd
    have hI' : IT ((mm_pI S 3 T).1 3) := by rw [mm_pI_at]; exact hT
    have ct := md_takesOff E (mm_pI S 3 T) hI' (p := g i) (q := g ((i + 1) % L)) (l := v) (by omega) (by omega) hv
    rw [mm_pI_at, mm_pI_pI] at ct
    have nr := n_rem (a := i + 1) (L := L) (by omega) (by omega) hL0
    have hLn : ¬ L = 0 := by omega
    have hm10 : (i + 1) % L < 10 := by omega
    rw [u_MD_cancel_1]
    simp (disch := first | omega | exact hB _ _ | assumption | decide) only [st_MD_cancel, hi, hm i hi, hLn, nr, hm _ hmd, ct, mr_md E _, mm_pI_at, mm_pI_pI, mm_pI_2, mm_pL_1, mm_pL_at, mm_pL_pL, mm_pL_3, mm_pM_1, mm_pM_2, mm_pM_at, mm_pM_pM, mm_pI_pL, mm_pI_pM, mm_pL_pM, Bool.false_eq_true, n_10, true_and, and_true, false_and, and_false, Nat.not_lt_zero, true_or, or_true, eq_self, mm_z, mm_rs, sw_xc_ite, sw_xv_ite, n_m1, Nat.lt_irrefl, not_false_eq_true, not_true_eq_false, inS_0, inS_1, ite_not, sw_xv_some, sw_xm_some, sw_xc_some, sw_xc_void, if_true, if_false, reduceIte, bI_0, bI_01, bI_1, nt_or, Nat.reduceAdd, n_add, n_mul, n_addL, n_Ladd, n_mulL, n_Lmul, n_sub, n_subL, n_lt, n_eq, n_ltL, n_Llt, n_eqL, n_Leq, n_nneg, n_pos]
  · rw [u_MD_cancel_1]
    simp (disch := first | omega | exact hB _ _ | assumption | decide) only [st_MD_cancel, mr_md E _, mm_pI_at, mm_pI_pI, mm_pI_2, mm_pL_1, mm_pL_at, mm_pL_pL, mm_pL_3, mm_pM_1, mm_pM_2, mm_pM_at, mm_pM_pM, mm_pI_pL, mm_pI_pM, mm_pL_pM, Bool.false_eq_true, n_10, true_and, and_true, false_and, and_false, Nat.not_lt_zero, true_or, or_true, eq_self, mm_z, mm_rs, sw_xc_ite, sw_xv_ite, n_m1, Nat.lt_irrefl, not_false_eq_true, not_true_eq_false, inS_0, inS_1, ite_not, sw_xv_some, sw_xm_some, sw_xc_some, sw_xc_void, if_true, if_false, reduceIte, bI_0, bI_01, bI_1, nt_or, Nat.reduceAdd, n_add, n_mul, n_addL, n_Ladd, n_mulL, n_Lmul, n_sub, n_subL, n_lt, n_eq, n_ltL, n_Llt, n_eqL, n_Leq, n_nneg, n_pos]
end CN
set_option maxRecDepth 100000 in
set_option maxHeartbeats 4000000 in
theorem p_cancel (E : sw_E) {S : sw_S} (hI : Inv S) (x : Int32) : AgI S (f_SW_cancel E (.ref 0) (.int x)) (f_MD_cancel E (.ref 71) (.int x)) := by
  have h03 : 0 < 3 := by decide
  have hT := hI.it
  have hB := hT.b
  have hn := hT.n
  have hp := hT.p
  have hk := hT.k
  have e3 : ∀ S1, MP S S1 → S1.1 3 = S.1 0 := fun S1 h => (h.1 3 (by decide)).trans hI.s3
  have eh : ∀ S1, MP S S1 → S1.2.1 3 = S.2.1 0 := fun S1 h => (h.2.1 3 (by decide)).trans hI.h3
  by_cases h1 : ok x (S.1 0 0 0) = true
  · obtain ⟨x, h1_, rfl⟩ := (ok_iff (by omega)).mp h1
    have mR : ∀ S1, MP S S1 → ∃ f r, f_MD_findRing E (.ref 71) (.int (nI x)) (mk S1) = some (some (.int (nI (rgl (ed (S.1 0)) (S.1 0 0 0) x))), mk (R2 S1 f r)) ∧ ∀ i, i < rgl (ed (S.1 0)) (S.1 0 0 0) x → r i = nI (rgm (ed (S.1 0)) (S.1 0 0 0) x (rgl (ed (S.1 0)) (S.1 0 0 0) x) i) := fun S1 hM => by
      have e3 := e3 S1 hM
      have hI3 : IT (S1.1 3) := by rw [e3]; exact hT
      have := md_findRing E S1 hI3 (p := x) (by rw [e3]; exact h1_)
      rw [e3] at this
      exact this
    have hLe := rgl_le (e := ed (S.1 0)) (P := S.1 0 0 0) (p := x)
    have hL2 : 0 < rgl (ed (S.1 0)) (S.1 0 0 0) x → 2 ≤ rgl (ed (S.1 0)) (S.1 0 0 0) x := fun h => (rgl_2 h).1
    have hok := fun h => rgm_ok (e := ed (S.1 0)) (P := S.1 0 0 0) (p := x) h1_ h
    obtain ⟨m, o, l, cF, cm⟩ := c_find E S hT h1_
    have hgs : ∀ i, i < rgl (ed (S.1 0)) (S.1 0 0 0) x → rgm (ed (S.1 0)) (S.1 0 0 0) x (rgl (ed (S.1 0)) (S.1 0 0 0) x) i < 10 := fun i hi => by
      have := (hok (by omega) i hi).1
      omega
    clear hok
    generalize rgm (ed (S.1 0)) (S.1 0 0 0) x (rgl (ed (S.1 0)) (S.1 0 0 0) x) = g at *
    generalize rgl (ed (S.1 0)) (S.1 0 0 0) x = L at *
    by_cases hL : L = 0
    · refine ag_ringf (v := -1000000004) (j := 3) (m := m) (o := o) (l := l) (n := nI L) hI ?_ ?_
      · simp (disch := first | omega | exact hB _ _ | exact hB3 | exact hI3 | assumption | decide) only [e_SW_cancel, st_SW_cancel, h1, cF, R4_f3, hL, R4_ne, show nI 0 = 0 from rfl, c_isKind, c_isUpTo, c_isSum, c_Phas E _ _ h03, c_Thas E _ _ h03, c_Khas E _ _ h03, e_SW_isPair, st_SW_isPair, e_People_isFull, st_People_isFull, e_Things_isFull, st_Things_isFull, e_Promises_isFull, st_Promises_isFull, e_Promises_isOpen, st_Promises_isOpen, c_tell0, c_tell1, c_tell2, c_tell3, c_tell4, c_tell5, c_tell6, mr_cl E _, mr_town E _ 0 h03, mm_pI_at, mm_pI_pI, mm_pI_2, mm_pL_1, mm_pL_at, mm_pL_pL, mm_pL_3, mm_pM_1, mm_pM_2, mm_pM_at, mm_pM_pM, mm_pI_pL, mm_pI_pM, mm_pL_pM, mm_pI_ne, mm_pL_ne, mm_pM_ne, mm_u_f, mm_u_at, mm_u_ne, Bool.false_eq_true, n_10, true_and, and_true, false_and, and_false, Nat.not_lt_zero, true_or, or_true, eq_self, mm_z, mm_rs, sw_xc_ite, sw_xv_ite, n_m1, Nat.lt_irrefl, not_false_eq_true, not_true_eq_false, inS_0, inS_1, ite_not, sw_xv_some, sw_xm_some, sw_xc_some, sw_xc_void, if_true, if_false, reduceIte, bI_0, bI_01, bI_1, nt_or, Nat.reduceAdd, n_add, n_mul, n_addL, n_Ladd, n_mulL, n_Lmul, n_sub, n_subL, n_lt, n_eq, n_ltL, n_Llt, n_eqL, n_Leq, n_nneg, n_pos]
      · intro S1 hM
        obtain ⟨f, r, mF, mr⟩ := mR S1 hM
        have e3 := e3 S1 hM
        have eh := eh S1 hM
        have hI3 : IT (S1.1 3) := by rw [e3]; exact hT
        have hB3 := hI3.b
        refine ⟨f, r, ?_⟩
        simp (disch := first | omega | exact hB _ _ | exact hB3 | exact hI3 | assumption | decide) only [e_MD_cancel, st_MD_cancel, h1, mF, hL, show nI 0 = 0 from rfl, R2_20, in_ok, in_okS, md_isPersonX, md_isThingX, md_isPromiseX, e_MD_areTwo, st_MD_areTwo, rs_L, md_finds0, md_finds1, md_finds2, md_finds3, md_finds4, md_finds5, md_finds6, mr_md E _, e3, eh, mm_pI_at, mm_pI_pI, mm_pI_2, mm_pL_1, mm_pL_at, mm_pL_pL, mm_pL_3, mm_pM_1, mm_pM_2, mm_pM_at, mm_pM_pM, mm_pI_pL, mm_pI_pM, mm_pL_pM, mm_pI_ne, mm_pL_ne, mm_pM_ne, mm_u_f, mm_u_at, mm_u_ne, Bool.false_eq_true, n_10, true_and, and_true, false_and, and_false, Nat.not_lt_zero, true_or, or_true, eq_self, mm_z, mm_rs, sw_xc_ite, sw_xv_ite, n_m1, Nat.lt_irrefl, not_false_eq_true, not_true_eq_false, inS_0, inS_1, ite_not, sw_xv_some, sw_xm_some, sw_xc_some, sw_xc_void, if_true, if_false, reduceIte, bI_0, bI_01, bI_1, nt_or, Nat.reduceAdd, n_add, n_mul, n_addL, n_Ladd, n_mulL, n_Lmul, n_sub, n_subL, n_lt, n_eq, n_ltL, n_Llt, n_eqL, n_Leq, n_nneg, n_pos]
    · have hL0 : 0 < L := by omega
      have hls := rls_le hT g L
      have hrt := IT_rtk hT g L (rls (S.1 0) g L)
      obtain ⟨f, r, mF, mr⟩ := mR (mm_pI (R4 S m o l (nI L)) 0 (rtk (S.1 0) g L (rls (S.1 0) g L))) (MP_pI (MP_R4 S m o l (nI L)) (by decide) _)
      refine ⟨nI (rls (S.1 0) g L), mm_pI (R4 S m o l (nI L)) 0 (rtk (S.1 0) g L (rls (S.1 0) g L)), mm_pI (R2 (mm_pI (R4 S m o l (nI L)) 0 (rtk (S.1 0) g L (rls (S.1 0) g L))) f r) 3 (rtk (S.1 0) g L (rls (S.1 0) g L)), ?_, ?_, ?_⟩
      · have cO := c_leastOwed E (R4 S m o l (nI L)) hT hLe hL0 (g := g) rfl cm hgs
        have cC := fun a1 => c_cancel_l E (R4 S m o l (nI L)) hT (v := rls (S.1 0) g L) hLe hL0 (by omega) (g := g) rfl cm hgs a1
        rw [R4_1] at cO cC
        simp (disch := first | omega | exact hB _ _ | exact hB3 | exact hI3 | assumption | decide) only [e_SW_cancel, st_SW_cancel, h1, cF, R4_f3, hL, cO, cC, c_isKind, c_isUpTo, c_isSum, c_Phas E _ _ h03, c_Thas E _ _ h03, c_Khas E _ _ h03, e_SW_isPair, st_SW_isPair, e_People_isFull, st_People_isFull, e_Things_isFull, st_Things_isFull, e_Promises_isFull, st_Promises_isFull, e_Promises_isOpen, st_Promises_isOpen, c_tell0, c_tell1, c_tell2, c_tell3, c_tell4, c_tell5, c_tell6, mr_cl E _, mr_town E _ 0 h03, mm_pI_at, mm_pI_pI, mm_pI_2, mm_pL_1, mm_pL_at, mm_pL_pL, mm_pL_3, mm_pM_1, mm_pM_2, mm_pM_at, mm_pM_pM, mm_pI_pL, mm_pI_pM, mm_pL_pM, mm_pI_ne, mm_pL_ne, mm_pM_ne, mm_u_f, mm_u_at, mm_u_ne, Bool.false_eq_true, n_10, true_and, and_true, false_and, and_false, Nat.not_lt_zero, true_or, or_true, eq_self, mm_z, mm_rs, sw_xc_ite, sw_xv_ite, n_m1, Nat.lt_irrefl, not_false_eq_true, not_true_eq_false, inS_0, inS_1, ite_not, sw_xv_some, sw_xm_some, sw_xc_some, sw_xc_void, if_true, if_false, reduceIte, bI_0, bI_01, bI_1, nt_or, Nat.reduceAdd, n_add, n_mul, n_addL, n_Ladd, n_mulL, n_Lmul, n_sub, n_subL, n_lt, n_eq, n_ltL, n_Llt, n_eqL, n_Leq, n_nneg, n_pos]
      · have hM : MP S (mm_pI (R4 S m o l (nI L)) 0 (rtk (S.1 0) g L (rls (S.1 0) g L))) := MP_pI (MP_R4 S m o l (nI L)) (by decide) _
        have e3 := e3 _ hM
        have eh := eh _ hM
        generalize mm_pI (R4 S m o l (nI L)) 0 (rtk (S.1 0) g L (rls (S.1 0) g L)) = S1 at *
        have hI3 : IT (S1.1 3) := by rw [e3]; exact hT
        have hB3 := hI3.b
        obtain ⟨d5, m0⟩ := md_cancel_0 E (R2 S1 f r) hI3 hLe hL0 (g := g) mr hgs (.int (nI x)) sw_J
        have m1 := md_cancel_1 E (R2 S1 f r) hI3 (v := rls (S.1 0) g L) hLe hL0 (by omega) (g := g) mr hgs (.int (nI x)) d5
        rw [R2_1, e3] at m0 m1
        simp (disch := first | omega | exact hB _ _ | exact hB3 | exact hI3 | assumption | decide) only [e_MD_cancel, st_MD_cancel, h1, mF, hL, m0, m1, in_ok, in_okS, md_isPersonX, md_isThingX, md_isPromiseX, e_MD_areTwo, st_MD_areTwo, rs_L, md_finds0, md_finds1, md_finds2, md_finds3, md_finds4, md_finds5, md_finds6, mr_md E _, e3, eh, mm_pI_at, mm_pI_pI, mm_pI_2, mm_pL_1, mm_pL_at, mm_pL_pL, mm_pL_3, mm_pM_1, mm_pM_2, mm_pM_at, mm_pM_pM, mm_pI_pL, mm_pI_pM, mm_pL_pM, mm_pI_ne, mm_pL_ne, mm_pM_ne, mm_u_f, mm_u_at, mm_u_ne, Bool.false_eq_true, n_10, true_and, and_true, false_and, and_false, Nat.not_lt_zero, true_or, or_true, eq_self, mm_z, mm_rs, sw_xc_ite, sw_xv_ite, n_m1, Nat.lt_irrefl, not_false_eq_true, not_true_eq_false, inS_0, inS_1, ite_not, sw_xv_some, sw_xm_some, sw_xc_some, sw_xc_void, if_true, if_false, reduceIte, bI_0, bI_01, bI_1, nt_or, Nat.reduceAdd, n_add, n_mul, n_addL, n_Ladd, n_mulL, n_Lmul, n_sub, n_subL, n_lt, n_eq, n_ltL, n_Llt, n_eqL, n_Leq, n_nneg, n_pos]
      · obtain ⟨h1, h2, h3, h4, h5, h6, h7, h8, h9, h10, h11, h12, h13, h14, h15⟩ := hI
        exact ⟨hrt.1, rfl, h3, h4, h5, h6, h7, h8, h9, h10, h11, h12, h13, h14, h15⟩
  · refine ag_find (v := -1000000001) 0 ?_ ?_ hI
    · simp (disch := first | omega | exact hB _ _ | exact hB3 | exact hI3 | assumption | decide) only [e_SW_cancel, st_SW_cancel, h1, c_isKind, c_isUpTo, c_isSum, c_Phas E _ _ h03, c_Thas E _ _ h03, c_Khas E _ _ h03, e_SW_isPair, st_SW_isPair, e_People_isFull, st_People_isFull, e_Things_isFull, st_Things_isFull, e_Promises_isFull, st_Promises_isFull, e_Promises_isOpen, st_Promises_isOpen, c_tell0, c_tell1, c_tell2, c_tell3, c_tell4, c_tell5, c_tell6, mr_cl E _, mr_town E _ 0 h03, mm_pI_at, mm_pI_pI, mm_pI_2, mm_pL_1, mm_pL_at, mm_pL_pL, mm_pL_3, mm_pM_1, mm_pM_2, mm_pM_at, mm_pM_pM, mm_pI_pL, mm_pI_pM, mm_pL_pM, mm_pI_ne, mm_pL_ne, mm_pM_ne, mm_u_f, mm_u_at, mm_u_ne, Bool.false_eq_true, n_10, true_and, and_true, false_and, and_false, Nat.not_lt_zero, true_or, or_true, eq_self, mm_z, mm_rs, sw_xc_ite, sw_xv_ite, n_m1, Nat.lt_irrefl, not_false_eq_true, not_true_eq_false, inS_0, inS_1, ite_not, sw_xv_some, sw_xm_some, sw_xc_some, sw_xc_void, if_true, if_false, reduceIte, bI_0, bI_01, bI_1, nt_or, Nat.reduceAdd, n_add, n_mul, n_addL, n_Ladd, n_mulL, n_Lmul, n_sub, n_subL, n_lt, n_eq, n_ltL, n_Llt, n_eqL, n_Leq, n_nneg, n_pos]
    · intro S1 hM
      have e3 := e3 S1 hM
      have eh := eh S1 hM
      have hI3 : IT (S1.1 3) := by rw [e3]; exact hT
      have hB3 := hI3.b
      simp (disch := first | omega | exact hB _ _ | exact hB3 | exact hI3 | assumption | decide) only [e_MD_cancel, st_MD_cancel, h1, in_ok, in_okS, md_isPersonX, md_isThingX, md_isPromiseX, e_MD_areTwo, st_MD_areTwo, rs_L, md_finds0, md_finds1, md_finds2, md_finds3, md_finds4, md_finds5, md_finds6, mr_md E _, e3, eh, mm_pI_at, mm_pI_pI, mm_pI_2, mm_pL_1, mm_pL_at, mm_pL_pL, mm_pL_3, mm_pM_1, mm_pM_2, mm_pM_at, mm_pM_pM, mm_pI_pL, mm_pI_pM, mm_pL_pM, mm_pI_ne, mm_pL_ne, mm_pM_ne, mm_u_f, mm_u_at, mm_u_ne, Bool.false_eq_true, n_10, true_and, and_true, false_and, and_false, Nat.not_lt_zero, true_or, or_true, eq_self, mm_z, mm_rs, sw_xc_ite, sw_xv_ite, n_m1, Nat.lt_irrefl, not_false_eq_true, not_true_eq_false, inS_0, inS_1, ite_not, sw_xv_some, sw_xm_some, sw_xc_some, sw_xc_void, if_true, if_false, reduceIte, bI_0, bI_01, bI_1, nt_or, Nat.reduceAdd, n_add, n_mul, n_addL, n_Ladd, n_mulL, n_Lmul, n_sub, n_subL, n_lt, n_eq, n_ltL, n_Llt, n_eqL, n_Leq, n_nneg, n_pos]
