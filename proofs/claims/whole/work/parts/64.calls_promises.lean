/-! ===== public calls: promises, counts, images ===== -/
section INV2
variable {S : sw_S}
theorem Inv_image (h : Inv S) : Inv (mm_pM (mm_pL (mm_pI (mm_pM (mm_pL (mm_pI S 1 (S.1 0)) 1 (S.2.1 0)) 9 (upd (S.2.2 9) 0 1)) 4 (S.1 0)) 4 (S.2.1 0)) 21 (upd (S.2.2 21) 0 1)) := by
  obtain ⟨h1, h2, h3, h4, h5, h6, h7, h8, h9, h10, h11, h12, h13, h14, h15⟩ := h
  refine ⟨h1, h2, h3, h1, Or.inr rfl, rfl, fun _ => ⟨rfl, rfl⟩, h8, h9, h10, h11, h12, h13, h14, fun s hs => ?_⟩
  have := h15 s hs
  simp only [mm_pM_2, mm_pI_2]
  rw [mm_pL_ne _ _ (by omega), mm_pL_ne _ _ (by omega)]
  simp only [mm_pM_2, mm_pI_2]
  rw [mm_pL_ne _ _ (by omega), mm_pL_ne _ _ (by omega)]
  exact this
theorem Inv_tear (h : Inv S) : Inv (mm_pM (mm_pM S 9 (upd (S.2.2 9) 0 0)) 21 (upd (S.2.2 21) 0 0)) := by
  obtain ⟨h1, h2, h3, h4, h5, h6, h7, h8, h9, h10, h11, h12, h13, h14, h15⟩ := h
  exact ⟨h1, h2, h3, h4, Or.inl rfl, rfl, fun e => absurd e (show ¬ (0 : Int32) = 1 from by decide), h8, h9, h10, h11, h12, h13, h14, h15⟩
theorem Inv_wipe (h : Inv S) : Inv (mm_pM (mm_pM S 5 (upd (S.2.2 5) 0 0)) 25 (upd (S.2.2 25) 0 0)) := by
  obtain ⟨h1, h2, h3, h4, h5, h6, h7, h8, h9, h10, h11, h12, h13, h14, h15⟩ := h
  exact ⟨h1, h2, h3, h4, h5, h6, h7, h8, ⟨0, by decide, rfl, rfl⟩, h10, h11, h12, h13, h14, h15⟩
end INV2
set_option maxRecDepth 100000 in
set_option maxHeartbeats 4000000 in
theorem p_promise (E : sw_E) {S : sw_S} (hI : Inv S) (x : Int32) (y : Int32) (z : Int32) (w : Int32) (s : Int32) : AgI S (f_SW_promise E (.ref 0) (.int x) (.int y) (.int z) (.int w) (.int s)) (f_MD_promise E (.ref 71) (.int x) (.int y) (.int z) (.int w) (.int s)) := by
  have h03 : 0 < 3 := by decide
  have hT := hI.it
  have hB := hT.b
  have hn := hT.n
  have hp := hT.p
  have hk := hT.k
  have e3 : ∀ S1, MP S S1 → S1.1 3 = S.1 0 := fun S1 h => (h.1 3 (by decide)).trans hI.s3
  have eh : ∀ S1, MP S S1 → S1.2.1 3 = S.2.1 0 := fun S1 h => (h.2.1 3 (by decide)).trans hI.h3
  by_cases h1 : ok x (S.1 0 0 0) = true
  · by_cases h2 : ok y (S.1 0 0 0) = true
    · by_cases h3 : x = y
      · refine ag_find (v := -1000000001) 0 ?_ ?_ hI
        · simp (disch := first | omega | exact hB _ _ | exact hB3 | exact hI3 | assumption | decide) only [e_SW_promise, st_SW_promise, h2, h3, c_isKind, c_isUpTo, c_isSum, c_Phas E _ _ h03, c_Thas E _ _ h03, c_Khas E _ _ h03, e_SW_isPair, st_SW_isPair, e_People_isFull, st_People_isFull, e_Things_isFull, st_Things_isFull, e_Promises_isFull, st_Promises_isFull, e_Promises_isOpen, st_Promises_isOpen, c_tell0, c_tell1, c_tell2, c_tell3, c_tell4, c_tell5, c_tell6, mr_cl E _, mr_town E _ 0 h03, mm_pI_at, mm_pI_pI, mm_pI_2, mm_pL_1, mm_pL_at, mm_pL_pL, mm_pL_3, mm_pM_1, mm_pM_2, mm_pM_at, mm_pM_pM, mm_pI_pL, mm_pI_pM, mm_pL_pM, mm_pI_ne, mm_pL_ne, mm_pM_ne, mm_u_f, mm_u_at, mm_u_ne, Bool.false_eq_true, n_10, true_and, and_true, false_and, and_false, Nat.not_lt_zero, true_or, or_true, eq_self, mm_z, mm_rs, sw_xc_ite, sw_xv_ite, n_m1, Nat.lt_irrefl, not_false_eq_true, not_true_eq_false, inS_0, inS_1, ite_not, sw_xv_some, sw_xm_some, sw_xc_some, sw_xc_void, if_true, if_false, reduceIte, bI_0, bI_01, bI_1, nt_or, Nat.reduceAdd, n_add, n_mul, n_addL, n_Ladd, n_mulL, n_Lmul, n_sub, n_subL, n_lt, n_eq, n_ltL, n_Llt, n_eqL, n_Leq, n_nneg, n_pos]
        · intro S1 hM
          have e3 := e3 S1 hM
          have eh := eh S1 hM
          have hI3 : IT (S1.1 3) := by rw [e3]; exact hT
          have hB3 := hI3.b
          simp (disch := first | omega | exact hB _ _ | exact hB3 | exact hI3 | assumption | decide) only [e_MD_promise, st_MD_promise, h2, h3, in_ok, in_okS, md_isPersonX, md_isThingX, md_isPromiseX, e_MD_areTwo, st_MD_areTwo, rs_L, md_finds0, md_finds1, md_finds2, md_finds3, md_finds4, md_finds5, md_finds6, mr_md E _, e3, eh, mm_pI_at, mm_pI_pI, mm_pI_2, mm_pL_1, mm_pL_at, mm_pL_pL, mm_pL_3, mm_pM_1, mm_pM_2, mm_pM_at, mm_pM_pM, mm_pI_pL, mm_pI_pM, mm_pL_pM, mm_pI_ne, mm_pL_ne, mm_pM_ne, mm_u_f, mm_u_at, mm_u_ne, Bool.false_eq_true, n_10, true_and, and_true, false_and, and_false, Nat.not_lt_zero, true_or, or_true, eq_self, mm_z, mm_rs, sw_xc_ite, sw_xv_ite, n_m1, Nat.lt_irrefl, not_false_eq_true, not_true_eq_false, inS_0, inS_1, ite_not, sw_xv_some, sw_xm_some, sw_xc_some, sw_xc_void, if_true, if_false, reduceIte, bI_0, bI_01, bI_1, nt_or, Nat.reduceAdd, n_add, n_mul, n_addL, n_Ladd, n_mulL, n_Lmul, n_sub, n_subL, n_lt, n_eq, n_ltL, n_Llt, n_eqL, n_Leq, n_nneg, n_pos]
      · by_cases h4 : okS z = true
        · by_cases h5 : ok w (99 + 1) = true
          · by_cases h6 : ok s (2 ^ S.1 0 0 1) = true
            · obtain ⟨x, h1_, rfl⟩ := (ok_iff (by omega)).mp h1
              obtain ⟨y, h2_, rfl⟩ := (ok_iff (by omega)).mp h2
              obtain ⟨z, hz1, hz2, rfl⟩ := okS_iff.mp h4
              obtain ⟨w, h5_, rfl⟩ := (ok_iff (by omega)).mp h5
              have hne : ¬ x = y := fun e => h3 (by rw [e])
              have hx10 : x < 10 := by omega
              have hy10 : y < 10 := by omega
              have hwa : tw_wa (S.1 0) s y (S.1 0 0 5) ≤ 176000 := tw_wa_le hT hT.part
              have hm : ∀ i, i < S.1 0 0 1 → inS s i = true → tw_may (S.1 0) s = true → S.1 0 7 i < 6 := fun i hi hs hmay => by
                unfold tw_may at hmay
                rw [decide_eq_true_eq] at hmay
                have := hmay i hi
                rw [hs] at this
                simp at this
                exact this.2
              have cH := c_Town_holdsAll E S 0 h03 hT (p := x) (by omega) s
              have cM := c_Town_mayPassAll E S 0 h03 hT s
              have cW := c_Town_worthOfAll E S 0 h03 hT s hy10 hT.part
              by_cases h7 : tw_hold (S.1 0) x s = true
              · by_cases h8 : tw_may (S.1 0) s = true
                · by_cases h9 : tw_wa (S.1 0) s y (S.1 0 0 5) < z
                  · refine ag_find (v := -1000000007) 6 ?_ ?_ hI
                    · simp (disch := first | omega | exact hB _ _ | exact hB3 | exact hI3 | assumption | decide) only [e_SW_promise, st_SW_promise, h1, h2, hne, h4, h5, c_Thasall E _ _ h03 hn, h6, cH, cM, cW, h7, h8, h9, c_isKind, c_isUpTo, c_isSum, c_Phas E _ _ h03, c_Thas E _ _ h03, c_Khas E _ _ h03, e_SW_isPair, st_SW_isPair, e_People_isFull, st_People_isFull, e_Things_isFull, st_Things_isFull, e_Promises_isFull, st_Promises_isFull, e_Promises_isOpen, st_Promises_isOpen, c_tell0, c_tell1, c_tell2, c_tell3, c_tell4, c_tell5, c_tell6, mr_cl E _, mr_town E _ 0 h03, mm_pI_at, mm_pI_pI, mm_pI_2, mm_pL_1, mm_pL_at, mm_pL_pL, mm_pL_3, mm_pM_1, mm_pM_2, mm_pM_at, mm_pM_pM, mm_pI_pL, mm_pI_pM, mm_pL_pM, mm_pI_ne, mm_pL_ne, mm_pM_ne, mm_u_f, mm_u_at, mm_u_ne, Bool.false_eq_true, n_10, true_and, and_true, false_and, and_false, Nat.not_lt_zero, true_or, or_true, eq_self, mm_z, mm_rs, sw_xc_ite, sw_xv_ite, n_m1, Nat.lt_irrefl, not_false_eq_true, not_true_eq_false, inS_0, inS_1, ite_not, sw_xv_some, sw_xm_some, sw_xc_some, sw_xc_void, if_true, if_false, reduceIte, bI_0, bI_01, bI_1, nt_or, Nat.reduceAdd, n_add, n_mul, n_addL, n_Ladd, n_mulL, n_Lmul, n_sub, n_subL, n_lt, n_eq, n_ltL, n_Llt, n_eqL, n_Leq, n_nneg, n_pos]
                    · intro S1 hM
                      have e3 := e3 S1 hM
                      have eh := eh S1 hM
                      have hI3 : IT (S1.1 3) := by rw [e3]; exact hT
                      have hB3 := hI3.b
                      have q0 := md_prom0 E S1 hI3 (p := x) (by omega) s (.int (nI y)) (.int (nI z)) (.int (nI w)) sw_J sw_J sw_J
                      rw [e3] at q0
                      simp (disch := first | omega | exact hB _ _ | exact hB3 | exact hI3 | assumption | decide) only [e_MD_promise, st_MD_promise, h1, h2, hne, h4, h5, md_isSet E _ _ hB3 hI3.n, h6, q0, md_countsAll E _ hI3 _ hy10, h7, h8, h9, in_ok, in_okS, md_isPersonX, md_isThingX, md_isPromiseX, e_MD_areTwo, st_MD_areTwo, rs_L, md_finds0, md_finds1, md_finds2, md_finds3, md_finds4, md_finds5, md_finds6, mr_md E _, e3, eh, mm_pI_at, mm_pI_pI, mm_pI_2, mm_pL_1, mm_pL_at, mm_pL_pL, mm_pL_3, mm_pM_1, mm_pM_2, mm_pM_at, mm_pM_pM, mm_pI_pL, mm_pI_pM, mm_pL_pM, mm_pI_ne, mm_pL_ne, mm_pM_ne, mm_u_f, mm_u_at, mm_u_ne, Bool.false_eq_true, n_10, true_and, and_true, false_and, and_false, Nat.not_lt_zero, true_or, or_true, eq_self, mm_z, mm_rs, sw_xc_ite, sw_xv_ite, n_m1, Nat.lt_irrefl, not_false_eq_true, not_true_eq_false, inS_0, inS_1, ite_not, sw_xv_some, sw_xm_some, sw_xc_some, sw_xc_void, if_true, if_false, reduceIte, bI_0, bI_01, bI_1, nt_or, Nat.reduceAdd, n_add, n_mul, n_addL, n_Ladd, n_mulL, n_Lmul, n_sub, n_subL, n_lt, n_eq, n_ltL, n_Llt, n_eqL, n_Leq, n_nneg, n_pos]
                  · by_cases h10 : S.1 0 0 2 < 24
                    · have hd : S.1 0 0 3 ≤ 999 := hT.day
                      have hK := IT_newK hT (a := x) (b := y) (s := z) (d := S.1 0 0 3 + w) h1_ h2_ hne hz2 (by omega) h10
                      have e02 : tw_newK (S.1 0) x y z (S.1 0 0 3 + w) 0 2 = S.1 0 0 2 + 1 := by simp [tw_newK, mm_u]
                      have e01 : tw_newK (S.1 0) x y z (S.1 0 0 3 + w) 0 1 = S.1 0 0 1 := by simp [tw_newK, mm_u]
                      have e7 : tw_newK (S.1 0) x y z (S.1 0 0 3 + w) 7 = S.1 0 7 := by funext i; simp [tw_newK, mm_u]
                      have e8 : tw_newK (S.1 0) x y z (S.1 0 0 3 + w) 8 = S.1 0 8 := by funext i; simp [tw_newK, mm_u]
                      have e10 : tw_newK (S.1 0) x y z (S.1 0 0 3 + w) 10 (S.1 0 0 2) = y := by simp [tw_newK, mm_u]
                      have hkk : S.1 0 0 2 < tw_newK (S.1 0) x y z (S.1 0 0 3 + w) 0 2 := by omega
                      have hll : ∀ i, i < tw_newK (S.1 0) x y z (S.1 0 0 3 + w) 0 1 → inS s i = true → tw_newK (S.1 0) x y z (S.1 0 0 3 + w) 7 i < 6 := fun i hi hs => by
                        rw [e01] at hi
                        rw [e7]
                        exact hm i hi hs h8
                      have cP := c_Town_putBehind E (mm_pI S 0 (tw_newK (S.1 0) x y z (S.1 0 0 3 + w))) (t := 0) h03 (by rw [mm_pI_at]; exact hK) (k := S.1 0 0 2) (by rw [mm_pI_at]; exact hkk) s (by rw [mm_pI_at]; exact hll)
                      rw [mm_pI_at, mm_pI_pI] at cP
                      simp only [tw_newK] at cP
                      have hfull : ¬ S.1 0 0 2 = 24 := by omega
                      refine ag_town0 (T := tw_pb (tw_newK (S.1 0) x y z (S.1 0 0 3 + w)) (S.1 0 0 2) s) (v := nI (S.1 0 0 2)) ?_ ?_ hI (IT_pb hK hkk hll ?_).1
                      · simp (disch := first | omega | exact hB _ _ | exact hB3 | exact hI3 | assumption | decide) only [e_SW_promise, st_SW_promise, h1, h2, hne, h4, h5, c_Thasall E _ _ h03 hn, h6, cH, cM, cW, h7, h8, h9, h10, e_Promises_enter, st_Promises_enter, mw_t13 _ h03, mw_t14 _ h03, mw_t15 _ h03, mw_t16 _ h03, mw_t17L _ h03, mw_t12_5 _ h03, Nat.add_sub_cancel, cP, tw_newK, c_isKind, c_isUpTo, c_isSum, c_Phas E _ _ h03, c_Thas E _ _ h03, c_Khas E _ _ h03, e_SW_isPair, st_SW_isPair, e_People_isFull, st_People_isFull, e_Things_isFull, st_Things_isFull, e_Promises_isFull, st_Promises_isFull, e_Promises_isOpen, st_Promises_isOpen, c_tell0, c_tell1, c_tell2, c_tell3, c_tell4, c_tell5, c_tell6, mr_cl E _, mr_town E _ 0 h03, mm_pI_at, mm_pI_pI, mm_pI_2, mm_pL_1, mm_pL_at, mm_pL_pL, mm_pL_3, mm_pM_1, mm_pM_2, mm_pM_at, mm_pM_pM, mm_pI_pL, mm_pI_pM, mm_pL_pM, mm_pI_ne, mm_pL_ne, mm_pM_ne, mm_u_f, mm_u_at, mm_u_ne, Bool.false_eq_true, n_10, true_and, and_true, false_and, and_false, Nat.not_lt_zero, true_or, or_true, eq_self, mm_z, mm_rs, sw_xc_ite, sw_xv_ite, n_m1, Nat.lt_irrefl, not_false_eq_true, not_true_eq_false, inS_0, inS_1, ite_not, sw_xv_some, sw_xm_some, sw_xc_some, sw_xc_void, if_true, if_false, reduceIte, bI_0, bI_01, bI_1, nt_or, Nat.reduceAdd, n_add, n_mul, n_addL, n_Ladd, n_mulL, n_Lmul, n_sub, n_subL, n_lt, n_eq, n_ltL, n_Llt, n_eqL, n_Leq, n_nneg, n_pos]
                      · intro S1 hM
                        have e3 := e3 S1 hM
                        have eh := eh S1 hM
                        have hI3 : IT (S1.1 3) := by rw [e3]; exact hT
                        have hB3 := hI3.b
                        have q0 := md_prom0 E S1 hI3 (p := x) (by omega) s (.int (nI y)) (.int (nI z)) (.int (nI w)) sw_J sw_J sw_J
                        rw [e3] at q0
                        have q1 := fun a6 a7 => md_prom1 E (mm_pI S1 3 (tw_newK (S.1 0) x y z (S.1 0 0 3 + w))) (by rw [mm_pI_at]; exact hK) (k := S.1 0 0 2) (by rw [mm_pI_at]; exact hkk) s (by rw [mm_pI_at]; exact hll) (.int (nI x)) (.int (nI z)) (.int (nI w)) a6 a7 (.int (nI (208 + 5 * S.1 0 0 2))) sw_J
                        simp only [mm_pI_at, mm_pI_pI, e10] at q1
                        have hk24 : S.1 0 0 2 < 24 := h10
                        simp only [tw_newK] at q1
                        simp (disch := first | omega | exact hB _ _ | exact hB3 | exact hI3 | assumption | decide) only [e_MD_promise, st_MD_promise, h1, h2, hne, h4, h5, md_isSet E _ _ hB3 hI3.n, h6, q0, md_countsAll E _ hI3 _ hy10, h7, h8, h9, hfull, ws_p _ hk24, ws_pL _ hk24, ws_L, q1, tw_newK, in_ok, in_okS, md_isPersonX, md_isThingX, md_isPromiseX, e_MD_areTwo, st_MD_areTwo, rs_L, md_finds0, md_finds1, md_finds2, md_finds3, md_finds4, md_finds5, md_finds6, mr_md E _, e3, eh, mm_pI_at, mm_pI_pI, mm_pI_2, mm_pL_1, mm_pL_at, mm_pL_pL, mm_pL_3, mm_pM_1, mm_pM_2, mm_pM_at, mm_pM_pM, mm_pI_pL, mm_pI_pM, mm_pL_pM, mm_pI_ne, mm_pL_ne, mm_pM_ne, mm_u_f, mm_u_at, mm_u_ne, Bool.false_eq_true, n_10, true_and, and_true, false_and, and_false, Nat.not_lt_zero, true_or, or_true, eq_self, mm_z, mm_rs, sw_xc_ite, sw_xv_ite, n_m1, Nat.lt_irrefl, not_false_eq_true, not_true_eq_false, inS_0, inS_1, ite_not, sw_xv_some, sw_xm_some, sw_xc_some, sw_xc_void, if_true, if_false, reduceIte, bI_0, bI_01, bI_1, nt_or, Nat.reduceAdd, n_add, n_mul, n_addL, n_Ladd, n_mulL, n_Lmul, n_sub, n_subL, n_lt, n_eq, n_ltL, n_Llt, n_eqL, n_Leq, n_nneg, n_pos]
                      · intro i hi j hj
                        rw [e01] at hi
                        rw [e7] at hj
                        rw [e8]
                        have := (hT.th i hi).2.2.2.2.2.1 j hj
                        omega
                    · have hfull : S.1 0 0 2 = 24 := by omega
                      refine ag_find (v := -1000000002) 1 ?_ ?_ hI
                      · simp (disch := first | omega | exact hB _ _ | exact hB3 | exact hI3 | assumption | decide) only [e_SW_promise, st_SW_promise, h1, h2, hne, h4, h5, c_Thasall E _ _ h03 hn, h6, cH, cM, cW, h7, h8, h9, h10, c_isKind, c_isUpTo, c_isSum, c_Phas E _ _ h03, c_Thas E _ _ h03, c_Khas E _ _ h03, e_SW_isPair, st_SW_isPair, e_People_isFull, st_People_isFull, e_Things_isFull, st_Things_isFull, e_Promises_isFull, st_Promises_isFull, e_Promises_isOpen, st_Promises_isOpen, c_tell0, c_tell1, c_tell2, c_tell3, c_tell4, c_tell5, c_tell6, mr_cl E _, mr_town E _ 0 h03, mm_pI_at, mm_pI_pI, mm_pI_2, mm_pL_1, mm_pL_at, mm_pL_pL, mm_pL_3, mm_pM_1, mm_pM_2, mm_pM_at, mm_pM_pM, mm_pI_pL, mm_pI_pM, mm_pL_pM, mm_pI_ne, mm_pL_ne, mm_pM_ne, mm_u_f, mm_u_at, mm_u_ne, Bool.false_eq_true, n_10, true_and, and_true, false_and, and_false, Nat.not_lt_zero, true_or, or_true, eq_self, mm_z, mm_rs, sw_xc_ite, sw_xv_ite, n_m1, Nat.lt_irrefl, not_false_eq_true, not_true_eq_false, inS_0, inS_1, ite_not, sw_xv_some, sw_xm_some, sw_xc_some, sw_xc_void, if_true, if_false, reduceIte, bI_0, bI_01, bI_1, nt_or, Nat.reduceAdd, n_add, n_mul, n_addL, n_Ladd, n_mulL, n_Lmul, n_sub, n_subL, n_lt, n_eq, n_ltL, n_Llt, n_eqL, n_Leq, n_nneg, n_pos]
                      · intro S1 hM
                        have e3 := e3 S1 hM
                        have eh := eh S1 hM
                        have hI3 : IT (S1.1 3) := by rw [e3]; exact hT
                        have hB3 := hI3.b
                        have q0 := md_prom0 E S1 hI3 (p := x) (by omega) s (.int (nI y)) (.int (nI z)) (.int (nI w)) sw_J sw_J sw_J
                        rw [e3] at q0
                        simp (disch := first | omega | exact hB _ _ | exact hB3 | exact hI3 | assumption | decide) only [e_MD_promise, st_MD_promise, h1, h2, hne, h4, h5, md_isSet E _ _ hB3 hI3.n, h6, q0, md_countsAll E _ hI3 _ hy10, h7, h8, h9, hfull, in_ok, in_okS, md_isPersonX, md_isThingX, md_isPromiseX, e_MD_areTwo, st_MD_areTwo, rs_L, md_finds0, md_finds1, md_finds2, md_finds3, md_finds4, md_finds5, md_finds6, mr_md E _, e3, eh, mm_pI_at, mm_pI_pI, mm_pI_2, mm_pL_1, mm_pL_at, mm_pL_pL, mm_pL_3, mm_pM_1, mm_pM_2, mm_pM_at, mm_pM_pM, mm_pI_pL, mm_pI_pM, mm_pL_pM, mm_pI_ne, mm_pL_ne, mm_pM_ne, mm_u_f, mm_u_at, mm_u_ne, Bool.false_eq_true, n_10, true_and, and_true, false_and, and_false, Nat.not_lt_zero, true_or, or_true, eq_self, mm_z, mm_rs, sw_xc_ite, sw_xv_ite, n_m1, Nat.lt_irrefl, not_false_eq_true, not_true_eq_false, inS_0, inS_1, ite_not, sw_xv_some, sw_xm_some, sw_xc_some, sw_xc_void, if_true, if_false, reduceIte, bI_0, bI_01, bI_1, nt_or, Nat.reduceAdd, n_add, n_mul, n_addL, n_Ladd, n_mulL, n_Lmul, n_sub, n_subL, n_lt, n_eq, n_ltL, n_Llt, n_eqL, n_Leq, n_nneg, n_pos]
                · refine ag_find (v := -1000000003) 2 ?_ ?_ hI
                  · simp (disch := first | omega | exact hB _ _ | exact hB3 | exact hI3 | assumption | decide) only [e_SW_promise, st_SW_promise, h1, h2, hne, h4, h5, c_Thasall E _ _ h03 hn, h6, cH, cM, cW, h7, h8, c_isKind, c_isUpTo, c_isSum, c_Phas E _ _ h03, c_Thas E _ _ h03, c_Khas E _ _ h03, e_SW_isPair, st_SW_isPair, e_People_isFull, st_People_isFull, e_Things_isFull, st_Things_isFull, e_Promises_isFull, st_Promises_isFull, e_Promises_isOpen, st_Promises_isOpen, c_tell0, c_tell1, c_tell2, c_tell3, c_tell4, c_tell5, c_tell6, mr_cl E _, mr_town E _ 0 h03, mm_pI_at, mm_pI_pI, mm_pI_2, mm_pL_1, mm_pL_at, mm_pL_pL, mm_pL_3, mm_pM_1, mm_pM_2, mm_pM_at, mm_pM_pM, mm_pI_pL, mm_pI_pM, mm_pL_pM, mm_pI_ne, mm_pL_ne, mm_pM_ne, mm_u_f, mm_u_at, mm_u_ne, Bool.false_eq_true, n_10, true_and, and_true, false_and, and_false, Nat.not_lt_zero, true_or, or_true, eq_self, mm_z, mm_rs, sw_xc_ite, sw_xv_ite, n_m1, Nat.lt_irrefl, not_false_eq_true, not_true_eq_false, inS_0, inS_1, ite_not, sw_xv_some, sw_xm_some, sw_xc_some, sw_xc_void, if_true, if_false, reduceIte, bI_0, bI_01, bI_1, nt_or, Nat.reduceAdd, n_add, n_mul, n_addL, n_Ladd, n_mulL, n_Lmul, n_sub, n_subL, n_lt, n_eq, n_ltL, n_Llt, n_eqL, n_Leq, n_nneg, n_pos]
                  · intro S1 hM
                    have e3 := e3 S1 hM
                    have eh := eh S1 hM
                    have hI3 : IT (S1.1 3) := by rw [e3]; exact hT
                    have hB3 := hI3.b
                    have q0 := md_prom0 E S1 hI3 (p := x) (by omega) s (.int (nI y)) (.int (nI z)) (.int (nI w)) sw_J sw_J sw_J
                    rw [e3] at q0
                    simp (disch := first | omega | exact hB _ _ | exact hB3 | exact hI3 | assumption | decide) only [e_MD_promise, st_MD_promise, h1, h2, hne, h4, h5, md_isSet E _ _ hB3 hI3.n, h6, q0, h7, h8, in_ok, in_okS, md_isPersonX, md_isThingX, md_isPromiseX, e_MD_areTwo, st_MD_areTwo, rs_L, md_finds0, md_finds1, md_finds2, md_finds3, md_finds4, md_finds5, md_finds6, mr_md E _, e3, eh, mm_pI_at, mm_pI_pI, mm_pI_2, mm_pL_1, mm_pL_at, mm_pL_pL, mm_pL_3, mm_pM_1, mm_pM_2, mm_pM_at, mm_pM_pM, mm_pI_pL, mm_pI_pM, mm_pL_pM, mm_pI_ne, mm_pL_ne, mm_pM_ne, mm_u_f, mm_u_at, mm_u_ne, Bool.false_eq_true, n_10, true_and, and_true, false_and, and_false, Nat.not_lt_zero, true_or, or_true, eq_self, mm_z, mm_rs, sw_xc_ite, sw_xv_ite, n_m1, Nat.lt_irrefl, not_false_eq_true, not_true_eq_false, inS_0, inS_1, ite_not, sw_xv_some, sw_xm_some, sw_xc_some, sw_xc_void, if_true, if_false, reduceIte, bI_0, bI_01, bI_1, nt_or, Nat.reduceAdd, n_add, n_mul, n_addL, n_Ladd, n_mulL, n_Lmul, n_sub, n_subL, n_lt, n_eq, n_ltL, n_Llt, n_eqL, n_Leq, n_nneg, n_pos]
              · refine ag_find (v := -1000000005) 4 ?_ ?_ hI
                · simp (disch := first | omega | exact hB _ _ | exact hB3 | exact hI3 | assumption | decide) only [e_SW_promise, st_SW_promise, h1, h2, hne, h4, h5, c_Thasall E _ _ h03 hn, h6, cH, cM, cW, h7, c_isKind, c_isUpTo, c_isSum, c_Phas E _ _ h03, c_Thas E _ _ h03, c_Khas E _ _ h03, e_SW_isPair, st_SW_isPair, e_People_isFull, st_People_isFull, e_Things_isFull, st_Things_isFull, e_Promises_isFull, st_Promises_isFull, e_Promises_isOpen, st_Promises_isOpen, c_tell0, c_tell1, c_tell2, c_tell3, c_tell4, c_tell5, c_tell6, mr_cl E _, mr_town E _ 0 h03, mm_pI_at, mm_pI_pI, mm_pI_2, mm_pL_1, mm_pL_at, mm_pL_pL, mm_pL_3, mm_pM_1, mm_pM_2, mm_pM_at, mm_pM_pM, mm_pI_pL, mm_pI_pM, mm_pL_pM, mm_pI_ne, mm_pL_ne, mm_pM_ne, mm_u_f, mm_u_at, mm_u_ne, Bool.false_eq_true, n_10, true_and, and_true, false_and, and_false, Nat.not_lt_zero, true_or, or_true, eq_self, mm_z, mm_rs, sw_xc_ite, sw_xv_ite, n_m1, Nat.lt_irrefl, not_false_eq_true, not_true_eq_false, inS_0, inS_1, ite_not, sw_xv_some, sw_xm_some, sw_xc_some, sw_xc_void, if_true, if_false, reduceIte, bI_0, bI_01, bI_1, nt_or, Nat.reduceAdd, n_add, n_mul, n_addL, n_Ladd, n_mulL, n_Lmul, n_sub, n_subL, n_lt, n_eq, n_ltL, n_Llt, n_eqL, n_Leq, n_nneg, n_pos]
                · intro S1 hM
                  have e3 := e3 S1 hM
                  have eh := eh S1 hM
                  have hI3 : IT (S1.1 3) := by rw [e3]; exact hT
                  have hB3 := hI3.b
                  have q0 := md_prom0 E S1 hI3 (p := x) (by omega) s (.int (nI y)) (.int (nI z)) (.int (nI w)) sw_J sw_J sw_J
                  rw [e3] at q0
                  simp (disch := first | omega | exact hB _ _ | exact hB3 | exact hI3 | assumption | decide) only [e_MD_promise, st_MD_promise, h1, h2, hne, h4, h5, md_isSet E _ _ hB3 hI3.n, h6, q0, h7, in_ok, in_okS, md_isPersonX, md_isThingX, md_isPromiseX, e_MD_areTwo, st_MD_areTwo, rs_L, md_finds0, md_finds1, md_finds2, md_finds3, md_finds4, md_finds5, md_finds6, mr_md E _, e3, eh, mm_pI_at, mm_pI_pI, mm_pI_2, mm_pL_1, mm_pL_at, mm_pL_pL, mm_pL_3, mm_pM_1, mm_pM_2, mm_pM_at, mm_pM_pM, mm_pI_pL, mm_pI_pM, mm_pL_pM, mm_pI_ne, mm_pL_ne, mm_pM_ne, mm_u_f, mm_u_at, mm_u_ne, Bool.false_eq_true, n_10, true_and, and_true, false_and, and_false, Nat.not_lt_zero, true_or, or_true, eq_self, mm_z, mm_rs, sw_xc_ite, sw_xv_ite, n_m1, Nat.lt_irrefl, not_false_eq_true, not_true_eq_false, inS_0, inS_1, ite_not, sw_xv_some, sw_xm_some, sw_xc_some, sw_xc_void, if_true, if_false, reduceIte, bI_0, bI_01, bI_1, nt_or, Nat.reduceAdd, n_add, n_mul, n_addL, n_Ladd, n_mulL, n_Lmul, n_sub, n_subL, n_lt, n_eq, n_ltL, n_Llt, n_eqL, n_Leq, n_nneg, n_pos]
            · refine ag_find (v := -1000000001) 0 ?_ ?_ hI
              · simp (disch := first | omega | exact hB _ _ | exact hB3 | exact hI3 | assumption | decide) only [e_SW_promise, st_SW_promise, h1, h2, h3, h4, h5, h6, c_Thasall E _ _ h03 hn, c_isKind, c_isUpTo, c_isSum, c_Phas E _ _ h03, c_Thas E _ _ h03, c_Khas E _ _ h03, e_SW_isPair, st_SW_isPair, e_People_isFull, st_People_isFull, e_Things_isFull, st_Things_isFull, e_Promises_isFull, st_Promises_isFull, e_Promises_isOpen, st_Promises_isOpen, c_tell0, c_tell1, c_tell2, c_tell3, c_tell4, c_tell5, c_tell6, mr_cl E _, mr_town E _ 0 h03, mm_pI_at, mm_pI_pI, mm_pI_2, mm_pL_1, mm_pL_at, mm_pL_pL, mm_pL_3, mm_pM_1, mm_pM_2, mm_pM_at, mm_pM_pM, mm_pI_pL, mm_pI_pM, mm_pL_pM, mm_pI_ne, mm_pL_ne, mm_pM_ne, mm_u_f, mm_u_at, mm_u_ne, Bool.false_eq_true, n_10, true_and, and_true, false_and, and_false, Nat.not_lt_zero, true_or, or_true, eq_self, mm_z, mm_rs, sw_xc_ite, sw_xv_ite, n_m1, Nat.lt_irrefl, not_false_eq_true, not_true_eq_false, inS_0, inS_1, ite_not, sw_xv_some, sw_xm_some, sw_xc_some, sw_xc_void, if_true, if_false, reduceIte, bI_0, bI_01, bI_1, nt_or, Nat.reduceAdd, n_add, n_mul, n_addL, n_Ladd, n_mulL, n_Lmul, n_sub, n_subL, n_lt, n_eq, n_ltL, n_Llt, n_eqL, n_Leq, n_nneg, n_pos]
              · intro S1 hM
                have e3 := e3 S1 hM
                have eh := eh S1 hM
                have hI3 : IT (S1.1 3) := by rw [e3]; exact hT
                have hB3 := hI3.b
                simp (disch := first | omega | exact hB _ _ | exact hB3 | exact hI3 | assumption | decide) only [e_MD_promise, st_MD_promise, h1, h2, h3, h4, h5, h6, md_isSet E _ _ hB3 hI3.n, in_ok, in_okS, md_isPersonX, md_isThingX, md_isPromiseX, e_MD_areTwo, st_MD_areTwo, rs_L, md_finds0, md_finds1, md_finds2, md_finds3, md_finds4, md_finds5, md_finds6, mr_md E _, e3, eh, mm_pI_at, mm_pI_pI, mm_pI_2, mm_pL_1, mm_pL_at, mm_pL_pL, mm_pL_3, mm_pM_1, mm_pM_2, mm_pM_at, mm_pM_pM, mm_pI_pL, mm_pI_pM, mm_pL_pM, mm_pI_ne, mm_pL_ne, mm_pM_ne, mm_u_f, mm_u_at, mm_u_ne, Bool.false_eq_true, n_10, true_and, and_true, false_and, and_false, Nat.not_lt_zero, true_or, or_true, eq_self, mm_z, mm_rs, sw_xc_ite, sw_xv_ite, n_m1, Nat.lt_irrefl, not_false_eq_true, not_true_eq_false, inS_0, inS_1, ite_not, sw_xv_some, sw_xm_some, sw_xc_some, sw_xc_void, if_true, if_false, reduceIte, bI_0, bI_01, bI_1, nt_or, Nat.reduceAdd, n_add, n_mul, n_addL, n_Ladd, n_mulL, n_Lmul, n_sub, n_subL, n_lt, n_eq, n_ltL, n_Llt, n_eqL, n_Leq, n_nneg, n_pos]
          · refine ag_find (v := -1000000001) 0 ?_ ?_ hI
            · simp (disch := first | omega | exact hB _ _ | exact hB3 | exact hI3 | assumption | decide) only [e_SW_promise, st_SW_promise, h1, h2, h3, h4, h5, c_isKind, c_isUpTo, c_isSum, c_Phas E _ _ h03, c_Thas E _ _ h03, c_Khas E _ _ h03, e_SW_isPair, st_SW_isPair, e_People_isFull, st_People_isFull, e_Things_isFull, st_Things_isFull, e_Promises_isFull, st_Promises_isFull, e_Promises_isOpen, st_Promises_isOpen, c_tell0, c_tell1, c_tell2, c_tell3, c_tell4, c_tell5, c_tell6, mr_cl E _, mr_town E _ 0 h03, mm_pI_at, mm_pI_pI, mm_pI_2, mm_pL_1, mm_pL_at, mm_pL_pL, mm_pL_3, mm_pM_1, mm_pM_2, mm_pM_at, mm_pM_pM, mm_pI_pL, mm_pI_pM, mm_pL_pM, mm_pI_ne, mm_pL_ne, mm_pM_ne, mm_u_f, mm_u_at, mm_u_ne, Bool.false_eq_true, n_10, true_and, and_true, false_and, and_false, Nat.not_lt_zero, true_or, or_true, eq_self, mm_z, mm_rs, sw_xc_ite, sw_xv_ite, n_m1, Nat.lt_irrefl, not_false_eq_true, not_true_eq_false, inS_0, inS_1, ite_not, sw_xv_some, sw_xm_some, sw_xc_some, sw_xc_void, if_true, if_false, reduceIte, bI_0, bI_01, bI_1, nt_or, Nat.reduceAdd, n_add, n_mul, n_addL, n_Ladd, n_mulL, n_Lmul, n_sub, n_subL, n_lt, n_eq, n_ltL, n_Llt, n_eqL, n_Leq, n_nneg, n_pos]
            · intro S1 hM
              have e3 := e3 S1 hM
              have eh := eh S1 hM
              have hI3 : IT (S1.1 3) := by rw [e3]; exact hT
              have hB3 := hI3.b
              simp (disch := first | omega | exact hB _ _ | exact hB3 | exact hI3 | assumption | decide) only [e_MD_promise, st_MD_promise, h1, h2, h3, h4, h5, in_ok, in_okS, md_isPersonX, md_isThingX, md_isPromiseX, e_MD_areTwo, st_MD_areTwo, rs_L, md_finds0, md_finds1, md_finds2, md_finds3, md_finds4, md_finds5, md_finds6, mr_md E _, e3, eh, mm_pI_at, mm_pI_pI, mm_pI_2, mm_pL_1, mm_pL_at, mm_pL_pL, mm_pL_3, mm_pM_1, mm_pM_2, mm_pM_at, mm_pM_pM, mm_pI_pL, mm_pI_pM, mm_pL_pM, mm_pI_ne, mm_pL_ne, mm_pM_ne, mm_u_f, mm_u_at, mm_u_ne, Bool.false_eq_true, n_10, true_and, and_true, false_and, and_false, Nat.not_lt_zero, true_or, or_true, eq_self, mm_z, mm_rs, sw_xc_ite, sw_xv_ite, n_m1, Nat.lt_irrefl, not_false_eq_true, not_true_eq_false, inS_0, inS_1, ite_not, sw_xv_some, sw_xm_some, sw_xc_some, sw_xc_void, if_true, if_false, reduceIte, bI_0, bI_01, bI_1, nt_or, Nat.reduceAdd, n_add, n_mul, n_addL, n_Ladd, n_mulL, n_Lmul, n_sub, n_subL, n_lt, n_eq, n_ltL, n_Llt, n_eqL, n_Leq, n_nneg, n_pos]
        · refine ag_find (v := -1000000001) 0 ?_ ?_ hI
          · simp (disch := first | omega | exact hB _ _ | exact hB3 | exact hI3 | assumption | decide) only [e_SW_promise, st_SW_promise, h1, h2, h3, h4, c_isKind, c_isUpTo, c_isSum, c_Phas E _ _ h03, c_Thas E _ _ h03, c_Khas E _ _ h03, e_SW_isPair, st_SW_isPair, e_People_isFull, st_People_isFull, e_Things_isFull, st_Things_isFull, e_Promises_isFull, st_Promises_isFull, e_Promises_isOpen, st_Promises_isOpen, c_tell0, c_tell1, c_tell2, c_tell3, c_tell4, c_tell5, c_tell6, mr_cl E _, mr_town E _ 0 h03, mm_pI_at, mm_pI_pI, mm_pI_2, mm_pL_1, mm_pL_at, mm_pL_pL, mm_pL_3, mm_pM_1, mm_pM_2, mm_pM_at, mm_pM_pM, mm_pI_pL, mm_pI_pM, mm_pL_pM, mm_pI_ne, mm_pL_ne, mm_pM_ne, mm_u_f, mm_u_at, mm_u_ne, Bool.false_eq_true, n_10, true_and, and_true, false_and, and_false, Nat.not_lt_zero, true_or, or_true, eq_self, mm_z, mm_rs, sw_xc_ite, sw_xv_ite, n_m1, Nat.lt_irrefl, not_false_eq_true, not_true_eq_false, inS_0, inS_1, ite_not, sw_xv_some, sw_xm_some, sw_xc_some, sw_xc_void, if_true, if_false, reduceIte, bI_0, bI_01, bI_1, nt_or, Nat.reduceAdd, n_add, n_mul, n_addL, n_Ladd, n_mulL, n_Lmul, n_sub, n_subL, n_lt, n_eq, n_ltL, n_Llt, n_eqL, n_Leq, n_nneg, n_pos]
          · intro S1 hM
            have e3 := e3 S1 hM
            have eh := eh S1 hM
            have hI3 : IT (S1.1 3) := by rw [e3]; exact hT
            have hB3 := hI3.b
            simp (disch := first | omega | exact hB _ _ | exact hB3 | exact hI3 | assumption | decide) only [e_MD_promise, st_MD_promise, h1, h2, h3, h4, in_ok, in_okS, md_isPersonX, md_isThingX, md_isPromiseX, e_MD_areTwo, st_MD_areTwo, rs_L, md_finds0, md_finds1, md_finds2, md_finds3, md_finds4, md_finds5, md_finds6, mr_md E _, e3, eh, mm_pI_at, mm_pI_pI, mm_pI_2, mm_pL_1, mm_pL_at, mm_pL_pL, mm_pL_3, mm_pM_1, mm_pM_2, mm_pM_at, mm_pM_pM, mm_pI_pL, mm_pI_pM, mm_pL_pM, mm_pI_ne, mm_pL_ne, mm_pM_ne, mm_u_f, mm_u_at, mm_u_ne, Bool.false_eq_true, n_10, true_and, and_true, false_and, and_false, Nat.not_lt_zero, true_or, or_true, eq_self, mm_z, mm_rs, sw_xc_ite, sw_xv_ite, n_m1, Nat.lt_irrefl, not_false_eq_true, not_true_eq_false, inS_0, inS_1, ite_not, sw_xv_some, sw_xm_some, sw_xc_some, sw_xc_void, if_true, if_false, reduceIte, bI_0, bI_01, bI_1, nt_or, Nat.reduceAdd, n_add, n_mul, n_addL, n_Ladd, n_mulL, n_Lmul, n_sub, n_subL, n_lt, n_eq, n_ltL, n_Llt, n_eqL, n_Leq, n_nneg, n_pos]
    · refine ag_find (v := -1000000001) 0 ?_ ?_ hI
      · simp (disch := first | omega | exact hB _ _ | exact hB3 | exact hI3 | assumption | decide) only [e_SW_promise, st_SW_promise, h1, h2, c_isKind, c_isUpTo, c_isSum, c_Phas E _ _ h03, c_Thas E _ _ h03, c_Khas E _ _ h03, e_SW_isPair, st_SW_isPair, e_People_isFull, st_People_isFull, e_Things_isFull, st_Things_isFull, e_Promises_isFull, st_Promises_isFull, e_Promises_isOpen, st_Promises_isOpen, c_tell0, c_tell1, c_tell2, c_tell3, c_tell4, c_tell5, c_tell6, mr_cl E _, mr_town E _ 0 h03, mm_pI_at, mm_pI_pI, mm_pI_2, mm_pL_1, mm_pL_at, mm_pL_pL, mm_pL_3, mm_pM_1, mm_pM_2, mm_pM_at, mm_pM_pM, mm_pI_pL, mm_pI_pM, mm_pL_pM, mm_pI_ne, mm_pL_ne, mm_pM_ne, mm_u_f, mm_u_at, mm_u_ne, Bool.false_eq_true, n_10, true_and, and_true, false_and, and_false, Nat.not_lt_zero, true_or, or_true, eq_self, mm_z, mm_rs, sw_xc_ite, sw_xv_ite, n_m1, Nat.lt_irrefl, not_false_eq_true, not_true_eq_false, inS_0, inS_1, ite_not, sw_xv_some, sw_xm_some, sw_xc_some, sw_xc_void, if_true, if_false, reduceIte, bI_0, bI_01, bI_1, nt_or, Nat.reduceAdd, n_add, n_mul, n_addL, n_Ladd, n_mulL, n_Lmul, n_sub, n_subL, n_lt, n_eq, n_ltL, n_Llt, n_eqL, n_Leq, n_nneg, n_pos]
      · intro S1 hM
        have e3 := e3 S1 hM
        have eh := eh S1 hM
        have hI3 : IT (S1.1 3) := by rw [e3]; exact hT
        have hB3 := hI3.b
        simp (disch := first | omega | exact hB _ _ | exact hB3 | exact hI3 | assumption | decide) only [e_MD_promise, st_MD_promise, h1, h2, in_ok, in_okS, md_isPersonX, md_isThingX, md_isPromiseX, e_MD_areTwo, st_MD_areTwo, rs_L, md_finds0, md_finds1, md_finds2, md_finds3, md_finds4, md_finds5, md_finds6, mr_md E _, e3, eh, mm_pI_at, mm_pI_pI, mm_pI_2, mm_pL_1, mm_pL_at, mm_pL_pL, mm_pL_3, mm_pM_1, mm_pM_2, mm_pM_at, mm_pM_pM, mm_pI_pL, mm_pI_pM, mm_pL_pM, mm_pI_ne, mm_pL_ne, mm_pM_ne, mm_u_f, mm_u_at, mm_u_ne, Bool.false_eq_true, n_10, true_and, and_true, false_and, and_false, Nat.not_lt_zero, true_or, or_true, eq_self, mm_z, mm_rs, sw_xc_ite, sw_xv_ite, n_m1, Nat.lt_irrefl, not_false_eq_true, not_true_eq_false, inS_0, inS_1, ite_not, sw_xv_some, sw_xm_some, sw_xc_some, sw_xc_void, if_true, if_false, reduceIte, bI_0, bI_01, bI_1, nt_or, Nat.reduceAdd, n_add, n_mul, n_addL, n_Ladd, n_mulL, n_Lmul, n_sub, n_subL, n_lt, n_eq, n_ltL, n_Llt, n_eqL, n_Leq, n_nneg, n_pos]
  · refine ag_find (v := -1000000001) 0 ?_ ?_ hI
    · simp (disch := first | omega | exact hB _ _ | exact hB3 | exact hI3 | assumption | decide) only [e_SW_promise, st_SW_promise, h1, c_isKind, c_isUpTo, c_isSum, c_Phas E _ _ h03, c_Thas E _ _ h03, c_Khas E _ _ h03, e_SW_isPair, st_SW_isPair, e_People_isFull, st_People_isFull, e_Things_isFull, st_Things_isFull, e_Promises_isFull, st_Promises_isFull, e_Promises_isOpen, st_Promises_isOpen, c_tell0, c_tell1, c_tell2, c_tell3, c_tell4, c_tell5, c_tell6, mr_cl E _, mr_town E _ 0 h03, mm_pI_at, mm_pI_pI, mm_pI_2, mm_pL_1, mm_pL_at, mm_pL_pL, mm_pL_3, mm_pM_1, mm_pM_2, mm_pM_at, mm_pM_pM, mm_pI_pL, mm_pI_pM, mm_pL_pM, mm_pI_ne, mm_pL_ne, mm_pM_ne, mm_u_f, mm_u_at, mm_u_ne, Bool.false_eq_true, n_10, true_and, and_true, false_and, and_false, Nat.not_lt_zero, true_or, or_true, eq_self, mm_z, mm_rs, sw_xc_ite, sw_xv_ite, n_m1, Nat.lt_irrefl, not_false_eq_true, not_true_eq_false, inS_0, inS_1, ite_not, sw_xv_some, sw_xm_some, sw_xc_some, sw_xc_void, if_true, if_false, reduceIte, bI_0, bI_01, bI_1, nt_or, Nat.reduceAdd, n_add, n_mul, n_addL, n_Ladd, n_mulL, n_Lmul, n_sub, n_subL, n_lt, n_eq, n_ltL, n_Llt, n_eqL, n_Leq, n_nneg, n_pos]
    · intro S1 hM
      have e3 := e3 S1 hM
      have eh := eh S1 hM
      have hI3 : IT (S1.1 3) := by rw [e3]; exact hT
      have hB3 := hI3.b
      simp (disch := first | omega | exact hB _ _ | exact hB3 | exact hI3 | assumption | decide) only [e_MD_promise, st_MD_promise, h1, in_ok, in_okS, md_isPersonX, md_isThingX, md_isPromiseX, e_MD_areTwo, st_MD_areTwo, rs_L, md_finds0, md_finds1, md_finds2, md_finds3, md_finds4, md_finds5, md_finds6, mr_md E _, e3, eh, mm_pI_at, mm_pI_pI, mm_pI_2, mm_pL_1, mm_pL_at, mm_pL_pL, mm_pL_3, mm_pM_1, mm_pM_2, mm_pM_at, mm_pM_pM, mm_pI_pL, mm_pI_pM, mm_pL_pM, mm_pI_ne, mm_pL_ne, mm_pM_ne, mm_u_f, mm_u_at, mm_u_ne, Bool.false_eq_true, n_10, true_and, and_true, false_and, and_false, Nat.not_lt_zero, true_or, or_true, eq_self, mm_z, mm_rs, sw_xc_ite, sw_xv_ite, n_m1, Nat.lt_irrefl, not_false_eq_true, not_true_eq_false, inS_0, inS_1, ite_not, sw_xv_some, sw_xm_some, sw_xc_some, sw_xc_void, if_true, if_false, reduceIte, bI_0, bI_01, bI_1, nt_or, Nat.reduceAdd, n_add, n_mul, n_addL, n_Ladd, n_mulL, n_Lmul, n_sub, n_subL, n_lt, n_eq, n_ltL, n_Llt, n_eqL, n_Leq, n_nneg, n_pos]
theorem i_lt : (((0 : Int32) < 5) ↔ True) ∧ (((1 : Int32) < 5) ↔ True) ∧ (((2 : Int32) < 5) ↔ True) ∧ (((3 : Int32) < 5) ↔ True) ∧ (((4 : Int32) < 5) ↔ True) ∧ (((5 : Int32) < 5) ↔ False) ∧ (((6 : Int32) < 5) ↔ False) := ⟨by decide, by decide, by decide, by decide, by decide, by decide, by decide⟩
set_option maxRecDepth 100000 in
set_option maxHeartbeats 4000000 in
theorem p_promiseOf (E : sw_E) {S : sw_S} (hI : Inv S) (x : Int32) (y : Int32) : AgI S (f_SW_promiseOf E (.ref 0) (.int x) (.int y)) (f_MD_promiseOf E (.ref 71) (.int x) (.int y)) := by
  have h03 : 0 < 3 := by decide
  have hT := hI.it
  have hB := hT.b
  have hn := hT.n
  have hp := hT.p
  have hk := hT.k
  have e3 : ∀ S1, MP S S1 → S1.1 3 = S.1 0 := fun S1 h => (h.1 3 (by decide)).trans hI.s3
  have eh : ∀ S1, MP S S1 → S1.2.1 3 = S.2.1 0 := fun S1 h => (h.2.1 3 (by decide)).trans hI.h3
  by_cases h1 : ok x (S.1 0 0 2) = true
  · by_cases h2 : ok y (6 + 1) = true
    · obtain ⟨x, h1_, rfl⟩ := (ok_iff (by omega)).mp h1
      obtain ⟨y, h2_, rfl⟩ := (ok_iff (by omega)).mp h2
      have hx24 : x < 24 := by omega
      have g1 : ∀ S1 : sw_S, S1.1 3 = S.1 0 → x < S1.1 3 0 2 := fun S1 e => by rw [e]; exact h1_
      rcases (show y = 0 ∨ y = 1 ∨ y = 2 ∨ y = 3 ∨ y = 4 ∨ y = 5 ∨ y = 6 by omega) with rfl | rfl | rfl | rfl | rfl | rfl | rfl
      · simp only [n_i] at h2 ⊢
        refine ag_read (v := nI (S.1 0 9 x)) ?_ ?_ hI
        · simp (disch := first | omega | exact hB _ _ | exact hB3 | exact hI3 | assumption | decide) only [e_SW_promiseOf, st_SW_promiseOf, h1, h2, i_ne, i_lt, c_isKind, c_isUpTo, c_isSum, c_Phas E _ _ h03, c_Thas E _ _ h03, c_Khas E _ _ h03, e_SW_isPair, st_SW_isPair, e_People_isFull, st_People_isFull, e_Things_isFull, st_Things_isFull, e_Promises_isFull, st_Promises_isFull, e_Promises_isOpen, st_Promises_isOpen, c_tell0, c_tell1, c_tell2, c_tell3, c_tell4, c_tell5, c_tell6, mr_cl E _, mr_town E _ 0 h03, mm_pI_at, mm_pI_pI, mm_pI_2, mm_pL_1, mm_pL_at, mm_pL_pL, mm_pL_3, mm_pM_1, mm_pM_2, mm_pM_at, mm_pM_pM, mm_pI_pL, mm_pI_pM, mm_pL_pM, mm_pI_ne, mm_pL_ne, mm_pM_ne, mm_u_f, mm_u_at, mm_u_ne, Bool.false_eq_true, n_10, true_and, and_true, false_and, and_false, Nat.not_lt_zero, true_or, or_true, eq_self, mm_z, mm_rs, sw_xc_ite, sw_xv_ite, n_m1, Nat.lt_irrefl, not_false_eq_true, not_true_eq_false, inS_0, inS_1, ite_not, sw_xv_some, sw_xm_some, sw_xc_some, sw_xc_void, if_true, if_false, reduceIte, bI_0, bI_01, bI_1, nt_or, Nat.reduceAdd, n_add, n_mul, n_addL, n_Ladd, n_mulL, n_Lmul, n_sub, n_subL, n_lt, n_eq, n_ltL, n_Llt, n_eqL, n_Leq, n_nneg, n_pos]
        · intro S1 hM
          have e3 := e3 S1 hM
          have eh := eh S1 hM
          have hI3 : IT (S1.1 3) := by rw [e3]; exact hT
          have hB3 := hI3.b
          simp (disch := first | omega | exact hB _ _ | exact hB3 | exact hI3 | assumption | decide) only [e_MD_promiseOf, st_MD_promiseOf, h1, h2, i_ne, i_lt, md_of0 E _ hx24, in_ok, in_okS, md_isPersonX, md_isThingX, md_isPromiseX, e_MD_areTwo, st_MD_areTwo, rs_L, md_finds0, md_finds1, md_finds2, md_finds3, md_finds4, md_finds5, md_finds6, mr_md E _, e3, eh, mm_pI_at, mm_pI_pI, mm_pI_2, mm_pL_1, mm_pL_at, mm_pL_pL, mm_pL_3, mm_pM_1, mm_pM_2, mm_pM_at, mm_pM_pM, mm_pI_pL, mm_pI_pM, mm_pL_pM, mm_pI_ne, mm_pL_ne, mm_pM_ne, mm_u_f, mm_u_at, mm_u_ne, Bool.false_eq_true, n_10, true_and, and_true, false_and, and_false, Nat.not_lt_zero, true_or, or_true, eq_self, mm_z, mm_rs, sw_xc_ite, sw_xv_ite, n_m1, Nat.lt_irrefl, not_false_eq_true, not_true_eq_false, inS_0, inS_1, ite_not, sw_xv_some, sw_xm_some, sw_xc_some, sw_xc_void, if_true, if_false, reduceIte, bI_0, bI_01, bI_1, nt_or, Nat.reduceAdd, n_add, n_mul, n_addL, n_Ladd, n_mulL, n_Lmul, n_sub, n_subL, n_lt, n_eq, n_ltL, n_Llt, n_eqL, n_Leq, n_nneg, n_pos]
      · simp only [n_i] at h2 ⊢
        refine ag_read (v := nI (S.1 0 10 x)) ?_ ?_ hI
        · simp (disch := first | omega | exact hB _ _ | exact hB3 | exact hI3 | assumption | decide) only [e_SW_promiseOf, st_SW_promiseOf, h1, h2, i_ne, i_lt, c_isKind, c_isUpTo, c_isSum, c_Phas E _ _ h03, c_Thas E _ _ h03, c_Khas E _ _ h03, e_SW_isPair, st_SW_isPair, e_People_isFull, st_People_isFull, e_Things_isFull, st_Things_isFull, e_Promises_isFull, st_Promises_isFull, e_Promises_isOpen, st_Promises_isOpen, c_tell0, c_tell1, c_tell2, c_tell3, c_tell4, c_tell5, c_tell6, mr_cl E _, mr_town E _ 0 h03, mm_pI_at, mm_pI_pI, mm_pI_2, mm_pL_1, mm_pL_at, mm_pL_pL, mm_pL_3, mm_pM_1, mm_pM_2, mm_pM_at, mm_pM_pM, mm_pI_pL, mm_pI_pM, mm_pL_pM, mm_pI_ne, mm_pL_ne, mm_pM_ne, mm_u_f, mm_u_at, mm_u_ne, Bool.false_eq_true, n_10, true_and, and_true, false_and, and_false, Nat.not_lt_zero, true_or, or_true, eq_self, mm_z, mm_rs, sw_xc_ite, sw_xv_ite, n_m1, Nat.lt_irrefl, not_false_eq_true, not_true_eq_false, inS_0, inS_1, ite_not, sw_xv_some, sw_xm_some, sw_xc_some, sw_xc_void, if_true, if_false, reduceIte, bI_0, bI_01, bI_1, nt_or, Nat.reduceAdd, n_add, n_mul, n_addL, n_Ladd, n_mulL, n_Lmul, n_sub, n_subL, n_lt, n_eq, n_ltL, n_Llt, n_eqL, n_Leq, n_nneg, n_pos]
        · intro S1 hM
          have e3 := e3 S1 hM
          have eh := eh S1 hM
          have hI3 : IT (S1.1 3) := by rw [e3]; exact hT
          have hB3 := hI3.b
          simp (disch := first | omega | exact hB _ _ | exact hB3 | exact hI3 | assumption | decide) only [e_MD_promiseOf, st_MD_promiseOf, h1, h2, i_ne, i_lt, md_of1 E _ hx24, in_ok, in_okS, md_isPersonX, md_isThingX, md_isPromiseX, e_MD_areTwo, st_MD_areTwo, rs_L, md_finds0, md_finds1, md_finds2, md_finds3, md_finds4, md_finds5, md_finds6, mr_md E _, e3, eh, mm_pI_at, mm_pI_pI, mm_pI_2, mm_pL_1, mm_pL_at, mm_pL_pL, mm_pL_3, mm_pM_1, mm_pM_2, mm_pM_at, mm_pM_pM, mm_pI_pL, mm_pI_pM, mm_pL_pM, mm_pI_ne, mm_pL_ne, mm_pM_ne, mm_u_f, mm_u_at, mm_u_ne, Bool.false_eq_true, n_10, true_and, and_true, false_and, and_false, Nat.not_lt_zero, true_or, or_true, eq_self, mm_z, mm_rs, sw_xc_ite, sw_xv_ite, n_m1, Nat.lt_irrefl, not_false_eq_true, not_true_eq_false, inS_0, inS_1, ite_not, sw_xv_some, sw_xm_some, sw_xc_some, sw_xc_void, if_true, if_false, reduceIte, bI_0, bI_01, bI_1, nt_or, Nat.reduceAdd, n_add, n_mul, n_addL, n_Ladd, n_mulL, n_Lmul, n_sub, n_subL, n_lt, n_eq, n_ltL, n_Llt, n_eqL, n_Leq, n_nneg, n_pos]
      · simp only [n_i] at h2 ⊢
        refine ag_read (v := nI (S.1 0 11 x)) ?_ ?_ hI
        · simp (disch := first | omega | exact hB _ _ | exact hB3 | exact hI3 | assumption | decide) only [e_SW_promiseOf, st_SW_promiseOf, h1, h2, i_ne, i_lt, c_isKind, c_isUpTo, c_isSum, c_Phas E _ _ h03, c_Thas E _ _ h03, c_Khas E _ _ h03, e_SW_isPair, st_SW_isPair, e_People_isFull, st_People_isFull, e_Things_isFull, st_Things_isFull, e_Promises_isFull, st_Promises_isFull, e_Promises_isOpen, st_Promises_isOpen, c_tell0, c_tell1, c_tell2, c_tell3, c_tell4, c_tell5, c_tell6, mr_cl E _, mr_town E _ 0 h03, mm_pI_at, mm_pI_pI, mm_pI_2, mm_pL_1, mm_pL_at, mm_pL_pL, mm_pL_3, mm_pM_1, mm_pM_2, mm_pM_at, mm_pM_pM, mm_pI_pL, mm_pI_pM, mm_pL_pM, mm_pI_ne, mm_pL_ne, mm_pM_ne, mm_u_f, mm_u_at, mm_u_ne, Bool.false_eq_true, n_10, true_and, and_true, false_and, and_false, Nat.not_lt_zero, true_or, or_true, eq_self, mm_z, mm_rs, sw_xc_ite, sw_xv_ite, n_m1, Nat.lt_irrefl, not_false_eq_true, not_true_eq_false, inS_0, inS_1, ite_not, sw_xv_some, sw_xm_some, sw_xc_some, sw_xc_void, if_true, if_false, reduceIte, bI_0, bI_01, bI_1, nt_or, Nat.reduceAdd, n_add, n_mul, n_addL, n_Ladd, n_mulL, n_Lmul, n_sub, n_subL, n_lt, n_eq, n_ltL, n_Llt, n_eqL, n_Leq, n_nneg, n_pos]
        · intro S1 hM
          have e3 := e3 S1 hM
          have eh := eh S1 hM
          have hI3 : IT (S1.1 3) := by rw [e3]; exact hT
          have hB3 := hI3.b
          simp (disch := first | omega | exact hB _ _ | exact hB3 | exact hI3 | assumption | decide) only [e_MD_promiseOf, st_MD_promiseOf, h1, h2, i_ne, i_lt, md_of2 E _ hx24, in_ok, in_okS, md_isPersonX, md_isThingX, md_isPromiseX, e_MD_areTwo, st_MD_areTwo, rs_L, md_finds0, md_finds1, md_finds2, md_finds3, md_finds4, md_finds5, md_finds6, mr_md E _, e3, eh, mm_pI_at, mm_pI_pI, mm_pI_2, mm_pL_1, mm_pL_at, mm_pL_pL, mm_pL_3, mm_pM_1, mm_pM_2, mm_pM_at, mm_pM_pM, mm_pI_pL, mm_pI_pM, mm_pL_pM, mm_pI_ne, mm_pL_ne, mm_pM_ne, mm_u_f, mm_u_at, mm_u_ne, Bool.false_eq_true, n_10, true_and, and_true, false_and, and_false, Nat.not_lt_zero, true_or, or_true, eq_self, mm_z, mm_rs, sw_xc_ite, sw_xv_ite, n_m1, Nat.lt_irrefl, not_false_eq_true, not_true_eq_false, inS_0, inS_1, ite_not, sw_xv_some, sw_xm_some, sw_xc_some, sw_xc_void, if_true, if_false, reduceIte, bI_0, bI_01, bI_1, nt_or, Nat.reduceAdd, n_add, n_mul, n_addL, n_Ladd, n_mulL, n_Lmul, n_sub, n_subL, n_lt, n_eq, n_ltL, n_Llt, n_eqL, n_Leq, n_nneg, n_pos]
      · simp only [n_i] at h2 ⊢
        refine ag_read (v := nI (S.1 0 12 x)) ?_ ?_ hI
        · simp (disch := first | omega | exact hB _ _ | exact hB3 | exact hI3 | assumption | decide) only [e_SW_promiseOf, st_SW_promiseOf, h1, h2, i_ne, i_lt, c_isKind, c_isUpTo, c_isSum, c_Phas E _ _ h03, c_Thas E _ _ h03, c_Khas E _ _ h03, e_SW_isPair, st_SW_isPair, e_People_isFull, st_People_isFull, e_Things_isFull, st_Things_isFull, e_Promises_isFull, st_Promises_isFull, e_Promises_isOpen, st_Promises_isOpen, c_tell0, c_tell1, c_tell2, c_tell3, c_tell4, c_tell5, c_tell6, mr_cl E _, mr_town E _ 0 h03, mm_pI_at, mm_pI_pI, mm_pI_2, mm_pL_1, mm_pL_at, mm_pL_pL, mm_pL_3, mm_pM_1, mm_pM_2, mm_pM_at, mm_pM_pM, mm_pI_pL, mm_pI_pM, mm_pL_pM, mm_pI_ne, mm_pL_ne, mm_pM_ne, mm_u_f, mm_u_at, mm_u_ne, Bool.false_eq_true, n_10, true_and, and_true, false_and, and_false, Nat.not_lt_zero, true_or, or_true, eq_self, mm_z, mm_rs, sw_xc_ite, sw_xv_ite, n_m1, Nat.lt_irrefl, not_false_eq_true, not_true_eq_false, inS_0, inS_1, ite_not, sw_xv_some, sw_xm_some, sw_xc_some, sw_xc_void, if_true, if_false, reduceIte, bI_0, bI_01, bI_1, nt_or, Nat.reduceAdd, n_add, n_mul, n_addL, n_Ladd, n_mulL, n_Lmul, n_sub, n_subL, n_lt, n_eq, n_ltL, n_Llt, n_eqL, n_Leq, n_nneg, n_pos]
        · intro S1 hM
          have e3 := e3 S1 hM
          have eh := eh S1 hM
          have hI3 : IT (S1.1 3) := by rw [e3]; exact hT
          have hB3 := hI3.b
          simp (disch := first | omega | exact hB _ _ | exact hB3 | exact hI3 | assumption | decide) only [e_MD_promiseOf, st_MD_promiseOf, h1, h2, i_ne, i_lt, md_of3 E _ hx24, in_ok, in_okS, md_isPersonX, md_isThingX, md_isPromiseX, e_MD_areTwo, st_MD_areTwo, rs_L, md_finds0, md_finds1, md_finds2, md_finds3, md_finds4, md_finds5, md_finds6, mr_md E _, e3, eh, mm_pI_at, mm_pI_pI, mm_pI_2, mm_pL_1, mm_pL_at, mm_pL_pL, mm_pL_3, mm_pM_1, mm_pM_2, mm_pM_at, mm_pM_pM, mm_pI_pL, mm_pI_pM, mm_pL_pM, mm_pI_ne, mm_pL_ne, mm_pM_ne, mm_u_f, mm_u_at, mm_u_ne, Bool.false_eq_true, n_10, true_and, and_true, false_and, and_false, Nat.not_lt_zero, true_or, or_true, eq_self, mm_z, mm_rs, sw_xc_ite, sw_xv_ite, n_m1, Nat.lt_irrefl, not_false_eq_true, not_true_eq_false, inS_0, inS_1, ite_not, sw_xv_some, sw_xm_some, sw_xc_some, sw_xc_void, if_true, if_false, reduceIte, bI_0, bI_01, bI_1, nt_or, Nat.reduceAdd, n_add, n_mul, n_addL, n_Ladd, n_mulL, n_Lmul, n_sub, n_subL, n_lt, n_eq, n_ltL, n_Llt, n_eqL, n_Leq, n_nneg, n_pos]
      · simp only [n_i] at h2 ⊢
        refine ag_read (v := nI (S.1 0 13 x)) ?_ ?_ hI
        · simp (disch := first | omega | exact hB _ _ | exact hB3 | exact hI3 | assumption | decide) only [e_SW_promiseOf, st_SW_promiseOf, h1, h2, i_ne, i_lt, c_isKind, c_isUpTo, c_isSum, c_Phas E _ _ h03, c_Thas E _ _ h03, c_Khas E _ _ h03, e_SW_isPair, st_SW_isPair, e_People_isFull, st_People_isFull, e_Things_isFull, st_Things_isFull, e_Promises_isFull, st_Promises_isFull, e_Promises_isOpen, st_Promises_isOpen, c_tell0, c_tell1, c_tell2, c_tell3, c_tell4, c_tell5, c_tell6, mr_cl E _, mr_town E _ 0 h03, mm_pI_at, mm_pI_pI, mm_pI_2, mm_pL_1, mm_pL_at, mm_pL_pL, mm_pL_3, mm_pM_1, mm_pM_2, mm_pM_at, mm_pM_pM, mm_pI_pL, mm_pI_pM, mm_pL_pM, mm_pI_ne, mm_pL_ne, mm_pM_ne, mm_u_f, mm_u_at, mm_u_ne, Bool.false_eq_true, n_10, true_and, and_true, false_and, and_false, Nat.not_lt_zero, true_or, or_true, eq_self, mm_z, mm_rs, sw_xc_ite, sw_xv_ite, n_m1, Nat.lt_irrefl, not_false_eq_true, not_true_eq_false, inS_0, inS_1, ite_not, sw_xv_some, sw_xm_some, sw_xc_some, sw_xc_void, if_true, if_false, reduceIte, bI_0, bI_01, bI_1, nt_or, Nat.reduceAdd, n_add, n_mul, n_addL, n_Ladd, n_mulL, n_Lmul, n_sub, n_subL, n_lt, n_eq, n_ltL, n_Llt, n_eqL, n_Leq, n_nneg, n_pos]
        · intro S1 hM
          have e3 := e3 S1 hM
          have eh := eh S1 hM
          have hI3 : IT (S1.1 3) := by rw [e3]; exact hT
          have hB3 := hI3.b
          simp (disch := first | omega | exact hB _ _ | exact hB3 | exact hI3 | assumption | decide) only [e_MD_promiseOf, st_MD_promiseOf, h1, h2, i_ne, i_lt, md_of4 E _ hx24, in_ok, in_okS, md_isPersonX, md_isThingX, md_isPromiseX, e_MD_areTwo, st_MD_areTwo, rs_L, md_finds0, md_finds1, md_finds2, md_finds3, md_finds4, md_finds5, md_finds6, mr_md E _, e3, eh, mm_pI_at, mm_pI_pI, mm_pI_2, mm_pL_1, mm_pL_at, mm_pL_pL, mm_pL_3, mm_pM_1, mm_pM_2, mm_pM_at, mm_pM_pM, mm_pI_pL, mm_pI_pM, mm_pL_pM, mm_pI_ne, mm_pL_ne, mm_pM_ne, mm_u_f, mm_u_at, mm_u_ne, Bool.false_eq_true, n_10, true_and, and_true, false_and, and_false, Nat.not_lt_zero, true_or, or_true, eq_self, mm_z, mm_rs, sw_xc_ite, sw_xv_ite, n_m1, Nat.lt_irrefl, not_false_eq_true, not_true_eq_false, inS_0, inS_1, ite_not, sw_xv_some, sw_xm_some, sw_xc_some, sw_xc_void, if_true, if_false, reduceIte, bI_0, bI_01, bI_1, nt_or, Nat.reduceAdd, n_add, n_mul, n_addL, n_Ladd, n_mulL, n_Lmul, n_sub, n_subL, n_lt, n_eq, n_ltL, n_Llt, n_eqL, n_Leq, n_nneg, n_pos]
      · simp only [n_i] at h2 ⊢
        refine ag_read (v := nI (tw_cov (S.1 0) x)) ?_ ?_ hI
        · simp (disch := first | omega | exact hB _ _ | exact hB3 | exact hI3 | assumption | decide) only [e_SW_promiseOf, st_SW_promiseOf, h1, h2, i_ne, i_lt, c_Town_coverOf E S 0 h03 hT h1_, c_isKind, c_isUpTo, c_isSum, c_Phas E _ _ h03, c_Thas E _ _ h03, c_Khas E _ _ h03, e_SW_isPair, st_SW_isPair, e_People_isFull, st_People_isFull, e_Things_isFull, st_Things_isFull, e_Promises_isFull, st_Promises_isFull, e_Promises_isOpen, st_Promises_isOpen, c_tell0, c_tell1, c_tell2, c_tell3, c_tell4, c_tell5, c_tell6, mr_cl E _, mr_town E _ 0 h03, mm_pI_at, mm_pI_pI, mm_pI_2, mm_pL_1, mm_pL_at, mm_pL_pL, mm_pL_3, mm_pM_1, mm_pM_2, mm_pM_at, mm_pM_pM, mm_pI_pL, mm_pI_pM, mm_pL_pM, mm_pI_ne, mm_pL_ne, mm_pM_ne, mm_u_f, mm_u_at, mm_u_ne, Bool.false_eq_true, n_10, true_and, and_true, false_and, and_false, Nat.not_lt_zero, true_or, or_true, eq_self, mm_z, mm_rs, sw_xc_ite, sw_xv_ite, n_m1, Nat.lt_irrefl, not_false_eq_true, not_true_eq_false, inS_0, inS_1, ite_not, sw_xv_some, sw_xm_some, sw_xc_some, sw_xc_void, if_true, if_false, reduceIte, bI_0, bI_01, bI_1, nt_or, Nat.reduceAdd, n_add, n_mul, n_addL, n_Ladd, n_mulL, n_Lmul, n_sub, n_subL, n_lt, n_eq, n_ltL, n_Llt, n_eqL, n_Leq, n_nneg, n_pos]
        · intro S1 hM
          have e3 := e3 S1 hM
          have eh := eh S1 hM
          have hI3 : IT (S1.1 3) := by rw [e3]; exact hT
          have hB3 := hI3.b
          simp (disch := first | omega | exact hB _ _ | exact hB3 | exact hI3 | assumption | decide) only [e_MD_promiseOf, st_MD_promiseOf, h1, h2, i_ne, i_lt, md_cover E _ hI3 (g1 S1 e3), in_ok, in_okS, md_isPersonX, md_isThingX, md_isPromiseX, e_MD_areTwo, st_MD_areTwo, rs_L, md_finds0, md_finds1, md_finds2, md_finds3, md_finds4, md_finds5, md_finds6, mr_md E _, e3, eh, mm_pI_at, mm_pI_pI, mm_pI_2, mm_pL_1, mm_pL_at, mm_pL_pL, mm_pL_3, mm_pM_1, mm_pM_2, mm_pM_at, mm_pM_pM, mm_pI_pL, mm_pI_pM, mm_pL_pM, mm_pI_ne, mm_pL_ne, mm_pM_ne, mm_u_f, mm_u_at, mm_u_ne, Bool.false_eq_true, n_10, true_and, and_true, false_and, and_false, Nat.not_lt_zero, true_or, or_true, eq_self, mm_z, mm_rs, sw_xc_ite, sw_xv_ite, n_m1, Nat.lt_irrefl, not_false_eq_true, not_true_eq_false, inS_0, inS_1, ite_not, sw_xv_some, sw_xm_some, sw_xc_some, sw_xc_void, if_true, if_false, reduceIte, bI_0, bI_01, bI_1, nt_or, Nat.reduceAdd, n_add, n_mul, n_addL, n_Ladd, n_mulL, n_Lmul, n_sub, n_subL, n_lt, n_eq, n_ltL, n_Llt, n_eqL, n_Leq, n_nneg, n_pos]
      · simp only [n_i] at h2 ⊢
        refine ag_read (v := tw_be (S.1 0) x) ?_ ?_ hI
        · simp (disch := first | omega | exact hB _ _ | exact hB3 | exact hI3 | assumption | decide) only [e_SW_promiseOf, st_SW_promiseOf, h1, h2, i_ne, i_lt, c_Things_behind E S 0 h03 hT (k := x) (by omega), c_isKind, c_isUpTo, c_isSum, c_Phas E _ _ h03, c_Thas E _ _ h03, c_Khas E _ _ h03, e_SW_isPair, st_SW_isPair, e_People_isFull, st_People_isFull, e_Things_isFull, st_Things_isFull, e_Promises_isFull, st_Promises_isFull, e_Promises_isOpen, st_Promises_isOpen, c_tell0, c_tell1, c_tell2, c_tell3, c_tell4, c_tell5, c_tell6, mr_cl E _, mr_town E _ 0 h03, mm_pI_at, mm_pI_pI, mm_pI_2, mm_pL_1, mm_pL_at, mm_pL_pL, mm_pL_3, mm_pM_1, mm_pM_2, mm_pM_at, mm_pM_pM, mm_pI_pL, mm_pI_pM, mm_pL_pM, mm_pI_ne, mm_pL_ne, mm_pM_ne, mm_u_f, mm_u_at, mm_u_ne, Bool.false_eq_true, n_10, true_and, and_true, false_and, and_false, Nat.not_lt_zero, true_or, or_true, eq_self, mm_z, mm_rs, sw_xc_ite, sw_xv_ite, n_m1, Nat.lt_irrefl, not_false_eq_true, not_true_eq_false, inS_0, inS_1, ite_not, sw_xv_some, sw_xm_some, sw_xc_some, sw_xc_void, if_true, if_false, reduceIte, bI_0, bI_01, bI_1, nt_or, Nat.reduceAdd, n_add, n_mul, n_addL, n_Ladd, n_mulL, n_Lmul, n_sub, n_subL, n_lt, n_eq, n_ltL, n_Llt, n_eqL, n_Leq, n_nneg, n_pos]
        · intro S1 hM
          have e3 := e3 S1 hM
          have eh := eh S1 hM
          have hI3 : IT (S1.1 3) := by rw [e3]; exact hT
          have hB3 := hI3.b
          simp (disch := first | omega | exact hB _ _ | exact hB3 | exact hI3 | assumption | decide) only [e_MD_promiseOf, st_MD_promiseOf, h1, h2, i_ne, i_lt, md_thingsBehind E _ hI3 (k := x) (by omega), in_ok, in_okS, md_isPersonX, md_isThingX, md_isPromiseX, e_MD_areTwo, st_MD_areTwo, rs_L, md_finds0, md_finds1, md_finds2, md_finds3, md_finds4, md_finds5, md_finds6, mr_md E _, e3, eh, mm_pI_at, mm_pI_pI, mm_pI_2, mm_pL_1, mm_pL_at, mm_pL_pL, mm_pL_3, mm_pM_1, mm_pM_2, mm_pM_at, mm_pM_pM, mm_pI_pL, mm_pI_pM, mm_pL_pM, mm_pI_ne, mm_pL_ne, mm_pM_ne, mm_u_f, mm_u_at, mm_u_ne, Bool.false_eq_true, n_10, true_and, and_true, false_and, and_false, Nat.not_lt_zero, true_or, or_true, eq_self, mm_z, mm_rs, sw_xc_ite, sw_xv_ite, n_m1, Nat.lt_irrefl, not_false_eq_true, not_true_eq_false, inS_0, inS_1, ite_not, sw_xv_some, sw_xm_some, sw_xc_some, sw_xc_void, if_true, if_false, reduceIte, bI_0, bI_01, bI_1, nt_or, Nat.reduceAdd, n_add, n_mul, n_addL, n_Ladd, n_mulL, n_Lmul, n_sub, n_subL, n_lt, n_eq, n_ltL, n_Llt, n_eqL, n_Leq, n_nneg, n_pos]
    · refine ag_find (v := -1000000001) 0 ?_ ?_ hI
      · simp (disch := first | omega | exact hB _ _ | exact hB3 | exact hI3 | assumption | decide) only [e_SW_promiseOf, st_SW_promiseOf, h1, h2, c_isKind, c_isUpTo, c_isSum, c_Phas E _ _ h03, c_Thas E _ _ h03, c_Khas E _ _ h03, e_SW_isPair, st_SW_isPair, e_People_isFull, st_People_isFull, e_Things_isFull, st_Things_isFull, e_Promises_isFull, st_Promises_isFull, e_Promises_isOpen, st_Promises_isOpen, c_tell0, c_tell1, c_tell2, c_tell3, c_tell4, c_tell5, c_tell6, mr_cl E _, mr_town E _ 0 h03, mm_pI_at, mm_pI_pI, mm_pI_2, mm_pL_1, mm_pL_at, mm_pL_pL, mm_pL_3, mm_pM_1, mm_pM_2, mm_pM_at, mm_pM_pM, mm_pI_pL, mm_pI_pM, mm_pL_pM, mm_pI_ne, mm_pL_ne, mm_pM_ne, mm_u_f, mm_u_at, mm_u_ne, Bool.false_eq_true, n_10, true_and, and_true, false_and, and_false, Nat.not_lt_zero, true_or, or_true, eq_self, mm_z, mm_rs, sw_xc_ite, sw_xv_ite, n_m1, Nat.lt_irrefl, not_false_eq_true, not_true_eq_false, inS_0, inS_1, ite_not, sw_xv_some, sw_xm_some, sw_xc_some, sw_xc_void, if_true, if_false, reduceIte, bI_0, bI_01, bI_1, nt_or, Nat.reduceAdd, n_add, n_mul, n_addL, n_Ladd, n_mulL, n_Lmul, n_sub, n_subL, n_lt, n_eq, n_ltL, n_Llt, n_eqL, n_Leq, n_nneg, n_pos]
      · intro S1 hM
        have e3 := e3 S1 hM
        have eh := eh S1 hM
        have hI3 : IT (S1.1 3) := by rw [e3]; exact hT
        have hB3 := hI3.b
        simp (disch := first | omega | exact hB _ _ | exact hB3 | exact hI3 | assumption | decide) only [e_MD_promiseOf, st_MD_promiseOf, h1, h2, in_ok, in_okS, md_isPersonX, md_isThingX, md_isPromiseX, e_MD_areTwo, st_MD_areTwo, rs_L, md_finds0, md_finds1, md_finds2, md_finds3, md_finds4, md_finds5, md_finds6, mr_md E _, e3, eh, mm_pI_at, mm_pI_pI, mm_pI_2, mm_pL_1, mm_pL_at, mm_pL_pL, mm_pL_3, mm_pM_1, mm_pM_2, mm_pM_at, mm_pM_pM, mm_pI_pL, mm_pI_pM, mm_pL_pM, mm_pI_ne, mm_pL_ne, mm_pM_ne, mm_u_f, mm_u_at, mm_u_ne, Bool.false_eq_true, n_10, true_and, and_true, false_and, and_false, Nat.not_lt_zero, true_or, or_true, eq_self, mm_z, mm_rs, sw_xc_ite, sw_xv_ite, n_m1, Nat.lt_irrefl, not_false_eq_true, not_true_eq_false, inS_0, inS_1, ite_not, sw_xv_some, sw_xm_some, sw_xc_some, sw_xc_void, if_true, if_false, reduceIte, bI_0, bI_01, bI_1, nt_or, Nat.reduceAdd, n_add, n_mul, n_addL, n_Ladd, n_mulL, n_Lmul, n_sub, n_subL, n_lt, n_eq, n_ltL, n_Llt, n_eqL, n_Leq, n_nneg, n_pos]
  · refine ag_find (v := -1000000001) 0 ?_ ?_ hI
    · simp (disch := first | omega | exact hB _ _ | exact hB3 | exact hI3 | assumption | decide) only [e_SW_promiseOf, st_SW_promiseOf, h1, c_isKind, c_isUpTo, c_isSum, c_Phas E _ _ h03, c_Thas E _ _ h03, c_Khas E _ _ h03, e_SW_isPair, st_SW_isPair, e_People_isFull, st_People_isFull, e_Things_isFull, st_Things_isFull, e_Promises_isFull, st_Promises_isFull, e_Promises_isOpen, st_Promises_isOpen, c_tell0, c_tell1, c_tell2, c_tell3, c_tell4, c_tell5, c_tell6, mr_cl E _, mr_town E _ 0 h03, mm_pI_at, mm_pI_pI, mm_pI_2, mm_pL_1, mm_pL_at, mm_pL_pL, mm_pL_3, mm_pM_1, mm_pM_2, mm_pM_at, mm_pM_pM, mm_pI_pL, mm_pI_pM, mm_pL_pM, mm_pI_ne, mm_pL_ne, mm_pM_ne, mm_u_f, mm_u_at, mm_u_ne, Bool.false_eq_true, n_10, true_and, and_true, false_and, and_false, Nat.not_lt_zero, true_or, or_true, eq_self, mm_z, mm_rs, sw_xc_ite, sw_xv_ite, n_m1, Nat.lt_irrefl, not_false_eq_true, not_true_eq_false, inS_0, inS_1, ite_not, sw_xv_some, sw_xm_some, sw_xc_some, sw_xc_void, if_true, if_false, reduceIte, bI_0, bI_01, bI_1, nt_or, Nat.reduceAdd, n_add, n_mul, n_addL, n_Ladd, n_mulL, n_Lmul, n_sub, n_subL, n_lt, n_eq, n_ltL, n_Llt, n_eqL, n_Leq, n_nneg, n_pos]
    · intro S1 hM
      have e3 := e3 S1 hM
      have eh := eh S1 hM
      have hI3 : IT (S1.1 3) := by rw [e3]; exact hT
      have hB3 := hI3.b
      simp (disch := first | omega | exact hB _ _ | exact hB3 | exact hI3 | assumption | decide) only [e_MD_promiseOf, st_MD_promiseOf, h1, in_ok, in_okS, md_isPersonX, md_isThingX, md_isPromiseX, e_MD_areTwo, st_MD_areTwo, rs_L, md_finds0, md_finds1, md_finds2, md_finds3, md_finds4, md_finds5, md_finds6, mr_md E _, e3, eh, mm_pI_at, mm_pI_pI, mm_pI_2, mm_pL_1, mm_pL_at, mm_pL_pL, mm_pL_3, mm_pM_1, mm_pM_2, mm_pM_at, mm_pM_pM, mm_pI_pL, mm_pI_pM, mm_pL_pM, mm_pI_ne, mm_pL_ne, mm_pM_ne, mm_u_f, mm_u_at, mm_u_ne, Bool.false_eq_true, n_10, true_and, and_true, false_and, and_false, Nat.not_lt_zero, true_or, or_true, eq_self, mm_z, mm_rs, sw_xc_ite, sw_xv_ite, n_m1, Nat.lt_irrefl, not_false_eq_true, not_true_eq_false, inS_0, inS_1, ite_not, sw_xv_some, sw_xm_some, sw_xc_some, sw_xc_void, if_true, if_false, reduceIte, bI_0, bI_01, bI_1, nt_or, Nat.reduceAdd, n_add, n_mul, n_addL, n_Ladd, n_mulL, n_Lmul, n_sub, n_subL, n_lt, n_eq, n_ltL, n_Llt, n_eqL, n_Leq, n_nneg, n_pos]
set_option maxRecDepth 100000 in
set_option maxHeartbeats 4000000 in
theorem p_keep (E : sw_E) {S : sw_S} (hI : Inv S) (x : Int32) : AgI S (f_SW_keep E (.ref 0) (.int x)) (f_MD_keep E (.ref 71) (.int x)) := by
  have h03 : 0 < 3 := by decide
  have hT := hI.it
  have hB := hT.b
  have hn := hT.n
  have hp := hT.p
  have hk := hT.k
  have e3 : ∀ S1, MP S S1 → S1.1 3 = S.1 0 := fun S1 h => (h.1 3 (by decide)).trans hI.s3
  have eh : ∀ S1, MP S S1 → S1.2.1 3 = S.2.1 0 := fun S1 h => (h.2.1 3 (by decide)).trans hI.h3
  by_cases h1 : ok x (S.1 0 0 2) = true
  · obtain ⟨x, h1_, rfl⟩ := (ok_iff (by omega)).mp h1
    have hx24 : x < 24 := by omega
    have g1 : ∀ S1 : sw_S, S1.1 3 = S.1 0 → x < S1.1 3 0 2 := fun S1 e => by rw [e]; exact h1_
    have cE := c_Things_endWith E S 0 h03 hT (k := x) (by omega)
    by_cases h2 : S.1 0 13 x = 0
    · by_cases h3 : tw_last (S.1 0) x = true
      · refine ag_town0 (T := (tw_kp (S.1 0) x).2) (v := nI (tw_kp (S.1 0) x).1) ?_ ?_ hI (IT_kp hT h1_).1
        · simp (disch := first | omega | exact hB _ _ | exact hB3 | exact hI3 | assumption | decide) only [e_SW_keep, st_SW_keep, h1, h2, h3, cE, c_Town_settle E S 0 h03 hT h1_, c_isKind, c_isUpTo, c_isSum, c_Phas E _ _ h03, c_Thas E _ _ h03, c_Khas E _ _ h03, e_SW_isPair, st_SW_isPair, e_People_isFull, st_People_isFull, e_Things_isFull, st_Things_isFull, e_Promises_isFull, st_Promises_isFull, e_Promises_isOpen, st_Promises_isOpen, c_tell0, c_tell1, c_tell2, c_tell3, c_tell4, c_tell5, c_tell6, mr_cl E _, mr_town E _ 0 h03, mm_pI_at, mm_pI_pI, mm_pI_2, mm_pL_1, mm_pL_at, mm_pL_pL, mm_pL_3, mm_pM_1, mm_pM_2, mm_pM_at, mm_pM_pM, mm_pI_pL, mm_pI_pM, mm_pL_pM, mm_pI_ne, mm_pL_ne, mm_pM_ne, mm_u_f, mm_u_at, mm_u_ne, Bool.false_eq_true, n_10, true_and, and_true, false_and, and_false, Nat.not_lt_zero, true_or, or_true, eq_self, mm_z, mm_rs, sw_xc_ite, sw_xv_ite, n_m1, Nat.lt_irrefl, not_false_eq_true, not_true_eq_false, inS_0, inS_1, ite_not, sw_xv_some, sw_xm_some, sw_xc_some, sw_xc_void, if_true, if_false, reduceIte, bI_0, bI_01, bI_1, nt_or, Nat.reduceAdd, n_add, n_mul, n_addL, n_Ladd, n_mulL, n_Lmul, n_sub, n_subL, n_lt, n_eq, n_ltL, n_Llt, n_eqL, n_Leq, n_nneg, n_pos]
        · intro S1 hM
          have e3 := e3 S1 hM
          have eh := eh S1 hM
          have hI3 : IT (S1.1 3) := by rw [e3]; exact hT
          have hB3 := hI3.b
          simp (disch := first | omega | exact hB _ _ | exact hB3 | exact hI3 | assumption | decide) only [e_MD_keep, st_MD_keep, h1, h2, h3, md_isOpen E _ hB3 hx24, md_isLast E _ hI3 (k := x) (by omega), md_keeping E _ hI3 (g1 S1 e3), in_ok, in_okS, md_isPersonX, md_isThingX, md_isPromiseX, e_MD_areTwo, st_MD_areTwo, rs_L, md_finds0, md_finds1, md_finds2, md_finds3, md_finds4, md_finds5, md_finds6, mr_md E _, e3, eh, mm_pI_at, mm_pI_pI, mm_pI_2, mm_pL_1, mm_pL_at, mm_pL_pL, mm_pL_3, mm_pM_1, mm_pM_2, mm_pM_at, mm_pM_pM, mm_pI_pL, mm_pI_pM, mm_pL_pM, mm_pI_ne, mm_pL_ne, mm_pM_ne, mm_u_f, mm_u_at, mm_u_ne, Bool.false_eq_true, n_10, true_and, and_true, false_and, and_false, Nat.not_lt_zero, true_or, or_true, eq_self, mm_z, mm_rs, sw_xc_ite, sw_xv_ite, n_m1, Nat.lt_irrefl, not_false_eq_true, not_true_eq_false, inS_0, inS_1, ite_not, sw_xv_some, sw_xm_some, sw_xc_some, sw_xc_void, if_true, if_false, reduceIte, bI_0, bI_01, bI_1, nt_or, Nat.reduceAdd, n_add, n_mul, n_addL, n_Ladd, n_mulL, n_Lmul, n_sub, n_subL, n_lt, n_eq, n_ltL, n_Llt, n_eqL, n_Leq, n_nneg, n_pos]
      · refine ag_find (v := -1000000003) 2 ?_ ?_ hI
        · simp (disch := first | omega | exact hB _ _ | exact hB3 | exact hI3 | assumption | decide) only [e_SW_keep, st_SW_keep, h1, h2, h3, cE, c_isKind, c_isUpTo, c_isSum, c_Phas E _ _ h03, c_Thas E _ _ h03, c_Khas E _ _ h03, e_SW_isPair, st_SW_isPair, e_People_isFull, st_People_isFull, e_Things_isFull, st_Things_isFull, e_Promises_isFull, st_Promises_isFull, e_Promises_isOpen, st_Promises_isOpen, c_tell0, c_tell1, c_tell2, c_tell3, c_tell4, c_tell5, c_tell6, mr_cl E _, mr_town E _ 0 h03, mm_pI_at, mm_pI_pI, mm_pI_2, mm_pL_1, mm_pL_at, mm_pL_pL, mm_pL_3, mm_pM_1, mm_pM_2, mm_pM_at, mm_pM_pM, mm_pI_pL, mm_pI_pM, mm_pL_pM, mm_pI_ne, mm_pL_ne, mm_pM_ne, mm_u_f, mm_u_at, mm_u_ne, Bool.false_eq_true, n_10, true_and, and_true, false_and, and_false, Nat.not_lt_zero, true_or, or_true, eq_self, mm_z, mm_rs, sw_xc_ite, sw_xv_ite, n_m1, Nat.lt_irrefl, not_false_eq_true, not_true_eq_false, inS_0, inS_1, ite_not, sw_xv_some, sw_xm_some, sw_xc_some, sw_xc_void, if_true, if_false, reduceIte, bI_0, bI_01, bI_1, nt_or, Nat.reduceAdd, n_add, n_mul, n_addL, n_Ladd, n_mulL, n_Lmul, n_sub, n_subL, n_lt, n_eq, n_ltL, n_Llt, n_eqL, n_Leq, n_nneg, n_pos]
        · intro S1 hM
          have e3 := e3 S1 hM
          have eh := eh S1 hM
          have hI3 : IT (S1.1 3) := by rw [e3]; exact hT
          have hB3 := hI3.b
          simp (disch := first | omega | exact hB _ _ | exact hB3 | exact hI3 | assumption | decide) only [e_MD_keep, st_MD_keep, h1, h2, h3, md_isOpen E _ hB3 hx24, md_isLast E _ hI3 (k := x) (by omega), in_ok, in_okS, md_isPersonX, md_isThingX, md_isPromiseX, e_MD_areTwo, st_MD_areTwo, rs_L, md_finds0, md_finds1, md_finds2, md_finds3, md_finds4, md_finds5, md_finds6, mr_md E _, e3, eh, mm_pI_at, mm_pI_pI, mm_pI_2, mm_pL_1, mm_pL_at, mm_pL_pL, mm_pL_3, mm_pM_1, mm_pM_2, mm_pM_at, mm_pM_pM, mm_pI_pL, mm_pI_pM, mm_pL_pM, mm_pI_ne, mm_pL_ne, mm_pM_ne, mm_u_f, mm_u_at, mm_u_ne, Bool.false_eq_true, n_10, true_and, and_true, false_and, and_false, Nat.not_lt_zero, true_or, or_true, eq_self, mm_z, mm_rs, sw_xc_ite, sw_xv_ite, n_m1, Nat.lt_irrefl, not_false_eq_true, not_true_eq_false, inS_0, inS_1, ite_not, sw_xv_some, sw_xm_some, sw_xc_some, sw_xc_void, if_true, if_false, reduceIte, bI_0, bI_01, bI_1, nt_or, Nat.reduceAdd, n_add, n_mul, n_addL, n_Ladd, n_mulL, n_Lmul, n_sub, n_subL, n_lt, n_eq, n_ltL, n_Llt, n_eqL, n_Leq, n_nneg, n_pos]
    · refine ag_find (v := -1000000005) 4 ?_ ?_ hI
      · simp (disch := first | omega | exact hB _ _ | exact hB3 | exact hI3 | assumption | decide) only [e_SW_keep, st_SW_keep, h1, h2, c_isKind, c_isUpTo, c_isSum, c_Phas E _ _ h03, c_Thas E _ _ h03, c_Khas E _ _ h03, e_SW_isPair, st_SW_isPair, e_People_isFull, st_People_isFull, e_Things_isFull, st_Things_isFull, e_Promises_isFull, st_Promises_isFull, e_Promises_isOpen, st_Promises_isOpen, c_tell0, c_tell1, c_tell2, c_tell3, c_tell4, c_tell5, c_tell6, mr_cl E _, mr_town E _ 0 h03, mm_pI_at, mm_pI_pI, mm_pI_2, mm_pL_1, mm_pL_at, mm_pL_pL, mm_pL_3, mm_pM_1, mm_pM_2, mm_pM_at, mm_pM_pM, mm_pI_pL, mm_pI_pM, mm_pL_pM, mm_pI_ne, mm_pL_ne, mm_pM_ne, mm_u_f, mm_u_at, mm_u_ne, Bool.false_eq_true, n_10, true_and, and_true, false_and, and_false, Nat.not_lt_zero, true_or, or_true, eq_self, mm_z, mm_rs, sw_xc_ite, sw_xv_ite, n_m1, Nat.lt_irrefl, not_false_eq_true, not_true_eq_false, inS_0, inS_1, ite_not, sw_xv_some, sw_xm_some, sw_xc_some, sw_xc_void, if_true, if_false, reduceIte, bI_0, bI_01, bI_1, nt_or, Nat.reduceAdd, n_add, n_mul, n_addL, n_Ladd, n_mulL, n_Lmul, n_sub, n_subL, n_lt, n_eq, n_ltL, n_Llt, n_eqL, n_Leq, n_nneg, n_pos]
      · intro S1 hM
        have e3 := e3 S1 hM
        have eh := eh S1 hM
        have hI3 : IT (S1.1 3) := by rw [e3]; exact hT
        have hB3 := hI3.b
        simp (disch := first | omega | exact hB _ _ | exact hB3 | exact hI3 | assumption | decide) only [e_MD_keep, st_MD_keep, h1, h2, md_isOpen E _ hB3 hx24, in_ok, in_okS, md_isPersonX, md_isThingX, md_isPromiseX, e_MD_areTwo, st_MD_areTwo, rs_L, md_finds0, md_finds1, md_finds2, md_finds3, md_finds4, md_finds5, md_finds6, mr_md E _, e3, eh, mm_pI_at, mm_pI_pI, mm_pI_2, mm_pL_1, mm_pL_at, mm_pL_pL, mm_pL_3, mm_pM_1, mm_pM_2, mm_pM_at, mm_pM_pM, mm_pI_pL, mm_pI_pM, mm_pL_pM, mm_pI_ne, mm_pL_ne, mm_pM_ne, mm_u_f, mm_u_at, mm_u_ne, Bool.false_eq_true, n_10, true_and, and_true, false_and, and_false, Nat.not_lt_zero, true_or, or_true, eq_self, mm_z, mm_rs, sw_xc_ite, sw_xv_ite, n_m1, Nat.lt_irrefl, not_false_eq_true, not_true_eq_false, inS_0, inS_1, ite_not, sw_xv_some, sw_xm_some, sw_xc_some, sw_xc_void, if_true, if_false, reduceIte, bI_0, bI_01, bI_1, nt_or, Nat.reduceAdd, n_add, n_mul, n_addL, n_Ladd, n_mulL, n_Lmul, n_sub, n_subL, n_lt, n_eq, n_ltL, n_Llt, n_eqL, n_Leq, n_nneg, n_pos]
  · refine ag_find (v := -1000000001) 0 ?_ ?_ hI
    · simp (disch := first | omega | exact hB _ _ | exact hB3 | exact hI3 | assumption | decide) only [e_SW_keep, st_SW_keep, h1, c_isKind, c_isUpTo, c_isSum, c_Phas E _ _ h03, c_Thas E _ _ h03, c_Khas E _ _ h03, e_SW_isPair, st_SW_isPair, e_People_isFull, st_People_isFull, e_Things_isFull, st_Things_isFull, e_Promises_isFull, st_Promises_isFull, e_Promises_isOpen, st_Promises_isOpen, c_tell0, c_tell1, c_tell2, c_tell3, c_tell4, c_tell5, c_tell6, mr_cl E _, mr_town E _ 0 h03, mm_pI_at, mm_pI_pI, mm_pI_2, mm_pL_1, mm_pL_at, mm_pL_pL, mm_pL_3, mm_pM_1, mm_pM_2, mm_pM_at, mm_pM_pM, mm_pI_pL, mm_pI_pM, mm_pL_pM, mm_pI_ne, mm_pL_ne, mm_pM_ne, mm_u_f, mm_u_at, mm_u_ne, Bool.false_eq_true, n_10, true_and, and_true, false_and, and_false, Nat.not_lt_zero, true_or, or_true, eq_self, mm_z, mm_rs, sw_xc_ite, sw_xv_ite, n_m1, Nat.lt_irrefl, not_false_eq_true, not_true_eq_false, inS_0, inS_1, ite_not, sw_xv_some, sw_xm_some, sw_xc_some, sw_xc_void, if_true, if_false, reduceIte, bI_0, bI_01, bI_1, nt_or, Nat.reduceAdd, n_add, n_mul, n_addL, n_Ladd, n_mulL, n_Lmul, n_sub, n_subL, n_lt, n_eq, n_ltL, n_Llt, n_eqL, n_Leq, n_nneg, n_pos]
    · intro S1 hM
      have e3 := e3 S1 hM
      have eh := eh S1 hM
      have hI3 : IT (S1.1 3) := by rw [e3]; exact hT
      have hB3 := hI3.b
      simp (disch := first | omega | exact hB _ _ | exact hB3 | exact hI3 | assumption | decide) only [e_MD_keep, st_MD_keep, h1, in_ok, in_okS, md_isPersonX, md_isThingX, md_isPromiseX, e_MD_areTwo, st_MD_areTwo, rs_L, md_finds0, md_finds1, md_finds2, md_finds3, md_finds4, md_finds5, md_finds6, mr_md E _, e3, eh, mm_pI_at, mm_pI_pI, mm_pI_2, mm_pL_1, mm_pL_at, mm_pL_pL, mm_pL_3, mm_pM_1, mm_pM_2, mm_pM_at, mm_pM_pM, mm_pI_pL, mm_pI_pM, mm_pL_pM, mm_pI_ne, mm_pL_ne, mm_pM_ne, mm_u_f, mm_u_at, mm_u_ne, Bool.false_eq_true, n_10, true_and, and_true, false_and, and_false, Nat.not_lt_zero, true_or, or_true, eq_self, mm_z, mm_rs, sw_xc_ite, sw_xv_ite, n_m1, Nat.lt_irrefl, not_false_eq_true, not_true_eq_false, inS_0, inS_1, ite_not, sw_xv_some, sw_xm_some, sw_xc_some, sw_xc_void, if_true, if_false, reduceIte, bI_0, bI_01, bI_1, nt_or, Nat.reduceAdd, n_add, n_mul, n_addL, n_Ladd, n_mulL, n_Lmul, n_sub, n_subL, n_lt, n_eq, n_ltL, n_Llt, n_eqL, n_Leq, n_nneg, n_pos]
set_option maxRecDepth 100000 in
set_option maxHeartbeats 4000000 in
theorem p_breaks (E : sw_E) {S : sw_S} (hI : Inv S) (x : Int32) : AgI S (f_SW_breaks E (.ref 0) (.int x)) (f_MD_breaks E (.ref 71) (.int x)) := by
  have h03 : 0 < 3 := by decide
  have hT := hI.it
  have hB := hT.b
  have hn := hT.n
  have hp := hT.p
  have hk := hT.k
  have e3 : ∀ S1, MP S S1 → S1.1 3 = S.1 0 := fun S1 h => (h.1 3 (by decide)).trans hI.s3
  have eh : ∀ S1, MP S S1 → S1.2.1 3 = S.2.1 0 := fun S1 h => (h.2.1 3 (by decide)).trans hI.h3
  by_cases h1 : ok x (S.1 0 0 2) = true
  · obtain ⟨x, h1_, rfl⟩ := (ok_iff (by omega)).mp h1
    have hx24 : x < 24 := by omega
    have g1 : ∀ S1 : sw_S, S1.1 3 = S.1 0 → x < S1.1 3 0 2 := fun S1 e => by rw [e]; exact h1_
    by_cases h2 : S.1 0 13 x = 0
    · refine ag_town (T := (tw_fl (S.1 0) (S.2.1 0) x).2.1) (H := (tw_fl (S.1 0) (S.2.1 0) x).2.2) (v := nI (tw_fl (S.1 0) (S.2.1 0) x).1) ?_ ?_ hI (IT_fl hT h1_).1
      · simp (disch := first | omega | exact hB _ _ | exact hB3 | exact hI3 | assumption | decide) only [e_SW_breaks, st_SW_breaks, h1, h2, c_Town_fail E S 0 h03 hT h1_, c_isKind, c_isUpTo, c_isSum, c_Phas E _ _ h03, c_Thas E _ _ h03, c_Khas E _ _ h03, e_SW_isPair, st_SW_isPair, e_People_isFull, st_People_isFull, e_Things_isFull, st_Things_isFull, e_Promises_isFull, st_Promises_isFull, e_Promises_isOpen, st_Promises_isOpen, c_tell0, c_tell1, c_tell2, c_tell3, c_tell4, c_tell5, c_tell6, mr_cl E _, mr_town E _ 0 h03, mm_pI_at, mm_pI_pI, mm_pI_2, mm_pL_1, mm_pL_at, mm_pL_pL, mm_pL_3, mm_pM_1, mm_pM_2, mm_pM_at, mm_pM_pM, mm_pI_pL, mm_pI_pM, mm_pL_pM, mm_pI_ne, mm_pL_ne, mm_pM_ne, mm_u_f, mm_u_at, mm_u_ne, Bool.false_eq_true, n_10, true_and, and_true, false_and, and_false, Nat.not_lt_zero, true_or, or_true, eq_self, mm_z, mm_rs, sw_xc_ite, sw_xv_ite, n_m1, Nat.lt_irrefl, not_false_eq_true, not_true_eq_false, inS_0, inS_1, ite_not, sw_xv_some, sw_xm_some, sw_xc_some, sw_xc_void, if_true, if_false, reduceIte, bI_0, bI_01, bI_1, nt_or, Nat.reduceAdd, n_add, n_mul, n_addL, n_Ladd, n_mulL, n_Lmul, n_sub, n_subL, n_lt, n_eq, n_ltL, n_Llt, n_eqL, n_Leq, n_nneg, n_pos]
      · intro S1 hM
        have e3 := e3 S1 hM
        have eh := eh S1 hM
        have hI3 : IT (S1.1 3) := by rw [e3]; exact hT
        have hB3 := hI3.b
        simp (disch := first | omega | exact hB _ _ | exact hB3 | exact hI3 | assumption | decide) only [e_MD_breaks, st_MD_breaks, h1, h2, md_isOpen E _ hB3 hx24, md_breaking E _ hI3 (g1 S1 e3), in_ok, in_okS, md_isPersonX, md_isThingX, md_isPromiseX, e_MD_areTwo, st_MD_areTwo, rs_L, md_finds0, md_finds1, md_finds2, md_finds3, md_finds4, md_finds5, md_finds6, mr_md E _, e3, eh, mm_pI_at, mm_pI_pI, mm_pI_2, mm_pL_1, mm_pL_at, mm_pL_pL, mm_pL_3, mm_pM_1, mm_pM_2, mm_pM_at, mm_pM_pM, mm_pI_pL, mm_pI_pM, mm_pL_pM, mm_pI_ne, mm_pL_ne, mm_pM_ne, mm_u_f, mm_u_at, mm_u_ne, Bool.false_eq_true, n_10, true_and, and_true, false_and, and_false, Nat.not_lt_zero, true_or, or_true, eq_self, mm_z, mm_rs, sw_xc_ite, sw_xv_ite, n_m1, Nat.lt_irrefl, not_false_eq_true, not_true_eq_false, inS_0, inS_1, ite_not, sw_xv_some, sw_xm_some, sw_xc_some, sw_xc_void, if_true, if_false, reduceIte, bI_0, bI_01, bI_1, nt_or, Nat.reduceAdd, n_add, n_mul, n_addL, n_Ladd, n_mulL, n_Lmul, n_sub, n_subL, n_lt, n_eq, n_ltL, n_Llt, n_eqL, n_Leq, n_nneg, n_pos]
    · refine ag_find (v := -1000000005) 4 ?_ ?_ hI
      · simp (disch := first | omega | exact hB _ _ | exact hB3 | exact hI3 | assumption | decide) only [e_SW_breaks, st_SW_breaks, h1, h2, c_isKind, c_isUpTo, c_isSum, c_Phas E _ _ h03, c_Thas E _ _ h03, c_Khas E _ _ h03, e_SW_isPair, st_SW_isPair, e_People_isFull, st_People_isFull, e_Things_isFull, st_Things_isFull, e_Promises_isFull, st_Promises_isFull, e_Promises_isOpen, st_Promises_isOpen, c_tell0, c_tell1, c_tell2, c_tell3, c_tell4, c_tell5, c_tell6, mr_cl E _, mr_town E _ 0 h03, mm_pI_at, mm_pI_pI, mm_pI_2, mm_pL_1, mm_pL_at, mm_pL_pL, mm_pL_3, mm_pM_1, mm_pM_2, mm_pM_at, mm_pM_pM, mm_pI_pL, mm_pI_pM, mm_pL_pM, mm_pI_ne, mm_pL_ne, mm_pM_ne, mm_u_f, mm_u_at, mm_u_ne, Bool.false_eq_true, n_10, true_and, and_true, false_and, and_false, Nat.not_lt_zero, true_or, or_true, eq_self, mm_z, mm_rs, sw_xc_ite, sw_xv_ite, n_m1, Nat.lt_irrefl, not_false_eq_true, not_true_eq_false, inS_0, inS_1, ite_not, sw_xv_some, sw_xm_some, sw_xc_some, sw_xc_void, if_true, if_false, reduceIte, bI_0, bI_01, bI_1, nt_or, Nat.reduceAdd, n_add, n_mul, n_addL, n_Ladd, n_mulL, n_Lmul, n_sub, n_subL, n_lt, n_eq, n_ltL, n_Llt, n_eqL, n_Leq, n_nneg, n_pos]
      · intro S1 hM
        have e3 := e3 S1 hM
        have eh := eh S1 hM
        have hI3 : IT (S1.1 3) := by rw [e3]; exact hT
        have hB3 := hI3.b
        simp (disch := first | omega | exact hB _ _ | exact hB3 | exact hI3 | assumption | decide) only [e_MD_breaks, st_MD_breaks, h1, h2, md_isOpen E _ hB3 hx24, in_ok, in_okS, md_isPersonX, md_isThingX, md_isPromiseX, e_MD_areTwo, st_MD_areTwo, rs_L, md_finds0, md_finds1, md_finds2, md_finds3, md_finds4, md_finds5, md_finds6, mr_md E _, e3, eh, mm_pI_at, mm_pI_pI, mm_pI_2, mm_pL_1, mm_pL_at, mm_pL_pL, mm_pL_3, mm_pM_1, mm_pM_2, mm_pM_at, mm_pM_pM, mm_pI_pL, mm_pI_pM, mm_pL_pM, mm_pI_ne, mm_pL_ne, mm_pM_ne, mm_u_f, mm_u_at, mm_u_ne, Bool.false_eq_true, n_10, true_and, and_true, false_and, and_false, Nat.not_lt_zero, true_or, or_true, eq_self, mm_z, mm_rs, sw_xc_ite, sw_xv_ite, n_m1, Nat.lt_irrefl, not_false_eq_true, not_true_eq_false, inS_0, inS_1, ite_not, sw_xv_some, sw_xm_some, sw_xc_some, sw_xc_void, if_true, if_false, reduceIte, bI_0, bI_01, bI_1, nt_or, Nat.reduceAdd, n_add, n_mul, n_addL, n_Ladd, n_mulL, n_Lmul, n_sub, n_subL, n_lt, n_eq, n_ltL, n_Llt, n_eqL, n_Leq, n_nneg, n_pos]
  · refine ag_find (v := -1000000001) 0 ?_ ?_ hI
    · simp (disch := first | omega | exact hB _ _ | exact hB3 | exact hI3 | assumption | decide) only [e_SW_breaks, st_SW_breaks, h1, c_isKind, c_isUpTo, c_isSum, c_Phas E _ _ h03, c_Thas E _ _ h03, c_Khas E _ _ h03, e_SW_isPair, st_SW_isPair, e_People_isFull, st_People_isFull, e_Things_isFull, st_Things_isFull, e_Promises_isFull, st_Promises_isFull, e_Promises_isOpen, st_Promises_isOpen, c_tell0, c_tell1, c_tell2, c_tell3, c_tell4, c_tell5, c_tell6, mr_cl E _, mr_town E _ 0 h03, mm_pI_at, mm_pI_pI, mm_pI_2, mm_pL_1, mm_pL_at, mm_pL_pL, mm_pL_3, mm_pM_1, mm_pM_2, mm_pM_at, mm_pM_pM, mm_pI_pL, mm_pI_pM, mm_pL_pM, mm_pI_ne, mm_pL_ne, mm_pM_ne, mm_u_f, mm_u_at, mm_u_ne, Bool.false_eq_true, n_10, true_and, and_true, false_and, and_false, Nat.not_lt_zero, true_or, or_true, eq_self, mm_z, mm_rs, sw_xc_ite, sw_xv_ite, n_m1, Nat.lt_irrefl, not_false_eq_true, not_true_eq_false, inS_0, inS_1, ite_not, sw_xv_some, sw_xm_some, sw_xc_some, sw_xc_void, if_true, if_false, reduceIte, bI_0, bI_01, bI_1, nt_or, Nat.reduceAdd, n_add, n_mul, n_addL, n_Ladd, n_mulL, n_Lmul, n_sub, n_subL, n_lt, n_eq, n_ltL, n_Llt, n_eqL, n_Leq, n_nneg, n_pos]
    · intro S1 hM
      have e3 := e3 S1 hM
      have eh := eh S1 hM
      have hI3 : IT (S1.1 3) := by rw [e3]; exact hT
      have hB3 := hI3.b
      simp (disch := first | omega | exact hB _ _ | exact hB3 | exact hI3 | assumption | decide) only [e_MD_breaks, st_MD_breaks, h1, in_ok, in_okS, md_isPersonX, md_isThingX, md_isPromiseX, e_MD_areTwo, st_MD_areTwo, rs_L, md_finds0, md_finds1, md_finds2, md_finds3, md_finds4, md_finds5, md_finds6, mr_md E _, e3, eh, mm_pI_at, mm_pI_pI, mm_pI_2, mm_pL_1, mm_pL_at, mm_pL_pL, mm_pL_3, mm_pM_1, mm_pM_2, mm_pM_at, mm_pM_pM, mm_pI_pL, mm_pI_pM, mm_pL_pM, mm_pI_ne, mm_pL_ne, mm_pM_ne, mm_u_f, mm_u_at, mm_u_ne, Bool.false_eq_true, n_10, true_and, and_true, false_and, and_false, Nat.not_lt_zero, true_or, or_true, eq_self, mm_z, mm_rs, sw_xc_ite, sw_xv_ite, n_m1, Nat.lt_irrefl, not_false_eq_true, not_true_eq_false, inS_0, inS_1, ite_not, sw_xv_some, sw_xm_some, sw_xc_some, sw_xc_void, if_true, if_false, reduceIte, bI_0, bI_01, bI_1, nt_or, Nat.reduceAdd, n_add, n_mul, n_addL, n_Ladd, n_mulL, n_Lmul, n_sub, n_subL, n_lt, n_eq, n_ltL, n_Llt, n_eqL, n_Leq, n_nneg, n_pos]
set_option maxRecDepth 100000 in
set_option maxHeartbeats 4000000 in
theorem p_days (E : sw_E) {S : sw_S} (hI : Inv S) (x : Int32) : AgI S (f_SW_days E (.ref 0) (.int x)) (f_MD_days E (.ref 71) (.int x)) := by
  have h03 : 0 < 3 := by decide
  have hT := hI.it
  have hB := hT.b
  have hn := hT.n
  have hp := hT.p
  have hk := hT.k
  have e3 : ∀ S1, MP S S1 → S1.1 3 = S.1 0 := fun S1 h => (h.1 3 (by decide)).trans hI.s3
  have eh : ∀ S1, MP S S1 → S1.2.1 3 = S.2.1 0 := fun S1 h => (h.2.1 3 (by decide)).trans hI.h3
  by_cases h1 : x < 1
  · refine ag_find (v := -1000000001) 0 ?_ ?_ hI
    · simp (disch := first | omega | exact hB _ _ | exact hB3 | exact hI3 | assumption | decide) only [e_SW_days, st_SW_days, h1, c_isKind, c_isUpTo, c_isSum, c_Phas E _ _ h03, c_Thas E _ _ h03, c_Khas E _ _ h03, e_SW_isPair, st_SW_isPair, e_People_isFull, st_People_isFull, e_Things_isFull, st_Things_isFull, e_Promises_isFull, st_Promises_isFull, e_Promises_isOpen, st_Promises_isOpen, c_tell0, c_tell1, c_tell2, c_tell3, c_tell4, c_tell5, c_tell6, mr_cl E _, mr_town E _ 0 h03, mm_pI_at, mm_pI_pI, mm_pI_2, mm_pL_1, mm_pL_at, mm_pL_pL, mm_pL_3, mm_pM_1, mm_pM_2, mm_pM_at, mm_pM_pM, mm_pI_pL, mm_pI_pM, mm_pL_pM, mm_pI_ne, mm_pL_ne, mm_pM_ne, mm_u_f, mm_u_at, mm_u_ne, Bool.false_eq_true, n_10, true_and, and_true, false_and, and_false, Nat.not_lt_zero, true_or, or_true, eq_self, mm_z, mm_rs, sw_xc_ite, sw_xv_ite, n_m1, Nat.lt_irrefl, not_false_eq_true, not_true_eq_false, inS_0, inS_1, ite_not, sw_xv_some, sw_xm_some, sw_xc_some, sw_xc_void, if_true, if_false, reduceIte, bI_0, bI_01, bI_1, nt_or, Nat.reduceAdd, n_add, n_mul, n_addL, n_Ladd, n_mulL, n_Lmul, n_sub, n_subL, n_lt, n_eq, n_ltL, n_Llt, n_eqL, n_Leq, n_nneg, n_pos]
    · intro S1 hM
      have e3 := e3 S1 hM
      have eh := eh S1 hM
      have hI3 : IT (S1.1 3) := by rw [e3]; exact hT
      have hB3 := hI3.b
      simp (disch := first | omega | exact hB _ _ | exact hB3 | exact hI3 | assumption | decide) only [e_MD_days, st_MD_days, h1, in_lo1, in_ok, in_okS, md_isPersonX, md_isThingX, md_isPromiseX, e_MD_areTwo, st_MD_areTwo, rs_L, md_finds0, md_finds1, md_finds2, md_finds3, md_finds4, md_finds5, md_finds6, mr_md E _, e3, eh, mm_pI_at, mm_pI_pI, mm_pI_2, mm_pL_1, mm_pL_at, mm_pL_pL, mm_pL_3, mm_pM_1, mm_pM_2, mm_pM_at, mm_pM_pM, mm_pI_pL, mm_pI_pM, mm_pL_pM, mm_pI_ne, mm_pL_ne, mm_pM_ne, mm_u_f, mm_u_at, mm_u_ne, Bool.false_eq_true, n_10, true_and, and_true, false_and, and_false, Nat.not_lt_zero, true_or, or_true, eq_self, mm_z, mm_rs, sw_xc_ite, sw_xv_ite, n_m1, Nat.lt_irrefl, not_false_eq_true, not_true_eq_false, inS_0, inS_1, ite_not, sw_xv_some, sw_xm_some, sw_xc_some, sw_xc_void, if_true, if_false, reduceIte, bI_0, bI_01, bI_1, nt_or, Nat.reduceAdd, n_add, n_mul, n_addL, n_Ladd, n_mulL, n_Lmul, n_sub, n_subL, n_lt, n_eq, n_ltL, n_Llt, n_eqL, n_Leq, n_nneg, n_pos]
  · by_cases h2 : 50 < x
    · refine ag_find (v := -1000000001) 0 ?_ ?_ hI
      · simp (disch := first | omega | exact hB _ _ | exact hB3 | exact hI3 | assumption | decide) only [e_SW_days, st_SW_days, h1, h2, c_isKind, c_isUpTo, c_isSum, c_Phas E _ _ h03, c_Thas E _ _ h03, c_Khas E _ _ h03, e_SW_isPair, st_SW_isPair, e_People_isFull, st_People_isFull, e_Things_isFull, st_Things_isFull, e_Promises_isFull, st_Promises_isFull, e_Promises_isOpen, st_Promises_isOpen, c_tell0, c_tell1, c_tell2, c_tell3, c_tell4, c_tell5, c_tell6, mr_cl E _, mr_town E _ 0 h03, mm_pI_at, mm_pI_pI, mm_pI_2, mm_pL_1, mm_pL_at, mm_pL_pL, mm_pL_3, mm_pM_1, mm_pM_2, mm_pM_at, mm_pM_pM, mm_pI_pL, mm_pI_pM, mm_pL_pM, mm_pI_ne, mm_pL_ne, mm_pM_ne, mm_u_f, mm_u_at, mm_u_ne, Bool.false_eq_true, n_10, true_and, and_true, false_and, and_false, Nat.not_lt_zero, true_or, or_true, eq_self, mm_z, mm_rs, sw_xc_ite, sw_xv_ite, n_m1, Nat.lt_irrefl, not_false_eq_true, not_true_eq_false, inS_0, inS_1, ite_not, sw_xv_some, sw_xm_some, sw_xc_some, sw_xc_void, if_true, if_false, reduceIte, bI_0, bI_01, bI_1, nt_or, Nat.reduceAdd, n_add, n_mul, n_addL, n_Ladd, n_mulL, n_Lmul, n_sub, n_subL, n_lt, n_eq, n_ltL, n_Llt, n_eqL, n_Leq, n_nneg, n_pos]
      · intro S1 hM
        have e3 := e3 S1 hM
        have eh := eh S1 hM
        have hI3 : IT (S1.1 3) := by rw [e3]; exact hT
        have hB3 := hI3.b
        simp (disch := first | omega | exact hB _ _ | exact hB3 | exact hI3 | assumption | decide) only [e_MD_days, st_MD_days, h1, h2, in_lo1, in_ok, in_okS, md_isPersonX, md_isThingX, md_isPromiseX, e_MD_areTwo, st_MD_areTwo, rs_L, md_finds0, md_finds1, md_finds2, md_finds3, md_finds4, md_finds5, md_finds6, mr_md E _, e3, eh, mm_pI_at, mm_pI_pI, mm_pI_2, mm_pL_1, mm_pL_at, mm_pL_pL, mm_pL_3, mm_pM_1, mm_pM_2, mm_pM_at, mm_pM_pM, mm_pI_pL, mm_pI_pM, mm_pL_pM, mm_pI_ne, mm_pL_ne, mm_pM_ne, mm_u_f, mm_u_at, mm_u_ne, Bool.false_eq_true, n_10, true_and, and_true, false_and, and_false, Nat.not_lt_zero, true_or, or_true, eq_self, mm_z, mm_rs, sw_xc_ite, sw_xv_ite, n_m1, Nat.lt_irrefl, not_false_eq_true, not_true_eq_false, inS_0, inS_1, ite_not, sw_xv_some, sw_xm_some, sw_xc_some, sw_xc_void, if_true, if_false, reduceIte, bI_0, bI_01, bI_1, nt_or, Nat.reduceAdd, n_add, n_mul, n_addL, n_Ladd, n_mulL, n_Lmul, n_sub, n_subL, n_lt, n_eq, n_ltL, n_Llt, n_eqL, n_Leq, n_nneg, n_pos]
    · obtain ⟨x, hx1, hx2, rfl⟩ := n_ge1 h1
      have hx50 : ¬ 50 < x := fun g => h2 ((n_Llt hx2 (by decide)).mpr g)
      have hx1' : ¬ x < 1 := by omega
      have hd : S.1 0 0 3 ≤ 999 := hT.day
      by_cases h3 : 999 < S.1 0 0 3 + x
      · refine ag_find (v := -1000000005) 4 ?_ ?_ hI
        · simp (disch := first | omega | exact hB _ _ | exact hB3 | exact hI3 | assumption | decide) only [e_SW_days, st_SW_days, hx50, hx1', h3, c_isKind, c_isUpTo, c_isSum, c_Phas E _ _ h03, c_Thas E _ _ h03, c_Khas E _ _ h03, e_SW_isPair, st_SW_isPair, e_People_isFull, st_People_isFull, e_Things_isFull, st_Things_isFull, e_Promises_isFull, st_Promises_isFull, e_Promises_isOpen, st_Promises_isOpen, c_tell0, c_tell1, c_tell2, c_tell3, c_tell4, c_tell5, c_tell6, mr_cl E _, mr_town E _ 0 h03, mm_pI_at, mm_pI_pI, mm_pI_2, mm_pL_1, mm_pL_at, mm_pL_pL, mm_pL_3, mm_pM_1, mm_pM_2, mm_pM_at, mm_pM_pM, mm_pI_pL, mm_pI_pM, mm_pL_pM, mm_pI_ne, mm_pL_ne, mm_pM_ne, mm_u_f, mm_u_at, mm_u_ne, Bool.false_eq_true, n_10, true_and, and_true, false_and, and_false, Nat.not_lt_zero, true_or, or_true, eq_self, mm_z, mm_rs, sw_xc_ite, sw_xv_ite, n_m1, Nat.lt_irrefl, not_false_eq_true, not_true_eq_false, inS_0, inS_1, ite_not, sw_xv_some, sw_xm_some, sw_xc_some, sw_xc_void, if_true, if_false, reduceIte, bI_0, bI_01, bI_1, nt_or, Nat.reduceAdd, n_add, n_mul, n_addL, n_Ladd, n_mulL, n_Lmul, n_sub, n_subL, n_lt, n_eq, n_ltL, n_Llt, n_eqL, n_Leq, n_nneg, n_pos]
        · intro S1 hM
          have e3 := e3 S1 hM
          have eh := eh S1 hM
          have hI3 : IT (S1.1 3) := by rw [e3]; exact hT
          have hB3 := hI3.b
          simp (disch := first | omega | exact hB _ _ | exact hB3 | exact hI3 | assumption | decide) only [e_MD_days, st_MD_days, hx50, hx1', h3, in_lo1, in_ok, in_okS, md_isPersonX, md_isThingX, md_isPromiseX, e_MD_areTwo, st_MD_areTwo, rs_L, md_finds0, md_finds1, md_finds2, md_finds3, md_finds4, md_finds5, md_finds6, mr_md E _, e3, eh, mm_pI_at, mm_pI_pI, mm_pI_2, mm_pL_1, mm_pL_at, mm_pL_pL, mm_pL_3, mm_pM_1, mm_pM_2, mm_pM_at, mm_pM_pM, mm_pI_pL, mm_pI_pM, mm_pL_pM, mm_pI_ne, mm_pL_ne, mm_pM_ne, mm_u_f, mm_u_at, mm_u_ne, Bool.false_eq_true, n_10, true_and, and_true, false_and, and_false, Nat.not_lt_zero, true_or, or_true, eq_self, mm_z, mm_rs, sw_xc_ite, sw_xv_ite, n_m1, Nat.lt_irrefl, not_false_eq_true, not_true_eq_false, inS_0, inS_1, ite_not, sw_xv_some, sw_xm_some, sw_xc_some, sw_xc_void, if_true, if_false, reduceIte, bI_0, bI_01, bI_1, nt_or, Nat.reduceAdd, n_add, n_mul, n_addL, n_Ladd, n_mulL, n_Lmul, n_sub, n_subL, n_lt, n_eq, n_ltL, n_Llt, n_eqL, n_Leq, n_nneg, n_pos]
      · refine ag_town (T := (tw_dy (S.1 0) (S.2.1 0) x).2.1) (H := (tw_dy (S.1 0) (S.2.1 0) x).2.2) (v := nI (tw_dy (S.1 0) (S.2.1 0) x).1) ?_ ?_ hI (IT_dy hT (by omega))
        · have cD := c_days_l E S hT (n := x) (by omega)
          simp (disch := first | omega | exact hB _ _ | exact hB3 | exact hI3 | assumption | decide) only [e_SW_days, st_SW_days, hx50, hx1', h3, cD, c_isKind, c_isUpTo, c_isSum, c_Phas E _ _ h03, c_Thas E _ _ h03, c_Khas E _ _ h03, e_SW_isPair, st_SW_isPair, e_People_isFull, st_People_isFull, e_Things_isFull, st_Things_isFull, e_Promises_isFull, st_Promises_isFull, e_Promises_isOpen, st_Promises_isOpen, c_tell0, c_tell1, c_tell2, c_tell3, c_tell4, c_tell5, c_tell6, mr_cl E _, mr_town E _ 0 h03, mm_pI_at, mm_pI_pI, mm_pI_2, mm_pL_1, mm_pL_at, mm_pL_pL, mm_pL_3, mm_pM_1, mm_pM_2, mm_pM_at, mm_pM_pM, mm_pI_pL, mm_pI_pM, mm_pL_pM, mm_pI_ne, mm_pL_ne, mm_pM_ne, mm_u_f, mm_u_at, mm_u_ne, Bool.false_eq_true, n_10, true_and, and_true, false_and, and_false, Nat.not_lt_zero, true_or, or_true, eq_self, mm_z, mm_rs, sw_xc_ite, sw_xv_ite, n_m1, Nat.lt_irrefl, not_false_eq_true, not_true_eq_false, inS_0, inS_1, ite_not, sw_xv_some, sw_xm_some, sw_xc_some, sw_xc_void, if_true, if_false, reduceIte, bI_0, bI_01, bI_1, nt_or, Nat.reduceAdd, n_add, n_mul, n_addL, n_Ladd, n_mulL, n_Lmul, n_sub, n_subL, n_lt, n_eq, n_ltL, n_Llt, n_eqL, n_Leq, n_nneg, n_pos]
        · intro S1 hM
          have e3 := e3 S1 hM
          have eh := eh S1 hM
          have hI3 : IT (S1.1 3) := by rw [e3]; exact hT
          have hB3 := hI3.b
          have mD := md_days_l E S1 hI3 (n := x) (by rw [e3]; omega)
          simp (disch := first | omega | exact hB _ _ | exact hB3 | exact hI3 | assumption | decide) only [e_MD_days, st_MD_days, hx50, hx1', h3, in_lo1, mD, in_ok, in_okS, md_isPersonX, md_isThingX, md_isPromiseX, e_MD_areTwo, st_MD_areTwo, rs_L, md_finds0, md_finds1, md_finds2, md_finds3, md_finds4, md_finds5, md_finds6, mr_md E _, e3, eh, mm_pI_at, mm_pI_pI, mm_pI_2, mm_pL_1, mm_pL_at, mm_pL_pL, mm_pL_3, mm_pM_1, mm_pM_2, mm_pM_at, mm_pM_pM, mm_pI_pL, mm_pI_pM, mm_pL_pM, mm_pI_ne, mm_pL_ne, mm_pM_ne, mm_u_f, mm_u_at, mm_u_ne, Bool.false_eq_true, n_10, true_and, and_true, false_and, and_false, Nat.not_lt_zero, true_or, or_true, eq_self, mm_z, mm_rs, sw_xc_ite, sw_xv_ite, n_m1, Nat.lt_irrefl, not_false_eq_true, not_true_eq_false, inS_0, inS_1, ite_not, sw_xv_some, sw_xm_some, sw_xc_some, sw_xc_void, if_true, if_false, reduceIte, bI_0, bI_01, bI_1, nt_or, Nat.reduceAdd, n_add, n_mul, n_addL, n_Ladd, n_mulL, n_Lmul, n_sub, n_subL, n_lt, n_eq, n_ltL, n_Llt, n_eqL, n_Leq, n_nneg, n_pos]
set_option maxRecDepth 100000 in
set_option maxHeartbeats 4000000 in
theorem p_can (E : sw_E) {S : sw_S} (hI : Inv S) : AgI S (f_SW_can E (.ref 0)) (f_MD_can E (.ref 71)) := by
  have h03 : 0 < 3 := by decide
  have hT := hI.it
  have hB := hT.b
  have hn := hT.n
  have hp := hT.p
  have hk := hT.k
  have e3 : ∀ S1, MP S S1 → S1.1 3 = S.1 0 := fun S1 h => (h.1 3 (by decide)).trans hI.s3
  have eh : ∀ S1, MP S S1 → S1.2.1 3 = S.2.1 0 := fun S1 h => (h.2.1 3 (by decide)).trans hI.h3
  refine ag_read (v := tw_set (S.1 0 0 2) (tw_can (S.1 0))) ?_ ?_ hI
  · simp (disch := first | omega | exact hB _ _ | exact hB3 | exact hI3 | assumption | decide) only [e_SW_can, st_SW_can, c_Town_keepable E S 0 h03 hT, c_isKind, c_isUpTo, c_isSum, c_Phas E _ _ h03, c_Thas E _ _ h03, c_Khas E _ _ h03, e_SW_isPair, st_SW_isPair, e_People_isFull, st_People_isFull, e_Things_isFull, st_Things_isFull, e_Promises_isFull, st_Promises_isFull, e_Promises_isOpen, st_Promises_isOpen, c_tell0, c_tell1, c_tell2, c_tell3, c_tell4, c_tell5, c_tell6, mr_cl E _, mr_town E _ 0 h03, mm_pI_at, mm_pI_pI, mm_pI_2, mm_pL_1, mm_pL_at, mm_pL_pL, mm_pL_3, mm_pM_1, mm_pM_2, mm_pM_at, mm_pM_pM, mm_pI_pL, mm_pI_pM, mm_pL_pM, mm_pI_ne, mm_pL_ne, mm_pM_ne, mm_u_f, mm_u_at, mm_u_ne, Bool.false_eq_true, n_10, true_and, and_true, false_and, and_false, Nat.not_lt_zero, true_or, or_true, eq_self, mm_z, mm_rs, sw_xc_ite, sw_xv_ite, n_m1, Nat.lt_irrefl, not_false_eq_true, not_true_eq_false, inS_0, inS_1, ite_not, sw_xv_some, sw_xm_some, sw_xc_some, sw_xc_void, if_true, if_false, reduceIte, bI_0, bI_01, bI_1, nt_or, Nat.reduceAdd, n_add, n_mul, n_addL, n_Ladd, n_mulL, n_Lmul, n_sub, n_subL, n_lt, n_eq, n_ltL, n_Llt, n_eqL, n_Leq, n_nneg, n_pos]
  · intro S1 hM
    have e3 := e3 S1 hM
    have eh := eh S1 hM
    have hI3 : IT (S1.1 3) := by rw [e3]; exact hT
    have hB3 := hI3.b
    simp (disch := first | omega | exact hB _ _ | exact hB3 | exact hI3 | assumption | decide) only [md_can E _ hI3, in_ok, in_okS, md_isPersonX, md_isThingX, md_isPromiseX, e_MD_areTwo, st_MD_areTwo, rs_L, md_finds0, md_finds1, md_finds2, md_finds3, md_finds4, md_finds5, md_finds6, mr_md E _, e3, eh, mm_pI_at, mm_pI_pI, mm_pI_2, mm_pL_1, mm_pL_at, mm_pL_pL, mm_pL_3, mm_pM_1, mm_pM_2, mm_pM_at, mm_pM_pM, mm_pI_pL, mm_pI_pM, mm_pL_pM, mm_pI_ne, mm_pL_ne, mm_pM_ne, mm_u_f, mm_u_at, mm_u_ne, Bool.false_eq_true, n_10, true_and, and_true, false_and, and_false, Nat.not_lt_zero, true_or, or_true, eq_self, mm_z, mm_rs, sw_xc_ite, sw_xv_ite, n_m1, Nat.lt_irrefl, not_false_eq_true, not_true_eq_false, inS_0, inS_1, ite_not, sw_xv_some, sw_xm_some, sw_xc_some, sw_xc_void, if_true, if_false, reduceIte, bI_0, bI_01, bI_1, nt_or, Nat.reduceAdd, n_add, n_mul, n_addL, n_Ladd, n_mulL, n_Lmul, n_sub, n_subL, n_lt, n_eq, n_ltL, n_Llt, n_eqL, n_Leq, n_nneg, n_pos]
set_option maxRecDepth 100000 in
set_option maxHeartbeats 4000000 in
theorem p_bare (E : sw_E) {S : sw_S} (hI : Inv S) : AgI S (f_SW_bare E (.ref 0)) (f_MD_bare E (.ref 71)) := by
  have h03 : 0 < 3 := by decide
  have hT := hI.it
  have hB := hT.b
  have hn := hT.n
  have hp := hT.p
  have hk := hT.k
  have e3 : ∀ S1, MP S S1 → S1.1 3 = S.1 0 := fun S1 h => (h.1 3 (by decide)).trans hI.s3
  have eh : ∀ S1, MP S S1 → S1.2.1 3 = S.2.1 0 := fun S1 h => (h.2.1 3 (by decide)).trans hI.h3
  refine ag_read (v := tw_bare (S.1 0)) ?_ ?_ hI
  · simp (disch := first | omega | exact hB _ _ | exact hB3 | exact hI3 | assumption | decide) only [e_SW_bare, st_SW_bare, c_Town_uncovered E S 0 h03 hT, c_isKind, c_isUpTo, c_isSum, c_Phas E _ _ h03, c_Thas E _ _ h03, c_Khas E _ _ h03, e_SW_isPair, st_SW_isPair, e_People_isFull, st_People_isFull, e_Things_isFull, st_Things_isFull, e_Promises_isFull, st_Promises_isFull, e_Promises_isOpen, st_Promises_isOpen, c_tell0, c_tell1, c_tell2, c_tell3, c_tell4, c_tell5, c_tell6, mr_cl E _, mr_town E _ 0 h03, mm_pI_at, mm_pI_pI, mm_pI_2, mm_pL_1, mm_pL_at, mm_pL_pL, mm_pL_3, mm_pM_1, mm_pM_2, mm_pM_at, mm_pM_pM, mm_pI_pL, mm_pI_pM, mm_pL_pM, mm_pI_ne, mm_pL_ne, mm_pM_ne, mm_u_f, mm_u_at, mm_u_ne, Bool.false_eq_true, n_10, true_and, and_true, false_and, and_false, Nat.not_lt_zero, true_or, or_true, eq_self, mm_z, mm_rs, sw_xc_ite, sw_xv_ite, n_m1, Nat.lt_irrefl, not_false_eq_true, not_true_eq_false, inS_0, inS_1, ite_not, sw_xv_some, sw_xm_some, sw_xc_some, sw_xc_void, if_true, if_false, reduceIte, bI_0, bI_01, bI_1, nt_or, Nat.reduceAdd, n_add, n_mul, n_addL, n_Ladd, n_mulL, n_Lmul, n_sub, n_subL, n_lt, n_eq, n_ltL, n_Llt, n_eqL, n_Leq, n_nneg, n_pos]
  · intro S1 hM
    have e3 := e3 S1 hM
    have eh := eh S1 hM
    have hI3 : IT (S1.1 3) := by rw [e3]; exact hT
    have hB3 := hI3.b
    simp (disch := first | omega | exact hB _ _ | exact hB3 | exact hI3 | assumption | decide) only [e_MD_bare, st_MD_bare, md_bareSet E _ hI3, in_ok, in_okS, md_isPersonX, md_isThingX, md_isPromiseX, e_MD_areTwo, st_MD_areTwo, rs_L, md_finds0, md_finds1, md_finds2, md_finds3, md_finds4, md_finds5, md_finds6, mr_md E _, e3, eh, mm_pI_at, mm_pI_pI, mm_pI_2, mm_pL_1, mm_pL_at, mm_pL_pL, mm_pL_3, mm_pM_1, mm_pM_2, mm_pM_at, mm_pM_pM, mm_pI_pL, mm_pI_pM, mm_pL_pM, mm_pI_ne, mm_pL_ne, mm_pM_ne, mm_u_f, mm_u_at, mm_u_ne, Bool.false_eq_true, n_10, true_and, and_true, false_and, and_false, Nat.not_lt_zero, true_or, or_true, eq_self, mm_z, mm_rs, sw_xc_ite, sw_xv_ite, n_m1, Nat.lt_irrefl, not_false_eq_true, not_true_eq_false, inS_0, inS_1, ite_not, sw_xv_some, sw_xm_some, sw_xc_some, sw_xc_void, if_true, if_false, reduceIte, bI_0, bI_01, bI_1, nt_or, Nat.reduceAdd, n_add, n_mul, n_addL, n_Ladd, n_mulL, n_Lmul, n_sub, n_subL, n_lt, n_eq, n_ltL, n_Llt, n_eqL, n_Leq, n_nneg, n_pos]
set_option maxRecDepth 100000 in
set_option maxHeartbeats 4000000 in
theorem p_owed (E : sw_E) {S : sw_S} (hI : Inv S) (x : Int32) (y : Int32) : AgI S (f_SW_owed E (.ref 0) (.int x) (.int y)) (f_MD_owed E (.ref 71) (.int x) (.int y)) := by
  have h03 : 0 < 3 := by decide
  have hT := hI.it
  have hB := hT.b
  have hn := hT.n
  have hp := hT.p
  have hk := hT.k
  have e3 : ∀ S1, MP S S1 → S1.1 3 = S.1 0 := fun S1 h => (h.1 3 (by decide)).trans hI.s3
  have eh : ∀ S1, MP S S1 → S1.2.1 3 = S.2.1 0 := fun S1 h => (h.2.1 3 (by decide)).trans hI.h3
  by_cases h1 : ok x (S.1 0 0 0) = true
  · by_cases h2 : ok y (S.1 0 0 0) = true
    · by_cases h3 : x = y
      · refine ag_find (v := -1000000001) 0 ?_ ?_ hI
        · simp (disch := first | omega | exact hB _ _ | exact hB3 | exact hI3 | assumption | decide) only [e_SW_owed, st_SW_owed, h2, h3, c_isKind, c_isUpTo, c_isSum, c_Phas E _ _ h03, c_Thas E _ _ h03, c_Khas E _ _ h03, e_SW_isPair, st_SW_isPair, e_People_isFull, st_People_isFull, e_Things_isFull, st_Things_isFull, e_Promises_isFull, st_Promises_isFull, e_Promises_isOpen, st_Promises_isOpen, c_tell0, c_tell1, c_tell2, c_tell3, c_tell4, c_tell5, c_tell6, mr_cl E _, mr_town E _ 0 h03, mm_pI_at, mm_pI_pI, mm_pI_2, mm_pL_1, mm_pL_at, mm_pL_pL, mm_pL_3, mm_pM_1, mm_pM_2, mm_pM_at, mm_pM_pM, mm_pI_pL, mm_pI_pM, mm_pL_pM, mm_pI_ne, mm_pL_ne, mm_pM_ne, mm_u_f, mm_u_at, mm_u_ne, Bool.false_eq_true, n_10, true_and, and_true, false_and, and_false, Nat.not_lt_zero, true_or, or_true, eq_self, mm_z, mm_rs, sw_xc_ite, sw_xv_ite, n_m1, Nat.lt_irrefl, not_false_eq_true, not_true_eq_false, inS_0, inS_1, ite_not, sw_xv_some, sw_xm_some, sw_xc_some, sw_xc_void, if_true, if_false, reduceIte, bI_0, bI_01, bI_1, nt_or, Nat.reduceAdd, n_add, n_mul, n_addL, n_Ladd, n_mulL, n_Lmul, n_sub, n_subL, n_lt, n_eq, n_ltL, n_Llt, n_eqL, n_Leq, n_nneg, n_pos]
        · intro S1 hM
          have e3 := e3 S1 hM
          have eh := eh S1 hM
          have hI3 : IT (S1.1 3) := by rw [e3]; exact hT
          have hB3 := hI3.b
          simp (disch := first | omega | exact hB _ _ | exact hB3 | exact hI3 | assumption | decide) only [e_MD_owed, st_MD_owed, h2, h3, in_ok, in_okS, md_isPersonX, md_isThingX, md_isPromiseX, e_MD_areTwo, st_MD_areTwo, rs_L, md_finds0, md_finds1, md_finds2, md_finds3, md_finds4, md_finds5, md_finds6, mr_md E _, e3, eh, mm_pI_at, mm_pI_pI, mm_pI_2, mm_pL_1, mm_pL_at, mm_pL_pL, mm_pL_3, mm_pM_1, mm_pM_2, mm_pM_at, mm_pM_pM, mm_pI_pL, mm_pI_pM, mm_pL_pM, mm_pI_ne, mm_pL_ne, mm_pM_ne, mm_u_f, mm_u_at, mm_u_ne, Bool.false_eq_true, n_10, true_and, and_true, false_and, and_false, Nat.not_lt_zero, true_or, or_true, eq_self, mm_z, mm_rs, sw_xc_ite, sw_xv_ite, n_m1, Nat.lt_irrefl, not_false_eq_true, not_true_eq_false, inS_0, inS_1, ite_not, sw_xv_some, sw_xm_some, sw_xc_some, sw_xc_void, if_true, if_false, reduceIte, bI_0, bI_01, bI_1, nt_or, Nat.reduceAdd, n_add, n_mul, n_addL, n_Ladd, n_mulL, n_Lmul, n_sub, n_subL, n_lt, n_eq, n_ltL, n_Llt, n_eqL, n_Leq, n_nneg, n_pos]
      · obtain ⟨x, h1_, rfl⟩ := (ok_iff (by omega)).mp h1
        obtain ⟨y, h2_, rfl⟩ := (ok_iff (by omega)).mp h2
        have hne : ¬ x = y := fun e => h3 (by rw [e])
        have hx10 : x < 10 := by omega
        have hy10 : y < 10 := by omega
        refine ag_read (v := nI (tw_owed (S.1 0) x y)) ?_ ?_ hI
        · simp (disch := first | omega | exact hB _ _ | exact hB3 | exact hI3 | assumption | decide) only [e_SW_owed, st_SW_owed, h1, h2, hne, c_Promises_sumBetween E S 0 h03 hT (a := x) (b := y) (by omega) (by omega), c_isKind, c_isUpTo, c_isSum, c_Phas E _ _ h03, c_Thas E _ _ h03, c_Khas E _ _ h03, e_SW_isPair, st_SW_isPair, e_People_isFull, st_People_isFull, e_Things_isFull, st_Things_isFull, e_Promises_isFull, st_Promises_isFull, e_Promises_isOpen, st_Promises_isOpen, c_tell0, c_tell1, c_tell2, c_tell3, c_tell4, c_tell5, c_tell6, mr_cl E _, mr_town E _ 0 h03, mm_pI_at, mm_pI_pI, mm_pI_2, mm_pL_1, mm_pL_at, mm_pL_pL, mm_pL_3, mm_pM_1, mm_pM_2, mm_pM_at, mm_pM_pM, mm_pI_pL, mm_pI_pM, mm_pL_pM, mm_pI_ne, mm_pL_ne, mm_pM_ne, mm_u_f, mm_u_at, mm_u_ne, Bool.false_eq_true, n_10, true_and, and_true, false_and, and_false, Nat.not_lt_zero, true_or, or_true, eq_self, mm_z, mm_rs, sw_xc_ite, sw_xv_ite, n_m1, Nat.lt_irrefl, not_false_eq_true, not_true_eq_false, inS_0, inS_1, ite_not, sw_xv_some, sw_xm_some, sw_xc_some, sw_xc_void, if_true, if_false, reduceIte, bI_0, bI_01, bI_1, nt_or, Nat.reduceAdd, n_add, n_mul, n_addL, n_Ladd, n_mulL, n_Lmul, n_sub, n_subL, n_lt, n_eq, n_ltL, n_Llt, n_eqL, n_Leq, n_nneg, n_pos]
        · intro S1 hM
          have e3 := e3 S1 hM
          have eh := eh S1 hM
          have hI3 : IT (S1.1 3) := by rw [e3]; exact hT
          have hB3 := hI3.b
          simp (disch := first | omega | exact hB _ _ | exact hB3 | exact hI3 | assumption | decide) only [e_MD_owed, st_MD_owed, h1, h2, hne, md_owes E _ hI3 (a := x) (b := y) (by omega) (by omega), in_ok, in_okS, md_isPersonX, md_isThingX, md_isPromiseX, e_MD_areTwo, st_MD_areTwo, rs_L, md_finds0, md_finds1, md_finds2, md_finds3, md_finds4, md_finds5, md_finds6, mr_md E _, e3, eh, mm_pI_at, mm_pI_pI, mm_pI_2, mm_pL_1, mm_pL_at, mm_pL_pL, mm_pL_3, mm_pM_1, mm_pM_2, mm_pM_at, mm_pM_pM, mm_pI_pL, mm_pI_pM, mm_pL_pM, mm_pI_ne, mm_pL_ne, mm_pM_ne, mm_u_f, mm_u_at, mm_u_ne, Bool.false_eq_true, n_10, true_and, and_true, false_and, and_false, Nat.not_lt_zero, true_or, or_true, eq_self, mm_z, mm_rs, sw_xc_ite, sw_xv_ite, n_m1, Nat.lt_irrefl, not_false_eq_true, not_true_eq_false, inS_0, inS_1, ite_not, sw_xv_some, sw_xm_some, sw_xc_some, sw_xc_void, if_true, if_false, reduceIte, bI_0, bI_01, bI_1, nt_or, Nat.reduceAdd, n_add, n_mul, n_addL, n_Ladd, n_mulL, n_Lmul, n_sub, n_subL, n_lt, n_eq, n_ltL, n_Llt, n_eqL, n_Leq, n_nneg, n_pos]
    · refine ag_find (v := -1000000001) 0 ?_ ?_ hI
      · simp (disch := first | omega | exact hB _ _ | exact hB3 | exact hI3 | assumption | decide) only [e_SW_owed, st_SW_owed, h1, h2, c_isKind, c_isUpTo, c_isSum, c_Phas E _ _ h03, c_Thas E _ _ h03, c_Khas E _ _ h03, e_SW_isPair, st_SW_isPair, e_People_isFull, st_People_isFull, e_Things_isFull, st_Things_isFull, e_Promises_isFull, st_Promises_isFull, e_Promises_isOpen, st_Promises_isOpen, c_tell0, c_tell1, c_tell2, c_tell3, c_tell4, c_tell5, c_tell6, mr_cl E _, mr_town E _ 0 h03, mm_pI_at, mm_pI_pI, mm_pI_2, mm_pL_1, mm_pL_at, mm_pL_pL, mm_pL_3, mm_pM_1, mm_pM_2, mm_pM_at, mm_pM_pM, mm_pI_pL, mm_pI_pM, mm_pL_pM, mm_pI_ne, mm_pL_ne, mm_pM_ne, mm_u_f, mm_u_at, mm_u_ne, Bool.false_eq_true, n_10, true_and, and_true, false_and, and_false, Nat.not_lt_zero, true_or, or_true, eq_self, mm_z, mm_rs, sw_xc_ite, sw_xv_ite, n_m1, Nat.lt_irrefl, not_false_eq_true, not_true_eq_false, inS_0, inS_1, ite_not, sw_xv_some, sw_xm_some, sw_xc_some, sw_xc_void, if_true, if_false, reduceIte, bI_0, bI_01, bI_1, nt_or, Nat.reduceAdd, n_add, n_mul, n_addL, n_Ladd, n_mulL, n_Lmul, n_sub, n_subL, n_lt, n_eq, n_ltL, n_Llt, n_eqL, n_Leq, n_nneg, n_pos]
      · intro S1 hM
        have e3 := e3 S1 hM
        have eh := eh S1 hM
        have hI3 : IT (S1.1 3) := by rw [e3]; exact hT
        have hB3 := hI3.b
        simp (disch := first | omega | exact hB _ _ | exact hB3 | exact hI3 | assumption | decide) only [e_MD_owed, st_MD_owed, h1, h2, in_ok, in_okS, md_isPersonX, md_isThingX, md_isPromiseX, e_MD_areTwo, st_MD_areTwo, rs_L, md_finds0, md_finds1, md_finds2, md_finds3, md_finds4, md_finds5, md_finds6, mr_md E _, e3, eh, mm_pI_at, mm_pI_pI, mm_pI_2, mm_pL_1, mm_pL_at, mm_pL_pL, mm_pL_3, mm_pM_1, mm_pM_2, mm_pM_at, mm_pM_pM, mm_pI_pL, mm_pI_pM, mm_pL_pM, mm_pI_ne, mm_pL_ne, mm_pM_ne, mm_u_f, mm_u_at, mm_u_ne, Bool.false_eq_true, n_10, true_and, and_true, false_and, and_false, Nat.not_lt_zero, true_or, or_true, eq_self, mm_z, mm_rs, sw_xc_ite, sw_xv_ite, n_m1, Nat.lt_irrefl, not_false_eq_true, not_true_eq_false, inS_0, inS_1, ite_not, sw_xv_some, sw_xm_some, sw_xc_some, sw_xc_void, if_true, if_false, reduceIte, bI_0, bI_01, bI_1, nt_or, Nat.reduceAdd, n_add, n_mul, n_addL, n_Ladd, n_mulL, n_Lmul, n_sub, n_subL, n_lt, n_eq, n_ltL, n_Llt, n_eqL, n_Leq, n_nneg, n_pos]
  · refine ag_find (v := -1000000001) 0 ?_ ?_ hI
    · simp (disch := first | omega | exact hB _ _ | exact hB3 | exact hI3 | assumption | decide) only [e_SW_owed, st_SW_owed, h1, c_isKind, c_isUpTo, c_isSum, c_Phas E _ _ h03, c_Thas E _ _ h03, c_Khas E _ _ h03, e_SW_isPair, st_SW_isPair, e_People_isFull, st_People_isFull, e_Things_isFull, st_Things_isFull, e_Promises_isFull, st_Promises_isFull, e_Promises_isOpen, st_Promises_isOpen, c_tell0, c_tell1, c_tell2, c_tell3, c_tell4, c_tell5, c_tell6, mr_cl E _, mr_town E _ 0 h03, mm_pI_at, mm_pI_pI, mm_pI_2, mm_pL_1, mm_pL_at, mm_pL_pL, mm_pL_3, mm_pM_1, mm_pM_2, mm_pM_at, mm_pM_pM, mm_pI_pL, mm_pI_pM, mm_pL_pM, mm_pI_ne, mm_pL_ne, mm_pM_ne, mm_u_f, mm_u_at, mm_u_ne, Bool.false_eq_true, n_10, true_and, and_true, false_and, and_false, Nat.not_lt_zero, true_or, or_true, eq_self, mm_z, mm_rs, sw_xc_ite, sw_xv_ite, n_m1, Nat.lt_irrefl, not_false_eq_true, not_true_eq_false, inS_0, inS_1, ite_not, sw_xv_some, sw_xm_some, sw_xc_some, sw_xc_void, if_true, if_false, reduceIte, bI_0, bI_01, bI_1, nt_or, Nat.reduceAdd, n_add, n_mul, n_addL, n_Ladd, n_mulL, n_Lmul, n_sub, n_subL, n_lt, n_eq, n_ltL, n_Llt, n_eqL, n_Leq, n_nneg, n_pos]
    · intro S1 hM
      have e3 := e3 S1 hM
      have eh := eh S1 hM
      have hI3 : IT (S1.1 3) := by rw [e3]; exact hT
      have hB3 := hI3.b
      simp (disch := first | omega | exact hB _ _ | exact hB3 | exact hI3 | assumption | decide) only [e_MD_owed, st_MD_owed, h1, in_ok, in_okS, md_isPersonX, md_isThingX, md_isPromiseX, e_MD_areTwo, st_MD_areTwo, rs_L, md_finds0, md_finds1, md_finds2, md_finds3, md_finds4, md_finds5, md_finds6, mr_md E _, e3, eh, mm_pI_at, mm_pI_pI, mm_pI_2, mm_pL_1, mm_pL_at, mm_pL_pL, mm_pL_3, mm_pM_1, mm_pM_2, mm_pM_at, mm_pM_pM, mm_pI_pL, mm_pI_pM, mm_pL_pM, mm_pI_ne, mm_pL_ne, mm_pM_ne, mm_u_f, mm_u_at, mm_u_ne, Bool.false_eq_true, n_10, true_and, and_true, false_and, and_false, Nat.not_lt_zero, true_or, or_true, eq_self, mm_z, mm_rs, sw_xc_ite, sw_xv_ite, n_m1, Nat.lt_irrefl, not_false_eq_true, not_true_eq_false, inS_0, inS_1, ite_not, sw_xv_some, sw_xm_some, sw_xc_some, sw_xc_void, if_true, if_false, reduceIte, bI_0, bI_01, bI_1, nt_or, Nat.reduceAdd, n_add, n_mul, n_addL, n_Ladd, n_mulL, n_Lmul, n_sub, n_subL, n_lt, n_eq, n_ltL, n_Llt, n_eqL, n_Leq, n_nneg, n_pos]
set_option maxRecDepth 100000 in
set_option maxHeartbeats 4000000 in
theorem p_most (E : sw_E) {S : sw_S} (hI : Inv S) (x : Int32) (y : Int32) : AgI S (f_SW_most E (.ref 0) (.int x) (.int y)) (f_MD_most E (.ref 71) (.int x) (.int y)) := by
  have h03 : 0 < 3 := by decide
  have hT := hI.it
  have hB := hT.b
  have hn := hT.n
  have hp := hT.p
  have hk := hT.k
  have e3 : ∀ S1, MP S S1 → S1.1 3 = S.1 0 := fun S1 h => (h.1 3 (by decide)).trans hI.s3
  have eh : ∀ S1, MP S S1 → S1.2.1 3 = S.2.1 0 := fun S1 h => (h.2.1 3 (by decide)).trans hI.h3
  by_cases h1 : ok x (S.1 0 0 0) = true
  · by_cases h2 : ok y (S.1 0 0 0) = true
    · by_cases h3 : x = y
      · refine ag_find (v := -1000000001) 0 ?_ ?_ hI
        · simp (disch := first | omega | exact hB _ _ | exact hB3 | exact hI3 | assumption | decide) only [e_SW_most, st_SW_most, h2, h3, c_isKind, c_isUpTo, c_isSum, c_Phas E _ _ h03, c_Thas E _ _ h03, c_Khas E _ _ h03, e_SW_isPair, st_SW_isPair, e_People_isFull, st_People_isFull, e_Things_isFull, st_Things_isFull, e_Promises_isFull, st_Promises_isFull, e_Promises_isOpen, st_Promises_isOpen, c_tell0, c_tell1, c_tell2, c_tell3, c_tell4, c_tell5, c_tell6, mr_cl E _, mr_town E _ 0 h03, mm_pI_at, mm_pI_pI, mm_pI_2, mm_pL_1, mm_pL_at, mm_pL_pL, mm_pL_3, mm_pM_1, mm_pM_2, mm_pM_at, mm_pM_pM, mm_pI_pL, mm_pI_pM, mm_pL_pM, mm_pI_ne, mm_pL_ne, mm_pM_ne, mm_u_f, mm_u_at, mm_u_ne, Bool.false_eq_true, n_10, true_and, and_true, false_and, and_false, Nat.not_lt_zero, true_or, or_true, eq_self, mm_z, mm_rs, sw_xc_ite, sw_xv_ite, n_m1, Nat.lt_irrefl, not_false_eq_true, not_true_eq_false, inS_0, inS_1, ite_not, sw_xv_some, sw_xm_some, sw_xc_some, sw_xc_void, if_true, if_false, reduceIte, bI_0, bI_01, bI_1, nt_or, Nat.reduceAdd, n_add, n_mul, n_addL, n_Ladd, n_mulL, n_Lmul, n_sub, n_subL, n_lt, n_eq, n_ltL, n_Llt, n_eqL, n_Leq, n_nneg, n_pos]
        · intro S1 hM
          have e3 := e3 S1 hM
          have eh := eh S1 hM
          have hI3 : IT (S1.1 3) := by rw [e3]; exact hT
          have hB3 := hI3.b
          simp (disch := first | omega | exact hB _ _ | exact hB3 | exact hI3 | assumption | decide) only [e_MD_most, st_MD_most, h2, h3, in_ok, in_okS, md_isPersonX, md_isThingX, md_isPromiseX, e_MD_areTwo, st_MD_areTwo, rs_L, md_finds0, md_finds1, md_finds2, md_finds3, md_finds4, md_finds5, md_finds6, mr_md E _, e3, eh, mm_pI_at, mm_pI_pI, mm_pI_2, mm_pL_1, mm_pL_at, mm_pL_pL, mm_pL_3, mm_pM_1, mm_pM_2, mm_pM_at, mm_pM_pM, mm_pI_pL, mm_pI_pM, mm_pL_pM, mm_pI_ne, mm_pL_ne, mm_pM_ne, mm_u_f, mm_u_at, mm_u_ne, Bool.false_eq_true, n_10, true_and, and_true, false_and, and_false, Nat.not_lt_zero, true_or, or_true, eq_self, mm_z, mm_rs, sw_xc_ite, sw_xv_ite, n_m1, Nat.lt_irrefl, not_false_eq_true, not_true_eq_false, inS_0, inS_1, ite_not, sw_xv_some, sw_xm_some, sw_xc_some, sw_xc_void, if_true, if_false, reduceIte, bI_0, bI_01, bI_1, nt_or, Nat.reduceAdd, n_add, n_mul, n_addL, n_Ladd, n_mulL, n_Lmul, n_sub, n_subL, n_lt, n_eq, n_ltL, n_Llt, n_eqL, n_Leq, n_nneg, n_pos]
      · obtain ⟨x, h1_, rfl⟩ := (ok_iff (by omega)).mp h1
        obtain ⟨y, h2_, rfl⟩ := (ok_iff (by omega)).mp h2
        have hne : ¬ x = y := fun e => h3 (by rw [e])
        have hx10 : x < 10 := by omega
        have hy10 : y < 10 := by omega
        refine ag_read (v := nI (tw_wa (S.1 0) (tw_put (S.1 0) x) y (S.1 0 0 5))) ?_ ?_ hI
        · simp (disch := first | omega | exact hB _ _ | exact hB3 | exact hI3 | assumption | decide) only [e_SW_most, st_SW_most, h1, h2, hne, c_Town_couldPut E S 0 h03 hT (p := x) (by omega), c_Town_worthOfAll E S 0 h03 hT _ hy10 hT.part, c_isKind, c_isUpTo, c_isSum, c_Phas E _ _ h03, c_Thas E _ _ h03, c_Khas E _ _ h03, e_SW_isPair, st_SW_isPair, e_People_isFull, st_People_isFull, e_Things_isFull, st_Things_isFull, e_Promises_isFull, st_Promises_isFull, e_Promises_isOpen, st_Promises_isOpen, c_tell0, c_tell1, c_tell2, c_tell3, c_tell4, c_tell5, c_tell6, mr_cl E _, mr_town E _ 0 h03, mm_pI_at, mm_pI_pI, mm_pI_2, mm_pL_1, mm_pL_at, mm_pL_pL, mm_pL_3, mm_pM_1, mm_pM_2, mm_pM_at, mm_pM_pM, mm_pI_pL, mm_pI_pM, mm_pL_pM, mm_pI_ne, mm_pL_ne, mm_pM_ne, mm_u_f, mm_u_at, mm_u_ne, Bool.false_eq_true, n_10, true_and, and_true, false_and, and_false, Nat.not_lt_zero, true_or, or_true, eq_self, mm_z, mm_rs, sw_xc_ite, sw_xv_ite, n_m1, Nat.lt_irrefl, not_false_eq_true, not_true_eq_false, inS_0, inS_1, ite_not, sw_xv_some, sw_xm_some, sw_xc_some, sw_xc_void, if_true, if_false, reduceIte, bI_0, bI_01, bI_1, nt_or, Nat.reduceAdd, n_add, n_mul, n_addL, n_Ladd, n_mulL, n_Lmul, n_sub, n_subL, n_lt, n_eq, n_ltL, n_Llt, n_eqL, n_Leq, n_nneg, n_pos]
        · intro S1 hM
          have e3 := e3 S1 hM
          have eh := eh S1 hM
          have hI3 : IT (S1.1 3) := by rw [e3]; exact hT
          have hB3 := hI3.b
          simp (disch := first | omega | exact hB _ _ | exact hB3 | exact hI3 | assumption | decide) only [e_MD_most, st_MD_most, h1, h2, hne, md_couldPut E _ hI3 (p := x) (by omega), md_countsAll E _ hI3 _ hy10, in_ok, in_okS, md_isPersonX, md_isThingX, md_isPromiseX, e_MD_areTwo, st_MD_areTwo, rs_L, md_finds0, md_finds1, md_finds2, md_finds3, md_finds4, md_finds5, md_finds6, mr_md E _, e3, eh, mm_pI_at, mm_pI_pI, mm_pI_2, mm_pL_1, mm_pL_at, mm_pL_pL, mm_pL_3, mm_pM_1, mm_pM_2, mm_pM_at, mm_pM_pM, mm_pI_pL, mm_pI_pM, mm_pL_pM, mm_pI_ne, mm_pL_ne, mm_pM_ne, mm_u_f, mm_u_at, mm_u_ne, Bool.false_eq_true, n_10, true_and, and_true, false_and, and_false, Nat.not_lt_zero, true_or, or_true, eq_self, mm_z, mm_rs, sw_xc_ite, sw_xv_ite, n_m1, Nat.lt_irrefl, not_false_eq_true, not_true_eq_false, inS_0, inS_1, ite_not, sw_xv_some, sw_xm_some, sw_xc_some, sw_xc_void, if_true, if_false, reduceIte, bI_0, bI_01, bI_1, nt_or, Nat.reduceAdd, n_add, n_mul, n_addL, n_Ladd, n_mulL, n_Lmul, n_sub, n_subL, n_lt, n_eq, n_ltL, n_Llt, n_eqL, n_Leq, n_nneg, n_pos]
    · refine ag_find (v := -1000000001) 0 ?_ ?_ hI
      · simp (disch := first | omega | exact hB _ _ | exact hB3 | exact hI3 | assumption | decide) only [e_SW_most, st_SW_most, h1, h2, c_isKind, c_isUpTo, c_isSum, c_Phas E _ _ h03, c_Thas E _ _ h03, c_Khas E _ _ h03, e_SW_isPair, st_SW_isPair, e_People_isFull, st_People_isFull, e_Things_isFull, st_Things_isFull, e_Promises_isFull, st_Promises_isFull, e_Promises_isOpen, st_Promises_isOpen, c_tell0, c_tell1, c_tell2, c_tell3, c_tell4, c_tell5, c_tell6, mr_cl E _, mr_town E _ 0 h03, mm_pI_at, mm_pI_pI, mm_pI_2, mm_pL_1, mm_pL_at, mm_pL_pL, mm_pL_3, mm_pM_1, mm_pM_2, mm_pM_at, mm_pM_pM, mm_pI_pL, mm_pI_pM, mm_pL_pM, mm_pI_ne, mm_pL_ne, mm_pM_ne, mm_u_f, mm_u_at, mm_u_ne, Bool.false_eq_true, n_10, true_and, and_true, false_and, and_false, Nat.not_lt_zero, true_or, or_true, eq_self, mm_z, mm_rs, sw_xc_ite, sw_xv_ite, n_m1, Nat.lt_irrefl, not_false_eq_true, not_true_eq_false, inS_0, inS_1, ite_not, sw_xv_some, sw_xm_some, sw_xc_some, sw_xc_void, if_true, if_false, reduceIte, bI_0, bI_01, bI_1, nt_or, Nat.reduceAdd, n_add, n_mul, n_addL, n_Ladd, n_mulL, n_Lmul, n_sub, n_subL, n_lt, n_eq, n_ltL, n_Llt, n_eqL, n_Leq, n_nneg, n_pos]
      · intro S1 hM
        have e3 := e3 S1 hM
        have eh := eh S1 hM
        have hI3 : IT (S1.1 3) := by rw [e3]; exact hT
        have hB3 := hI3.b
        simp (disch := first | omega | exact hB _ _ | exact hB3 | exact hI3 | assumption | decide) only [e_MD_most, st_MD_most, h1, h2, in_ok, in_okS, md_isPersonX, md_isThingX, md_isPromiseX, e_MD_areTwo, st_MD_areTwo, rs_L, md_finds0, md_finds1, md_finds2, md_finds3, md_finds4, md_finds5, md_finds6, mr_md E _, e3, eh, mm_pI_at, mm_pI_pI, mm_pI_2, mm_pL_1, mm_pL_at, mm_pL_pL, mm_pL_3, mm_pM_1, mm_pM_2, mm_pM_at, mm_pM_pM, mm_pI_pL, mm_pI_pM, mm_pL_pM, mm_pI_ne, mm_pL_ne, mm_pM_ne, mm_u_f, mm_u_at, mm_u_ne, Bool.false_eq_true, n_10, true_and, and_true, false_and, and_false, Nat.not_lt_zero, true_or, or_true, eq_self, mm_z, mm_rs, sw_xc_ite, sw_xv_ite, n_m1, Nat.lt_irrefl, not_false_eq_true, not_true_eq_false, inS_0, inS_1, ite_not, sw_xv_some, sw_xm_some, sw_xc_some, sw_xc_void, if_true, if_false, reduceIte, bI_0, bI_01, bI_1, nt_or, Nat.reduceAdd, n_add, n_mul, n_addL, n_Ladd, n_mulL, n_Lmul, n_sub, n_subL, n_lt, n_eq, n_ltL, n_Llt, n_eqL, n_Leq, n_nneg, n_pos]
  · refine ag_find (v := -1000000001) 0 ?_ ?_ hI
    · simp (disch := first | omega | exact hB _ _ | exact hB3 | exact hI3 | assumption | decide) only [e_SW_most, st_SW_most, h1, c_isKind, c_isUpTo, c_isSum, c_Phas E _ _ h03, c_Thas E _ _ h03, c_Khas E _ _ h03, e_SW_isPair, st_SW_isPair, e_People_isFull, st_People_isFull, e_Things_isFull, st_Things_isFull, e_Promises_isFull, st_Promises_isFull, e_Promises_isOpen, st_Promises_isOpen, c_tell0, c_tell1, c_tell2, c_tell3, c_tell4, c_tell5, c_tell6, mr_cl E _, mr_town E _ 0 h03, mm_pI_at, mm_pI_pI, mm_pI_2, mm_pL_1, mm_pL_at, mm_pL_pL, mm_pL_3, mm_pM_1, mm_pM_2, mm_pM_at, mm_pM_pM, mm_pI_pL, mm_pI_pM, mm_pL_pM, mm_pI_ne, mm_pL_ne, mm_pM_ne, mm_u_f, mm_u_at, mm_u_ne, Bool.false_eq_true, n_10, true_and, and_true, false_and, and_false, Nat.not_lt_zero, true_or, or_true, eq_self, mm_z, mm_rs, sw_xc_ite, sw_xv_ite, n_m1, Nat.lt_irrefl, not_false_eq_true, not_true_eq_false, inS_0, inS_1, ite_not, sw_xv_some, sw_xm_some, sw_xc_some, sw_xc_void, if_true, if_false, reduceIte, bI_0, bI_01, bI_1, nt_or, Nat.reduceAdd, n_add, n_mul, n_addL, n_Ladd, n_mulL, n_Lmul, n_sub, n_subL, n_lt, n_eq, n_ltL, n_Llt, n_eqL, n_Leq, n_nneg, n_pos]
    · intro S1 hM
      have e3 := e3 S1 hM
      have eh := eh S1 hM
      have hI3 : IT (S1.1 3) := by rw [e3]; exact hT
      have hB3 := hI3.b
      simp (disch := first | omega | exact hB _ _ | exact hB3 | exact hI3 | assumption | decide) only [e_MD_most, st_MD_most, h1, in_ok, in_okS, md_isPersonX, md_isThingX, md_isPromiseX, e_MD_areTwo, st_MD_areTwo, rs_L, md_finds0, md_finds1, md_finds2, md_finds3, md_finds4, md_finds5, md_finds6, mr_md E _, e3, eh, mm_pI_at, mm_pI_pI, mm_pI_2, mm_pL_1, mm_pL_at, mm_pL_pL, mm_pL_3, mm_pM_1, mm_pM_2, mm_pM_at, mm_pM_pM, mm_pI_pL, mm_pI_pM, mm_pL_pM, mm_pI_ne, mm_pL_ne, mm_pM_ne, mm_u_f, mm_u_at, mm_u_ne, Bool.false_eq_true, n_10, true_and, and_true, false_and, and_false, Nat.not_lt_zero, true_or, or_true, eq_self, mm_z, mm_rs, sw_xc_ite, sw_xv_ite, n_m1, Nat.lt_irrefl, not_false_eq_true, not_true_eq_false, inS_0, inS_1, ite_not, sw_xv_some, sw_xm_some, sw_xc_some, sw_xc_void, if_true, if_false, reduceIte, bI_0, bI_01, bI_1, nt_or, Nat.reduceAdd, n_add, n_mul, n_addL, n_Ladd, n_mulL, n_Lmul, n_sub, n_subL, n_lt, n_eq, n_ltL, n_Llt, n_eqL, n_Leq, n_nneg, n_pos]
set_option maxRecDepth 100000 in
set_option maxHeartbeats 4000000 in
theorem p_worst (E : sw_E) {S : sw_S} (hI : Inv S) : AgI S (f_SW_worst E (.ref 0)) (f_MD_worst E (.ref 71)) := by
  have h03 : 0 < 3 := by decide
  have hT := hI.it
  have hB := hT.b
  have hn := hT.n
  have hp := hT.p
  have hk := hT.k
  have e3 : ∀ S1, MP S S1 → S1.1 3 = S.1 0 := fun S1 h => (h.1 3 (by decide)).trans hI.s3
  have eh : ∀ S1, MP S S1 → S1.2.1 3 = S.2.1 0 := fun S1 h => (h.2.1 3 (by decide)).trans hI.h3
  have cW := c_Town_mostHarmful E S 0 h03 hT
  have hb : ∀ b, tw_worst (S.1 0) = some b → b < 2147483648 := by
    have := (md_worst_l E S hI.it3).2
    rw [hI.s3] at this
    exact this
  cases hw : tw_worst (S.1 0) with
  | none =>
    rw [hw] at cW
    refine ag_find (v := -1000000004) 3 ?_ ?_ hI
    · simp (disch := first | omega | exact hB _ _ | exact hB3 | exact hI3 | assumption | decide) only [e_SW_worst, st_SW_worst, cW, oI, c_isKind, c_isUpTo, c_isSum, c_Phas E _ _ h03, c_Thas E _ _ h03, c_Khas E _ _ h03, e_SW_isPair, st_SW_isPair, e_People_isFull, st_People_isFull, e_Things_isFull, st_Things_isFull, e_Promises_isFull, st_Promises_isFull, e_Promises_isOpen, st_Promises_isOpen, c_tell0, c_tell1, c_tell2, c_tell3, c_tell4, c_tell5, c_tell6, mr_cl E _, mr_town E _ 0 h03, mm_pI_at, mm_pI_pI, mm_pI_2, mm_pL_1, mm_pL_at, mm_pL_pL, mm_pL_3, mm_pM_1, mm_pM_2, mm_pM_at, mm_pM_pM, mm_pI_pL, mm_pI_pM, mm_pL_pM, mm_pI_ne, mm_pL_ne, mm_pM_ne, mm_u_f, mm_u_at, mm_u_ne, Bool.false_eq_true, n_10, true_and, and_true, false_and, and_false, Nat.not_lt_zero, true_or, or_true, eq_self, mm_z, mm_rs, sw_xc_ite, sw_xv_ite, n_m1, Nat.lt_irrefl, not_false_eq_true, not_true_eq_false, inS_0, inS_1, ite_not, sw_xv_some, sw_xm_some, sw_xc_some, sw_xc_void, if_true, if_false, reduceIte, bI_0, bI_01, bI_1, nt_or, Nat.reduceAdd, n_add, n_mul, n_addL, n_Ladd, n_mulL, n_Lmul, n_sub, n_subL, n_lt, n_eq, n_ltL, n_Llt, n_eqL, n_Leq, n_nneg, n_pos]
    · intro S1 hM
      have e3 := e3 S1 hM
      have eh := eh S1 hM
      have hI3 : IT (S1.1 3) := by rw [e3]; exact hT
      have hB3 := hI3.b
      have mW := (md_worst_l E S1 hI3).1
      rw [e3, hw] at mW
      simp (disch := first | omega | exact hB _ _ | exact hB3 | exact hI3 | assumption | decide) only [e_MD_worst, st_MD_worst, mW, oI, in_ok, in_okS, md_isPersonX, md_isThingX, md_isPromiseX, e_MD_areTwo, st_MD_areTwo, rs_L, md_finds0, md_finds1, md_finds2, md_finds3, md_finds4, md_finds5, md_finds6, mr_md E _, e3, eh, mm_pI_at, mm_pI_pI, mm_pI_2, mm_pL_1, mm_pL_at, mm_pL_pL, mm_pL_3, mm_pM_1, mm_pM_2, mm_pM_at, mm_pM_pM, mm_pI_pL, mm_pI_pM, mm_pL_pM, mm_pI_ne, mm_pL_ne, mm_pM_ne, mm_u_f, mm_u_at, mm_u_ne, Bool.false_eq_true, n_10, true_and, and_true, false_and, and_false, Nat.not_lt_zero, true_or, or_true, eq_self, mm_z, mm_rs, sw_xc_ite, sw_xv_ite, n_m1, Nat.lt_irrefl, not_false_eq_true, not_true_eq_false, inS_0, inS_1, ite_not, sw_xv_some, sw_xm_some, sw_xc_some, sw_xc_void, if_true, if_false, reduceIte, bI_0, bI_01, bI_1, nt_or, Nat.reduceAdd, n_add, n_mul, n_addL, n_Ladd, n_mulL, n_Lmul, n_sub, n_subL, n_lt, n_eq, n_ltL, n_Llt, n_eqL, n_Leq, n_nneg, n_pos]
  | some b =>
    have hb1 := hb b hw
    rw [hw] at cW
    refine ag_read (v := nI b) ?_ ?_ hI
    · simp (disch := first | omega | exact hB _ _ | exact hB3 | exact hI3 | assumption | decide) only [e_SW_worst, st_SW_worst, cW, oI, c_isKind, c_isUpTo, c_isSum, c_Phas E _ _ h03, c_Thas E _ _ h03, c_Khas E _ _ h03, e_SW_isPair, st_SW_isPair, e_People_isFull, st_People_isFull, e_Things_isFull, st_Things_isFull, e_Promises_isFull, st_Promises_isFull, e_Promises_isOpen, st_Promises_isOpen, c_tell0, c_tell1, c_tell2, c_tell3, c_tell4, c_tell5, c_tell6, mr_cl E _, mr_town E _ 0 h03, mm_pI_at, mm_pI_pI, mm_pI_2, mm_pL_1, mm_pL_at, mm_pL_pL, mm_pL_3, mm_pM_1, mm_pM_2, mm_pM_at, mm_pM_pM, mm_pI_pL, mm_pI_pM, mm_pL_pM, mm_pI_ne, mm_pL_ne, mm_pM_ne, mm_u_f, mm_u_at, mm_u_ne, Bool.false_eq_true, n_10, true_and, and_true, false_and, and_false, Nat.not_lt_zero, true_or, or_true, eq_self, mm_z, mm_rs, sw_xc_ite, sw_xv_ite, n_m1, Nat.lt_irrefl, not_false_eq_true, not_true_eq_false, inS_0, inS_1, ite_not, sw_xv_some, sw_xm_some, sw_xc_some, sw_xc_void, if_true, if_false, reduceIte, bI_0, bI_01, bI_1, nt_or, Nat.reduceAdd, n_add, n_mul, n_addL, n_Ladd, n_mulL, n_Lmul, n_sub, n_subL, n_lt, n_eq, n_ltL, n_Llt, n_eqL, n_Leq, n_nneg, n_pos]
    · intro S1 hM
      have e3 := e3 S1 hM
      have eh := eh S1 hM
      have hI3 : IT (S1.1 3) := by rw [e3]; exact hT
      have hB3 := hI3.b
      have mW := (md_worst_l E S1 hI3).1
      rw [e3, hw] at mW
      simp (disch := first | omega | exact hB _ _ | exact hB3 | exact hI3 | assumption | decide) only [e_MD_worst, st_MD_worst, mW, oI, in_ok, in_okS, md_isPersonX, md_isThingX, md_isPromiseX, e_MD_areTwo, st_MD_areTwo, rs_L, md_finds0, md_finds1, md_finds2, md_finds3, md_finds4, md_finds5, md_finds6, mr_md E _, e3, eh, mm_pI_at, mm_pI_pI, mm_pI_2, mm_pL_1, mm_pL_at, mm_pL_pL, mm_pL_3, mm_pM_1, mm_pM_2, mm_pM_at, mm_pM_pM, mm_pI_pL, mm_pI_pM, mm_pL_pM, mm_pI_ne, mm_pL_ne, mm_pM_ne, mm_u_f, mm_u_at, mm_u_ne, Bool.false_eq_true, n_10, true_and, and_true, false_and, and_false, Nat.not_lt_zero, true_or, or_true, eq_self, mm_z, mm_rs, sw_xc_ite, sw_xv_ite, n_m1, Nat.lt_irrefl, not_false_eq_true, not_true_eq_false, inS_0, inS_1, ite_not, sw_xv_some, sw_xm_some, sw_xc_some, sw_xc_void, if_true, if_false, reduceIte, bI_0, bI_01, bI_1, nt_or, Nat.reduceAdd, n_add, n_mul, n_addL, n_Ladd, n_mulL, n_Lmul, n_sub, n_subL, n_lt, n_eq, n_ltL, n_Llt, n_eqL, n_Leq, n_nneg, n_pos]
theorem all_in0 : ∀ n, n ≤ 16 → ∀ i, i < n → inS (sb n - 1) i = true := by decide +kernel
theorem all_in {n i : Nat} (hn : n ≤ 16) (hi : i < n) : inS (sb n - 1) i = true := all_in0 n hn i hi
set_option maxRecDepth 100000 in
set_option maxHeartbeats 4000000 in
theorem p_count (E : sw_E) {S : sw_S} (hI : Inv S) (x : Int32) : AgI S (f_SW_count E (.ref 0) (.int x)) (f_MD_count E (.ref 71) (.int x)) := by
  have h03 : 0 < 3 := by decide
  have hT := hI.it
  have hB := hT.b
  have hn := hT.n
  have hp := hT.p
  have hk := hT.k
  have e3 : ∀ S1, MP S S1 → S1.1 3 = S.1 0 := fun S1 h => (h.1 3 (by decide)).trans hI.s3
  have eh : ∀ S1, MP S S1 → S1.2.1 3 = S.2.1 0 := fun S1 h => (h.2.1 3 (by decide)).trans hI.h3
  by_cases h1 : ok x 7 = true
  · obtain ⟨x, hx, rfl⟩ := (ok_iff (by decide)).mp h1
    obtain ⟨n, hn100, ht1, ht2⟩ := hI.tape
    rcases (show x = 0 ∨ x = 1 ∨ x = 2 ∨ x = 3 ∨ x = 4 ∨ x = 5 ∨ x = 6 by omega) with rfl | rfl | rfl | rfl | rfl | rfl | rfl
    · simp only [n_i]
      refine ag_read (v := nI (S.1 0 0 0)) ?_ ?_ hI
      · simp (disch := first | omega | exact hB _ _ | exact hB3 | exact hI3 | assumption | decide) only [e_SW_count, st_SW_count, i_ne, c_isKind, c_isUpTo, c_isSum, c_Phas E _ _ h03, c_Thas E _ _ h03, c_Khas E _ _ h03, e_SW_isPair, st_SW_isPair, e_People_isFull, st_People_isFull, e_Things_isFull, st_Things_isFull, e_Promises_isFull, st_Promises_isFull, e_Promises_isOpen, st_Promises_isOpen, c_tell0, c_tell1, c_tell2, c_tell3, c_tell4, c_tell5, c_tell6, mr_cl E _, mr_town E _ 0 h03, mm_pI_at, mm_pI_pI, mm_pI_2, mm_pL_1, mm_pL_at, mm_pL_pL, mm_pL_3, mm_pM_1, mm_pM_2, mm_pM_at, mm_pM_pM, mm_pI_pL, mm_pI_pM, mm_pL_pM, mm_pI_ne, mm_pL_ne, mm_pM_ne, mm_u_f, mm_u_at, mm_u_ne, Bool.false_eq_true, n_10, true_and, and_true, false_and, and_false, Nat.not_lt_zero, true_or, or_true, eq_self, mm_z, mm_rs, sw_xc_ite, sw_xv_ite, n_m1, Nat.lt_irrefl, not_false_eq_true, not_true_eq_false, inS_0, inS_1, ite_not, sw_xv_some, sw_xm_some, sw_xc_some, sw_xc_void, if_true, if_false, reduceIte, bI_0, bI_01, bI_1, nt_or, Nat.reduceAdd, n_add, n_mul, n_addL, n_Ladd, n_mulL, n_Lmul, n_sub, n_subL, n_lt, n_eq, n_ltL, n_Llt, n_eqL, n_Leq, n_nneg, n_pos]
      · intro S1 hM
        have e3 := e3 S1 hM
        have eh := eh S1 hM
        have hI3 : IT (S1.1 3) := by rw [e3]; exact hT
        have hB3 := hI3.b
        simp (disch := first | omega | exact hB _ _ | exact hB3 | exact hI3 | assumption | decide) only [e_MD_count, st_MD_count, i_ne, in_ok, in_okS, md_isPersonX, md_isThingX, md_isPromiseX, e_MD_areTwo, st_MD_areTwo, rs_L, md_finds0, md_finds1, md_finds2, md_finds3, md_finds4, md_finds5, md_finds6, mr_md E _, e3, eh, mm_pI_at, mm_pI_pI, mm_pI_2, mm_pL_1, mm_pL_at, mm_pL_pL, mm_pL_3, mm_pM_1, mm_pM_2, mm_pM_at, mm_pM_pM, mm_pI_pL, mm_pI_pM, mm_pL_pM, mm_pI_ne, mm_pL_ne, mm_pM_ne, mm_u_f, mm_u_at, mm_u_ne, Bool.false_eq_true, n_10, true_and, and_true, false_and, and_false, Nat.not_lt_zero, true_or, or_true, eq_self, mm_z, mm_rs, sw_xc_ite, sw_xv_ite, n_m1, Nat.lt_irrefl, not_false_eq_true, not_true_eq_false, inS_0, inS_1, ite_not, sw_xv_some, sw_xm_some, sw_xc_some, sw_xc_void, if_true, if_false, reduceIte, bI_0, bI_01, bI_1, nt_or, Nat.reduceAdd, n_add, n_mul, n_addL, n_Ladd, n_mulL, n_Lmul, n_sub, n_subL, n_lt, n_eq, n_ltL, n_Llt, n_eqL, n_Leq, n_nneg, n_pos]
    · simp only [n_i]
      refine ag_read (v := nI (S.1 0 0 1)) ?_ ?_ hI
      · simp (disch := first | omega | exact hB _ _ | exact hB3 | exact hI3 | assumption | decide) only [e_SW_count, st_SW_count, i_ne, c_isKind, c_isUpTo, c_isSum, c_Phas E _ _ h03, c_Thas E _ _ h03, c_Khas E _ _ h03, e_SW_isPair, st_SW_isPair, e_People_isFull, st_People_isFull, e_Things_isFull, st_Things_isFull, e_Promises_isFull, st_Promises_isFull, e_Promises_isOpen, st_Promises_isOpen, c_tell0, c_tell1, c_tell2, c_tell3, c_tell4, c_tell5, c_tell6, mr_cl E _, mr_town E _ 0 h03, mm_pI_at, mm_pI_pI, mm_pI_2, mm_pL_1, mm_pL_at, mm_pL_pL, mm_pL_3, mm_pM_1, mm_pM_2, mm_pM_at, mm_pM_pM, mm_pI_pL, mm_pI_pM, mm_pL_pM, mm_pI_ne, mm_pL_ne, mm_pM_ne, mm_u_f, mm_u_at, mm_u_ne, Bool.false_eq_true, n_10, true_and, and_true, false_and, and_false, Nat.not_lt_zero, true_or, or_true, eq_self, mm_z, mm_rs, sw_xc_ite, sw_xv_ite, n_m1, Nat.lt_irrefl, not_false_eq_true, not_true_eq_false, inS_0, inS_1, ite_not, sw_xv_some, sw_xm_some, sw_xc_some, sw_xc_void, if_true, if_false, reduceIte, bI_0, bI_01, bI_1, nt_or, Nat.reduceAdd, n_add, n_mul, n_addL, n_Ladd, n_mulL, n_Lmul, n_sub, n_subL, n_lt, n_eq, n_ltL, n_Llt, n_eqL, n_Leq, n_nneg, n_pos]
      · intro S1 hM
        have e3 := e3 S1 hM
        have eh := eh S1 hM
        have hI3 : IT (S1.1 3) := by rw [e3]; exact hT
        have hB3 := hI3.b
        simp (disch := first | omega | exact hB _ _ | exact hB3 | exact hI3 | assumption | decide) only [e_MD_count, st_MD_count, i_ne, in_ok, in_okS, md_isPersonX, md_isThingX, md_isPromiseX, e_MD_areTwo, st_MD_areTwo, rs_L, md_finds0, md_finds1, md_finds2, md_finds3, md_finds4, md_finds5, md_finds6, mr_md E _, e3, eh, mm_pI_at, mm_pI_pI, mm_pI_2, mm_pL_1, mm_pL_at, mm_pL_pL, mm_pL_3, mm_pM_1, mm_pM_2, mm_pM_at, mm_pM_pM, mm_pI_pL, mm_pI_pM, mm_pL_pM, mm_pI_ne, mm_pL_ne, mm_pM_ne, mm_u_f, mm_u_at, mm_u_ne, Bool.false_eq_true, n_10, true_and, and_true, false_and, and_false, Nat.not_lt_zero, true_or, or_true, eq_self, mm_z, mm_rs, sw_xc_ite, sw_xv_ite, n_m1, Nat.lt_irrefl, not_false_eq_true, not_true_eq_false, inS_0, inS_1, ite_not, sw_xv_some, sw_xm_some, sw_xc_some, sw_xc_void, if_true, if_false, reduceIte, bI_0, bI_01, bI_1, nt_or, Nat.reduceAdd, n_add, n_mul, n_addL, n_Ladd, n_mulL, n_Lmul, n_sub, n_subL, n_lt, n_eq, n_ltL, n_Llt, n_eqL, n_Leq, n_nneg, n_pos]
    · simp only [n_i]
      refine ag_read (v := nI (S.1 0 0 2)) ?_ ?_ hI
      · simp (disch := first | omega | exact hB _ _ | exact hB3 | exact hI3 | assumption | decide) only [e_SW_count, st_SW_count, i_ne, c_isKind, c_isUpTo, c_isSum, c_Phas E _ _ h03, c_Thas E _ _ h03, c_Khas E _ _ h03, e_SW_isPair, st_SW_isPair, e_People_isFull, st_People_isFull, e_Things_isFull, st_Things_isFull, e_Promises_isFull, st_Promises_isFull, e_Promises_isOpen, st_Promises_isOpen, c_tell0, c_tell1, c_tell2, c_tell3, c_tell4, c_tell5, c_tell6, mr_cl E _, mr_town E _ 0 h03, mm_pI_at, mm_pI_pI, mm_pI_2, mm_pL_1, mm_pL_at, mm_pL_pL, mm_pL_3, mm_pM_1, mm_pM_2, mm_pM_at, mm_pM_pM, mm_pI_pL, mm_pI_pM, mm_pL_pM, mm_pI_ne, mm_pL_ne, mm_pM_ne, mm_u_f, mm_u_at, mm_u_ne, Bool.false_eq_true, n_10, true_and, and_true, false_and, and_false, Nat.not_lt_zero, true_or, or_true, eq_self, mm_z, mm_rs, sw_xc_ite, sw_xv_ite, n_m1, Nat.lt_irrefl, not_false_eq_true, not_true_eq_false, inS_0, inS_1, ite_not, sw_xv_some, sw_xm_some, sw_xc_some, sw_xc_void, if_true, if_false, reduceIte, bI_0, bI_01, bI_1, nt_or, Nat.reduceAdd, n_add, n_mul, n_addL, n_Ladd, n_mulL, n_Lmul, n_sub, n_subL, n_lt, n_eq, n_ltL, n_Llt, n_eqL, n_Leq, n_nneg, n_pos]
      · intro S1 hM
        have e3 := e3 S1 hM
        have eh := eh S1 hM
        have hI3 : IT (S1.1 3) := by rw [e3]; exact hT
        have hB3 := hI3.b
        simp (disch := first | omega | exact hB _ _ | exact hB3 | exact hI3 | assumption | decide) only [e_MD_count, st_MD_count, i_ne, in_ok, in_okS, md_isPersonX, md_isThingX, md_isPromiseX, e_MD_areTwo, st_MD_areTwo, rs_L, md_finds0, md_finds1, md_finds2, md_finds3, md_finds4, md_finds5, md_finds6, mr_md E _, e3, eh, mm_pI_at, mm_pI_pI, mm_pI_2, mm_pL_1, mm_pL_at, mm_pL_pL, mm_pL_3, mm_pM_1, mm_pM_2, mm_pM_at, mm_pM_pM, mm_pI_pL, mm_pI_pM, mm_pL_pM, mm_pI_ne, mm_pL_ne, mm_pM_ne, mm_u_f, mm_u_at, mm_u_ne, Bool.false_eq_true, n_10, true_and, and_true, false_and, and_false, Nat.not_lt_zero, true_or, or_true, eq_self, mm_z, mm_rs, sw_xc_ite, sw_xv_ite, n_m1, Nat.lt_irrefl, not_false_eq_true, not_true_eq_false, inS_0, inS_1, ite_not, sw_xv_some, sw_xm_some, sw_xc_some, sw_xc_void, if_true, if_false, reduceIte, bI_0, bI_01, bI_1, nt_or, Nat.reduceAdd, n_add, n_mul, n_addL, n_Ladd, n_mulL, n_Lmul, n_sub, n_subL, n_lt, n_eq, n_ltL, n_Llt, n_eqL, n_Leq, n_nneg, n_pos]
    · simp only [n_i]
      refine ag_read (v := nI (tw_cnt (S.1 0 0 2) (fun k => S.1 0 13 k == 0))) ?_ ?_ hI
      · simp (disch := first | omega | exact hB _ _ | exact hB3 | exact hI3 | assumption | decide) only [e_SW_count, st_SW_count, i_ne, c_Promises_openOnes E S 0 h03 hT, c_isKind, c_isUpTo, c_isSum, c_Phas E _ _ h03, c_Thas E _ _ h03, c_Khas E _ _ h03, e_SW_isPair, st_SW_isPair, e_People_isFull, st_People_isFull, e_Things_isFull, st_Things_isFull, e_Promises_isFull, st_Promises_isFull, e_Promises_isOpen, st_Promises_isOpen, c_tell0, c_tell1, c_tell2, c_tell3, c_tell4, c_tell5, c_tell6, mr_cl E _, mr_town E _ 0 h03, mm_pI_at, mm_pI_pI, mm_pI_2, mm_pL_1, mm_pL_at, mm_pL_pL, mm_pL_3, mm_pM_1, mm_pM_2, mm_pM_at, mm_pM_pM, mm_pI_pL, mm_pI_pM, mm_pL_pM, mm_pI_ne, mm_pL_ne, mm_pM_ne, mm_u_f, mm_u_at, mm_u_ne, Bool.false_eq_true, n_10, true_and, and_true, false_and, and_false, Nat.not_lt_zero, true_or, or_true, eq_self, mm_z, mm_rs, sw_xc_ite, sw_xv_ite, n_m1, Nat.lt_irrefl, not_false_eq_true, not_true_eq_false, inS_0, inS_1, ite_not, sw_xv_some, sw_xm_some, sw_xc_some, sw_xc_void, if_true, if_false, reduceIte, bI_0, bI_01, bI_1, nt_or, Nat.reduceAdd, n_add, n_mul, n_addL, n_Ladd, n_mulL, n_Lmul, n_sub, n_subL, n_lt, n_eq, n_ltL, n_Llt, n_eqL, n_Leq, n_nneg, n_pos]
      · intro S1 hM
        have e3 := e3 S1 hM
        have eh := eh S1 hM
        have hI3 : IT (S1.1 3) := by rw [e3]; exact hT
        have hB3 := hI3.b
        simp (disch := first | omega | exact hB _ _ | exact hB3 | exact hI3 | assumption | decide) only [e_MD_count, st_MD_count, i_ne, md_count3 E _ hI3, in_ok, in_okS, md_isPersonX, md_isThingX, md_isPromiseX, e_MD_areTwo, st_MD_areTwo, rs_L, md_finds0, md_finds1, md_finds2, md_finds3, md_finds4, md_finds5, md_finds6, mr_md E _, e3, eh, mm_pI_at, mm_pI_pI, mm_pI_2, mm_pL_1, mm_pL_at, mm_pL_pL, mm_pL_3, mm_pM_1, mm_pM_2, mm_pM_at, mm_pM_pM, mm_pI_pL, mm_pI_pM, mm_pL_pM, mm_pI_ne, mm_pL_ne, mm_pM_ne, mm_u_f, mm_u_at, mm_u_ne, Bool.false_eq_true, n_10, true_and, and_true, false_and, and_false, Nat.not_lt_zero, true_or, or_true, eq_self, mm_z, mm_rs, sw_xc_ite, sw_xv_ite, n_m1, Nat.lt_irrefl, not_false_eq_true, not_true_eq_false, inS_0, inS_1, ite_not, sw_xv_some, sw_xm_some, sw_xc_some, sw_xc_void, if_true, if_false, reduceIte, bI_0, bI_01, bI_1, nt_or, Nat.reduceAdd, n_add, n_mul, n_addL, n_Ladd, n_mulL, n_Lmul, n_sub, n_subL, n_lt, n_eq, n_ltL, n_Llt, n_eqL, n_Leq, n_nneg, n_pos]
    · simp only [n_i]
      refine ag_read (v := nI (S.1 0 0 3)) ?_ ?_ hI
      · simp (disch := first | omega | exact hB _ _ | exact hB3 | exact hI3 | assumption | decide) only [e_SW_count, st_SW_count, i_ne, c_isKind, c_isUpTo, c_isSum, c_Phas E _ _ h03, c_Thas E _ _ h03, c_Khas E _ _ h03, e_SW_isPair, st_SW_isPair, e_People_isFull, st_People_isFull, e_Things_isFull, st_Things_isFull, e_Promises_isFull, st_Promises_isFull, e_Promises_isOpen, st_Promises_isOpen, c_tell0, c_tell1, c_tell2, c_tell3, c_tell4, c_tell5, c_tell6, mr_cl E _, mr_town E _ 0 h03, mm_pI_at, mm_pI_pI, mm_pI_2, mm_pL_1, mm_pL_at, mm_pL_pL, mm_pL_3, mm_pM_1, mm_pM_2, mm_pM_at, mm_pM_pM, mm_pI_pL, mm_pI_pM, mm_pL_pM, mm_pI_ne, mm_pL_ne, mm_pM_ne, mm_u_f, mm_u_at, mm_u_ne, Bool.false_eq_true, n_10, true_and, and_true, false_and, and_false, Nat.not_lt_zero, true_or, or_true, eq_self, mm_z, mm_rs, sw_xc_ite, sw_xv_ite, n_m1, Nat.lt_irrefl, not_false_eq_true, not_true_eq_false, inS_0, inS_1, ite_not, sw_xv_some, sw_xm_some, sw_xc_some, sw_xc_void, if_true, if_false, reduceIte, bI_0, bI_01, bI_1, nt_or, Nat.reduceAdd, n_add, n_mul, n_addL, n_Ladd, n_mulL, n_Lmul, n_sub, n_subL, n_lt, n_eq, n_ltL, n_Llt, n_eqL, n_Leq, n_nneg, n_pos]
      · intro S1 hM
        have e3 := e3 S1 hM
        have eh := eh S1 hM
        have hI3 : IT (S1.1 3) := by rw [e3]; exact hT
        have hB3 := hI3.b
        simp (disch := first | omega | exact hB _ _ | exact hB3 | exact hI3 | assumption | decide) only [e_MD_count, st_MD_count, i_ne, in_ok, in_okS, md_isPersonX, md_isThingX, md_isPromiseX, e_MD_areTwo, st_MD_areTwo, rs_L, md_finds0, md_finds1, md_finds2, md_finds3, md_finds4, md_finds5, md_finds6, mr_md E _, e3, eh, mm_pI_at, mm_pI_pI, mm_pI_2, mm_pL_1, mm_pL_at, mm_pL_pL, mm_pL_3, mm_pM_1, mm_pM_2, mm_pM_at, mm_pM_pM, mm_pI_pL, mm_pI_pM, mm_pL_pM, mm_pI_ne, mm_pL_ne, mm_pM_ne, mm_u_f, mm_u_at, mm_u_ne, Bool.false_eq_true, n_10, true_and, and_true, false_and, and_false, Nat.not_lt_zero, true_or, or_true, eq_self, mm_z, mm_rs, sw_xc_ite, sw_xv_ite, n_m1, Nat.lt_irrefl, not_false_eq_true, not_true_eq_false, inS_0, inS_1, ite_not, sw_xv_some, sw_xm_some, sw_xc_some, sw_xc_void, if_true, if_false, reduceIte, bI_0, bI_01, bI_1, nt_or, Nat.reduceAdd, n_add, n_mul, n_addL, n_Ladd, n_mulL, n_Lmul, n_sub, n_subL, n_lt, n_eq, n_ltL, n_Llt, n_eqL, n_Leq, n_nneg, n_pos]
    · simp only [n_i]
      refine ag_read (v := nI n) ?_ ?_ hI
      · simp (disch := first | omega | exact hB _ _ | exact hB3 | exact hI3 | assumption | decide) only [e_SW_count, st_SW_count, i_ne, ht1, c_isKind, c_isUpTo, c_isSum, c_Phas E _ _ h03, c_Thas E _ _ h03, c_Khas E _ _ h03, e_SW_isPair, st_SW_isPair, e_People_isFull, st_People_isFull, e_Things_isFull, st_Things_isFull, e_Promises_isFull, st_Promises_isFull, e_Promises_isOpen, st_Promises_isOpen, c_tell0, c_tell1, c_tell2, c_tell3, c_tell4, c_tell5, c_tell6, mr_cl E _, mr_town E _ 0 h03, mm_pI_at, mm_pI_pI, mm_pI_2, mm_pL_1, mm_pL_at, mm_pL_pL, mm_pL_3, mm_pM_1, mm_pM_2, mm_pM_at, mm_pM_pM, mm_pI_pL, mm_pI_pM, mm_pL_pM, mm_pI_ne, mm_pL_ne, mm_pM_ne, mm_u_f, mm_u_at, mm_u_ne, Bool.false_eq_true, n_10, true_and, and_true, false_and, and_false, Nat.not_lt_zero, true_or, or_true, eq_self, mm_z, mm_rs, sw_xc_ite, sw_xv_ite, n_m1, Nat.lt_irrefl, not_false_eq_true, not_true_eq_false, inS_0, inS_1, ite_not, sw_xv_some, sw_xm_some, sw_xc_some, sw_xc_void, if_true, if_false, reduceIte, bI_0, bI_01, bI_1, nt_or, Nat.reduceAdd, n_add, n_mul, n_addL, n_Ladd, n_mulL, n_Lmul, n_sub, n_subL, n_lt, n_eq, n_ltL, n_Llt, n_eqL, n_Leq, n_nneg, n_pos]
      · intro S1 hM
        have e3 := e3 S1 hM
        have eh := eh S1 hM
        have hI3 : IT (S1.1 3) := by rw [e3]; exact hT
        have hB3 := hI3.b
        have t25 : S1.2.2 25 0 = nI n := by rw [hM.2.2 25 (by decide)]; exact ht2
        simp (disch := first | omega | exact hB _ _ | exact hB3 | exact hI3 | assumption | decide) only [e_MD_count, st_MD_count, i_ne, t25, in_ok, in_okS, md_isPersonX, md_isThingX, md_isPromiseX, e_MD_areTwo, st_MD_areTwo, rs_L, md_finds0, md_finds1, md_finds2, md_finds3, md_finds4, md_finds5, md_finds6, mr_md E _, e3, eh, mm_pI_at, mm_pI_pI, mm_pI_2, mm_pL_1, mm_pL_at, mm_pL_pL, mm_pL_3, mm_pM_1, mm_pM_2, mm_pM_at, mm_pM_pM, mm_pI_pL, mm_pI_pM, mm_pL_pM, mm_pI_ne, mm_pL_ne, mm_pM_ne, mm_u_f, mm_u_at, mm_u_ne, Bool.false_eq_true, n_10, true_and, and_true, false_and, and_false, Nat.not_lt_zero, true_or, or_true, eq_self, mm_z, mm_rs, sw_xc_ite, sw_xv_ite, n_m1, Nat.lt_irrefl, not_false_eq_true, not_true_eq_false, inS_0, inS_1, ite_not, sw_xv_some, sw_xm_some, sw_xc_some, sw_xc_void, if_true, if_false, reduceIte, bI_0, bI_01, bI_1, nt_or, Nat.reduceAdd, n_add, n_mul, n_addL, n_Ladd, n_mulL, n_Lmul, n_sub, n_subL, n_lt, n_eq, n_ltL, n_Llt, n_eqL, n_Leq, n_nneg, n_pos]
    · have e2 : (1 : Int32) <<< (nI (S.1 0 0 1) &&& 31) = sb (S.1 0 0 1) := rfl
      have eS : tw_sum (S.1 0 0 1) (inS (sb (S.1 0 0 1) - 1)) (S.1 0 4) = tw_sum (S.1 0 0 1) (fun _ => true) (S.1 0 4) := tw_sum_cong (fun i hi => all_in (by omega) hi) (fun _ _ => rfl)
      simp only [n_i]
      refine ag_read (v := nI (tw_sum (S.1 0 0 1) (fun _ => true) (S.1 0 4))) ?_ ?_ hI
      · simp (disch := first | omega | exact hB _ _ | exact hB3 | exact hI3 | assumption | decide) only [e_SW_count, st_SW_count, i_ne, e_Things_all, st_Things_all, e2, c_Things_basesOf E S 0 h03 hT, eS, c_isKind, c_isUpTo, c_isSum, c_Phas E _ _ h03, c_Thas E _ _ h03, c_Khas E _ _ h03, e_SW_isPair, st_SW_isPair, e_People_isFull, st_People_isFull, e_Things_isFull, st_Things_isFull, e_Promises_isFull, st_Promises_isFull, e_Promises_isOpen, st_Promises_isOpen, c_tell0, c_tell1, c_tell2, c_tell3, c_tell4, c_tell5, c_tell6, mr_cl E _, mr_town E _ 0 h03, mm_pI_at, mm_pI_pI, mm_pI_2, mm_pL_1, mm_pL_at, mm_pL_pL, mm_pL_3, mm_pM_1, mm_pM_2, mm_pM_at, mm_pM_pM, mm_pI_pL, mm_pI_pM, mm_pL_pM, mm_pI_ne, mm_pL_ne, mm_pM_ne, mm_u_f, mm_u_at, mm_u_ne, Bool.false_eq_true, n_10, true_and, and_true, false_and, and_false, Nat.not_lt_zero, true_or, or_true, eq_self, mm_z, mm_rs, sw_xc_ite, sw_xv_ite, n_m1, Nat.lt_irrefl, not_false_eq_true, not_true_eq_false, inS_0, inS_1, ite_not, sw_xv_some, sw_xm_some, sw_xc_some, sw_xc_void, if_true, if_false, reduceIte, bI_0, bI_01, bI_1, nt_or, Nat.reduceAdd, n_add, n_mul, n_addL, n_Ladd, n_mulL, n_Lmul, n_sub, n_subL, n_lt, n_eq, n_ltL, n_Llt, n_eqL, n_Leq, n_nneg, n_pos]
      · intro S1 hM
        have e3 := e3 S1 hM
        have eh := eh S1 hM
        have hI3 : IT (S1.1 3) := by rw [e3]; exact hT
        have hB3 := hI3.b
        simp (disch := first | omega | exact hB _ _ | exact hB3 | exact hI3 | assumption | decide) only [e_MD_count, st_MD_count, i_ne, md_count6 E _ hI3, in_ok, in_okS, md_isPersonX, md_isThingX, md_isPromiseX, e_MD_areTwo, st_MD_areTwo, rs_L, md_finds0, md_finds1, md_finds2, md_finds3, md_finds4, md_finds5, md_finds6, mr_md E _, e3, eh, mm_pI_at, mm_pI_pI, mm_pI_2, mm_pL_1, mm_pL_at, mm_pL_pL, mm_pL_3, mm_pM_1, mm_pM_2, mm_pM_at, mm_pM_pM, mm_pI_pL, mm_pI_pM, mm_pL_pM, mm_pI_ne, mm_pL_ne, mm_pM_ne, mm_u_f, mm_u_at, mm_u_ne, Bool.false_eq_true, n_10, true_and, and_true, false_and, and_false, Nat.not_lt_zero, true_or, or_true, eq_self, mm_z, mm_rs, sw_xc_ite, sw_xv_ite, n_m1, Nat.lt_irrefl, not_false_eq_true, not_true_eq_false, inS_0, inS_1, ite_not, sw_xv_some, sw_xm_some, sw_xc_some, sw_xc_void, if_true, if_false, reduceIte, bI_0, bI_01, bI_1, nt_or, Nat.reduceAdd, n_add, n_mul, n_addL, n_Ladd, n_mulL, n_Lmul, n_sub, n_subL, n_lt, n_eq, n_ltL, n_Llt, n_eqL, n_Leq, n_nneg, n_pos]
  · have n0 : ¬ x = 0 := fun e => h1 (by rw [e]; decide)
    have n1 : ¬ x = 1 := fun e => h1 (by rw [e]; decide)
    have n2 : ¬ x = 2 := fun e => h1 (by rw [e]; decide)
    have n3 : ¬ x = 3 := fun e => h1 (by rw [e]; decide)
    have n4 : ¬ x = 4 := fun e => h1 (by rw [e]; decide)
    have n5 : ¬ x = 5 := fun e => h1 (by rw [e]; decide)
    have n6 : ¬ x = 6 := fun e => h1 (by rw [e]; decide)
    refine ag_find (v := -1000000001) 0 ?_ ?_ hI
    · simp (disch := first | omega | exact hB _ _ | exact hB3 | exact hI3 | assumption | decide) only [e_SW_count, st_SW_count, n0, n1, n2, n3, n4, n5, n6, c_isKind, c_isUpTo, c_isSum, c_Phas E _ _ h03, c_Thas E _ _ h03, c_Khas E _ _ h03, e_SW_isPair, st_SW_isPair, e_People_isFull, st_People_isFull, e_Things_isFull, st_Things_isFull, e_Promises_isFull, st_Promises_isFull, e_Promises_isOpen, st_Promises_isOpen, c_tell0, c_tell1, c_tell2, c_tell3, c_tell4, c_tell5, c_tell6, mr_cl E _, mr_town E _ 0 h03, mm_pI_at, mm_pI_pI, mm_pI_2, mm_pL_1, mm_pL_at, mm_pL_pL, mm_pL_3, mm_pM_1, mm_pM_2, mm_pM_at, mm_pM_pM, mm_pI_pL, mm_pI_pM, mm_pL_pM, mm_pI_ne, mm_pL_ne, mm_pM_ne, mm_u_f, mm_u_at, mm_u_ne, Bool.false_eq_true, n_10, true_and, and_true, false_and, and_false, Nat.not_lt_zero, true_or, or_true, eq_self, mm_z, mm_rs, sw_xc_ite, sw_xv_ite, n_m1, Nat.lt_irrefl, not_false_eq_true, not_true_eq_false, inS_0, inS_1, ite_not, sw_xv_some, sw_xm_some, sw_xc_some, sw_xc_void, if_true, if_false, reduceIte, bI_0, bI_01, bI_1, nt_or, Nat.reduceAdd, n_add, n_mul, n_addL, n_Ladd, n_mulL, n_Lmul, n_sub, n_subL, n_lt, n_eq, n_ltL, n_Llt, n_eqL, n_Leq, n_nneg, n_pos]
    · intro S1 hM
      have e3 := e3 S1 hM
      have eh := eh S1 hM
      have hI3 : IT (S1.1 3) := by rw [e3]; exact hT
      have hB3 := hI3.b
      simp (disch := first | omega | exact hB _ _ | exact hB3 | exact hI3 | assumption | decide) only [e_MD_count, st_MD_count, n0, n1, n2, n3, n4, n5, n6, in_ok, in_okS, md_isPersonX, md_isThingX, md_isPromiseX, e_MD_areTwo, st_MD_areTwo, rs_L, md_finds0, md_finds1, md_finds2, md_finds3, md_finds4, md_finds5, md_finds6, mr_md E _, e3, eh, mm_pI_at, mm_pI_pI, mm_pI_2, mm_pL_1, mm_pL_at, mm_pL_pL, mm_pL_3, mm_pM_1, mm_pM_2, mm_pM_at, mm_pM_pM, mm_pI_pL, mm_pI_pM, mm_pL_pM, mm_pI_ne, mm_pL_ne, mm_pM_ne, mm_u_f, mm_u_at, mm_u_ne, Bool.false_eq_true, n_10, true_and, and_true, false_and, and_false, Nat.not_lt_zero, true_or, or_true, eq_self, mm_z, mm_rs, sw_xc_ite, sw_xv_ite, n_m1, Nat.lt_irrefl, not_false_eq_true, not_true_eq_false, inS_0, inS_1, ite_not, sw_xv_some, sw_xm_some, sw_xc_some, sw_xc_void, if_true, if_false, reduceIte, bI_0, bI_01, bI_1, nt_or, Nat.reduceAdd, n_add, n_mul, n_addL, n_Ladd, n_mulL, n_Lmul, n_sub, n_subL, n_lt, n_eq, n_ltL, n_Llt, n_eqL, n_Leq, n_nneg, n_pos]
set_option maxRecDepth 100000 in
set_option maxHeartbeats 4000000 in
theorem p_status (E : sw_E) {S : sw_S} (hI : Inv S) (x : Int32) : AgI S (f_SW_status E (.ref 0) (.int x)) (f_MD_status E (.ref 71) (.int x)) := by
  have h03 : 0 < 3 := by decide
  have hT := hI.it
  have hB := hT.b
  have hn := hT.n
  have hp := hT.p
  have hk := hT.k
  have e3 : ∀ S1, MP S S1 → S1.1 3 = S.1 0 := fun S1 h => (h.1 3 (by decide)).trans hI.s3
  have eh : ∀ S1, MP S S1 → S1.2.1 3 = S.2.1 0 := fun S1 h => (h.2.1 3 (by decide)).trans hI.h3
  by_cases h1 : x < -1
  · refine ag_find (v := -1000000001) 0 ?_ ?_ hI
    · simp (disch := first | omega | exact hB _ _ | exact hB3 | exact hI3 | assumption | decide) only [e_SW_status, st_SW_status, h1, c_isKind, c_isUpTo, c_isSum, c_Phas E _ _ h03, c_Thas E _ _ h03, c_Khas E _ _ h03, e_SW_isPair, st_SW_isPair, e_People_isFull, st_People_isFull, e_Things_isFull, st_Things_isFull, e_Promises_isFull, st_Promises_isFull, e_Promises_isOpen, st_Promises_isOpen, c_tell0, c_tell1, c_tell2, c_tell3, c_tell4, c_tell5, c_tell6, mr_cl E _, mr_town E _ 0 h03, mm_pI_at, mm_pI_pI, mm_pI_2, mm_pL_1, mm_pL_at, mm_pL_pL, mm_pL_3, mm_pM_1, mm_pM_2, mm_pM_at, mm_pM_pM, mm_pI_pL, mm_pI_pM, mm_pL_pM, mm_pI_ne, mm_pL_ne, mm_pM_ne, mm_u_f, mm_u_at, mm_u_ne, Bool.false_eq_true, n_10, true_and, and_true, false_and, and_false, Nat.not_lt_zero, true_or, or_true, eq_self, mm_z, mm_rs, sw_xc_ite, sw_xv_ite, n_m1, Nat.lt_irrefl, not_false_eq_true, not_true_eq_false, inS_0, inS_1, ite_not, sw_xv_some, sw_xm_some, sw_xc_some, sw_xc_void, if_true, if_false, reduceIte, bI_0, bI_01, bI_1, nt_or, Nat.reduceAdd, n_add, n_mul, n_addL, n_Ladd, n_mulL, n_Lmul, n_sub, n_subL, n_lt, n_eq, n_ltL, n_Llt, n_eqL, n_Leq, n_nneg, n_pos]
    · intro S1 hM
      have e3 := e3 S1 hM
      have eh := eh S1 hM
      have hI3 : IT (S1.1 3) := by rw [e3]; exact hT
      have hB3 := hI3.b
      simp (disch := first | omega | exact hB _ _ | exact hB3 | exact hI3 | assumption | decide) only [e_MD_status, st_MD_status, h1, in_m6, in_ok, in_okS, md_isPersonX, md_isThingX, md_isPromiseX, e_MD_areTwo, st_MD_areTwo, rs_L, md_finds0, md_finds1, md_finds2, md_finds3, md_finds4, md_finds5, md_finds6, mr_md E _, e3, eh, mm_pI_at, mm_pI_pI, mm_pI_2, mm_pL_1, mm_pL_at, mm_pL_pL, mm_pL_3, mm_pM_1, mm_pM_2, mm_pM_at, mm_pM_pM, mm_pI_pL, mm_pI_pM, mm_pL_pM, mm_pI_ne, mm_pL_ne, mm_pM_ne, mm_u_f, mm_u_at, mm_u_ne, Bool.false_eq_true, n_10, true_and, and_true, false_and, and_false, Nat.not_lt_zero, true_or, or_true, eq_self, mm_z, mm_rs, sw_xc_ite, sw_xv_ite, n_m1, Nat.lt_irrefl, not_false_eq_true, not_true_eq_false, inS_0, inS_1, ite_not, sw_xv_some, sw_xm_some, sw_xc_some, sw_xc_void, if_true, if_false, reduceIte, bI_0, bI_01, bI_1, nt_or, Nat.reduceAdd, n_add, n_mul, n_addL, n_Ladd, n_mulL, n_Lmul, n_sub, n_subL, n_lt, n_eq, n_ltL, n_Llt, n_eqL, n_Leq, n_nneg, n_pos]
  · by_cases h2 : x < 7
    · have e20 : ∀ S1, MP S S1 → S1.2.2 20 = S.2.2 8 := fun S1 h => (h.2.2 20 (by decide)).trans hI.f
      rcases n_of1 h1 with rfl | ⟨x, hx, rfl⟩
      · refine ag_read (v := lp (fun i a => a + S.2.2 8 i) 7 0) ?_ ?_ hI
        · simp (disch := first | omega | exact hB _ _ | exact hB3 | exact hI3 | assumption | decide) only [e_SW_status, st_SW_status, h1, h2, c_status_l E S, c_isKind, c_isUpTo, c_isSum, c_Phas E _ _ h03, c_Thas E _ _ h03, c_Khas E _ _ h03, e_SW_isPair, st_SW_isPair, e_People_isFull, st_People_isFull, e_Things_isFull, st_Things_isFull, e_Promises_isFull, st_Promises_isFull, e_Promises_isOpen, st_Promises_isOpen, c_tell0, c_tell1, c_tell2, c_tell3, c_tell4, c_tell5, c_tell6, mr_cl E _, mr_town E _ 0 h03, mm_pI_at, mm_pI_pI, mm_pI_2, mm_pL_1, mm_pL_at, mm_pL_pL, mm_pL_3, mm_pM_1, mm_pM_2, mm_pM_at, mm_pM_pM, mm_pI_pL, mm_pI_pM, mm_pL_pM, mm_pI_ne, mm_pL_ne, mm_pM_ne, mm_u_f, mm_u_at, mm_u_ne, Bool.false_eq_true, n_10, true_and, and_true, false_and, and_false, Nat.not_lt_zero, true_or, or_true, eq_self, mm_z, mm_rs, sw_xc_ite, sw_xv_ite, n_m1, Nat.lt_irrefl, not_false_eq_true, not_true_eq_false, inS_0, inS_1, ite_not, sw_xv_some, sw_xm_some, sw_xc_some, sw_xc_void, if_true, if_false, reduceIte, bI_0, bI_01, bI_1, nt_or, Nat.reduceAdd, n_add, n_mul, n_addL, n_Ladd, n_mulL, n_Lmul, n_sub, n_subL, n_lt, n_eq, n_ltL, n_Llt, n_eqL, n_Leq, n_nneg, n_pos]
        · intro S1 hM
          have e3 := e3 S1 hM
          have eh := eh S1 hM
          have hI3 : IT (S1.1 3) := by rw [e3]; exact hT
          have hB3 := hI3.b
          simp (disch := first | omega | exact hB _ _ | exact hB3 | exact hI3 | assumption | decide) only [e_MD_status, st_MD_status, h1, h2, in_m6, md_status_l E S1, e20 S1 hM, in_ok, in_okS, md_isPersonX, md_isThingX, md_isPromiseX, e_MD_areTwo, st_MD_areTwo, rs_L, md_finds0, md_finds1, md_finds2, md_finds3, md_finds4, md_finds5, md_finds6, mr_md E _, e3, eh, mm_pI_at, mm_pI_pI, mm_pI_2, mm_pL_1, mm_pL_at, mm_pL_pL, mm_pL_3, mm_pM_1, mm_pM_2, mm_pM_at, mm_pM_pM, mm_pI_pL, mm_pI_pM, mm_pL_pM, mm_pI_ne, mm_pL_ne, mm_pM_ne, mm_u_f, mm_u_at, mm_u_ne, Bool.false_eq_true, n_10, true_and, and_true, false_and, and_false, Nat.not_lt_zero, true_or, or_true, eq_self, mm_z, mm_rs, sw_xc_ite, sw_xv_ite, n_m1, Nat.lt_irrefl, not_false_eq_true, not_true_eq_false, inS_0, inS_1, ite_not, sw_xv_some, sw_xm_some, sw_xc_some, sw_xc_void, if_true, if_false, reduceIte, bI_0, bI_01, bI_1, nt_or, Nat.reduceAdd, n_add, n_mul, n_addL, n_Ladd, n_mulL, n_Lmul, n_sub, n_subL, n_lt, n_eq, n_ltL, n_Llt, n_eqL, n_Leq, n_nneg, n_pos]
      · have hx7 : x < 7 := (n_ltL hx (by decide)).mp h2
        refine ag_read (v := S.2.2 8 x) ?_ ?_ hI
        · simp (disch := first | omega | exact hB _ _ | exact hB3 | exact hI3 | assumption | decide) only [e_SW_status, st_SW_status, h1, h2, hx7, c_isKind, c_isUpTo, c_isSum, c_Phas E _ _ h03, c_Thas E _ _ h03, c_Khas E _ _ h03, e_SW_isPair, st_SW_isPair, e_People_isFull, st_People_isFull, e_Things_isFull, st_Things_isFull, e_Promises_isFull, st_Promises_isFull, e_Promises_isOpen, st_Promises_isOpen, c_tell0, c_tell1, c_tell2, c_tell3, c_tell4, c_tell5, c_tell6, mr_cl E _, mr_town E _ 0 h03, mm_pI_at, mm_pI_pI, mm_pI_2, mm_pL_1, mm_pL_at, mm_pL_pL, mm_pL_3, mm_pM_1, mm_pM_2, mm_pM_at, mm_pM_pM, mm_pI_pL, mm_pI_pM, mm_pL_pM, mm_pI_ne, mm_pL_ne, mm_pM_ne, mm_u_f, mm_u_at, mm_u_ne, Bool.false_eq_true, n_10, true_and, and_true, false_and, and_false, Nat.not_lt_zero, true_or, or_true, eq_self, mm_z, mm_rs, sw_xc_ite, sw_xv_ite, n_m1, Nat.lt_irrefl, not_false_eq_true, not_true_eq_false, inS_0, inS_1, ite_not, sw_xv_some, sw_xm_some, sw_xc_some, sw_xc_void, if_true, if_false, reduceIte, bI_0, bI_01, bI_1, nt_or, Nat.reduceAdd, n_add, n_mul, n_addL, n_Ladd, n_mulL, n_Lmul, n_sub, n_subL, n_lt, n_eq, n_ltL, n_Llt, n_eqL, n_Leq, n_nneg, n_pos]
        · intro S1 hM
          have e3 := e3 S1 hM
          have eh := eh S1 hM
          have hI3 : IT (S1.1 3) := by rw [e3]; exact hT
          have hB3 := hI3.b
          have mL := md_status_l E S1 (nI x)
          have eL : lp (fun i a => a + (if nI x < 0 ∨ nI i = nI x then S1.2.2 20 i else 0)) 7 0 = S.2.2 8 x := by
            have e : lp (fun i a => a + (if nI x < 0 ∨ nI i = nI x then S1.2.2 20 i else 0)) 7 0 = lp (fun i (a : Int32) => a + (if i = x then S.2.2 8 i else 0)) 7 0 := lp_cong (fun i hi b => by
              rw [e20 S1 hM]
              simp only [n_nneg hx, n_eq (show i < 2147483648 by omega) hx, false_or])
            rw [e]
            rcases (show x = 0 ∨ x = 1 ∨ x = 2 ∨ x = 3 ∨ x = 4 ∨ x = 5 ∨ x = 6 by omega) with rfl | rfl | rfl | rfl | rfl | rfl | rfl <;> simp [lp]
          rw [eL] at mL
          simp (disch := first | omega | exact hB _ _ | exact hB3 | exact hI3 | assumption | decide) only [e_MD_status, st_MD_status, h1, h2, hx7, in_m6, mL, in_ok, in_okS, md_isPersonX, md_isThingX, md_isPromiseX, e_MD_areTwo, st_MD_areTwo, rs_L, md_finds0, md_finds1, md_finds2, md_finds3, md_finds4, md_finds5, md_finds6, mr_md E _, e3, eh, mm_pI_at, mm_pI_pI, mm_pI_2, mm_pL_1, mm_pL_at, mm_pL_pL, mm_pL_3, mm_pM_1, mm_pM_2, mm_pM_at, mm_pM_pM, mm_pI_pL, mm_pI_pM, mm_pL_pM, mm_pI_ne, mm_pL_ne, mm_pM_ne, mm_u_f, mm_u_at, mm_u_ne, Bool.false_eq_true, n_10, true_and, and_true, false_and, and_false, Nat.not_lt_zero, true_or, or_true, eq_self, mm_z, mm_rs, sw_xc_ite, sw_xv_ite, n_m1, Nat.lt_irrefl, not_false_eq_true, not_true_eq_false, inS_0, inS_1, ite_not, sw_xv_some, sw_xm_some, sw_xc_some, sw_xc_void, if_true, if_false, reduceIte, bI_0, bI_01, bI_1, nt_or, Nat.reduceAdd, n_add, n_mul, n_addL, n_Ladd, n_mulL, n_Lmul, n_sub, n_subL, n_lt, n_eq, n_ltL, n_Llt, n_eqL, n_Leq, n_nneg, n_pos]
    · refine ag_find (v := -1000000001) 0 ?_ ?_ hI
      · simp (disch := first | omega | exact hB _ _ | exact hB3 | exact hI3 | assumption | decide) only [e_SW_status, st_SW_status, h1, h2, c_isKind, c_isUpTo, c_isSum, c_Phas E _ _ h03, c_Thas E _ _ h03, c_Khas E _ _ h03, e_SW_isPair, st_SW_isPair, e_People_isFull, st_People_isFull, e_Things_isFull, st_Things_isFull, e_Promises_isFull, st_Promises_isFull, e_Promises_isOpen, st_Promises_isOpen, c_tell0, c_tell1, c_tell2, c_tell3, c_tell4, c_tell5, c_tell6, mr_cl E _, mr_town E _ 0 h03, mm_pI_at, mm_pI_pI, mm_pI_2, mm_pL_1, mm_pL_at, mm_pL_pL, mm_pL_3, mm_pM_1, mm_pM_2, mm_pM_at, mm_pM_pM, mm_pI_pL, mm_pI_pM, mm_pL_pM, mm_pI_ne, mm_pL_ne, mm_pM_ne, mm_u_f, mm_u_at, mm_u_ne, Bool.false_eq_true, n_10, true_and, and_true, false_and, and_false, Nat.not_lt_zero, true_or, or_true, eq_self, mm_z, mm_rs, sw_xc_ite, sw_xv_ite, n_m1, Nat.lt_irrefl, not_false_eq_true, not_true_eq_false, inS_0, inS_1, ite_not, sw_xv_some, sw_xm_some, sw_xc_some, sw_xc_void, if_true, if_false, reduceIte, bI_0, bI_01, bI_1, nt_or, Nat.reduceAdd, n_add, n_mul, n_addL, n_Ladd, n_mulL, n_Lmul, n_sub, n_subL, n_lt, n_eq, n_ltL, n_Llt, n_eqL, n_Leq, n_nneg, n_pos]
      · intro S1 hM
        have e3 := e3 S1 hM
        have eh := eh S1 hM
        have hI3 : IT (S1.1 3) := by rw [e3]; exact hT
        have hB3 := hI3.b
        simp (disch := first | omega | exact hB _ _ | exact hB3 | exact hI3 | assumption | decide) only [e_MD_status, st_MD_status, h1, h2, in_m6, in_ok, in_okS, md_isPersonX, md_isThingX, md_isPromiseX, e_MD_areTwo, st_MD_areTwo, rs_L, md_finds0, md_finds1, md_finds2, md_finds3, md_finds4, md_finds5, md_finds6, mr_md E _, e3, eh, mm_pI_at, mm_pI_pI, mm_pI_2, mm_pL_1, mm_pL_at, mm_pL_pL, mm_pL_3, mm_pM_1, mm_pM_2, mm_pM_at, mm_pM_pM, mm_pI_pL, mm_pI_pM, mm_pL_pM, mm_pI_ne, mm_pL_ne, mm_pM_ne, mm_u_f, mm_u_at, mm_u_ne, Bool.false_eq_true, n_10, true_and, and_true, false_and, and_false, Nat.not_lt_zero, true_or, or_true, eq_self, mm_z, mm_rs, sw_xc_ite, sw_xv_ite, n_m1, Nat.lt_irrefl, not_false_eq_true, not_true_eq_false, inS_0, inS_1, ite_not, sw_xv_some, sw_xm_some, sw_xc_some, sw_xc_void, if_true, if_false, reduceIte, bI_0, bI_01, bI_1, nt_or, Nat.reduceAdd, n_add, n_mul, n_addL, n_Ladd, n_mulL, n_Lmul, n_sub, n_subL, n_lt, n_eq, n_ltL, n_Llt, n_eqL, n_Leq, n_nneg, n_pos]
set_option maxRecDepth 100000 in
set_option maxHeartbeats 4000000 in
theorem p_image (E : sw_E) {S : sw_S} (hI : Inv S) : AgI S (f_SW_image E (.ref 0)) (f_MD_image E (.ref 71)) := by
  have h03 : 0 < 3 := by decide
  have hT := hI.it
  have hB := hT.b
  have hn := hT.n
  have hp := hT.p
  have hk := hT.k
  have e3 : ∀ S1, MP S S1 → S1.1 3 = S.1 0 := fun S1 h => (h.1 3 (by decide)).trans hI.s3
  have eh : ∀ S1, MP S S1 → S1.2.1 3 = S.2.1 0 := fun S1 h => (h.2.1 3 (by decide)).trans hI.h3
  refine ⟨1, mm_pM (mm_pL (mm_pI S 1 (S.1 0)) 1 (S.2.1 0)) 9 (upd (S.2.2 9) 0 1), mm_pM (mm_pL (mm_pI (mm_pM (mm_pL (mm_pI S 1 (S.1 0)) 1 (S.2.1 0)) 9 (upd (S.2.2 9) 0 1)) 4 (S.1 0)) 4 (S.2.1 0)) 21 (upd (S.2.2 21) 0 1), ?_, ?_, Inv_image hI⟩
  · simp (disch := first | omega | exact hB _ _ | exact hB3 | exact hI3 | assumption | decide) only [e_SW_image, st_SW_image, mr_town E _ 1 (show 1 < 3 by decide), c_Town_become E _ (a := 1) (b := 0) (by decide) (by decide) (by decide) hT.st, mw_f0_7, c_isKind, c_isUpTo, c_isSum, c_Phas E _ _ h03, c_Thas E _ _ h03, c_Khas E _ _ h03, e_SW_isPair, st_SW_isPair, e_People_isFull, st_People_isFull, e_Things_isFull, st_Things_isFull, e_Promises_isFull, st_Promises_isFull, e_Promises_isOpen, st_Promises_isOpen, c_tell0, c_tell1, c_tell2, c_tell3, c_tell4, c_tell5, c_tell6, mr_cl E _, mr_town E _ 0 h03, mm_pI_at, mm_pI_pI, mm_pI_2, mm_pL_1, mm_pL_at, mm_pL_pL, mm_pL_3, mm_pM_1, mm_pM_2, mm_pM_at, mm_pM_pM, mm_pI_pL, mm_pI_pM, mm_pL_pM, mm_pI_ne, mm_pL_ne, mm_pM_ne, mm_u_f, mm_u_at, mm_u_ne, Bool.false_eq_true, n_10, true_and, and_true, false_and, and_false, Nat.not_lt_zero, true_or, or_true, eq_self, mm_z, mm_rs, sw_xc_ite, sw_xv_ite, n_m1, Nat.lt_irrefl, not_false_eq_true, not_true_eq_false, inS_0, inS_1, ite_not, sw_xv_some, sw_xm_some, sw_xc_some, sw_xc_void, if_true, if_false, reduceIte, bI_0, bI_01, bI_1, nt_or, Nat.reduceAdd, n_add, n_mul, n_addL, n_Ladd, n_mulL, n_Lmul, n_sub, n_subL, n_lt, n_eq, n_ltL, n_Llt, n_eqL, n_Leq, n_nneg, n_pos]
  · have hM : MP S (mm_pM (mm_pL (mm_pI S 1 (S.1 0)) 1 (S.2.1 0)) 9 (upd (S.2.2 9) 0 1)) := MP_pM (MP_pL (MP_pI (MP_refl S) (by decide) _) (by decide) _) (by decide) _
    have e3 := e3 _ hM
    have eh := eh _ hM
    have e21 := hM.2.2 21 (by decide)
    generalize mm_pM (mm_pL (mm_pI S 1 (S.1 0)) 1 (S.2.1 0)) 9 (upd (S.2.2 9) 0 1) = S1 at *
    have hI3 : IT (S1.1 3) := by rw [e3]; exact hT
    have hB3 := hI3.b
    have q := md_cp_image E S1
    simp (disch := first | omega | exact hB _ _ | exact hB3 | exact hI3 | assumption | decide) only [e_MD_image, st_MD_image, q, mw_f71_7, e21, in_ok, in_okS, md_isPersonX, md_isThingX, md_isPromiseX, e_MD_areTwo, st_MD_areTwo, rs_L, md_finds0, md_finds1, md_finds2, md_finds3, md_finds4, md_finds5, md_finds6, mr_md E _, e3, eh, mm_pI_at, mm_pI_pI, mm_pI_2, mm_pL_1, mm_pL_at, mm_pL_pL, mm_pL_3, mm_pM_1, mm_pM_2, mm_pM_at, mm_pM_pM, mm_pI_pL, mm_pI_pM, mm_pL_pM, mm_pI_ne, mm_pL_ne, mm_pM_ne, mm_u_f, mm_u_at, mm_u_ne, Bool.false_eq_true, n_10, true_and, and_true, false_and, and_false, Nat.not_lt_zero, true_or, or_true, eq_self, mm_z, mm_rs, sw_xc_ite, sw_xv_ite, n_m1, Nat.lt_irrefl, not_false_eq_true, not_true_eq_false, inS_0, inS_1, ite_not, sw_xv_some, sw_xm_some, sw_xc_some, sw_xc_void, if_true, if_false, reduceIte, bI_0, bI_01, bI_1, nt_or, Nat.reduceAdd, n_add, n_mul, n_addL, n_Ladd, n_mulL, n_Lmul, n_sub, n_subL, n_lt, n_eq, n_ltL, n_Llt, n_eqL, n_Leq, n_nneg, n_pos]
set_option maxRecDepth 100000 in
set_option maxHeartbeats 4000000 in
theorem p_undo (E : sw_E) {S : sw_S} (hI : Inv S) : AgI S (f_SW_undo E (.ref 0)) (f_MD_undo E (.ref 71)) := by
  have h03 : 0 < 3 := by decide
  have hT := hI.it
  have hB := hT.b
  have hn := hT.n
  have hp := hT.p
  have hk := hT.k
  have e3 : ∀ S1, MP S S1 → S1.1 3 = S.1 0 := fun S1 h => (h.1 3 (by decide)).trans hI.s3
  have eh : ∀ S1, MP S S1 → S1.2.1 3 = S.2.1 0 := fun S1 h => (h.2.1 3 (by decide)).trans hI.h3
  rcases hI.kb with hk0 | hk1
  · have k21 : ∀ S1, MP S S1 → S1.2.2 21 0 = 0 := fun S1 h => by rw [h.2.2 21 (by decide), hI.k21]; exact hk0
    refine ag_find (v := -1000000004) 3 ?_ ?_ hI
    · simp (disch := first | omega | exact hB _ _ | exact hB3 | exact hI3 | assumption | decide) only [e_SW_undo, st_SW_undo, hk0, c_isKind, c_isUpTo, c_isSum, c_Phas E _ _ h03, c_Thas E _ _ h03, c_Khas E _ _ h03, e_SW_isPair, st_SW_isPair, e_People_isFull, st_People_isFull, e_Things_isFull, st_Things_isFull, e_Promises_isFull, st_Promises_isFull, e_Promises_isOpen, st_Promises_isOpen, c_tell0, c_tell1, c_tell2, c_tell3, c_tell4, c_tell5, c_tell6, mr_cl E _, mr_town E _ 0 h03, mm_pI_at, mm_pI_pI, mm_pI_2, mm_pL_1, mm_pL_at, mm_pL_pL, mm_pL_3, mm_pM_1, mm_pM_2, mm_pM_at, mm_pM_pM, mm_pI_pL, mm_pI_pM, mm_pL_pM, mm_pI_ne, mm_pL_ne, mm_pM_ne, mm_u_f, mm_u_at, mm_u_ne, Bool.false_eq_true, n_10, true_and, and_true, false_and, and_false, Nat.not_lt_zero, true_or, or_true, eq_self, mm_z, mm_rs, sw_xc_ite, sw_xv_ite, n_m1, Nat.lt_irrefl, not_false_eq_true, not_true_eq_false, inS_0, inS_1, ite_not, sw_xv_some, sw_xm_some, sw_xc_some, sw_xc_void, if_true, if_false, reduceIte, bI_0, bI_01, bI_1, nt_or, Nat.reduceAdd, n_add, n_mul, n_addL, n_Ladd, n_mulL, n_Lmul, n_sub, n_subL, n_lt, n_eq, n_ltL, n_Llt, n_eqL, n_Leq, n_nneg, n_pos]
    · intro S1 hM
      have e3 := e3 S1 hM
      have eh := eh S1 hM
      have hI3 : IT (S1.1 3) := by rw [e3]; exact hT
      have hB3 := hI3.b
      simp (disch := first | omega | exact hB _ _ | exact hB3 | exact hI3 | assumption | decide) only [e_MD_undo, st_MD_undo, k21 S1 hM, in_ok, in_okS, md_isPersonX, md_isThingX, md_isPromiseX, e_MD_areTwo, st_MD_areTwo, rs_L, md_finds0, md_finds1, md_finds2, md_finds3, md_finds4, md_finds5, md_finds6, mr_md E _, e3, eh, mm_pI_at, mm_pI_pI, mm_pI_2, mm_pL_1, mm_pL_at, mm_pL_pL, mm_pL_3, mm_pM_1, mm_pM_2, mm_pM_at, mm_pM_pM, mm_pI_pL, mm_pI_pM, mm_pL_pM, mm_pI_ne, mm_pL_ne, mm_pM_ne, mm_u_f, mm_u_at, mm_u_ne, Bool.false_eq_true, n_10, true_and, and_true, false_and, and_false, Nat.not_lt_zero, true_or, or_true, eq_self, mm_z, mm_rs, sw_xc_ite, sw_xv_ite, n_m1, Nat.lt_irrefl, not_false_eq_true, not_true_eq_false, inS_0, inS_1, ite_not, sw_xv_some, sw_xm_some, sw_xc_some, sw_xc_void, if_true, if_false, reduceIte, bI_0, bI_01, bI_1, nt_or, Nat.reduceAdd, n_add, n_mul, n_addL, n_Ladd, n_mulL, n_Lmul, n_sub, n_subL, n_lt, n_eq, n_ltL, n_Llt, n_eqL, n_Leq, n_nneg, n_pos]
  · have k21 : ∀ S1, MP S S1 → S1.2.2 21 0 = 1 := fun S1 h => by rw [h.2.2 21 (by decide), hI.k21]; exact hk1
    obtain ⟨g1, g2⟩ := hI.kept hk1
    refine ag_town (T := S.1 1) (H := S.2.1 1) (v := nI (S.1 1 0 2)) ?_ ?_ hI hI.it1
    · simp (disch := first | omega | exact hB _ _ | exact hB3 | exact hI3 | assumption | decide) only [e_SW_undo, st_SW_undo, hk1, c_Town_become E _ (a := 0) (b := 1) (by decide) (by decide) (by decide) hI.it1.st, c_isKind, c_isUpTo, c_isSum, c_Phas E _ _ h03, c_Thas E _ _ h03, c_Khas E _ _ h03, e_SW_isPair, st_SW_isPair, e_People_isFull, st_People_isFull, e_Things_isFull, st_Things_isFull, e_Promises_isFull, st_Promises_isFull, e_Promises_isOpen, st_Promises_isOpen, c_tell0, c_tell1, c_tell2, c_tell3, c_tell4, c_tell5, c_tell6, mr_cl E _, mr_town E _ 0 h03, mm_pI_at, mm_pI_pI, mm_pI_2, mm_pL_1, mm_pL_at, mm_pL_pL, mm_pL_3, mm_pM_1, mm_pM_2, mm_pM_at, mm_pM_pM, mm_pI_pL, mm_pI_pM, mm_pL_pM, mm_pI_ne, mm_pL_ne, mm_pM_ne, mm_u_f, mm_u_at, mm_u_ne, Bool.false_eq_true, n_10, true_and, and_true, false_and, and_false, Nat.not_lt_zero, true_or, or_true, eq_self, mm_z, mm_rs, sw_xc_ite, sw_xv_ite, n_m1, Nat.lt_irrefl, not_false_eq_true, not_true_eq_false, inS_0, inS_1, ite_not, sw_xv_some, sw_xm_some, sw_xc_some, sw_xc_void, if_true, if_false, reduceIte, bI_0, bI_01, bI_1, nt_or, Nat.reduceAdd, n_add, n_mul, n_addL, n_Ladd, n_mulL, n_Lmul, n_sub, n_subL, n_lt, n_eq, n_ltL, n_Llt, n_eqL, n_Leq, n_nneg, n_pos]
    · intro S1 hM
      have e3 := e3 S1 hM
      have eh := eh S1 hM
      have hI3 : IT (S1.1 3) := by rw [e3]; exact hT
      have hB3 := hI3.b
      have q := md_cp_undo E S1
      have e4 : S1.1 4 = S.1 1 := (hM.1 4 (by decide)).trans g1
      have h4 : S1.2.1 4 = S.2.1 1 := (hM.2.1 4 (by decide)).trans g2
      simp (disch := first | omega | exact hB _ _ | exact hB3 | exact hI3 | assumption | decide) only [e_MD_undo, st_MD_undo, k21 S1 hM, q, e4, h4, in_ok, in_okS, md_isPersonX, md_isThingX, md_isPromiseX, e_MD_areTwo, st_MD_areTwo, rs_L, md_finds0, md_finds1, md_finds2, md_finds3, md_finds4, md_finds5, md_finds6, mr_md E _, e3, eh, mm_pI_at, mm_pI_pI, mm_pI_2, mm_pL_1, mm_pL_at, mm_pL_pL, mm_pL_3, mm_pM_1, mm_pM_2, mm_pM_at, mm_pM_pM, mm_pI_pL, mm_pI_pM, mm_pL_pM, mm_pI_ne, mm_pL_ne, mm_pM_ne, mm_u_f, mm_u_at, mm_u_ne, Bool.false_eq_true, n_10, true_and, and_true, false_and, and_false, Nat.not_lt_zero, true_or, or_true, eq_self, mm_z, mm_rs, sw_xc_ite, sw_xv_ite, n_m1, Nat.lt_irrefl, not_false_eq_true, not_true_eq_false, inS_0, inS_1, ite_not, sw_xv_some, sw_xm_some, sw_xc_some, sw_xc_void, if_true, if_false, reduceIte, bI_0, bI_01, bI_1, nt_or, Nat.reduceAdd, n_add, n_mul, n_addL, n_Ladd, n_mulL, n_Lmul, n_sub, n_subL, n_lt, n_eq, n_ltL, n_Llt, n_eqL, n_Leq, n_nneg, n_pos]
set_option maxRecDepth 100000 in
set_option maxHeartbeats 4000000 in
theorem p_tear (E : sw_E) {S : sw_S} (hI : Inv S) : AgI S (f_SW_tear E (.ref 0)) (f_MD_tear E (.ref 71)) := by
  have h03 : 0 < 3 := by decide
  have hT := hI.it
  have hB := hT.b
  have hn := hT.n
  have hp := hT.p
  have hk := hT.k
  have e3 : ∀ S1, MP S S1 → S1.1 3 = S.1 0 := fun S1 h => (h.1 3 (by decide)).trans hI.s3
  have eh : ∀ S1, MP S S1 → S1.2.1 3 = S.2.1 0 := fun S1 h => (h.2.1 3 (by decide)).trans hI.h3
  have hM : MP S (mm_pM S 9 (upd (S.2.2 9) 0 0)) := MP_pM (MP_refl S) (by decide) _
  have e21 := hM.2.2 21 (by decide)
  refine ⟨S.2.2 9 0, mm_pM S 9 (upd (S.2.2 9) 0 0), mm_pM (mm_pM S 9 (upd (S.2.2 9) 0 0)) 21 (upd (S.2.2 21) 0 0), ?_, ?_, Inv_tear hI⟩
  · rcases hI.kb with hk0 | hk1
    · simp (disch := first | omega | exact hB _ _ | exact hB3 | exact hI3 | assumption | decide) only [e_SW_tear, st_SW_tear, hk0, mw_f0_7, c_isKind, c_isUpTo, c_isSum, c_Phas E _ _ h03, c_Thas E _ _ h03, c_Khas E _ _ h03, e_SW_isPair, st_SW_isPair, e_People_isFull, st_People_isFull, e_Things_isFull, st_Things_isFull, e_Promises_isFull, st_Promises_isFull, e_Promises_isOpen, st_Promises_isOpen, c_tell0, c_tell1, c_tell2, c_tell3, c_tell4, c_tell5, c_tell6, mr_cl E _, mr_town E _ 0 h03, mm_pI_at, mm_pI_pI, mm_pI_2, mm_pL_1, mm_pL_at, mm_pL_pL, mm_pL_3, mm_pM_1, mm_pM_2, mm_pM_at, mm_pM_pM, mm_pI_pL, mm_pI_pM, mm_pL_pM, mm_pI_ne, mm_pL_ne, mm_pM_ne, mm_u_f, mm_u_at, mm_u_ne, Bool.false_eq_true, n_10, true_and, and_true, false_and, and_false, Nat.not_lt_zero, true_or, or_true, eq_self, mm_z, mm_rs, sw_xc_ite, sw_xv_ite, n_m1, Nat.lt_irrefl, not_false_eq_true, not_true_eq_false, inS_0, inS_1, ite_not, sw_xv_some, sw_xm_some, sw_xc_some, sw_xc_void, if_true, if_false, reduceIte, bI_0, bI_01, bI_1, nt_or, Nat.reduceAdd, n_add, n_mul, n_addL, n_Ladd, n_mulL, n_Lmul, n_sub, n_subL, n_lt, n_eq, n_ltL, n_Llt, n_eqL, n_Leq, n_nneg, n_pos]
    · simp (disch := first | omega | exact hB _ _ | exact hB3 | exact hI3 | assumption | decide) only [e_SW_tear, st_SW_tear, hk1, mw_f0_7, c_isKind, c_isUpTo, c_isSum, c_Phas E _ _ h03, c_Thas E _ _ h03, c_Khas E _ _ h03, e_SW_isPair, st_SW_isPair, e_People_isFull, st_People_isFull, e_Things_isFull, st_Things_isFull, e_Promises_isFull, st_Promises_isFull, e_Promises_isOpen, st_Promises_isOpen, c_tell0, c_tell1, c_tell2, c_tell3, c_tell4, c_tell5, c_tell6, mr_cl E _, mr_town E _ 0 h03, mm_pI_at, mm_pI_pI, mm_pI_2, mm_pL_1, mm_pL_at, mm_pL_pL, mm_pL_3, mm_pM_1, mm_pM_2, mm_pM_at, mm_pM_pM, mm_pI_pL, mm_pI_pM, mm_pL_pM, mm_pI_ne, mm_pL_ne, mm_pM_ne, mm_u_f, mm_u_at, mm_u_ne, Bool.false_eq_true, n_10, true_and, and_true, false_and, and_false, Nat.not_lt_zero, true_or, or_true, eq_self, mm_z, mm_rs, sw_xc_ite, sw_xv_ite, n_m1, Nat.lt_irrefl, not_false_eq_true, not_true_eq_false, inS_0, inS_1, ite_not, sw_xv_some, sw_xm_some, sw_xc_some, sw_xc_void, if_true, if_false, reduceIte, bI_0, bI_01, bI_1, nt_or, Nat.reduceAdd, n_add, n_mul, n_addL, n_Ladd, n_mulL, n_Lmul, n_sub, n_subL, n_lt, n_eq, n_ltL, n_Llt, n_eqL, n_Leq, n_nneg, n_pos]
  · have k21 := hI.k21
    generalize mm_pM S 9 (upd (S.2.2 9) 0 0) = S1 at *
    rcases hI.kb with hk0 | hk1
    · simp (disch := first | omega | exact hB _ _ | exact hB3 | exact hI3 | assumption | decide) only [e_MD_tear, st_MD_tear, e21, k21, hk0, mw_f71_7, in_ok, in_okS, md_isPersonX, md_isThingX, md_isPromiseX, e_MD_areTwo, st_MD_areTwo, rs_L, md_finds0, md_finds1, md_finds2, md_finds3, md_finds4, md_finds5, md_finds6, mr_md E _, e3, eh, mm_pI_at, mm_pI_pI, mm_pI_2, mm_pL_1, mm_pL_at, mm_pL_pL, mm_pL_3, mm_pM_1, mm_pM_2, mm_pM_at, mm_pM_pM, mm_pI_pL, mm_pI_pM, mm_pL_pM, mm_pI_ne, mm_pL_ne, mm_pM_ne, mm_u_f, mm_u_at, mm_u_ne, Bool.false_eq_true, n_10, true_and, and_true, false_and, and_false, Nat.not_lt_zero, true_or, or_true, eq_self, mm_z, mm_rs, sw_xc_ite, sw_xv_ite, n_m1, Nat.lt_irrefl, not_false_eq_true, not_true_eq_false, inS_0, inS_1, ite_not, sw_xv_some, sw_xm_some, sw_xc_some, sw_xc_void, if_true, if_false, reduceIte, bI_0, bI_01, bI_1, nt_or, Nat.reduceAdd, n_add, n_mul, n_addL, n_Ladd, n_mulL, n_Lmul, n_sub, n_subL, n_lt, n_eq, n_ltL, n_Llt, n_eqL, n_Leq, n_nneg, n_pos]
    · simp (disch := first | omega | exact hB _ _ | exact hB3 | exact hI3 | assumption | decide) only [e_MD_tear, st_MD_tear, e21, k21, hk1, mw_f71_7, in_ok, in_okS, md_isPersonX, md_isThingX, md_isPromiseX, e_MD_areTwo, st_MD_areTwo, rs_L, md_finds0, md_finds1, md_finds2, md_finds3, md_finds4, md_finds5, md_finds6, mr_md E _, e3, eh, mm_pI_at, mm_pI_pI, mm_pI_2, mm_pL_1, mm_pL_at, mm_pL_pL, mm_pL_3, mm_pM_1, mm_pM_2, mm_pM_at, mm_pM_pM, mm_pI_pL, mm_pI_pM, mm_pL_pM, mm_pI_ne, mm_pL_ne, mm_pM_ne, mm_u_f, mm_u_at, mm_u_ne, Bool.false_eq_true, n_10, true_and, and_true, false_and, and_false, Nat.not_lt_zero, true_or, or_true, eq_self, mm_z, mm_rs, sw_xc_ite, sw_xv_ite, n_m1, Nat.lt_irrefl, not_false_eq_true, not_true_eq_false, inS_0, inS_1, ite_not, sw_xv_some, sw_xm_some, sw_xc_some, sw_xc_void, if_true, if_false, reduceIte, bI_0, bI_01, bI_1, nt_or, Nat.reduceAdd, n_add, n_mul, n_addL, n_Ladd, n_mulL, n_Lmul, n_sub, n_subL, n_lt, n_eq, n_ltL, n_Llt, n_eqL, n_Leq, n_nneg, n_pos]
set_option maxRecDepth 100000 in
set_option maxHeartbeats 4000000 in
theorem p_wipe (E : sw_E) {S : sw_S} (hI : Inv S) : AgI S (f_SW_wipe E (.ref 0)) (f_MD_wipe E (.ref 71)) := by
  have h03 : 0 < 3 := by decide
  have hT := hI.it
  have hB := hT.b
  have hn := hT.n
  have hp := hT.p
  have hk := hT.k
  have e3 : ∀ S1, MP S S1 → S1.1 3 = S.1 0 := fun S1 h => (h.1 3 (by decide)).trans hI.s3
  have eh : ∀ S1, MP S S1 → S1.2.1 3 = S.2.1 0 := fun S1 h => (h.2.1 3 (by decide)).trans hI.h3
  have hM : MP S (mm_pM S 5 (upd (S.2.2 5) 0 0)) := MP_pM (MP_refl S) (by decide) _
  have e25 := hM.2.2 25 (by decide)
  obtain ⟨n, hn100, ht1, ht2⟩ := hI.tape
  refine ⟨nI n, mm_pM S 5 (upd (S.2.2 5) 0 0), mm_pM (mm_pM S 5 (upd (S.2.2 5) 0 0)) 25 (upd (S.2.2 25) 0 0), ?_, ?_, Inv_wipe hI⟩
  · simp (disch := first | omega | exact hB _ _ | exact hB3 | exact hI3 | assumption | decide) only [e_SW_wipe, st_SW_wipe, e_Tape_clear, st_Tape_clear, ht1, mw_f59_1, c_isKind, c_isUpTo, c_isSum, c_Phas E _ _ h03, c_Thas E _ _ h03, c_Khas E _ _ h03, e_SW_isPair, st_SW_isPair, e_People_isFull, st_People_isFull, e_Things_isFull, st_Things_isFull, e_Promises_isFull, st_Promises_isFull, e_Promises_isOpen, st_Promises_isOpen, c_tell0, c_tell1, c_tell2, c_tell3, c_tell4, c_tell5, c_tell6, mr_cl E _, mr_town E _ 0 h03, mm_pI_at, mm_pI_pI, mm_pI_2, mm_pL_1, mm_pL_at, mm_pL_pL, mm_pL_3, mm_pM_1, mm_pM_2, mm_pM_at, mm_pM_pM, mm_pI_pL, mm_pI_pM, mm_pL_pM, mm_pI_ne, mm_pL_ne, mm_pM_ne, mm_u_f, mm_u_at, mm_u_ne, Bool.false_eq_true, n_10, true_and, and_true, false_and, and_false, Nat.not_lt_zero, true_or, or_true, eq_self, mm_z, mm_rs, sw_xc_ite, sw_xv_ite, n_m1, Nat.lt_irrefl, not_false_eq_true, not_true_eq_false, inS_0, inS_1, ite_not, sw_xv_some, sw_xm_some, sw_xc_some, sw_xc_void, if_true, if_false, reduceIte, bI_0, bI_01, bI_1, nt_or, Nat.reduceAdd, n_add, n_mul, n_addL, n_Ladd, n_mulL, n_Lmul, n_sub, n_subL, n_lt, n_eq, n_ltL, n_Llt, n_eqL, n_Leq, n_nneg, n_pos]
  · generalize mm_pM S 5 (upd (S.2.2 5) 0 0) = S1 at *
    simp (disch := first | omega | exact hB _ _ | exact hB3 | exact hI3 | assumption | decide) only [e_MD_wipe, st_MD_wipe, e25, ht2, mw_f71_11, in_ok, in_okS, md_isPersonX, md_isThingX, md_isPromiseX, e_MD_areTwo, st_MD_areTwo, rs_L, md_finds0, md_finds1, md_finds2, md_finds3, md_finds4, md_finds5, md_finds6, mr_md E _, e3, eh, mm_pI_at, mm_pI_pI, mm_pI_2, mm_pL_1, mm_pL_at, mm_pL_pL, mm_pL_3, mm_pM_1, mm_pM_2, mm_pM_at, mm_pM_pM, mm_pI_pL, mm_pI_pM, mm_pL_pM, mm_pI_ne, mm_pL_ne, mm_pM_ne, mm_u_f, mm_u_at, mm_u_ne, Bool.false_eq_true, n_10, true_and, and_true, false_and, and_false, Nat.not_lt_zero, true_or, or_true, eq_self, mm_z, mm_rs, sw_xc_ite, sw_xv_ite, n_m1, Nat.lt_irrefl, not_false_eq_true, not_true_eq_false, inS_0, inS_1, ite_not, sw_xv_some, sw_xm_some, sw_xc_some, sw_xc_void, if_true, if_false, reduceIte, bI_0, bI_01, bI_1, nt_or, Nat.reduceAdd, n_add, n_mul, n_addL, n_Ladd, n_mulL, n_Lmul, n_sub, n_subL, n_lt, n_eq, n_ltL, n_Llt, n_eqL, n_Leq, n_nneg, n_pos]
