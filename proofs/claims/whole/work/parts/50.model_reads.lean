/-! ===== the reference: reads, writes, small words ===== -/
theorem bI_1 {p : Prop} [Decidable p] : (bI p = 1) ↔ p := by unfold bI; split <;> simp [*]
theorem nt_or {p : Prop} : (¬ p ∨ p) ↔ True := ⟨fun _ => trivial, fun _ => (Classical.em p).symm⟩
theorem mr_md (E : sw_E) (S : sw_S) : sw_isC E (mk S) 71 8 = true ∧ sw_gF E (mk S) 71 8 0 = some (.ref 72) ∧ sw_gF E (mk S) 71 8 1 = some (.ref 73) ∧ sw_gF E (mk S) 71 8 2 = some (.ref 74) ∧ sw_gF E (mk S) 71 8 3 = some (.ref 75) ∧ sw_gF E (mk S) 71 8 4 = some (.ref 76) ∧ sw_gF E (mk S) 71 8 5 = some (.ref 77) ∧ sw_gF E (mk S) 71 8 6 = some (.ref 78) ∧ sw_gF E (mk S) 71 8 7 = some (.int (S.2.2 21 0)) ∧ sw_gF E (mk S) 71 8 8 = some (.ref 79) ∧ sw_gF E (mk S) 71 8 9 = some (.ref 80) ∧ sw_gF E (mk S) 71 8 10 = some (.ref 81) ∧ sw_gF E (mk S) 71 8 11 = some (.int (S.2.2 25 0)) ∧ sw_gF E (mk S) 71 8 12 = some (.int (S.2.2 25 1)) ∧ sw_gF E (mk S) 71 8 13 = some (.int (S.2.2 25 2)) ∧ sw_gF E (mk S) 71 8 14 = some (.int (S.2.2 25 3)) ∧ sw_gF E (mk S) 71 8 15 = some (.int (S.2.2 25 4)) ∧ sw_gF E (mk S) 71 8 16 = some (.ref 82) ∧ sw_gF E (mk S) 71 8 17 = some (.ref 83) ∧ sw_gF E (mk S) 71 8 18 = some (.ref 84) ∧ sw_gF E (mk S) 71 8 19 = some (.ref 85) ∧ (∀ i, i < 7 → sw_aI E (mk S) 75 (nI i) = some (.int (S.2.2 20 i))) ∧ (∀ i, i < 10 → sw_aI E (mk S) 79 (nI i) = some (.int (S.2.2 22 i))) ∧ (∀ i, i < 10 → sw_aI E (mk S) 80 (nI i) = some (.int (S.2.2 23 i))) ∧ (∀ i, i < 100 → sw_aI E (mk S) 81 (nI i) = some (.int (S.2.2 24 i))) ∧ (∀ i, i < 4 → sw_aI E (mk S) 82 (nI i) = some (.int (S.2.2 26 i))) ∧ (∀ i, i < 4 → sw_aI E (mk S) 83 (nI i) = some (.int (S.2.2 27 i))) ∧ (∀ i, i < 10 → sw_aL (mk S) 76 (nI i) = some (.long (S.2.1 3 i))) ∧ (∀ i, i < 10 → sw_aL (mk S) 77 (nI i) = some (.long (S.2.1 4 i))) ∧ (∀ i, i < 10 → sw_aL (mk S) 78 (nI i) = some (.long (S.2.1 5 i))) ∧ (∀ i, i < 40 → sw_aL (mk S) 85 (nI i) = some (.long (S.2.1 14 i))) := ⟨(mr_misc E S).2.2.2.2.2.2.2.2.2.2.2.2.2.2.2.2.2.2.2.2.2.1, (mr_misc E S).2.2.2.2.2.2.2.2.2.2.2.2.2.2.2.2.2.2.2.2.2.2.1, (mr_misc E S).2.2.2.2.2.2.2.2.2.2.2.2.2.2.2.2.2.2.2.2.2.2.2.1, (mr_misc E S).2.2.2.2.2.2.2.2.2.2.2.2.2.2.2.2.2.2.2.2.2.2.2.2.1, (mr_misc E S).2.2.2.2.2.2.2.2.2.2.2.2.2.2.2.2.2.2.2.2.2.2.2.2.2.1, (mr_misc E S).2.2.2.2.2.2.2.2.2.2.2.2.2.2.2.2.2.2.2.2.2.2.2.2.2.2.1, (mr_misc E S).2.2.2.2.2.2.2.2.2.2.2.2.2.2.2.2.2.2.2.2.2.2.2.2.2.2.2.1, (mr_misc E S).2.2.2.2.2.2.2.2.2.2.2.2.2.2.2.2.2.2.2.2.2.2.2.2.2.2.2.2.1, (mr_misc E S).2.2.2.2.2.2.2.2.2.2.2.2.2.2.2.2.2.2.2.2.2.2.2.2.2.2.2.2.2.1, (mr_misc E S).2.2.2.2.2.2.2.2.2.2.2.2.2.2.2.2.2.2.2.2.2.2.2.2.2.2.2.2.2.2.1, (mr_misc E S).2.2.2.2.2.2.2.2.2.2.2.2.2.2.2.2.2.2.2.2.2.2.2.2.2.2.2.2.2.2.2.1, (mr_misc E S).2.2.2.2.2.2.2.2.2.2.2.2.2.2.2.2.2.2.2.2.2.2.2.2.2.2.2.2.2.2.2.2.1, (mr_misc E S).2.2.2.2.2.2.2.2.2.2.2.2.2.2.2.2.2.2.2.2.2.2.2.2.2.2.2.2.2.2.2.2.2.1, (mr_misc E S).2.2.2.2.2.2.2.2.2.2.2.2.2.2.2.2.2.2.2.2.2.2.2.2.2.2.2.2.2.2.2.2.2.2.1, (mr_misc E S).2.2.2.2.2.2.2.2.2.2.2.2.2.2.2.2.2.2.2.2.2.2.2.2.2.2.2.2.2.2.2.2.2.2.2.1, (mr_misc E S).2.2.2.2.2.2.2.2.2.2.2.2.2.2.2.2.2.2.2.2.2.2.2.2.2.2.2.2.2.2.2.2.2.2.2.2.1, (mr_misc E S).2.2.2.2.2.2.2.2.2.2.2.2.2.2.2.2.2.2.2.2.2.2.2.2.2.2.2.2.2.2.2.2.2.2.2.2.2.1, (mr_misc E S).2.2.2.2.2.2.2.2.2.2.2.2.2.2.2.2.2.2.2.2.2.2.2.2.2.2.2.2.2.2.2.2.2.2.2.2.2.2.1, (mr_misc E S).2.2.2.2.2.2.2.2.2.2.2.2.2.2.2.2.2.2.2.2.2.2.2.2.2.2.2.2.2.2.2.2.2.2.2.2.2.2.2.1, (mr_misc E S).2.2.2.2.2.2.2.2.2.2.2.2.2.2.2.2.2.2.2.2.2.2.2.2.2.2.2.2.2.2.2.2.2.2.2.2.2.2.2.2.1, (mr_misc E S).2.2.2.2.2.2.2.2.2.2.2.2.2.2.2.2.2.2.2.2.2.2.2.2.2.2.2.2.2.2.2.2.2.2.2.2.2.2.2.2.2.1, (mr_misc E S).2.2.2.2.2.2.2.2.2.2.2.2.2.2.2.2.2.2.2.2.2.2.2.2.2.2.2.2.2.2.2.2.2.2.2.2.2.2.2.2.2.2.2.2.2.2.2.1, (mr_misc E S).2.2.2.2.2.2.2.2.2.2.2.2.2.2.2.2.2.2.2.2.2.2.2.2.2.2.2.2.2.2.2.2.2.2.2.2.2.2.2.2.2.2.2.2.2.2.2.2.1, (mr_misc E S).2.2.2.2.2.2.2.2.2.2.2.2.2.2.2.2.2.2.2.2.2.2.2.2.2.2.2.2.2.2.2.2.2.2.2.2.2.2.2.2.2.2.2.2.2.2.2.2.2.1, (mr_misc E S).2.2.2.2.2.2.2.2.2.2.2.2.2.2.2.2.2.2.2.2.2.2.2.2.2.2.2.2.2.2.2.2.2.2.2.2.2.2.2.2.2.2.2.2.2.2.2.2.2.2.1, (mr_misc E S).2.2.2.2.2.2.2.2.2.2.2.2.2.2.2.2.2.2.2.2.2.2.2.2.2.2.2.2.2.2.2.2.2.2.2.2.2.2.2.2.2.2.2.2.2.2.2.2.2.2.2.1, (mr_misc E S).2.2.2.2.2.2.2.2.2.2.2.2.2.2.2.2.2.2.2.2.2.2.2.2.2.2.2.2.2.2.2.2.2.2.2.2.2.2.2.2.2.2.2.2.2.2.2.2.2.2.2.2.1, (mr_misc E S).2.2.2.2.2.2.2.2.2.2.2.2.2.2.2.2.2.2.2.2.2.2.2.2.2.2.2.2.2.2.2.2.2.2.2.2.2.2.2.2.2.2.2.2.2.2.2.2.2.2.2.2.2.1, (mr_misc E S).2.2.2.2.2.2.2.2.2.2.2.2.2.2.2.2.2.2.2.2.2.2.2.2.2.2.2.2.2.2.2.2.2.2.2.2.2.2.2.2.2.2.2.2.2.2.2.2.2.2.2.2.2.2.1, (mr_misc E S).2.2.2.2.2.2.2.2.2.2.2.2.2.2.2.2.2.2.2.2.2.2.2.2.2.2.2.2.2.2.2.2.2.2.2.2.2.2.2.2.2.2.2.2.2.2.2.2.2.2.2.2.2.2.2.1, (mr_misc E S).2.2.2.2.2.2.2.2.2.2.2.2.2.2.2.2.2.2.2.2.2.2.2.2.2.2.2.2.2.2.2.2.2.2.2.2.2.2.2.2.2.2.2.2.2.2.2.2.2.2.2.2.2.2.2.2.1⟩
theorem mr_cl (E : sw_E) (S : sw_S) : sw_isC E (mk S) 0 7 = true ∧ sw_gF E (mk S) 0 7 0 = some (.ref (mm_tn 0 0)) ∧ sw_gF E (mk S) 0 7 1 = some (.ref (mm_tn 1 0)) ∧ sw_gF E (mk S) 0 7 2 = some (.ref (mm_tn 2 0)) ∧ sw_gF E (mk S) 0 7 3 = some (.ref 55) ∧ sw_gF E (mk S) 0 7 4 = some (.ref 59) ∧ sw_gF E (mk S) 0 7 5 = some (.ref 61) ∧ sw_gF E (mk S) 0 7 6 = some (.ref 70) ∧ sw_gF E (mk S) 0 7 7 = some (.int (S.2.2 9 0)) ∧ sw_isC E (mk S) 55 2 = true ∧ sw_gF E (mk S) 55 2 0 = some (.ref 56) ∧ sw_gF E (mk S) 55 2 1 = some (.ref 57) ∧ sw_gF E (mk S) 55 2 2 = some (.ref 58) ∧ sw_gF E (mk S) 55 2 3 = some (.int (S.2.2 3 0)) ∧ sw_isC E (mk S) 59 4 = true ∧ sw_gF E (mk S) 59 4 0 = some (.ref 60) ∧ sw_gF E (mk S) 59 4 1 = some (.int (S.2.2 5 0)) ∧ sw_gF E (mk S) 59 4 2 = some (.int (S.2.2 5 1)) ∧ sw_gF E (mk S) 59 4 3 = some (.int (S.2.2 5 2)) ∧ sw_gF E (mk S) 59 4 4 = some (.int (S.2.2 5 3)) ∧ sw_gF E (mk S) 59 4 5 = some (.int (S.2.2 5 4)) ∧ (∀ i, i < 10 → sw_aI E (mk S) 56 (nI i) = some (.int (S.2.2 0 i))) ∧ (∀ i, i < 10 → sw_aI E (mk S) 57 (nI i) = some (.int (S.2.2 1 i))) ∧ (∀ i, i < 10 → sw_aI E (mk S) 58 (nI i) = some (.int (S.2.2 2 i))) ∧ (∀ i, i < 100 → sw_aI E (mk S) 60 (nI i) = some (.int (S.2.2 4 i))) ∧ (∀ i, i < 7 → sw_aI E (mk S) 70 (nI i) = some (.int (S.2.2 8 i))) := ⟨(mr_misc E S).1, (mr_misc E S).2.1, (mr_misc E S).2.2.1, (mr_misc E S).2.2.2.1, (mr_misc E S).2.2.2.2.1, (mr_misc E S).2.2.2.2.2.1, (mr_misc E S).2.2.2.2.2.2.1, (mr_misc E S).2.2.2.2.2.2.2.1, (mr_misc E S).2.2.2.2.2.2.2.2.1, (mr_misc E S).2.2.2.2.2.2.2.2.2.1, (mr_misc E S).2.2.2.2.2.2.2.2.2.2.1, (mr_misc E S).2.2.2.2.2.2.2.2.2.2.2.1, (mr_misc E S).2.2.2.2.2.2.2.2.2.2.2.2.1, (mr_misc E S).2.2.2.2.2.2.2.2.2.2.2.2.2.1, (mr_misc E S).2.2.2.2.2.2.2.2.2.2.2.2.2.2.1, (mr_misc E S).2.2.2.2.2.2.2.2.2.2.2.2.2.2.2.1, (mr_misc E S).2.2.2.2.2.2.2.2.2.2.2.2.2.2.2.2.1, (mr_misc E S).2.2.2.2.2.2.2.2.2.2.2.2.2.2.2.2.2.1, (mr_misc E S).2.2.2.2.2.2.2.2.2.2.2.2.2.2.2.2.2.2.1, (mr_misc E S).2.2.2.2.2.2.2.2.2.2.2.2.2.2.2.2.2.2.2.1, (mr_misc E S).2.2.2.2.2.2.2.2.2.2.2.2.2.2.2.2.2.2.2.2.1, (mr_misc E S).2.2.2.2.2.2.2.2.2.2.2.2.2.2.2.2.2.2.2.2.2.2.2.2.2.2.2.2.2.2.2.2.2.2.2.2.2.2.2.2.2.2.1, (mr_misc E S).2.2.2.2.2.2.2.2.2.2.2.2.2.2.2.2.2.2.2.2.2.2.2.2.2.2.2.2.2.2.2.2.2.2.2.2.2.2.2.2.2.2.2.1, (mr_misc E S).2.2.2.2.2.2.2.2.2.2.2.2.2.2.2.2.2.2.2.2.2.2.2.2.2.2.2.2.2.2.2.2.2.2.2.2.2.2.2.2.2.2.2.2.1, (mr_misc E S).2.2.2.2.2.2.2.2.2.2.2.2.2.2.2.2.2.2.2.2.2.2.2.2.2.2.2.2.2.2.2.2.2.2.2.2.2.2.2.2.2.2.2.2.2.1, (mr_misc E S).2.2.2.2.2.2.2.2.2.2.2.2.2.2.2.2.2.2.2.2.2.2.2.2.2.2.2.2.2.2.2.2.2.2.2.2.2.2.2.2.2.2.2.2.2.2.1⟩
section MDL
variable (E : sw_E) (S : sw_S)
theorem rs_L : sw_aI E (mk S) 72 0 = some (.int (nI (S.1 3 0 0))) ∧ sw_aI E (mk S) 72 1 = some (.int (nI (S.1 3 0 1))) ∧ sw_aI E (mk S) 72 2 = some (.int (nI (S.1 3 0 2))) ∧ sw_aI E (mk S) 72 3 = some (.int (nI (S.1 3 0 3))) ∧ sw_aI E (mk S) 72 4 = some (.int (nI (S.1 3 0 4))) ∧ sw_aI E (mk S) 72 5 = some (.int (nI (S.1 3 0 5))) := ⟨rs_0 E S (i := 0) (by decide), rs_0 E S (i := 1) (by decide), rs_0 E S (i := 2) (by decide), rs_0 E S (i := 3) (by decide), rs_0 E S (i := 4) (by decide), rs_0 E S (i := 5) (by decide)⟩
theorem ws_L {v : Nat} : sw_sI (mk S) 72 0 (nI v) = some (mk (mm_pI S 3 (mm_u (S.1 3) 0 0 v))) ∧ sw_sI (mk S) 72 1 (nI v) = some (mk (mm_pI S 3 (mm_u (S.1 3) 0 1 v))) ∧ sw_sI (mk S) 72 2 (nI v) = some (mk (mm_pI S 3 (mm_u (S.1 3) 0 2 v))) ∧ sw_sI (mk S) 72 3 (nI v) = some (mk (mm_pI S 3 (mm_u (S.1 3) 0 3 v))) ∧ sw_sI (mk S) 72 4 (nI v) = some (mk (mm_pI S 3 (mm_u (S.1 3) 0 4 v))) ∧ sw_sI (mk S) 72 5 (nI v) = some (mk (mm_pI S 3 (mm_u (S.1 3) 0 5 v))) := ⟨ws_0 S (i := 0) (by decide), ws_0 S (i := 1) (by decide), ws_0 S (i := 2) (by decide), ws_0 S (i := 3) (by decide), ws_0 S (i := 4) (by decide), ws_0 S (i := 5) (by decide)⟩
theorem ws_tL {t w n : Nat} (h : t < 16) (hw : w < 6) : sw_sI (mk S) 72 (nI (16 + 12 * t + w)) (no_index (OfNat.ofNat n : Int32)) = some (mk (mm_pI S 3 (mm_u (S.1 3) (2 + w) t (OfNat.ofNat n : Nat)))) := ws_t S (v := n) h hw
theorem ws_pL {k w n : Nat} (h : k < 24) (hw : w < 5) : sw_sI (mk S) 72 (nI (208 + 5 * k + w)) (no_index (OfNat.ofNat n : Int32)) = some (mk (mm_pI S 3 (mm_u (S.1 3) (9 + w) k (OfNat.ofNat n : Nat)))) := ws_p S (v := n) h hw
set_option maxRecDepth 100000 in
theorem md_has0 {x : Nat} (hx : x < 16) : f_MD_has E (.ref 71) (.int (nI x)) (.int 0) (mk S) = some (some (.int (nI (S.1 3 2 x))), mk S) := by
  simp (disch := first | omega | exact hB _ _ | assumption | decide) only [e_MD_has, st_MD_has, rs_t, mr_md E _, mm_pI_at, mm_pI_pI, mm_pI_2, mm_pL_1, mm_pL_at, mm_pL_pL, mm_pL_3, mm_pM_1, mm_pM_2, mm_pM_at, mm_pM_pM, mm_pI_pL, mm_pI_pM, mm_pL_pM, Bool.false_eq_true, n_10, true_and, and_true, false_and, and_false, Nat.not_lt_zero, true_or, or_true, eq_self, mm_z, mm_rs, sw_xc_ite, sw_xv_ite, n_m1, Nat.lt_irrefl, not_false_eq_true, not_true_eq_false, inS_0, inS_1, ite_not, sw_xv_some, sw_xm_some, sw_xc_some, sw_xc_void, if_true, if_false, reduceIte, bI_0, bI_01, bI_1, nt_or, Nat.reduceAdd, n_add, n_mul, n_addL, n_Ladd, n_mulL, n_Lmul, n_sub, n_subL, n_lt, n_eq, n_ltL, n_Llt, n_eqL, n_Leq, n_nneg, n_pos]
set_option maxRecDepth 100000 in
theorem md_has1 {x : Nat} (hx : x < 16) : f_MD_has E (.ref 71) (.int (nI x)) (.int 1) (mk S) = some (some (.int (nI (S.1 3 3 x))), mk S) := by
  simp (disch := first | omega | exact hB _ _ | assumption | decide) only [e_MD_has, st_MD_has, rs_t, mr_md E _, mm_pI_at, mm_pI_pI, mm_pI_2, mm_pL_1, mm_pL_at, mm_pL_pL, mm_pL_3, mm_pM_1, mm_pM_2, mm_pM_at, mm_pM_pM, mm_pI_pL, mm_pI_pM, mm_pL_pM, Bool.false_eq_true, n_10, true_and, and_true, false_and, and_false, Nat.not_lt_zero, true_or, or_true, eq_self, mm_z, mm_rs, sw_xc_ite, sw_xv_ite, n_m1, Nat.lt_irrefl, not_false_eq_true, not_true_eq_false, inS_0, inS_1, ite_not, sw_xv_some, sw_xm_some, sw_xc_some, sw_xc_void, if_true, if_false, reduceIte, bI_0, bI_01, bI_1, nt_or, Nat.reduceAdd, n_add, n_mul, n_addL, n_Ladd, n_mulL, n_Lmul, n_sub, n_subL, n_lt, n_eq, n_ltL, n_Llt, n_eqL, n_Leq, n_nneg, n_pos]
set_option maxRecDepth 100000 in
theorem md_has2 {x : Nat} (hx : x < 16) : f_MD_has E (.ref 71) (.int (nI x)) (.int 2) (mk S) = some (some (.int (nI (S.1 3 4 x))), mk S) := by
  simp (disch := first | omega | exact hB _ _ | assumption | decide) only [e_MD_has, st_MD_has, rs_t, mr_md E _, mm_pI_at, mm_pI_pI, mm_pI_2, mm_pL_1, mm_pL_at, mm_pL_pL, mm_pL_3, mm_pM_1, mm_pM_2, mm_pM_at, mm_pM_pM, mm_pI_pL, mm_pI_pM, mm_pL_pM, Bool.false_eq_true, n_10, true_and, and_true, false_and, and_false, Nat.not_lt_zero, true_or, or_true, eq_self, mm_z, mm_rs, sw_xc_ite, sw_xv_ite, n_m1, Nat.lt_irrefl, not_false_eq_true, not_true_eq_false, inS_0, inS_1, ite_not, sw_xv_some, sw_xm_some, sw_xc_some, sw_xc_void, if_true, if_false, reduceIte, bI_0, bI_01, bI_1, nt_or, Nat.reduceAdd, n_add, n_mul, n_addL, n_Ladd, n_mulL, n_Lmul, n_sub, n_subL, n_lt, n_eq, n_ltL, n_Llt, n_eqL, n_Leq, n_nneg, n_pos]
set_option maxRecDepth 100000 in
theorem md_has3 {x : Nat} (hx : x < 16) : f_MD_has E (.ref 71) (.int (nI x)) (.int 3) (mk S) = some (some (.int (nI (S.1 3 5 x))), mk S) := by
  simp (disch := first | omega | exact hB _ _ | assumption | decide) only [e_MD_has, st_MD_has, rs_t, mr_md E _, mm_pI_at, mm_pI_pI, mm_pI_2, mm_pL_1, mm_pL_at, mm_pL_pL, mm_pL_3, mm_pM_1, mm_pM_2, mm_pM_at, mm_pM_pM, mm_pI_pL, mm_pI_pM, mm_pL_pM, Bool.false_eq_true, n_10, true_and, and_true, false_and, and_false, Nat.not_lt_zero, true_or, or_true, eq_self, mm_z, mm_rs, sw_xc_ite, sw_xv_ite, n_m1, Nat.lt_irrefl, not_false_eq_true, not_true_eq_false, inS_0, inS_1, ite_not, sw_xv_some, sw_xm_some, sw_xc_some, sw_xc_void, if_true, if_false, reduceIte, bI_0, bI_01, bI_1, nt_or, Nat.reduceAdd, n_add, n_mul, n_addL, n_Ladd, n_mulL, n_Lmul, n_sub, n_subL, n_lt, n_eq, n_ltL, n_Llt, n_eqL, n_Leq, n_nneg, n_pos]
set_option maxRecDepth 100000 in
theorem md_has4 {x : Nat} (hx : x < 16) : f_MD_has E (.ref 71) (.int (nI x)) (.int 4) (mk S) = some (some (.int (nI (S.1 3 6 x))), mk S) := by
  simp (disch := first | omega | exact hB _ _ | assumption | decide) only [e_MD_has, st_MD_has, rs_t, mr_md E _, mm_pI_at, mm_pI_pI, mm_pI_2, mm_pL_1, mm_pL_at, mm_pL_pL, mm_pL_3, mm_pM_1, mm_pM_2, mm_pM_at, mm_pM_pM, mm_pI_pL, mm_pI_pM, mm_pL_pM, Bool.false_eq_true, n_10, true_and, and_true, false_and, and_false, Nat.not_lt_zero, true_or, or_true, eq_self, mm_z, mm_rs, sw_xc_ite, sw_xv_ite, n_m1, Nat.lt_irrefl, not_false_eq_true, not_true_eq_false, inS_0, inS_1, ite_not, sw_xv_some, sw_xm_some, sw_xc_some, sw_xc_void, if_true, if_false, reduceIte, bI_0, bI_01, bI_1, nt_or, Nat.reduceAdd, n_add, n_mul, n_addL, n_Ladd, n_mulL, n_Lmul, n_sub, n_subL, n_lt, n_eq, n_ltL, n_Llt, n_eqL, n_Leq, n_nneg, n_pos]
set_option maxRecDepth 100000 in
theorem md_has5 {x : Nat} (hx : x < 16) : f_MD_has E (.ref 71) (.int (nI x)) (.int 5) (mk S) = some (some (.int (nI (S.1 3 7 x))), mk S) := by
  simp (disch := first | omega | exact hB _ _ | assumption | decide) only [e_MD_has, st_MD_has, rs_t, mr_md E _, mm_pI_at, mm_pI_pI, mm_pI_2, mm_pL_1, mm_pL_at, mm_pL_pL, mm_pL_3, mm_pM_1, mm_pM_2, mm_pM_at, mm_pM_pM, mm_pI_pL, mm_pI_pM, mm_pL_pM, Bool.false_eq_true, n_10, true_and, and_true, false_and, and_false, Nat.not_lt_zero, true_or, or_true, eq_self, mm_z, mm_rs, sw_xc_ite, sw_xv_ite, n_m1, Nat.lt_irrefl, not_false_eq_true, not_true_eq_false, inS_0, inS_1, ite_not, sw_xv_some, sw_xm_some, sw_xc_some, sw_xc_void, if_true, if_false, reduceIte, bI_0, bI_01, bI_1, nt_or, Nat.reduceAdd, n_add, n_mul, n_addL, n_Ladd, n_mulL, n_Lmul, n_sub, n_subL, n_lt, n_eq, n_ltL, n_Llt, n_eqL, n_Leq, n_nneg, n_pos]
set_option maxRecDepth 100000 in
theorem md_hasC {x i : Nat} (hx : x < 16) (hi : i < 6) : f_MD_has E (.ref 71) (.int (nI x)) (.int (nI (6 + i))) (mk S) = some (some (.int (nI (S.1 3 8 (6 * x + i)))), mk S) := by
  have e : ∀ a, a + (6 + i) = a + 6 + i := fun a => (Nat.add_assoc a 6 i).symm
  simp (disch := first | omega | exact hB _ _ | assumption | decide) only [e_MD_has, st_MD_has, e, rs_c, mr_md E _, mm_pI_at, mm_pI_pI, mm_pI_2, mm_pL_1, mm_pL_at, mm_pL_pL, mm_pL_3, mm_pM_1, mm_pM_2, mm_pM_at, mm_pM_pM, mm_pI_pL, mm_pI_pM, mm_pL_pM, Bool.false_eq_true, n_10, true_and, and_true, false_and, and_false, Nat.not_lt_zero, true_or, or_true, eq_self, mm_z, mm_rs, sw_xc_ite, sw_xv_ite, n_m1, Nat.lt_irrefl, not_false_eq_true, not_true_eq_false, inS_0, inS_1, ite_not, sw_xv_some, sw_xm_some, sw_xc_some, sw_xc_void, if_true, if_false, reduceIte, bI_0, bI_01, bI_1, nt_or, Nat.reduceAdd, n_add, n_mul, n_addL, n_Ladd, n_mulL, n_Lmul, n_sub, n_subL, n_lt, n_eq, n_ltL, n_Llt, n_eqL, n_Leq, n_nneg, n_pos]
set_option maxRecDepth 100000 in
theorem md_of0 {k : Nat} (hk : k < 24) : f_MD_of E (.ref 71) (.int (nI k)) (.int 0) (mk S) = some (some (.int (nI (S.1 3 9 k))), mk S) := by
  simp (disch := first | omega | exact hB _ _ | assumption | decide) only [e_MD_of, st_MD_of, rs_p, mr_md E _, mm_pI_at, mm_pI_pI, mm_pI_2, mm_pL_1, mm_pL_at, mm_pL_pL, mm_pL_3, mm_pM_1, mm_pM_2, mm_pM_at, mm_pM_pM, mm_pI_pL, mm_pI_pM, mm_pL_pM, Bool.false_eq_true, n_10, true_and, and_true, false_and, and_false, Nat.not_lt_zero, true_or, or_true, eq_self, mm_z, mm_rs, sw_xc_ite, sw_xv_ite, n_m1, Nat.lt_irrefl, not_false_eq_true, not_true_eq_false, inS_0, inS_1, ite_not, sw_xv_some, sw_xm_some, sw_xc_some, sw_xc_void, if_true, if_false, reduceIte, bI_0, bI_01, bI_1, nt_or, Nat.reduceAdd, n_add, n_mul, n_addL, n_Ladd, n_mulL, n_Lmul, n_sub, n_subL, n_lt, n_eq, n_ltL, n_Llt, n_eqL, n_Leq, n_nneg, n_pos]
set_option maxRecDepth 100000 in
theorem md_of1 {k : Nat} (hk : k < 24) : f_MD_of E (.ref 71) (.int (nI k)) (.int 1) (mk S) = some (some (.int (nI (S.1 3 10 k))), mk S) := by
  simp (disch := first | omega | exact hB _ _ | assumption | decide) only [e_MD_of, st_MD_of, rs_p, mr_md E _, mm_pI_at, mm_pI_pI, mm_pI_2, mm_pL_1, mm_pL_at, mm_pL_pL, mm_pL_3, mm_pM_1, mm_pM_2, mm_pM_at, mm_pM_pM, mm_pI_pL, mm_pI_pM, mm_pL_pM, Bool.false_eq_true, n_10, true_and, and_true, false_and, and_false, Nat.not_lt_zero, true_or, or_true, eq_self, mm_z, mm_rs, sw_xc_ite, sw_xv_ite, n_m1, Nat.lt_irrefl, not_false_eq_true, not_true_eq_false, inS_0, inS_1, ite_not, sw_xv_some, sw_xm_some, sw_xc_some, sw_xc_void, if_true, if_false, reduceIte, bI_0, bI_01, bI_1, nt_or, Nat.reduceAdd, n_add, n_mul, n_addL, n_Ladd, n_mulL, n_Lmul, n_sub, n_subL, n_lt, n_eq, n_ltL, n_Llt, n_eqL, n_Leq, n_nneg, n_pos]
set_option maxRecDepth 100000 in
theorem md_of2 {k : Nat} (hk : k < 24) : f_MD_of E (.ref 71) (.int (nI k)) (.int 2) (mk S) = some (some (.int (nI (S.1 3 11 k))), mk S) := by
  simp (disch := first | omega | exact hB _ _ | assumption | decide) only [e_MD_of, st_MD_of, rs_p, mr_md E _, mm_pI_at, mm_pI_pI, mm_pI_2, mm_pL_1, mm_pL_at, mm_pL_pL, mm_pL_3, mm_pM_1, mm_pM_2, mm_pM_at, mm_pM_pM, mm_pI_pL, mm_pI_pM, mm_pL_pM, Bool.false_eq_true, n_10, true_and, and_true, false_and, and_false, Nat.not_lt_zero, true_or, or_true, eq_self, mm_z, mm_rs, sw_xc_ite, sw_xv_ite, n_m1, Nat.lt_irrefl, not_false_eq_true, not_true_eq_false, inS_0, inS_1, ite_not, sw_xv_some, sw_xm_some, sw_xc_some, sw_xc_void, if_true, if_false, reduceIte, bI_0, bI_01, bI_1, nt_or, Nat.reduceAdd, n_add, n_mul, n_addL, n_Ladd, n_mulL, n_Lmul, n_sub, n_subL, n_lt, n_eq, n_ltL, n_Llt, n_eqL, n_Leq, n_nneg, n_pos]
set_option maxRecDepth 100000 in
theorem md_of3 {k : Nat} (hk : k < 24) : f_MD_of E (.ref 71) (.int (nI k)) (.int 3) (mk S) = some (some (.int (nI (S.1 3 12 k))), mk S) := by
  simp (disch := first | omega | exact hB _ _ | assumption | decide) only [e_MD_of, st_MD_of, rs_p, mr_md E _, mm_pI_at, mm_pI_pI, mm_pI_2, mm_pL_1, mm_pL_at, mm_pL_pL, mm_pL_3, mm_pM_1, mm_pM_2, mm_pM_at, mm_pM_pM, mm_pI_pL, mm_pI_pM, mm_pL_pM, Bool.false_eq_true, n_10, true_and, and_true, false_and, and_false, Nat.not_lt_zero, true_or, or_true, eq_self, mm_z, mm_rs, sw_xc_ite, sw_xv_ite, n_m1, Nat.lt_irrefl, not_false_eq_true, not_true_eq_false, inS_0, inS_1, ite_not, sw_xv_some, sw_xm_some, sw_xc_some, sw_xc_void, if_true, if_false, reduceIte, bI_0, bI_01, bI_1, nt_or, Nat.reduceAdd, n_add, n_mul, n_addL, n_Ladd, n_mulL, n_Lmul, n_sub, n_subL, n_lt, n_eq, n_ltL, n_Llt, n_eqL, n_Leq, n_nneg, n_pos]
set_option maxRecDepth 100000 in
theorem md_of4 {k : Nat} (hk : k < 24) : f_MD_of E (.ref 71) (.int (nI k)) (.int 4) (mk S) = some (some (.int (nI (S.1 3 13 k))), mk S) := by
  simp (disch := first | omega | exact hB _ _ | assumption | decide) only [e_MD_of, st_MD_of, rs_p, mr_md E _, mm_pI_at, mm_pI_pI, mm_pI_2, mm_pL_1, mm_pL_at, mm_pL_pL, mm_pL_3, mm_pM_1, mm_pM_2, mm_pM_at, mm_pM_pM, mm_pI_pL, mm_pI_pM, mm_pL_pM, Bool.false_eq_true, n_10, true_and, and_true, false_and, and_false, Nat.not_lt_zero, true_or, or_true, eq_self, mm_z, mm_rs, sw_xc_ite, sw_xv_ite, n_m1, Nat.lt_irrefl, not_false_eq_true, not_true_eq_false, inS_0, inS_1, ite_not, sw_xv_some, sw_xm_some, sw_xc_some, sw_xc_void, if_true, if_false, reduceIte, bI_0, bI_01, bI_1, nt_or, Nat.reduceAdd, n_add, n_mul, n_addL, n_Ladd, n_mulL, n_Lmul, n_sub, n_subL, n_lt, n_eq, n_ltL, n_Llt, n_eqL, n_Leq, n_nneg, n_pos]
set_option maxRecDepth 100000 in
theorem md_isOpen (hB : ∀ f i, S.1 3 f i < 2147483648) {k : Nat} (hk : k < 24) : f_MD_isOpen E (.ref 71) (.int (nI k)) (mk S) = some (some (.int (bI (S.1 3 13 k = 0))), mk S) := by
  simp (disch := first | omega | exact hB _ _ | assumption | decide) only [e_MD_isOpen, st_MD_isOpen, md_of4, mr_md E _, mm_pI_at, mm_pI_pI, mm_pI_2, mm_pL_1, mm_pL_at, mm_pL_pL, mm_pL_3, mm_pM_1, mm_pM_2, mm_pM_at, mm_pM_pM, mm_pI_pL, mm_pI_pM, mm_pL_pM, Bool.false_eq_true, n_10, true_and, and_true, false_and, and_false, Nat.not_lt_zero, true_or, or_true, eq_self, mm_z, mm_rs, sw_xc_ite, sw_xv_ite, n_m1, Nat.lt_irrefl, not_false_eq_true, not_true_eq_false, inS_0, inS_1, ite_not, sw_xv_some, sw_xm_some, sw_xc_some, sw_xc_void, if_true, if_false, reduceIte, bI_0, bI_01, bI_1, nt_or, Nat.reduceAdd, n_add, n_mul, n_addL, n_Ladd, n_mulL, n_Lmul, n_sub, n_subL, n_lt, n_eq, n_ltL, n_Llt, n_eqL, n_Leq, n_nneg, n_pos]
  unfold bI
  split <;> rfl
end MDL
/-! in -/
theorem bI_iff {p q : Prop} [Decidable p] [Decidable q] (h : p ↔ q) : bI p = bI q := by
  unfold bI
  by_cases hp : p
  · rw [if_pos hp, if_pos (h.mp hp)]
  · rw [if_neg hp, if_neg (fun g => hp (h.mpr g))]
section MDI
variable (E : sw_E) (M : sw_M)
set_option maxRecDepth 100000 in
theorem md_in (x y z : Int64) : f_MD_in E (.long x) (.long y) (.long z) M = some (some (.int (bI (y ≤ x ∧ x ≤ z))), M) := by
  simp only [e_MD_in, st_MD_in, lg_cmp_lt, lg_cmp_gt]
  by_cases h1 : x < y
  · have h2 : ¬ y ≤ x := Int64.not_le.mpr h1
    simp [h1, h2, bI]
  · have h2 : y ≤ x := Int64.not_lt.mp h1
    by_cases h3 : z < x
    · have h4 : ¬ x ≤ z := Int64.not_le.mpr h3
      simp [h1, h3, h4, bI]
    · have h4 : x ≤ z := Int64.not_lt.mp h3
      simp [h1, h2, h3, h4, bI]
theorem l_lit (n : Nat) : (no_index (OfNat.ofNat n : Int64)) = lN (OfNat.ofNat n : Nat) := rfl
theorem in_n {a n : Nat} (ha : a < 2147483648) (hn : (OfNat.ofNat n : Nat) < 2147483648) : f_MD_in E (.long (nI a).toInt64) (.long 0) (.long (no_index (OfNat.ofNat n : Int64))) M = some (some (.int (bI (a ≤ (OfNat.ofNat n : Nat)))), M) := by
  rw [md_in, nI_l ha, show (0 : Int64) = lN 0 from rfl, show (OfNat.ofNat n : Int64) = lN (OfNat.ofNat n : Nat) from rfl]
  exact congrArg (fun v => some (some (Value.int v), M)) (bI_iff (by rw [lN_le (by decide) ha, lN_le ha hn]; simp))
theorem in_n1 {a n : Nat} (ha : a < 2147483648) (hn : (OfNat.ofNat n : Nat) < 2147483648) : f_MD_in E (.long (nI a).toInt64) (.long 1) (.long (no_index (OfNat.ofNat n : Int64))) M = some (some (.int (bI (1 ≤ a ∧ a ≤ (OfNat.ofNat n : Nat)))), M) := by
  rw [md_in, nI_l ha, show (1 : Int64) = lN 1 from rfl, show (OfNat.ofNat n : Int64) = lN (OfNat.ofNat n : Nat) from rfl]
  exact congrArg (fun v => some (some (Value.int v), M)) (bI_iff (by rw [lN_le (by decide) ha, lN_le ha hn]))
theorem in_nv {a c : Nat} (ha : a < 2147483648) (hc : c < 2147483648) : f_MD_in E (.long (nI a).toInt64) (.long 0) (.long (nI c).toInt64) M = some (some (.int (bI (a ≤ c))), M) := by
  rw [md_in, nI_l ha, nI_l hc, show (0 : Int64) = lN 0 from rfl]
  exact congrArg (fun v => some (some (Value.int v), M)) (bI_iff (by rw [lN_le (by decide) ha, lN_le ha hc]; simp))
theorem n_m1_lt (x : Int32) (h : x < 0) : x.toInt64 < 0 := by
  rw [show (0 : Int64) = (0 : Int32).toInt64 from by decide, fa_wide_lt]; exact h
theorem in_neg {x : Int32} (z : Int64) (h : x < 0) : f_MD_in E (.long x.toInt64) (.long 0) (.long z) M = some (some (.int 0), M) := by
  rw [md_in, bI_f]
  intro g
  exact absurd g.1 (Int64.not_le.mpr (n_m1_lt x h))
theorem in_neg1 {x : Int32} (z : Int64) (h : x < 0) : f_MD_in E (.long x.toInt64) (.long 1) (.long z) M = some (some (.int 0), M) := by
  rw [md_in, bI_f]
  intro g
  have h1 := n_m1_lt x h
  rw [Int64.lt_iff_toInt_lt] at h1
  have h2 := Int64.le_iff_toInt_le.mp g.1
  have e0 : (0 : Int64).toInt = 0 := by decide
  have e1 : (1 : Int64).toInt = 1 := by decide
  omega
theorem in_c {a c : Nat} (ha : a < 2147483648) (hc : c < 2147483648) : f_MD_in E (.long (nI a).toInt64) (.long 0) (.long (nI c - 1).toInt64) M = some (some (.int (bI (a < c))), M) := by
  cases c with
  | zero =>
    rw [md_in, bI_f, bI_f (by omega)]
    intro g
    have h1 := Int64.le_iff_toInt_le.mp (Int64.le_trans g.1 g.2)
    have e0 : (0 : Int64).toInt = 0 := by decide
    have e1 : (nI 0 - 1).toInt64.toInt = -1 := by decide
    omega
  | succ c =>
    rw [n_subL (by omega : (1 : Nat) ≤ c + 1)]
    show f_MD_in E (.long (nI a).toInt64) (.long 0) (.long (nI (c + 1 - 1)).toInt64) M = _
    rw [Nat.add_sub_cancel, in_nv E M ha (by omega)]
    exact congrArg (fun v => some (some (Value.int v), M)) (bI_iff (by omega))
end MDI
section MDS
variable (E : sw_E) (S : sw_S)
set_option maxRecDepth 100000 in
set_option maxHeartbeats 4000000 in
theorem md_isPerson (hB : ∀ f i, S.1 3 f i < 2147483648) {p : Nat} (hp : p < 2147483648) : f_MD_isPerson E (.ref 71) (.int (nI p)) (mk S) = some (some (.int (bI (p < S.1 3 0 0))), mk S) := by
  simp (disch := first | omega | exact hB _ _ | assumption | decide) only [e_MD_isPerson, st_MD_isPerson, rs_L, in_c, mr_md E _, mm_pI_at, mm_pI_pI, mm_pI_2, mm_pL_1, mm_pL_at, mm_pL_pL, mm_pL_3, mm_pM_1, mm_pM_2, mm_pM_at, mm_pM_pM, mm_pI_pL, mm_pI_pM, mm_pL_pM, Bool.false_eq_true, n_10, true_and, and_true, false_and, and_false, Nat.not_lt_zero, true_or, or_true, eq_self, mm_z, mm_rs, sw_xc_ite, sw_xv_ite, n_m1, Nat.lt_irrefl, not_false_eq_true, not_true_eq_false, inS_0, inS_1, ite_not, sw_xv_some, sw_xm_some, sw_xc_some, sw_xc_void, if_true, if_false, reduceIte, bI_0, bI_01, bI_1, nt_or, Nat.reduceAdd, n_add, n_mul, n_addL, n_Ladd, n_mulL, n_Lmul, n_sub, n_subL, n_lt, n_eq, n_ltL, n_Llt, n_eqL, n_Leq, n_nneg, n_pos]
set_option maxRecDepth 100000 in
set_option maxHeartbeats 4000000 in
theorem md_isPersonN {x : Int32} (h : x < 0) : f_MD_isPerson E (.ref 71) (.int x) (mk S) = some (some (.int 0), mk S) := by
  simp (disch := first | omega | exact hB _ _ | assumption | decide) only [e_MD_isPerson, st_MD_isPerson, rs_L, in_neg _ _ _ h, mr_md E _, mm_pI_at, mm_pI_pI, mm_pI_2, mm_pL_1, mm_pL_at, mm_pL_pL, mm_pL_3, mm_pM_1, mm_pM_2, mm_pM_at, mm_pM_pM, mm_pI_pL, mm_pI_pM, mm_pL_pM, Bool.false_eq_true, n_10, true_and, and_true, false_and, and_false, Nat.not_lt_zero, true_or, or_true, eq_self, mm_z, mm_rs, sw_xc_ite, sw_xv_ite, n_m1, Nat.lt_irrefl, not_false_eq_true, not_true_eq_false, inS_0, inS_1, ite_not, sw_xv_some, sw_xm_some, sw_xc_some, sw_xc_void, if_true, if_false, reduceIte, bI_0, bI_01, bI_1, nt_or, Nat.reduceAdd, n_add, n_mul, n_addL, n_Ladd, n_mulL, n_Lmul, n_sub, n_subL, n_lt, n_eq, n_ltL, n_Llt, n_eqL, n_Leq, n_nneg, n_pos]
set_option maxRecDepth 100000 in
set_option maxHeartbeats 4000000 in
theorem md_isThing (hB : ∀ f i, S.1 3 f i < 2147483648) {p : Nat} (hp : p < 2147483648) : f_MD_isThing E (.ref 71) (.int (nI p)) (mk S) = some (some (.int (bI (p < S.1 3 0 1))), mk S) := by
  simp (disch := first | omega | exact hB _ _ | assumption | decide) only [e_MD_isThing, st_MD_isThing, rs_L, in_c, mr_md E _, mm_pI_at, mm_pI_pI, mm_pI_2, mm_pL_1, mm_pL_at, mm_pL_pL, mm_pL_3, mm_pM_1, mm_pM_2, mm_pM_at, mm_pM_pM, mm_pI_pL, mm_pI_pM, mm_pL_pM, Bool.false_eq_true, n_10, true_and, and_true, false_and, and_false, Nat.not_lt_zero, true_or, or_true, eq_self, mm_z, mm_rs, sw_xc_ite, sw_xv_ite, n_m1, Nat.lt_irrefl, not_false_eq_true, not_true_eq_false, inS_0, inS_1, ite_not, sw_xv_some, sw_xm_some, sw_xc_some, sw_xc_void, if_true, if_false, reduceIte, bI_0, bI_01, bI_1, nt_or, Nat.reduceAdd, n_add, n_mul, n_addL, n_Ladd, n_mulL, n_Lmul, n_sub, n_subL, n_lt, n_eq, n_ltL, n_Llt, n_eqL, n_Leq, n_nneg, n_pos]
set_option maxRecDepth 100000 in
set_option maxHeartbeats 4000000 in
theorem md_isThingN {x : Int32} (h : x < 0) : f_MD_isThing E (.ref 71) (.int x) (mk S) = some (some (.int 0), mk S) := by
  simp (disch := first | omega | exact hB _ _ | assumption | decide) only [e_MD_isThing, st_MD_isThing, rs_L, in_neg _ _ _ h, mr_md E _, mm_pI_at, mm_pI_pI, mm_pI_2, mm_pL_1, mm_pL_at, mm_pL_pL, mm_pL_3, mm_pM_1, mm_pM_2, mm_pM_at, mm_pM_pM, mm_pI_pL, mm_pI_pM, mm_pL_pM, Bool.false_eq_true, n_10, true_and, and_true, false_and, and_false, Nat.not_lt_zero, true_or, or_true, eq_self, mm_z, mm_rs, sw_xc_ite, sw_xv_ite, n_m1, Nat.lt_irrefl, not_false_eq_true, not_true_eq_false, inS_0, inS_1, ite_not, sw_xv_some, sw_xm_some, sw_xc_some, sw_xc_void, if_true, if_false, reduceIte, bI_0, bI_01, bI_1, nt_or, Nat.reduceAdd, n_add, n_mul, n_addL, n_Ladd, n_mulL, n_Lmul, n_sub, n_subL, n_lt, n_eq, n_ltL, n_Llt, n_eqL, n_Leq, n_nneg, n_pos]
set_option maxRecDepth 100000 in
set_option maxHeartbeats 4000000 in
theorem md_isPromise (hB : ∀ f i, S.1 3 f i < 2147483648) {p : Nat} (hp : p < 2147483648) : f_MD_isPromise E (.ref 71) (.int (nI p)) (mk S) = some (some (.int (bI (p < S.1 3 0 2))), mk S) := by
  simp (disch := first | omega | exact hB _ _ | assumption | decide) only [e_MD_isPromise, st_MD_isPromise, rs_L, in_c, mr_md E _, mm_pI_at, mm_pI_pI, mm_pI_2, mm_pL_1, mm_pL_at, mm_pL_pL, mm_pL_3, mm_pM_1, mm_pM_2, mm_pM_at, mm_pM_pM, mm_pI_pL, mm_pI_pM, mm_pL_pM, Bool.false_eq_true, n_10, true_and, and_true, false_and, and_false, Nat.not_lt_zero, true_or, or_true, eq_self, mm_z, mm_rs, sw_xc_ite, sw_xv_ite, n_m1, Nat.lt_irrefl, not_false_eq_true, not_true_eq_false, inS_0, inS_1, ite_not, sw_xv_some, sw_xm_some, sw_xc_some, sw_xc_void, if_true, if_false, reduceIte, bI_0, bI_01, bI_1, nt_or, Nat.reduceAdd, n_add, n_mul, n_addL, n_Ladd, n_mulL, n_Lmul, n_sub, n_subL, n_lt, n_eq, n_ltL, n_Llt, n_eqL, n_Leq, n_nneg, n_pos]
set_option maxRecDepth 100000 in
set_option maxHeartbeats 4000000 in
theorem md_isPromiseN {x : Int32} (h : x < 0) : f_MD_isPromise E (.ref 71) (.int x) (mk S) = some (some (.int 0), mk S) := by
  simp (disch := first | omega | exact hB _ _ | assumption | decide) only [e_MD_isPromise, st_MD_isPromise, rs_L, in_neg _ _ _ h, mr_md E _, mm_pI_at, mm_pI_pI, mm_pI_2, mm_pL_1, mm_pL_at, mm_pL_pL, mm_pL_3, mm_pM_1, mm_pM_2, mm_pM_at, mm_pM_pM, mm_pI_pL, mm_pI_pM, mm_pL_pM, Bool.false_eq_true, n_10, true_and, and_true, false_and, and_false, Nat.not_lt_zero, true_or, or_true, eq_self, mm_z, mm_rs, sw_xc_ite, sw_xv_ite, n_m1, Nat.lt_irrefl, not_false_eq_true, not_true_eq_false, inS_0, inS_1, ite_not, sw_xv_some, sw_xm_some, sw_xc_some, sw_xc_void, if_true, if_false, reduceIte, bI_0, bI_01, bI_1, nt_or, Nat.reduceAdd, n_add, n_mul, n_addL, n_Ladd, n_mulL, n_Lmul, n_sub, n_subL, n_lt, n_eq, n_ltL, n_Llt, n_eqL, n_Leq, n_nneg, n_pos]
/-- of distinct ones the last that is k is the first -/
theorem lp_last {g : Nat → Nat} {k n : Nat} (hd : ∀ i j, i < j → j < n → g i ≠ g j) : lp (fun i (a : Int32) => if (g i == k) = true then nI i else a) n (-1) = if fa_first (fun i => g i == k) n < n then nI (fa_first (fun i => g i == k) n) else -1 := by
  have key := lp_inv (f := fun i (a : Int32) => if (g i == k) = true then nI i else a) (P := fun i a => (∀ j, j < i → g j = k → a = nI j) ∧ ((∀ j, j < i → g j ≠ k) → a = -1)) (n := n) (a := -1) ⟨fun j hj => absurd hj (Nat.not_lt_zero j), fun _ => rfl⟩ (fun i b hi hP => by
    by_cases h : g i = k
    · rw [if_pos (by simp [h])]
      refine ⟨fun j hj hg => ?_, fun hn => absurd h (hn i (by omega))⟩
      rcases Nat.lt_or_ge j i with h1 | h1
      · exact absurd (hg.trans h.symm) (hd j i h1 hi)
      · rw [show j = i by omega]
    · rw [if_neg (by simp [h])]
      refine ⟨fun j hj hg => ?_, fun hn => hP.2 (fun j hj => hn j (by omega))⟩
      rcases Nat.lt_or_ge j i with h1 | h1
      · exact hP.1 j h1 hg
      · rw [show j = i by omega] at hg
        exact absurd hg h)
  split
  · next hf =>
    have := fa_first_yes _ _ hf
    exact key.1 _ hf (by simpa using this)
  · next hf =>
    refine key.2 (fun j hj hg => ?_)
    have := fa_first_no (fun i => g i == k) n j (by omega)
    simp [hg] at this
set_option maxRecDepth 100000 in
set_option maxHeartbeats 4000000 in
theorem md_placeIn (hI : IT (S.1 3)) {x k : Nat} (hx : x < S.1 3 0 1) (hk : k < 2147483648) : f_MD_placeIn E (.ref 71) (.int (nI x)) (.int (nI k)) (mk S) = some (some (.int (if tw_pl (S.1 3) x k < S.1 3 7 x then nI (tw_pl (S.1 3) x k) else -1)), mk S) := by
  have hB := hI.b
  have hn := hI.n
  have hl := hI.len hx
  have hx16 : x < 16 := by omega
  have key := lp_up' (G := fun i a => h_MD_placeIn_0 E [.ref 71, .int (nI x), .int (nI k), .int a, .int (nI i)] (mk S)) (f := fun i (a : Int32) => if (S.1 3 8 (6 * x + i) == k) = true then nI i else a) (fin := fun a => some (some (.int a), mk S)) (n := S.1 3 7 x) (a0 := -1) (fun i a hi => ?_) (fun a => ?_)
  · simp only [e_MD_placeIn, st_MD_placeIn]
    have hd := (hI.th x hx).2.2.2.2.2.2
    have e := lp_last (g := fun i => S.1 3 8 (6 * x + i)) (k := k) (n := S.1 3 7 x) hd
    rw [e] at key
    exact key
  · have hi6 : i < 6 := by omega
    rw [u_MD_placeIn_0]
    simp (disch := first | omega | exact hB _ _ | assumption | decide) only [st_MD_placeIn, md_has5 E S hx16, md_hasC E S hx16 hi6, hi, mr_md E _, mm_pI_at, mm_pI_pI, mm_pI_2, mm_pL_1, mm_pL_at, mm_pL_pL, mm_pL_3, mm_pM_1, mm_pM_2, mm_pM_at, mm_pM_pM, mm_pI_pL, mm_pI_pM, mm_pL_pM, Bool.false_eq_true, n_10, true_and, and_true, false_and, and_false, Nat.not_lt_zero, true_or, or_true, eq_self, mm_z, mm_rs, sw_xc_ite, sw_xv_ite, n_m1, Nat.lt_irrefl, not_false_eq_true, not_true_eq_false, inS_0, inS_1, ite_not, sw_xv_some, sw_xm_some, sw_xc_some, sw_xc_void, if_true, if_false, reduceIte, bI_0, bI_01, bI_1, nt_or, Nat.reduceAdd, n_add, n_mul, n_addL, n_Ladd, n_mulL, n_Lmul, n_sub, n_subL, n_lt, n_eq, n_ltL, n_Llt, n_eqL, n_Leq, n_nneg, n_pos]
    by_cases hq : S.1 3 8 (6 * x + i) = k <;> simp [hq]
  · rw [u_MD_placeIn_0]
    simp (disch := first | omega | exact hB _ _ | assumption | decide) only [st_MD_placeIn, md_has5 E S hx16, mr_md E _, mm_pI_at, mm_pI_pI, mm_pI_2, mm_pL_1, mm_pL_at, mm_pL_pL, mm_pL_3, mm_pM_1, mm_pM_2, mm_pM_at, mm_pM_pM, mm_pI_pL, mm_pI_pM, mm_pL_pM, Bool.false_eq_true, n_10, true_and, and_true, false_and, and_false, Nat.not_lt_zero, true_or, or_true, eq_self, mm_z, mm_rs, sw_xc_ite, sw_xv_ite, n_m1, Nat.lt_irrefl, not_false_eq_true, not_true_eq_false, inS_0, inS_1, ite_not, sw_xv_some, sw_xm_some, sw_xc_some, sw_xc_void, if_true, if_false, reduceIte, bI_0, bI_01, bI_1, nt_or, Nat.reduceAdd, n_add, n_mul, n_addL, n_Ladd, n_mulL, n_Lmul, n_sub, n_subL, n_lt, n_eq, n_ltL, n_Llt, n_eqL, n_Leq, n_nneg, n_pos]
theorem md_pl_y (hI : IT (S.1 3)) {x k : Nat} (hx : x < S.1 3 0 1) (hk : k < 2147483648) (hp : tw_in (S.1 3) x k = true) : f_MD_placeIn E (.ref 71) (.int (nI x)) (.int (nI k)) (mk S) = some (some (.int (nI (tw_pl (S.1 3) x k))), mk S) := by
  rw [md_placeIn E S hI hx hk, if_pos (by simpa [tw_in] using hp)]
theorem md_pl_n (hI : IT (S.1 3)) {x k : Nat} (hx : x < S.1 3 0 1) (hk : k < 2147483648) (hp : ¬ tw_in (S.1 3) x k = true) : f_MD_placeIn E (.ref 71) (.int (nI x)) (.int (nI k)) (mk S) = some (some (.int (-1)), mk S) := by
  rw [md_placeIn E S hI hx hk, if_neg (by simpa [tw_in] using hp)]
theorem or0 (a : Int32) : a ||| 0 = a := b_ext (fun i hi => by rw [b_or, b_0, Bool.or_false])
set_option maxRecDepth 100000 in
set_option maxHeartbeats 4000000 in
theorem md_thingsBehind (hI : IT (S.1 3)) {k : Nat} (hk : k < 2147483648) : f_MD_thingsBehind E (.ref 71) (.int (nI k)) (mk S) = some (some (.int (tw_be (S.1 3) k)), mk S) := by
  have hB := hI.b
  have hn := hI.n
  have key := lp_up' (G := fun i a => h_MD_thingsBehind_0 E [.ref 71, .int (nI k), .int a, .int (nI i)] (mk S)) (f := fun i a => if tw_in (S.1 3) i k = true then a ||| sb i else a) (fin := fun a => some (some (.int a), mk S)) (n := S.1 3 0 1) (a0 := 0) (fun i a hi => ?_) (fun a => ?_)
  · simp only [e_MD_thingsBehind, st_MD_thingsBehind]
    exact key
  · rw [u_MD_thingsBehind_0]
    have hl := hI.len hi
    have hl2 := tw_pl_le (S.1 3) i k
    by_cases hq : tw_in (S.1 3) i k = true
    · simp (disch := first | omega | exact hB _ _ | assumption | decide) only [st_MD_thingsBehind, rs_L, hi, md_pl_y E S hI hi hk hq, hq, mr_md E _, mm_pI_at, mm_pI_pI, mm_pI_2, mm_pL_1, mm_pL_at, mm_pL_pL, mm_pL_3, mm_pM_1, mm_pM_2, mm_pM_at, mm_pM_pM, mm_pI_pL, mm_pI_pM, mm_pL_pM, Bool.false_eq_true, n_10, true_and, and_true, false_and, and_false, Nat.not_lt_zero, true_or, or_true, eq_self, mm_z, mm_rs, sw_xc_ite, sw_xv_ite, n_m1, Nat.lt_irrefl, not_false_eq_true, not_true_eq_false, inS_0, inS_1, ite_not, sw_xv_some, sw_xm_some, sw_xc_some, sw_xc_void, if_true, if_false, reduceIte, bI_0, bI_01, bI_1, nt_or, Nat.reduceAdd, n_add, n_mul, n_addL, n_Ladd, n_mulL, n_Lmul, n_sub, n_subL, n_lt, n_eq, n_ltL, n_Llt, n_eqL, n_Leq, n_nneg, n_pos]
      rfl
    · simp (disch := first | omega | exact hB _ _ | assumption | decide) only [st_MD_thingsBehind, rs_L, hi, md_pl_n E S hI hi hk hq, hq, or0, mr_md E _, mm_pI_at, mm_pI_pI, mm_pI_2, mm_pL_1, mm_pL_at, mm_pL_pL, mm_pL_3, mm_pM_1, mm_pM_2, mm_pM_at, mm_pM_pM, mm_pI_pL, mm_pI_pM, mm_pL_pM, Bool.false_eq_true, n_10, true_and, and_true, false_and, and_false, Nat.not_lt_zero, true_or, or_true, eq_self, mm_z, mm_rs, sw_xc_ite, sw_xv_ite, n_m1, Nat.lt_irrefl, not_false_eq_true, not_true_eq_false, inS_0, inS_1, ite_not, sw_xv_some, sw_xm_some, sw_xc_some, sw_xc_void, if_true, if_false, reduceIte, bI_0, bI_01, bI_1, nt_or, Nat.reduceAdd, n_add, n_mul, n_addL, n_Ladd, n_mulL, n_Lmul, n_sub, n_subL, n_lt, n_eq, n_ltL, n_Llt, n_eqL, n_Leq, n_nneg, n_pos]
  · rw [u_MD_thingsBehind_0]
    simp (disch := first | omega | exact hB _ _ | assumption | decide) only [st_MD_thingsBehind, rs_L, mr_md E _, mm_pI_at, mm_pI_pI, mm_pI_2, mm_pL_1, mm_pL_at, mm_pL_pL, mm_pL_3, mm_pM_1, mm_pM_2, mm_pM_at, mm_pM_pM, mm_pI_pL, mm_pI_pM, mm_pL_pM, Bool.false_eq_true, n_10, true_and, and_true, false_and, and_false, Nat.not_lt_zero, true_or, or_true, eq_self, mm_z, mm_rs, sw_xc_ite, sw_xv_ite, n_m1, Nat.lt_irrefl, not_false_eq_true, not_true_eq_false, inS_0, inS_1, ite_not, sw_xv_some, sw_xm_some, sw_xc_some, sw_xc_void, if_true, if_false, reduceIte, bI_0, bI_01, bI_1, nt_or, Nat.reduceAdd, n_add, n_mul, n_addL, n_Ladd, n_mulL, n_Lmul, n_sub, n_subL, n_lt, n_eq, n_ltL, n_Llt, n_eqL, n_Leq, n_nneg, n_pos]
set_option maxRecDepth 100000 in
set_option maxHeartbeats 4000000 in
theorem md_isLast (hI : IT (S.1 3)) {k : Nat} (hk : k < 2147483648) : f_MD_isLast E (.ref 71) (.int (nI k)) (mk S) = some (some (.int (bI (tw_last (S.1 3) k = true))), mk S) := by
  have hB := hI.b
  have hn := hI.n
  have key := lp_upD (δ := Value) (G := fun i d (b : Bool) => h_MD_isLast_0 E [.ref 71, .int (nI k), .int (bI (b = true)), .int (nI i), d] (mk S)) (P := fun i b => b = true ↔ ∀ x, x < i → tw_in (S.1 3) x k = true → tw_pl (S.1 3) x k + 1 = S.1 3 7 x) (f := fun i b => b && (!tw_in (S.1 3) i k || decide (tw_pl (S.1 3) i k + 1 = S.1 3 7 i))) (fin := fun b => some (some (.int (bI (tw_last (S.1 3) k = true))), mk S)) (n := S.1 3 0 1) (a0 := true) (by simp) (fun i d b hi hP => ⟨?_, ?_⟩) (fun d b hP => ?_) sw_J
  · simp only [e_MD_isLast, st_MD_isLast]
    have e : bI (true = true) = 1 := rfl
    rw [e] at key
    exact key
  · rw [u_MD_isLast_0]
    have hi16 : i < 16 := by omega
    have hl := hI.len hi
    have hl2 := tw_pl_le (S.1 3) i k
    by_cases hq : tw_in (S.1 3) i k = true
    · have hl3 := tw_in_lt hq
      refine ⟨.int (nI (tw_pl (S.1 3) i k)), ?_⟩
      simp (disch := first | omega | exact hB _ _ | assumption | decide) only [st_MD_isLast, rs_L, hi, md_pl_y E S hI hi hk hq, md_has5 E S hi16, mr_md E _, mm_pI_at, mm_pI_pI, mm_pI_2, mm_pL_1, mm_pL_at, mm_pL_pL, mm_pL_3, mm_pM_1, mm_pM_2, mm_pM_at, mm_pM_pM, mm_pI_pL, mm_pI_pM, mm_pL_pM, Bool.false_eq_true, n_10, true_and, and_true, false_and, and_false, Nat.not_lt_zero, true_or, or_true, eq_self, mm_z, mm_rs, sw_xc_ite, sw_xv_ite, n_m1, Nat.lt_irrefl, not_false_eq_true, not_true_eq_false, inS_0, inS_1, ite_not, sw_xv_some, sw_xm_some, sw_xc_some, sw_xc_void, if_true, if_false, reduceIte, bI_0, bI_01, bI_1, nt_or, Nat.reduceAdd, n_add, n_mul, n_addL, n_Ladd, n_mulL, n_Lmul, n_sub, n_subL, n_lt, n_eq, n_ltL, n_Llt, n_eqL, n_Leq, n_nneg, n_pos]
      by_cases hq2 : tw_pl (S.1 3) i k = S.1 3 7 i - 1
      · have e2 : tw_pl (S.1 3) i k + 1 = S.1 3 7 i := by omega
        have e3 : S.1 3 7 i - 1 + 1 = S.1 3 7 i := by omega
        cases b <;> simp [hq, hq2, e3, bI]
      · have e2 : ¬ tw_pl (S.1 3) i k + 1 = S.1 3 7 i := by omega
        cases b <;> simp [hq, hq2, e2, bI]
    · refine ⟨.int (-1), ?_⟩
      simp (disch := first | omega | exact hB _ _ | assumption | decide) only [st_MD_isLast, rs_L, hi, md_pl_n E S hI hi hk hq, md_has5 E S hi16, mr_md E _, mm_pI_at, mm_pI_pI, mm_pI_2, mm_pL_1, mm_pL_at, mm_pL_pL, mm_pL_3, mm_pM_1, mm_pM_2, mm_pM_at, mm_pM_pM, mm_pI_pL, mm_pI_pM, mm_pL_pM, Bool.false_eq_true, n_10, true_and, and_true, false_and, and_false, Nat.not_lt_zero, true_or, or_true, eq_self, mm_z, mm_rs, sw_xc_ite, sw_xv_ite, n_m1, Nat.lt_irrefl, not_false_eq_true, not_true_eq_false, inS_0, inS_1, ite_not, sw_xv_some, sw_xm_some, sw_xc_some, sw_xc_void, if_true, if_false, reduceIte, bI_0, bI_01, bI_1, nt_or, Nat.reduceAdd, n_add, n_mul, n_addL, n_Ladd, n_mulL, n_Lmul, n_sub, n_subL, n_lt, n_eq, n_ltL, n_Llt, n_eqL, n_Leq, n_nneg, n_pos]
      cases b <;> simp [hq, bI]
  · constructor
    · intro h x hx hin
      simp only [Bool.and_eq_true, Bool.or_eq_true, Bool.not_eq_true', decide_eq_true_eq] at h
      rcases Nat.lt_or_ge x i with h1 | h1
      · exact hP.mp h.1 x h1 hin
      · rw [show x = i by omega] at hin ⊢
        rcases h.2 with h2 | h2
        · rw [hin] at h2; cases h2
        · exact h2
    · intro h
      simp only [Bool.and_eq_true, Bool.or_eq_true, Bool.not_eq_true', decide_eq_true_eq]
      refine ⟨hP.mpr (fun x hx hin => h x (by omega) hin), ?_⟩
      by_cases hin : tw_in (S.1 3) i k = true
      · exact Or.inr (h i (by omega) hin)
      · exact Or.inl (by simpa using hin)
  · have e : (b = true) ↔ (tw_last (S.1 3) k = true) := by
      unfold tw_last
      rw [decide_eq_true_eq]
      exact hP
    rw [u_MD_isLast_0]
    simp (disch := first | omega | exact hB _ _ | assumption | decide) only [st_MD_isLast, rs_L, mr_md E _, mm_pI_at, mm_pI_pI, mm_pI_2, mm_pL_1, mm_pL_at, mm_pL_pL, mm_pL_3, mm_pM_1, mm_pM_2, mm_pM_at, mm_pM_pM, mm_pI_pL, mm_pI_pM, mm_pL_pM, Bool.false_eq_true, n_10, true_and, and_true, false_and, and_false, Nat.not_lt_zero, true_or, or_true, eq_self, mm_z, mm_rs, sw_xc_ite, sw_xv_ite, n_m1, Nat.lt_irrefl, not_false_eq_true, not_true_eq_false, inS_0, inS_1, ite_not, sw_xv_some, sw_xm_some, sw_xc_some, sw_xc_void, if_true, if_false, reduceIte, bI_0, bI_01, bI_1, nt_or, Nat.reduceAdd, n_add, n_mul, n_addL, n_Ladd, n_mulL, n_Lmul, n_sub, n_subL, n_lt, n_eq, n_ltL, n_Llt, n_eqL, n_Leq, n_nneg, n_pos]
    unfold bI
    simp only [e]
set_option maxRecDepth 100000 in
set_option maxHeartbeats 4000000 in
theorem md_countsFor (hI : IT (S.1 3)) {x p : Nat} (hx : x < S.1 3 0 1) (hp : p < 10) : f_MD_countsFor E (.ref 71) (.int (nI x)) (.int (nI p)) (mk S) = some (some (.int (nI (tw_w (S.1 3) x p (S.1 3 0 5)))), mk S) := by
  have hB := hI.b
  have hn := hI.n
  have hx16 : x < 16 := by omega
  have hb := (hI.th x hx).2.2.1
  have hs := hI.st x
  have h1 : S.1 3 4 x * S.1 3 0 5 ≤ 9999 * 100 := Nat.mul_le_mul hb hI.part
  have h2 : S.1 3 4 x * S.1 3 0 5 < 2147483648 := by omega
  have h3 : S.1 3 4 x * S.1 3 0 5 / 100 < 2147483648 := by omega
  simp (disch := first | omega | exact hB _ _ | assumption | decide) only [e_MD_countsFor, st_MD_countsFor, rs_L, md_has4 E S hx16, md_has2 E S hx16, rs_1 E S hp, n_divL, mr_md E _, mm_pI_at, mm_pI_pI, mm_pI_2, mm_pL_1, mm_pL_at, mm_pL_pL, mm_pL_3, mm_pM_1, mm_pM_2, mm_pM_at, mm_pM_pM, mm_pI_pL, mm_pI_pM, mm_pL_pM, Bool.false_eq_true, n_10, true_and, and_true, false_and, and_false, Nat.not_lt_zero, true_or, or_true, eq_self, mm_z, mm_rs, sw_xc_ite, sw_xv_ite, n_m1, Nat.lt_irrefl, not_false_eq_true, not_true_eq_false, inS_0, inS_1, ite_not, sw_xv_some, sw_xm_some, sw_xc_some, sw_xc_void, if_true, if_false, reduceIte, bI_0, bI_01, bI_1, nt_or, Nat.reduceAdd, n_add, n_mul, n_addL, n_Ladd, n_mulL, n_Lmul, n_sub, n_subL, n_lt, n_eq, n_ltL, n_Llt, n_eqL, n_Leq, n_nneg, n_pos]
  unfold tw_w w_k
  by_cases h6 : S.1 3 6 x = 0
  · simp only [h6, if_true]
    repeat' split
    all_goals first | rfl | omega | (simp_all; done)
  · have h7 : S.1 3 6 x = 1 := by omega
    simp [h7]
    rfl
set_option maxRecDepth 100000 in
set_option maxHeartbeats 4000000 in
theorem md_countsAll (hI : IT (S.1 3)) (s : Int32) {p : Nat} (hp : p < 10) : f_MD_countsAll E (.ref 71) (.int s) (.int (nI p)) (mk S) = some (some (.int (nI (tw_wa (S.1 3) s p (S.1 3 0 5)))), mk S) := by
  have hB := hI.b
  have hn := hI.n
  have key := lp_up' (G := fun i c => h_MD_countsAll_0 E [.ref 71, .int s, .int (nI p), .int (nI c), .int (nI i)] (mk S)) (f := fun i c => if inS s i = true then c + tw_w (S.1 3) i p (S.1 3 0 5) else c) (fin := fun c => some (some (.int (nI c)), mk S)) (n := S.1 3 0 1) (a0 := 0) (fun i c hi => ?_) (fun c => ?_)
  · simp only [e_MD_countsAll, st_MD_countsAll]
    exact key
  · rw [u_MD_countsAll_0]
    simp (disch := first | omega | exact hB _ _ | assumption | decide) only [st_MD_countsAll, rs_L, hi, md_countsFor E S hI hi hp, mr_md E _, mm_pI_at, mm_pI_pI, mm_pI_2, mm_pL_1, mm_pL_at, mm_pL_pL, mm_pL_3, mm_pM_1, mm_pM_2, mm_pM_at, mm_pM_pM, mm_pI_pL, mm_pI_pM, mm_pL_pM, Bool.false_eq_true, n_10, true_and, and_true, false_and, and_false, Nat.not_lt_zero, true_or, or_true, eq_self, mm_z, mm_rs, sw_xc_ite, sw_xv_ite, n_m1, Nat.lt_irrefl, not_false_eq_true, not_true_eq_false, inS_0, inS_1, ite_not, sw_xv_some, sw_xm_some, sw_xc_some, sw_xc_void, if_true, if_false, reduceIte, bI_0, bI_01, bI_1, nt_or, Nat.reduceAdd, n_add, n_mul, n_addL, n_Ladd, n_mulL, n_Lmul, n_sub, n_subL, n_lt, n_eq, n_ltL, n_Llt, n_eqL, n_Leq, n_nneg, n_pos]
    by_cases h1 : inS s i = true <;> simp [h1, n_add]
  · rw [u_MD_countsAll_0]
    simp (disch := first | omega | exact hB _ _ | assumption | decide) only [st_MD_countsAll, rs_L, mr_md E _, mm_pI_at, mm_pI_pI, mm_pI_2, mm_pL_1, mm_pL_at, mm_pL_pL, mm_pL_3, mm_pM_1, mm_pM_2, mm_pM_at, mm_pM_pM, mm_pI_pL, mm_pI_pM, mm_pL_pM, Bool.false_eq_true, n_10, true_and, and_true, false_and, and_false, Nat.not_lt_zero, true_or, or_true, eq_self, mm_z, mm_rs, sw_xc_ite, sw_xv_ite, n_m1, Nat.lt_irrefl, not_false_eq_true, not_true_eq_false, inS_0, inS_1, ite_not, sw_xv_some, sw_xm_some, sw_xc_some, sw_xc_void, if_true, if_false, reduceIte, bI_0, bI_01, bI_1, nt_or, Nat.reduceAdd, n_add, n_mul, n_addL, n_Ladd, n_mulL, n_Lmul, n_sub, n_subL, n_lt, n_eq, n_ltL, n_Llt, n_eqL, n_Leq, n_nneg, n_pos]
set_option maxRecDepth 100000 in
set_option maxHeartbeats 4000000 in
theorem md_cover (hI : IT (S.1 3)) {k : Nat} (hk : k < S.1 3 0 2) : f_MD_cover E (.ref 71) (.int (nI k)) (mk S) = some (some (.int (nI (tw_cov (S.1 3) k))), mk S) := by
  have hB := hI.b
  have hk2 := hI.k
  have hk24 : k < 24 := by omega
  have hto := (hI.pr k hk).2.1
  have hp := hI.p
  simp (disch := first | omega | exact hB _ _ | assumption | decide) only [e_MD_cover, st_MD_cover, md_thingsBehind E S hI (k := k) (by omega), md_of1 E S hk24, md_countsAll E S hI _ (p := S.1 3 10 k) (by omega), mr_md E _, mm_pI_at, mm_pI_pI, mm_pI_2, mm_pL_1, mm_pL_at, mm_pL_pL, mm_pL_3, mm_pM_1, mm_pM_2, mm_pM_at, mm_pM_pM, mm_pI_pL, mm_pI_pM, mm_pL_pM, Bool.false_eq_true, n_10, true_and, and_true, false_and, and_false, Nat.not_lt_zero, true_or, or_true, eq_self, mm_z, mm_rs, sw_xc_ite, sw_xv_ite, n_m1, Nat.lt_irrefl, not_false_eq_true, not_true_eq_false, inS_0, inS_1, ite_not, sw_xv_some, sw_xm_some, sw_xc_some, sw_xc_void, if_true, if_false, reduceIte, bI_0, bI_01, bI_1, nt_or, Nat.reduceAdd, n_add, n_mul, n_addL, n_Ladd, n_mulL, n_Lmul, n_sub, n_subL, n_lt, n_eq, n_ltL, n_Llt, n_eqL, n_Leq, n_nneg, n_pos]
  rfl
set_option maxRecDepth 100000 in
set_option maxHeartbeats 4000000 in
theorem md_bareSet (hI : IT (S.1 3)) : f_MD_bareSet E (.ref 71) (mk S) = some (some (.int (tw_bare (S.1 3))), mk S) := by
  have hB := hI.b
  have hk := hI.k
  have key := lp_up' (G := fun i c => h_MD_bareSet_0 E [.ref 71, .int c, .int (nI i)] (mk S)) (f := fun i c => if (S.1 3 13 i == 0 && decide (tw_cov (S.1 3) i < S.1 3 11 i)) = true then c ||| sb i else c) (fin := fun c => some (some (.int c), mk S)) (n := S.1 3 0 2) (a0 := 0) (fun i c hi => ?_) (fun c => ?_)
  · simp only [e_MD_bareSet, st_MD_bareSet]
    exact key
  · have hc : tw_cov (S.1 3) i ≤ 176000 := tw_wa_le hI hI.part
    have hi24 : i < 24 := by omega
    rw [u_MD_bareSet_0]
    simp (disch := first | omega | exact hB _ _ | assumption | decide) only [st_MD_bareSet, rs_L, hi, md_isOpen E S hB hi24, md_of2 E S hi24, md_cover E S hI hi, mr_md E _, mm_pI_at, mm_pI_pI, mm_pI_2, mm_pL_1, mm_pL_at, mm_pL_pL, mm_pL_3, mm_pM_1, mm_pM_2, mm_pM_at, mm_pM_pM, mm_pI_pL, mm_pI_pM, mm_pL_pM, Bool.false_eq_true, n_10, true_and, and_true, false_and, and_false, Nat.not_lt_zero, true_or, or_true, eq_self, mm_z, mm_rs, sw_xc_ite, sw_xv_ite, n_m1, Nat.lt_irrefl, not_false_eq_true, not_true_eq_false, inS_0, inS_1, ite_not, sw_xv_some, sw_xm_some, sw_xc_some, sw_xc_void, if_true, if_false, reduceIte, bI_0, bI_01, bI_1, nt_or, Nat.reduceAdd, n_add, n_mul, n_addL, n_Ladd, n_mulL, n_Lmul, n_sub, n_subL, n_lt, n_eq, n_ltL, n_Llt, n_eqL, n_Leq, n_nneg, n_pos]
    by_cases h1 : S.1 3 13 i = 0 <;> by_cases h2 : tw_cov (S.1 3) i < S.1 3 11 i <;> simp [h1, h2, sb]
  · rw [u_MD_bareSet_0]
    simp (disch := first | omega | exact hB _ _ | assumption | decide) only [st_MD_bareSet, rs_L, mr_md E _, mm_pI_at, mm_pI_pI, mm_pI_2, mm_pL_1, mm_pL_at, mm_pL_pL, mm_pL_3, mm_pM_1, mm_pM_2, mm_pM_at, mm_pM_pM, mm_pI_pL, mm_pI_pM, mm_pL_pM, Bool.false_eq_true, n_10, true_and, and_true, false_and, and_false, Nat.not_lt_zero, true_or, or_true, eq_self, mm_z, mm_rs, sw_xc_ite, sw_xv_ite, n_m1, Nat.lt_irrefl, not_false_eq_true, not_true_eq_false, inS_0, inS_1, ite_not, sw_xv_some, sw_xm_some, sw_xc_some, sw_xc_void, if_true, if_false, reduceIte, bI_0, bI_01, bI_1, nt_or, Nat.reduceAdd, n_add, n_mul, n_addL, n_Ladd, n_mulL, n_Lmul, n_sub, n_subL, n_lt, n_eq, n_ltL, n_Llt, n_eqL, n_Leq, n_nneg, n_pos]
set_option maxRecDepth 100000 in
set_option maxHeartbeats 4000000 in
theorem md_isHeld (hI : IT (S.1 3)) {x p : Nat} (hx : x < 16) (hp : p < 2147483648) : f_MD_isHeld E (.ref 71) (.int (nI x)) (.int (nI p)) (mk S) = some (some (.int (bI (S.1 3 3 x = p ∧ S.1 3 6 x = 0))), mk S) := by
  have hB := hI.b
  simp (disch := first | omega | exact hB _ _ | assumption | decide) only [e_MD_isHeld, st_MD_isHeld, md_has1 E S hx, md_has4 E S hx, mr_md E _, mm_pI_at, mm_pI_pI, mm_pI_2, mm_pL_1, mm_pL_at, mm_pL_pL, mm_pL_3, mm_pM_1, mm_pM_2, mm_pM_at, mm_pM_pM, mm_pI_pL, mm_pI_pM, mm_pL_pM, Bool.false_eq_true, n_10, true_and, and_true, false_and, and_false, Nat.not_lt_zero, true_or, or_true, eq_self, mm_z, mm_rs, sw_xc_ite, sw_xv_ite, n_m1, Nat.lt_irrefl, not_false_eq_true, not_true_eq_false, inS_0, inS_1, ite_not, sw_xv_some, sw_xm_some, sw_xc_some, sw_xc_void, if_true, if_false, reduceIte, bI_0, bI_01, bI_1, nt_or, Nat.reduceAdd, n_add, n_mul, n_addL, n_Ladd, n_mulL, n_Lmul, n_sub, n_subL, n_lt, n_eq, n_ltL, n_Llt, n_eqL, n_Leq, n_nneg, n_pos]
  by_cases h1 : S.1 3 3 x = p <;> by_cases h2 : S.1 3 6 x = 0 <;> simp [h1, h2, bI]
set_option maxRecDepth 100000 in
set_option maxHeartbeats 4000000 in
theorem md_isShort (hI : IT (S.1 3)) {x : Nat} (hx : x < 16) : f_MD_isShort E (.ref 71) (.int (nI x)) (mk S) = some (some (.int (bI (S.1 3 7 x ≤ S.1 3 0 4 ∧ S.1 3 7 x < 6))), mk S) := by
  have hB := hI.b
  simp (disch := first | omega | exact hB _ _ | assumption | decide) only [e_MD_isShort, st_MD_isShort, md_has5 E S hx, rs_L, mr_md E _, mm_pI_at, mm_pI_pI, mm_pI_2, mm_pL_1, mm_pL_at, mm_pL_pL, mm_pL_3, mm_pM_1, mm_pM_2, mm_pM_at, mm_pM_pM, mm_pI_pL, mm_pI_pM, mm_pL_pM, Bool.false_eq_true, n_10, true_and, and_true, false_and, and_false, Nat.not_lt_zero, true_or, or_true, eq_self, mm_z, mm_rs, sw_xc_ite, sw_xv_ite, n_m1, Nat.lt_irrefl, not_false_eq_true, not_true_eq_false, inS_0, inS_1, ite_not, sw_xv_some, sw_xm_some, sw_xc_some, sw_xc_void, if_true, if_false, reduceIte, bI_0, bI_01, bI_1, nt_or, Nat.reduceAdd, n_add, n_mul, n_addL, n_Ladd, n_mulL, n_Lmul, n_sub, n_subL, n_lt, n_eq, n_ltL, n_Llt, n_eqL, n_Leq, n_nneg, n_pos]
  by_cases h1 : S.1 3 0 4 < S.1 3 7 x <;> by_cases h2 : S.1 3 7 x < 6 <;> simp [h1, h2, bI, Nat.not_le.mpr, Nat.not_lt.mp] <;> omega
set_option maxRecDepth 100000 in
set_option maxHeartbeats 4000000 in
theorem md_couldPut (hI : IT (S.1 3)) {p : Nat} (hp : p < 2147483648) : f_MD_couldPut E (.ref 71) (.int (nI p)) (mk S) = some (some (.int (tw_put (S.1 3) p)), mk S) := by
  have hB := hI.b
  have hn := hI.n
  have key := lp_up' (G := fun i a => h_MD_couldPut_0 E [.ref 71, .int (nI p), .int a, .int (nI i)] (mk S)) (f := fun x a => if ((S.1 3 3 x == p && S.1 3 6 x == 0) && decide (S.1 3 7 x ≤ S.1 3 0 4 ∧ S.1 3 7 x < 6)) = true then a ||| sb x else a) (fin := fun a => some (some (.int a), mk S)) (n := S.1 3 0 1) (a0 := 0) (fun i a hi => ?_) (fun a => ?_)
  · simp only [e_MD_couldPut, st_MD_couldPut]
    exact key
  · have hi16 : i < 16 := by omega
    rw [u_MD_couldPut_0]
    simp (disch := first | omega | exact hB _ _ | assumption | decide) only [st_MD_couldPut, rs_L, hi, md_isHeld E S hI hi16 hp, md_isShort E S hI hi16, or0, mr_md E _, mm_pI_at, mm_pI_pI, mm_pI_2, mm_pL_1, mm_pL_at, mm_pL_pL, mm_pL_3, mm_pM_1, mm_pM_2, mm_pM_at, mm_pM_pM, mm_pI_pL, mm_pI_pM, mm_pL_pM, Bool.false_eq_true, n_10, true_and, and_true, false_and, and_false, Nat.not_lt_zero, true_or, or_true, eq_self, mm_z, mm_rs, sw_xc_ite, sw_xv_ite, n_m1, Nat.lt_irrefl, not_false_eq_true, not_true_eq_false, inS_0, inS_1, ite_not, sw_xv_some, sw_xm_some, sw_xc_some, sw_xc_void, if_true, if_false, reduceIte, bI_0, bI_01, bI_1, nt_or, Nat.reduceAdd, n_add, n_mul, n_addL, n_Ladd, n_mulL, n_Lmul, n_sub, n_subL, n_lt, n_eq, n_ltL, n_Llt, n_eqL, n_Leq, n_nneg, n_pos]
    by_cases h1 : S.1 3 3 i = p ∧ S.1 3 6 i = 0 <;> by_cases h2 : S.1 3 7 i ≤ S.1 3 0 4 ∧ S.1 3 7 i < 6 <;> simp [h1, h2, sb] <;> simp_all
  · rw [u_MD_couldPut_0]
    simp (disch := first | omega | exact hB _ _ | assumption | decide) only [st_MD_couldPut, rs_L, mr_md E _, mm_pI_at, mm_pI_pI, mm_pI_2, mm_pL_1, mm_pL_at, mm_pL_pL, mm_pL_3, mm_pM_1, mm_pM_2, mm_pM_at, mm_pM_pM, mm_pI_pL, mm_pI_pM, mm_pL_pM, Bool.false_eq_true, n_10, true_and, and_true, false_and, and_false, Nat.not_lt_zero, true_or, or_true, eq_self, mm_z, mm_rs, sw_xc_ite, sw_xv_ite, n_m1, Nat.lt_irrefl, not_false_eq_true, not_true_eq_false, inS_0, inS_1, ite_not, sw_xv_some, sw_xm_some, sw_xc_some, sw_xc_void, if_true, if_false, reduceIte, bI_0, bI_01, bI_1, nt_or, Nat.reduceAdd, n_add, n_mul, n_addL, n_Ladd, n_mulL, n_Lmul, n_sub, n_subL, n_lt, n_eq, n_ltL, n_Llt, n_eqL, n_Leq, n_nneg, n_pos]
set_option maxRecDepth 100000 in
set_option maxHeartbeats 4000000 in
theorem md_owes (hI : IT (S.1 3)) {a b : Nat} (ha : a < 2147483648) (hb : b < 2147483648) : f_MD_owes E (.ref 71) (.int (nI a)) (.int (nI b)) (mk S) = some (some (.int (nI (tw_owed (S.1 3) a b))), mk S) := by
  have hB := hI.b
  have hk := hI.k
  have key := lp_up' (G := fun i c => h_MD_owes_0 E [.ref 71, .int (nI a), .int (nI b), .int (nI c), .int (nI i)] (mk S)) (f := fun i c => if (S.1 3 13 i == 0 && (S.1 3 9 i == a && S.1 3 10 i == b)) = true then c + S.1 3 11 i else c) (fin := fun c => some (some (.int (nI c)), mk S)) (n := S.1 3 0 2) (a0 := 0) (fun i c hi => ?_) (fun c => ?_)
  · simp only [e_MD_owes, st_MD_owes]
    exact key
  · have hi24 : i < 24 := by omega
    rw [u_MD_owes_0]
    simp (disch := first | omega | exact hB _ _ | assumption | decide) only [st_MD_owes, rs_L, hi, md_isOpen E S hB hi24, md_of0 E S hi24, md_of1 E S hi24, md_of2 E S hi24, mr_md E _, mm_pI_at, mm_pI_pI, mm_pI_2, mm_pL_1, mm_pL_at, mm_pL_pL, mm_pL_3, mm_pM_1, mm_pM_2, mm_pM_at, mm_pM_pM, mm_pI_pL, mm_pI_pM, mm_pL_pM, Bool.false_eq_true, n_10, true_and, and_true, false_and, and_false, Nat.not_lt_zero, true_or, or_true, eq_self, mm_z, mm_rs, sw_xc_ite, sw_xv_ite, n_m1, Nat.lt_irrefl, not_false_eq_true, not_true_eq_false, inS_0, inS_1, ite_not, sw_xv_some, sw_xm_some, sw_xc_some, sw_xc_void, if_true, if_false, reduceIte, bI_0, bI_01, bI_1, nt_or, Nat.reduceAdd, n_add, n_mul, n_addL, n_Ladd, n_mulL, n_Lmul, n_sub, n_subL, n_lt, n_eq, n_ltL, n_Llt, n_eqL, n_Leq, n_nneg, n_pos]
    by_cases h1 : S.1 3 13 i = 0 <;> by_cases h2 : S.1 3 9 i = a <;> by_cases h3 : S.1 3 10 i = b <;> simp [h1, h2, h3, n_add]
  · rw [u_MD_owes_0]
    simp (disch := first | omega | exact hB _ _ | assumption | decide) only [st_MD_owes, rs_L, mr_md E _, mm_pI_at, mm_pI_pI, mm_pI_2, mm_pL_1, mm_pL_at, mm_pL_pL, mm_pL_3, mm_pM_1, mm_pM_2, mm_pM_at, mm_pM_pM, mm_pI_pL, mm_pI_pM, mm_pL_pM, Bool.false_eq_true, n_10, true_and, and_true, false_and, and_false, Nat.not_lt_zero, true_or, or_true, eq_self, mm_z, mm_rs, sw_xc_ite, sw_xv_ite, n_m1, Nat.lt_irrefl, not_false_eq_true, not_true_eq_false, inS_0, inS_1, ite_not, sw_xv_some, sw_xm_some, sw_xc_some, sw_xc_void, if_true, if_false, reduceIte, bI_0, bI_01, bI_1, nt_or, Nat.reduceAdd, n_add, n_mul, n_addL, n_Ladd, n_mulL, n_Lmul, n_sub, n_subL, n_lt, n_eq, n_ltL, n_Llt, n_eqL, n_Leq, n_nneg, n_pos]
theorem nI_64_add {a b : Nat} (ha : a < 2147483648) (hb : b < 2147483648) (hab : a + b < 2147483648) : (nI a).toInt64 + (nI b).toInt64 = (nI (a + b)).toInt64 := by rw [nI_l ha, nI_l hb, nI_l hab, lN_add]
set_option maxRecDepth 100000 in
set_option maxHeartbeats 4000000 in
theorem md_harmBy (hI : IT (S.1 3)) {k : Nat} (hk : k < 2147483648) : f_MD_harmBy E (.ref 71) (.int (nI k)) (mk S) = some (some (.long (nI (tw_harm (S.1 3) k)).toInt64), mk S) := by
  have hB := hI.b
  have hn := hI.n
  have key := lp_up (G := fun i c => h_MD_harmBy_0 E [.ref 71, .int (nI k), .long (nI c).toInt64, sw_J, .int (nI i)] (mk S)) (P := fun i c => c ≤ i * 9999) (f := fun i c => if tw_in (S.1 3) i k = true then c + S.1 3 4 i else c) (fin := fun c => some (some (.long (nI c).toInt64), mk S)) (n := S.1 3 0 1) (a0 := 0) (by omega) (fun i c hi hP => ⟨?_, ?_⟩) (fun c hP => ?_)
  · simp only [e_MD_harmBy, st_MD_harmBy]
    have e : (nI 0).toInt64 = 0 := by decide
    rw [e] at key
    exact key
  · have hi16 : i < 16 := by omega
    have hl := hI.len hi
    have hl2 := tw_pl_le (S.1 3) i k
    have hb := (hI.th i hi).2.2.1
    have h9 : i * 9999 ≤ 16 * 9999 := Nat.mul_le_mul_right _ (by omega)
    rw [u_MD_harmBy_0]
    by_cases hq : tw_in (S.1 3) i k = true
    · simp (disch := first | omega | exact hB _ _ | assumption | decide) only [st_MD_harmBy, rs_L, hi, md_pl_y E S hI hi hk hq, md_has2 E S hi16, hq, mr_md E _, mm_pI_at, mm_pI_pI, mm_pI_2, mm_pL_1, mm_pL_at, mm_pL_pL, mm_pL_3, mm_pM_1, mm_pM_2, mm_pM_at, mm_pM_pM, mm_pI_pL, mm_pI_pM, mm_pL_pM, Bool.false_eq_true, n_10, true_and, and_true, false_and, and_false, Nat.not_lt_zero, true_or, or_true, eq_self, mm_z, mm_rs, sw_xc_ite, sw_xv_ite, n_m1, Nat.lt_irrefl, not_false_eq_true, not_true_eq_false, inS_0, inS_1, ite_not, sw_xv_some, sw_xm_some, sw_xc_some, sw_xc_void, if_true, if_false, reduceIte, bI_0, bI_01, bI_1, nt_or, Nat.reduceAdd, n_add, n_mul, n_addL, n_Ladd, n_mulL, n_Lmul, n_sub, n_subL, n_lt, n_eq, n_ltL, n_Llt, n_eqL, n_Leq, n_nneg, n_pos]
      rw [nI_64_add (by omega) (by omega) (by omega)]
    · simp (disch := first | omega | exact hB _ _ | assumption | decide) only [st_MD_harmBy, rs_L, hi, md_pl_n E S hI hi hk hq, hq, Int64.add_zero, mr_md E _, mm_pI_at, mm_pI_pI, mm_pI_2, mm_pL_1, mm_pL_at, mm_pL_pL, mm_pL_3, mm_pM_1, mm_pM_2, mm_pM_at, mm_pM_pM, mm_pI_pL, mm_pI_pM, mm_pL_pM, Bool.false_eq_true, n_10, true_and, and_true, false_and, and_false, Nat.not_lt_zero, true_or, or_true, eq_self, mm_z, mm_rs, sw_xc_ite, sw_xv_ite, n_m1, Nat.lt_irrefl, not_false_eq_true, not_true_eq_false, inS_0, inS_1, ite_not, sw_xv_some, sw_xm_some, sw_xc_some, sw_xc_void, if_true, if_false, reduceIte, bI_0, bI_01, bI_1, nt_or, Nat.reduceAdd, n_add, n_mul, n_addL, n_Ladd, n_mulL, n_Lmul, n_sub, n_subL, n_lt, n_eq, n_ltL, n_Llt, n_eqL, n_Leq, n_nneg, n_pos]
  · have hb := (hI.th i hi).2.2.1
    have e : (i + 1) * 9999 = i * 9999 + 9999 := Nat.succ_mul i 9999
    split <;> omega
  · rw [u_MD_harmBy_0]
    simp (disch := first | omega | exact hB _ _ | assumption | decide) only [st_MD_harmBy, rs_L, mr_md E _, mm_pI_at, mm_pI_pI, mm_pI_2, mm_pL_1, mm_pL_at, mm_pL_pL, mm_pL_3, mm_pM_1, mm_pM_2, mm_pM_at, mm_pM_pM, mm_pI_pL, mm_pI_pM, mm_pL_pM, Bool.false_eq_true, n_10, true_and, and_true, false_and, and_false, Nat.not_lt_zero, true_or, or_true, eq_self, mm_z, mm_rs, sw_xc_ite, sw_xv_ite, n_m1, Nat.lt_irrefl, not_false_eq_true, not_true_eq_false, inS_0, inS_1, ite_not, sw_xv_some, sw_xm_some, sw_xc_some, sw_xc_void, if_true, if_false, reduceIte, bI_0, bI_01, bI_1, nt_or, Nat.reduceAdd, n_add, n_mul, n_addL, n_Ladd, n_mulL, n_Lmul, n_sub, n_subL, n_lt, n_eq, n_ltL, n_Llt, n_eqL, n_Leq, n_nneg, n_pos]
set_option maxRecDepth 100000 in
set_option maxHeartbeats 4000000 in
theorem md_thingsOf0 (hI : IT (S.1 3)) {p : Nat} (hp : p < 2147483648) : f_MD_thingsOf E (.ref 71) (.int (nI p)) (.int 0) (mk S) = some (some (.int (tw_set (S.1 3 0 1) (fun x => S.1 3 2 x == p))), mk S) := by
  have hB := hI.b
  have hn := hI.n
  have key := lp_up' (G := fun i a => h_MD_thingsOf_0 E [.ref 71, .int (nI p), .int 0, .int a, .int (nI i)] (mk S)) (f := fun i a => if (S.1 3 2 i == p) = true then a ||| sb i else a) (fin := fun a => some (some (.int a), mk S)) (n := S.1 3 0 1) (a0 := 0) (fun i a hi => ?_) (fun a => ?_)
  · simp only [e_MD_thingsOf, st_MD_thingsOf]
    exact key
  · have hi16 : i < 16 := by omega
    rw [u_MD_thingsOf_0]
    simp (disch := first | omega | exact hB _ _ | assumption | decide) only [st_MD_thingsOf, rs_L, hi, md_has0 E S hi16, or0, mr_md E _, mm_pI_at, mm_pI_pI, mm_pI_2, mm_pL_1, mm_pL_at, mm_pL_pL, mm_pL_3, mm_pM_1, mm_pM_2, mm_pM_at, mm_pM_pM, mm_pI_pL, mm_pI_pM, mm_pL_pM, Bool.false_eq_true, n_10, true_and, and_true, false_and, and_false, Nat.not_lt_zero, true_or, or_true, eq_self, mm_z, mm_rs, sw_xc_ite, sw_xv_ite, n_m1, Nat.lt_irrefl, not_false_eq_true, not_true_eq_false, inS_0, inS_1, ite_not, sw_xv_some, sw_xm_some, sw_xc_some, sw_xc_void, if_true, if_false, reduceIte, bI_0, bI_01, bI_1, nt_or, Nat.reduceAdd, n_add, n_mul, n_addL, n_Ladd, n_mulL, n_Lmul, n_sub, n_subL, n_lt, n_eq, n_ltL, n_Llt, n_eqL, n_Leq, n_nneg, n_pos]
    by_cases hq : S.1 3 2 i = p <;> simp [hq, sb]
  · rw [u_MD_thingsOf_0]
    simp (disch := first | omega | exact hB _ _ | assumption | decide) only [st_MD_thingsOf, rs_L, mr_md E _, mm_pI_at, mm_pI_pI, mm_pI_2, mm_pL_1, mm_pL_at, mm_pL_pL, mm_pL_3, mm_pM_1, mm_pM_2, mm_pM_at, mm_pM_pM, mm_pI_pL, mm_pI_pM, mm_pL_pM, Bool.false_eq_true, n_10, true_and, and_true, false_and, and_false, Nat.not_lt_zero, true_or, or_true, eq_self, mm_z, mm_rs, sw_xc_ite, sw_xv_ite, n_m1, Nat.lt_irrefl, not_false_eq_true, not_true_eq_false, inS_0, inS_1, ite_not, sw_xv_some, sw_xm_some, sw_xc_some, sw_xc_void, if_true, if_false, reduceIte, bI_0, bI_01, bI_1, nt_or, Nat.reduceAdd, n_add, n_mul, n_addL, n_Ladd, n_mulL, n_Lmul, n_sub, n_subL, n_lt, n_eq, n_ltL, n_Llt, n_eqL, n_Leq, n_nneg, n_pos]
set_option maxRecDepth 100000 in
set_option maxHeartbeats 4000000 in
theorem md_thingsOf1 (hI : IT (S.1 3)) {p : Nat} (hp : p < 2147483648) : f_MD_thingsOf E (.ref 71) (.int (nI p)) (.int 1) (mk S) = some (some (.int (tw_set (S.1 3 0 1) (fun x => S.1 3 3 x == p))), mk S) := by
  have hB := hI.b
  have hn := hI.n
  have key := lp_up' (G := fun i a => h_MD_thingsOf_0 E [.ref 71, .int (nI p), .int 1, .int a, .int (nI i)] (mk S)) (f := fun i a => if (S.1 3 3 i == p) = true then a ||| sb i else a) (fin := fun a => some (some (.int a), mk S)) (n := S.1 3 0 1) (a0 := 0) (fun i a hi => ?_) (fun a => ?_)
  · simp only [e_MD_thingsOf, st_MD_thingsOf]
    exact key
  · have hi16 : i < 16 := by omega
    rw [u_MD_thingsOf_0]
    simp (disch := first | omega | exact hB _ _ | assumption | decide) only [st_MD_thingsOf, rs_L, hi, md_has1 E S hi16, or0, mr_md E _, mm_pI_at, mm_pI_pI, mm_pI_2, mm_pL_1, mm_pL_at, mm_pL_pL, mm_pL_3, mm_pM_1, mm_pM_2, mm_pM_at, mm_pM_pM, mm_pI_pL, mm_pI_pM, mm_pL_pM, Bool.false_eq_true, n_10, true_and, and_true, false_and, and_false, Nat.not_lt_zero, true_or, or_true, eq_self, mm_z, mm_rs, sw_xc_ite, sw_xv_ite, n_m1, Nat.lt_irrefl, not_false_eq_true, not_true_eq_false, inS_0, inS_1, ite_not, sw_xv_some, sw_xm_some, sw_xc_some, sw_xc_void, if_true, if_false, reduceIte, bI_0, bI_01, bI_1, nt_or, Nat.reduceAdd, n_add, n_mul, n_addL, n_Ladd, n_mulL, n_Lmul, n_sub, n_subL, n_lt, n_eq, n_ltL, n_Llt, n_eqL, n_Leq, n_nneg, n_pos]
    by_cases hq : S.1 3 3 i = p <;> simp [hq, sb]
  · rw [u_MD_thingsOf_0]
    simp (disch := first | omega | exact hB _ _ | assumption | decide) only [st_MD_thingsOf, rs_L, mr_md E _, mm_pI_at, mm_pI_pI, mm_pI_2, mm_pL_1, mm_pL_at, mm_pL_pL, mm_pL_3, mm_pM_1, mm_pM_2, mm_pM_at, mm_pM_pM, mm_pI_pL, mm_pI_pM, mm_pL_pM, Bool.false_eq_true, n_10, true_and, and_true, false_and, and_false, Nat.not_lt_zero, true_or, or_true, eq_self, mm_z, mm_rs, sw_xc_ite, sw_xv_ite, n_m1, Nat.lt_irrefl, not_false_eq_true, not_true_eq_false, inS_0, inS_1, ite_not, sw_xv_some, sw_xm_some, sw_xc_some, sw_xc_void, if_true, if_false, reduceIte, bI_0, bI_01, bI_1, nt_or, Nat.reduceAdd, n_add, n_mul, n_addL, n_Ladd, n_mulL, n_Lmul, n_sub, n_subL, n_lt, n_eq, n_ltL, n_Llt, n_eqL, n_Leq, n_nneg, n_pos]
set_option maxRecDepth 100000 in
set_option maxHeartbeats 4000000 in
theorem md_basesOf (hI : IT (S.1 3)) {p : Nat} (hp : p < 2147483648) : f_MD_basesOf E (.ref 71) (.int (nI p)) (mk S) = some (some (.int (nI (tw_sum (S.1 3 0 1) (fun x => S.1 3 3 x == p) (S.1 3 4)))), mk S) := by
  have hB := hI.b
  have hn := hI.n
  have key := lp_up' (G := fun i c => h_MD_basesOf_0 E [.ref 71, .int (nI p), .int (nI c), .int (nI i)] (mk S)) (f := fun i c => if (S.1 3 3 i == p) = true then c + S.1 3 4 i else c) (fin := fun c => some (some (.int (nI c)), mk S)) (n := S.1 3 0 1) (a0 := 0) (fun i c hi => ?_) (fun c => ?_)
  · simp only [e_MD_basesOf, st_MD_basesOf]
    exact key
  · have hi16 : i < 16 := by omega
    rw [u_MD_basesOf_0]
    simp (disch := first | omega | exact hB _ _ | assumption | decide) only [st_MD_basesOf, rs_L, hi, md_has1 E S hi16, md_has2 E S hi16, mr_md E _, mm_pI_at, mm_pI_pI, mm_pI_2, mm_pL_1, mm_pL_at, mm_pL_pL, mm_pL_3, mm_pM_1, mm_pM_2, mm_pM_at, mm_pM_pM, mm_pI_pL, mm_pI_pM, mm_pL_pM, Bool.false_eq_true, n_10, true_and, and_true, false_and, and_false, Nat.not_lt_zero, true_or, or_true, eq_self, mm_z, mm_rs, sw_xc_ite, sw_xv_ite, n_m1, Nat.lt_irrefl, not_false_eq_true, not_true_eq_false, inS_0, inS_1, ite_not, sw_xv_some, sw_xm_some, sw_xc_some, sw_xc_void, if_true, if_false, reduceIte, bI_0, bI_01, bI_1, nt_or, Nat.reduceAdd, n_add, n_mul, n_addL, n_Ladd, n_mulL, n_Lmul, n_sub, n_subL, n_lt, n_eq, n_ltL, n_Llt, n_eqL, n_Leq, n_nneg, n_pos]
    by_cases hq : S.1 3 3 i = p <;> simp [hq, n_add]
  · rw [u_MD_basesOf_0]
    simp (disch := first | omega | exact hB _ _ | assumption | decide) only [st_MD_basesOf, rs_L, mr_md E _, mm_pI_at, mm_pI_pI, mm_pI_2, mm_pL_1, mm_pL_at, mm_pL_pL, mm_pL_3, mm_pM_1, mm_pM_2, mm_pM_at, mm_pM_pM, mm_pI_pL, mm_pI_pM, mm_pL_pM, Bool.false_eq_true, n_10, true_and, and_true, false_and, and_false, Nat.not_lt_zero, true_or, or_true, eq_self, mm_z, mm_rs, sw_xc_ite, sw_xv_ite, n_m1, Nat.lt_irrefl, not_false_eq_true, not_true_eq_false, inS_0, inS_1, ite_not, sw_xv_some, sw_xm_some, sw_xc_some, sw_xc_void, if_true, if_false, reduceIte, bI_0, bI_01, bI_1, nt_or, Nat.reduceAdd, n_add, n_mul, n_addL, n_Ladd, n_mulL, n_Lmul, n_sub, n_subL, n_lt, n_eq, n_ltL, n_Llt, n_eqL, n_Leq, n_nneg, n_pos]
end MDS
