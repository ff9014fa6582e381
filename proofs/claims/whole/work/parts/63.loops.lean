/-! ===== loops of public calls ===== -/
section IN2
variable (E : sw_E) (M : sw_M)
theorem in_lo1 (x : Int32) {n : Nat} (hn : (OfNat.ofNat n : Nat) < 2147483648) : f_MD_in E (.long x.toInt64) (.long 1) (.long (no_index (OfNat.ofNat n : Int64))) M = some (some (.int (bI (¬ x < 1 ∧ ¬ (OfNat.ofNat n : Int32) < x))), M) := by
  rw [md_in]
  refine congrArg (fun v => some (some (Value.int v), M)) (bI_iff ?_)
  rw [Int64.le_iff_toInt_le, Int64.le_iff_toInt_le, Int32.toInt_toInt64, show (OfNat.ofNat n : Int64) = lN (OfNat.ofNat n : Nat) from rfl, lN_toInt hn, Int32.lt_iff_toInt_lt, Int32.lt_iff_toInt_lt, show (OfNat.ofNat n : Int32) = nI (OfNat.ofNat n : Nat) from rfl, nI_toInt hn]
  have e1 : (1 : Int64).toInt = 1 := by decide
  have e2 : (1 : Int32).toInt = 1 := by decide
  omega
theorem in_m9 (x : Int32) : f_MD_in E (.long x.toInt64) (.long (-1)) (.long 9) M = some (some (.int (bI (¬ x < -1 ∧ x < 10))), M) := by
  rw [md_in]
  refine congrArg (fun v => some (some (Value.int v), M)) (bI_iff ?_)
  rw [Int64.le_iff_toInt_le, Int64.le_iff_toInt_le, Int32.toInt_toInt64, Int32.lt_iff_toInt_lt, Int32.lt_iff_toInt_lt]
  have e1 : (-1 : Int64).toInt = -1 := by decide
  have e2 : (-1 : Int32).toInt = -1 := by decide
  have e3 : (9 : Int64).toInt = 9 := by decide
  have e4 : (10 : Int32).toInt = 10 := by decide
  omega
theorem in_m6 (x : Int32) : f_MD_in E (.long x.toInt64) (.long (-1)) (.long 6) M = some (some (.int (bI (¬ x < -1 ∧ x < 7))), M) := by
  rw [md_in]
  refine congrArg (fun v => some (some (Value.int v), M)) (bI_iff ?_)
  rw [Int64.le_iff_toInt_le, Int64.le_iff_toInt_le, Int32.toInt_toInt64, Int32.lt_iff_toInt_lt, Int32.lt_iff_toInt_lt]
  have e1 : (-1 : Int64).toInt = -1 := by decide
  have e2 : (-1 : Int32).toInt = -1 := by decide
  have e3 : (6 : Int64).toInt = 6 := by decide
  have e4 : (7 : Int32).toInt = 7 := by decide
  omega
/-- what is -1 or more is -1 or a number -/
theorem n_of1 {x : Int32} (h : ¬ x < -1) : x = -1 ∨ ∃ a, a < 2147483648 ∧ x = nI a := by
  by_cases h0 : x < 0
  · left
    rw [Int32.lt_iff_toInt_lt] at h h0
    have e1 : (-1 : Int32).toInt = -1 := by decide
    have e2 : (0 : Int32).toInt = 0 := by decide
    apply Int32.toInt_inj.mp
    omega
  · exact Or.inr (n_of h0)
theorem n_ge1 {x : Int32} (h : ¬ x < 1) : ∃ a, 1 ≤ a ∧ a < 2147483648 ∧ x = nI a := by
  have h0 : ¬ x < 0 := fun g => h (by
    rw [Int32.lt_iff_toInt_lt] at g ⊢
    have e1 : (1 : Int32).toInt = 1 := by decide
    have e2 : (0 : Int32).toInt = 0 := by decide
    omega)
  obtain ⟨a, ha, rfl⟩ := n_of h0
  rw [n_ltL ha (by decide)] at h
  exact ⟨a, by omega, ha, rfl⟩
end IN2
/-- n days -/
def dy1 (_ : Nat) (a : Nat × (Nat → Nat → Nat) × (Nat → Int64)) : Nat × (Nat → Nat → Nat) × (Nat → Int64) := (a.1 + (tw_pd a.2.1 a.2.2).1, (tw_pd a.2.1 a.2.2).2)
def tw_dy (T : Nat → Nat → Nat) (H : Nat → Int64) (n : Nat) : Nat × (Nat → Nat → Nat) × (Nat → Int64) := lp dy1 n (0, T, H)
theorem dy1_IT {a : Nat × (Nat → Nat → Nat) × (Nat → Int64)} {i : Nat} (h : IT a.2.1) (hd : a.2.1 0 3 < 999) : IT (dy1 i a).2.1 ∧ (dy1 i a).2.1 0 3 = a.2.1 0 3 + 1 := by
  have := IT_pd (H := a.2.2) h hd
  refine ⟨this.1, ?_⟩
  show (tw_pd a.2.1 a.2.2).2.1 0 3 = _
  rw [this.2.1]
  simp [mm_u]
theorem IT_dy {T : Nat → Nat → Nat} {H : Nat → Int64} (h : IT T) {n : Nat} (hd : T 0 3 + n ≤ 999) : IT (tw_dy T H n).2.1 := by
  have key := lp_inv (f := dy1) (P := fun i a => i ≤ n → IT a.2.1 ∧ a.2.1 0 3 = T 0 3 + i) (n := n) (a := (0, T, H)) (fun _ => ⟨h, rfl⟩) (fun i a hi hP _ => by
    obtain ⟨h1, h2⟩ := hP (by omega)
    obtain ⟨g1, g2⟩ := dy1_IT (i := i) h1 (by omega)
    exact ⟨g1, by omega⟩)
  exact (key (Nat.le_refl n)).1
section PL
variable (E : sw_E) (S : sw_S)
set_option maxRecDepth 100000 in
set_option maxHeartbeats 4000000 in
theorem c_days_l (hI : IT (S.1 0)) {n : Nat} (hd : S.1 0 0 3 + n ≤ 999) : h_SW_days_0 E [.ref 0, .int (nI n), .int 0, .int 0] (mk S) = some (some (.int (nI (tw_dy (S.1 0) (S.2.1 0) n).1)), mk (mm_pL (mm_pI S 0 (tw_dy (S.1 0) (S.2.1 0) n).2.1) 0 (tw_dy (S.1 0) (S.2.1 0) n).2.2)) := by
  have h03 : 0 < 3 := by decide
  have key := lp_up (G := fun i a => h_SW_days_0 E [.ref 0, .int (nI n), .int (nI a.1), .int (nI i)] (mk (mm_pL (mm_pI S 0 a.2.1) 0 a.2.2))) (P := fun i a => IT a.2.1 ∧ a.2.1 0 3 = S.1 0 0 3 + i) (f := dy1) (fin := fun a => some (some (.int (nI a.1)), mk (mm_pL (mm_pI S 0 a.2.1) 0 a.2.2))) (n := n) (a0 := (0, S.1 0, S.2.1 0)) ⟨hI, rfl⟩ (fun i a hi hP => ?_) (fun a hP => ?_)
  · simp only [mm_pI_id, mm_pL_id] at key
    exact key
  · obtain ⟨h1, h2⟩ := hP
    obtain ⟨g1, g2⟩ := dy1_IT (i := i) h1 (by omega)
    refine ⟨?_, g1, by omega⟩
    have hB := h1.b
    have hI' : IT ((mm_pL (mm_pI S 0 a.2.1) 0 a.2.2).1 0) := by rw [mm_pL_1, mm_pI_at]; exact h1
    have hd' : (mm_pL (mm_pI S 0 a.2.1) 0 a.2.2).1 0 0 3 < 999 := by rw [mm_pL_1, mm_pI_at]; omega
    rw [u_SW_days_0]
    simp (disch := first | omega | exact hB _ _ | assumption | decide) only [st_SW_days, mr_town E _ 0 h03, hi, c_Town_passDay E _ 0 h03 hI' hd', mr_cl E _, mm_pI_at, mm_pI_pI, mm_pI_2, mm_pL_1, mm_pL_at, mm_pL_pL, mm_pL_3, mm_pM_1, mm_pM_2, mm_pM_at, mm_pM_pM, mm_pI_pL, mm_pI_pM, mm_pL_pM, Bool.false_eq_true, n_10, true_and, and_true, false_and, and_false, Nat.not_lt_zero, true_or, or_true, eq_self, mm_z, mm_rs, sw_xc_ite, sw_xv_ite, n_m1, Nat.lt_irrefl, not_false_eq_true, not_true_eq_false, inS_0, inS_1, ite_not, sw_xv_some, sw_xm_some, sw_xc_some, sw_xc_void, if_true, if_false, reduceIte, bI_0, bI_01, bI_1, nt_or, Nat.reduceAdd, n_add, n_mul, n_addL, n_Ladd, n_mulL, n_Lmul, n_sub, n_subL, n_lt, n_eq, n_ltL, n_Llt, n_eqL, n_Leq, n_nneg, n_pos]
    rfl
  · rw [u_SW_days_0]
    simp (disch := first | omega | exact hB _ _ | assumption | decide) only [st_SW_days, mr_cl E _, mm_pI_at, mm_pI_pI, mm_pI_2, mm_pL_1, mm_pL_at, mm_pL_pL, mm_pL_3, mm_pM_1, mm_pM_2, mm_pM_at, mm_pM_pM, mm_pI_pL, mm_pI_pM, mm_pL_pM, Bool.false_eq_true, n_10, true_and, and_true, false_and, and_false, Nat.not_lt_zero, true_or, or_true, eq_self, mm_z, mm_rs, sw_xc_ite, sw_xv_ite, n_m1, Nat.lt_irrefl, not_false_eq_true, not_true_eq_false, inS_0, inS_1, ite_not, sw_xv_some, sw_xm_some, sw_xc_some, sw_xc_void, if_true, if_false, reduceIte, bI_0, bI_01, bI_1, nt_or, Nat.reduceAdd, n_add, n_mul, n_addL, n_Ladd, n_mulL, n_Lmul, n_sub, n_subL, n_lt, n_eq, n_ltL, n_Llt, n_eqL, n_Leq, n_nneg, n_pos]
set_option maxRecDepth 100000 in
set_option maxHeartbeats 4000000 in
theorem md_days_l (hI : IT (S.1 3)) {n : Nat} (hd : S.1 3 0 3 + n ≤ 999) : h_MD_days_0 E [.ref 71, .int (nI n), .int 0, .int 0] (mk S) = some (some (.int (nI (tw_dy (S.1 3) (S.2.1 3) n).1)), mk (mm_pL (mm_pI S 3 (tw_dy (S.1 3) (S.2.1 3) n).2.1) 3 (tw_dy (S.1 3) (S.2.1 3) n).2.2)) := by
  have key := lp_up (G := fun i a => h_MD_days_0 E [.ref 71, .int (nI n), .int (nI a.1), .int (nI i)] (mk (mm_pL (mm_pI S 3 a.2.1) 3 a.2.2))) (P := fun i a => IT a.2.1 ∧ a.2.1 0 3 = S.1 3 0 3 + i) (f := dy1) (fin := fun a => some (some (.int (nI a.1)), mk (mm_pL (mm_pI S 3 a.2.1) 3 a.2.2))) (n := n) (a0 := (0, S.1 3, S.2.1 3)) ⟨hI, rfl⟩ (fun i a hi hP => ?_) (fun a hP => ?_)
  · simp only [mm_pI_id, mm_pL_id] at key
    exact key
  · obtain ⟨h1, h2⟩ := hP
    obtain ⟨g1, g2⟩ := dy1_IT (i := i) h1 (by omega)
    refine ⟨?_, g1, by omega⟩
    have hB := h1.b
    have hI' : IT ((mm_pL (mm_pI S 3 a.2.1) 3 a.2.2).1 3) := by rw [mm_pL_1, mm_pI_at]; exact h1
    have hd' : (mm_pL (mm_pI S 3 a.2.1) 3 a.2.2).1 3 0 3 < 999 := by rw [mm_pL_1, mm_pI_at]; omega
    rw [u_MD_days_0]
    simp (disch := first | omega | exact hB _ _ | assumption | decide) only [st_MD_days, hi, md_dayGoes E _ hI' hd', mr_md E _, mm_pI_at, mm_pI_pI, mm_pI_2, mm_pL_1, mm_pL_at, mm_pL_pL, mm_pL_3, mm_pM_1, mm_pM_2, mm_pM_at, mm_pM_pM, mm_pI_pL, mm_pI_pM, mm_pL_pM, Bool.false_eq_true, n_10, true_and, and_true, false_and, and_false, Nat.not_lt_zero, true_or, or_true, eq_self, mm_z, mm_rs, sw_xc_ite, sw_xv_ite, n_m1, Nat.lt_irrefl, not_false_eq_true, not_true_eq_false, inS_0, inS_1, ite_not, sw_xv_some, sw_xm_some, sw_xc_some, sw_xc_void, if_true, if_false, reduceIte, bI_0, bI_01, bI_1, nt_or, Nat.reduceAdd, n_add, n_mul, n_addL, n_Ladd, n_mulL, n_Lmul, n_sub, n_subL, n_lt, n_eq, n_ltL, n_Llt, n_eqL, n_Leq, n_nneg, n_pos]
    rfl
  · rw [u_MD_days_0]
    simp (disch := first | omega | exact hB _ _ | assumption | decide) only [st_MD_days, mr_md E _, mm_pI_at, mm_pI_pI, mm_pI_2, mm_pL_1, mm_pL_at, mm_pL_pL, mm_pL_3, mm_pM_1, mm_pM_2, mm_pM_at, mm_pM_pM, mm_pI_pL, mm_pI_pM, mm_pL_pM, Bool.false_eq_true, n_10, true_and, and_true, false_and, and_false, Nat.not_lt_zero, true_or, or_true, eq_self, mm_z, mm_rs, sw_xc_ite, sw_xv_ite, n_m1, Nat.lt_irrefl, not_false_eq_true, not_true_eq_false, inS_0, inS_1, ite_not, sw_xv_some, sw_xm_some, sw_xc_some, sw_xc_void, if_true, if_false, reduceIte, bI_0, bI_01, bI_1, nt_or, Nat.reduceAdd, n_add, n_mul, n_addL, n_Ladd, n_mulL, n_Lmul, n_sub, n_subL, n_lt, n_eq, n_ltL, n_Llt, n_eqL, n_Leq, n_nneg, n_pos]
set_option maxRecDepth 100000 in
set_option maxHeartbeats 4000000 in
theorem md_can (hI : IT (S.1 3)) : f_MD_can E (.ref 71) (mk S) = some (some (.int (tw_set (S.1 3 0 2) (tw_can (S.1 3)))), mk S) := by
  have hB := hI.b
  have hk := hI.k
  have key := lp_up' (G := fun i a => h_MD_can_0 E [.ref 71, .int a, .int (nI i)] (mk S)) (f := fun x a => if tw_can (S.1 3) x = true then a ||| sb x else a) (fin := fun a => some (some (.int a), mk S)) (n := S.1 3 0 2) (a0 := 0) (fun i a hi => ?_) (fun a => ?_)
  · simp only [e_MD_can, st_MD_can]
    exact key
  · have hi24 : i < 24 := by omega
    rw [u_MD_can_0]
    simp (disch := first | omega | exact hB _ _ | assumption | decide) only [st_MD_can, rs_L, hi, md_isOpen E S hB hi24, md_isLast E S hI (k := i) (by omega), or0, mr_md E _, mm_pI_at, mm_pI_pI, mm_pI_2, mm_pL_1, mm_pL_at, mm_pL_pL, mm_pL_3, mm_pM_1, mm_pM_2, mm_pM_at, mm_pM_pM, mm_pI_pL, mm_pI_pM, mm_pL_pM, Bool.false_eq_true, n_10, true_and, and_true, false_and, and_false, Nat.not_lt_zero, true_or, or_true, eq_self, mm_z, mm_rs, sw_xc_ite, sw_xv_ite, n_m1, Nat.lt_irrefl, not_false_eq_true, not_true_eq_false, inS_0, inS_1, ite_not, sw_xv_some, sw_xm_some, sw_xc_some, sw_xc_void, if_true, if_false, reduceIte, bI_0, bI_01, bI_1, nt_or, Nat.reduceAdd, n_add, n_mul, n_addL, n_Ladd, n_mulL, n_Lmul, n_sub, n_subL, n_lt, n_eq, n_ltL, n_Llt, n_eqL, n_Leq, n_nneg, n_pos]
    unfold tw_can
    by_cases h1 : S.1 3 13 i = 0 <;> by_cases h2 : tw_last (S.1 3) i = true <;> simp [h1, h2, sb]
  · rw [u_MD_can_0]
    simp (disch := first | omega | exact hB _ _ | assumption | decide) only [st_MD_can, rs_L, mr_md E _, mm_pI_at, mm_pI_pI, mm_pI_2, mm_pL_1, mm_pL_at, mm_pL_pL, mm_pL_3, mm_pM_1, mm_pM_2, mm_pM_at, mm_pM_pM, mm_pI_pL, mm_pI_pM, mm_pL_pM, Bool.false_eq_true, n_10, true_and, and_true, false_and, and_false, Nat.not_lt_zero, true_or, or_true, eq_self, mm_z, mm_rs, sw_xc_ite, sw_xv_ite, n_m1, Nat.lt_irrefl, not_false_eq_true, not_true_eq_false, inS_0, inS_1, ite_not, sw_xv_some, sw_xm_some, sw_xc_some, sw_xc_void, if_true, if_false, reduceIte, bI_0, bI_01, bI_1, nt_or, Nat.reduceAdd, n_add, n_mul, n_addL, n_Ladd, n_mulL, n_Lmul, n_sub, n_subL, n_lt, n_eq, n_ltL, n_Llt, n_eqL, n_Leq, n_nneg, n_pos]
set_option maxRecDepth 100000 in
set_option maxHeartbeats 4000000 in
theorem md_worst_l (hI : IT (S.1 3)) : h_MD_worst_0 E [.ref 71, .int (-1), .int 0] (mk S) = sw_ex E 189 52 [.ref 71, .int (oI (tw_worst (S.1 3))), .int (nI (S.1 3 0 2))] [] (mk S) ∧ ∀ b, tw_worst (S.1 3) = some b → b < 2147483648 := by
  have hB := hI.b
  have hk := hI.k
  have hP0 := lp_inv (f := wo1 (S.1 3)) (P := fun i o => ∀ b, o = some b → b < i) (n := S.1 3 0 2) (a := none) (fun b e => by cases e) (fun i o hi hP b e => by
    unfold wo1 at e
    cases o with
    | none =>
      simp only at e
      split at e
      · injection e with e; omega
      · cases e
    | some c =>
      have := hP c rfl
      simp only at e
      split at e <;> (injection e with e; omega))
  have key := lp_up (G := fun i o => h_MD_worst_0 E [.ref 71, .int (oI o), .int (nI i)] (mk S)) (P := fun i o => ∀ b, o = some b → b < i) (f := wo1 (S.1 3)) (fin := fun o => sw_ex E 189 52 [.ref 71, .int (oI o), .int (nI (S.1 3 0 2))] [] (mk S)) (n := S.1 3 0 2) (a0 := none) (fun b e => by cases e) (fun i o hi hP => ⟨?_, ?_⟩) (fun o hP => ?_)
  · exact ⟨key, fun b e => Nat.lt_of_lt_of_le (hP0 b e) (by omega)⟩
  · have hi24 : i < 24 := by omega
    have hle := tw_harm_le hI i
    rw [u_MD_worst_0]
    cases o with
    | none =>
      simp only [wo1, oI]
      simp (disch := first | omega | exact hB _ _ | assumption | decide) only [st_MD_worst, rs_L, hi, md_isOpen E S hB hi24, mr_md E _, mm_pI_at, mm_pI_pI, mm_pI_2, mm_pL_1, mm_pL_at, mm_pL_pL, mm_pL_3, mm_pM_1, mm_pM_2, mm_pM_at, mm_pM_pM, mm_pI_pL, mm_pI_pM, mm_pL_pM, Bool.false_eq_true, n_10, true_and, and_true, false_and, and_false, Nat.not_lt_zero, true_or, or_true, eq_self, mm_z, mm_rs, sw_xc_ite, sw_xv_ite, n_m1, Nat.lt_irrefl, not_false_eq_true, not_true_eq_false, inS_0, inS_1, ite_not, sw_xv_some, sw_xm_some, sw_xc_some, sw_xc_void, if_true, if_false, reduceIte, bI_0, bI_01, bI_1, nt_or, Nat.reduceAdd, n_add, n_mul, n_addL, n_Ladd, n_mulL, n_Lmul, n_sub, n_subL, n_lt, n_eq, n_ltL, n_Llt, n_eqL, n_Leq, n_nneg, n_pos]
      by_cases h1 : S.1 3 13 i = 0 <;> simp [h1]
    | some b =>
      have hb := hP b rfl
      have hleb := tw_harm_le hI b
      simp only [wo1, oI]
      simp (disch := first | omega | exact hB _ _ | assumption | decide) only [st_MD_worst, rs_L, hi, md_isOpen E S hB hi24, md_harmBy E S hI (k := i) (by omega), md_harmBy E S hI (k := b) (by omega), lg_cmp_gt, fa_wide_lt, mr_md E _, mm_pI_at, mm_pI_pI, mm_pI_2, mm_pL_1, mm_pL_at, mm_pL_pL, mm_pL_3, mm_pM_1, mm_pM_2, mm_pM_at, mm_pM_pM, mm_pI_pL, mm_pI_pM, mm_pL_pM, Bool.false_eq_true, n_10, true_and, and_true, false_and, and_false, Nat.not_lt_zero, true_or, or_true, eq_self, mm_z, mm_rs, sw_xc_ite, sw_xv_ite, n_m1, Nat.lt_irrefl, not_false_eq_true, not_true_eq_false, inS_0, inS_1, ite_not, sw_xv_some, sw_xm_some, sw_xc_some, sw_xc_void, if_true, if_false, reduceIte, bI_0, bI_01, bI_1, nt_or, Nat.reduceAdd, n_add, n_mul, n_addL, n_Ladd, n_mulL, n_Lmul, n_sub, n_subL, n_lt, n_eq, n_ltL, n_Llt, n_eqL, n_Leq, n_nneg, n_pos]
      by_cases h1 : S.1 3 13 i = 0 <;> by_cases h2 : tw_harm (S.1 3) b < tw_harm (S.1 3) i <;> simp [h1, h2]
  · intro b e
    unfold wo1 at e
    cases o with
    | none =>
      simp only at e
      split at e
      · injection e with e; omega
      · cases e
    | some c =>
      have := hP c rfl
      simp only at e
      split at e <;> (injection e with e; omega)
  · rw [u_MD_worst_0]
    simp (disch := first | omega | exact hB _ _ | assumption | decide) only [st_MD_worst, rs_L, mr_md E _, mm_pI_at, mm_pI_pI, mm_pI_2, mm_pL_1, mm_pL_at, mm_pL_pL, mm_pL_3, mm_pM_1, mm_pM_2, mm_pM_at, mm_pM_pM, mm_pI_pL, mm_pI_pM, mm_pL_pM, Bool.false_eq_true, n_10, true_and, and_true, false_and, and_false, Nat.not_lt_zero, true_or, or_true, eq_self, mm_z, mm_rs, sw_xc_ite, sw_xv_ite, n_m1, Nat.lt_irrefl, not_false_eq_true, not_true_eq_false, inS_0, inS_1, ite_not, sw_xv_some, sw_xm_some, sw_xc_some, sw_xc_void, if_true, if_false, reduceIte, bI_0, bI_01, bI_1, nt_or, Nat.reduceAdd, n_add, n_mul, n_addL, n_Ladd, n_mulL, n_Lmul, n_sub, n_subL, n_lt, n_eq, n_ltL, n_Llt, n_eqL, n_Leq, n_nneg, n_pos]
set_option maxRecDepth 100000 in
set_option maxHeartbeats 4000000 in
theorem md_count3 (hI : IT (S.1 3)) (a1 : Value) : h_MD_count_0 E [.ref 71, a1, .int 0, .int 0] (mk S) = some (some (.int (nI (tw_cnt (S.1 3 0 2) (fun k => S.1 3 13 k == 0)))), mk S) := by
  have hB := hI.b
  have hk := hI.k
  have key := lp_up' (G := fun i c => h_MD_count_0 E [.ref 71, a1, .int (nI c), .int (nI i)] (mk S)) (f := fun i c => if (S.1 3 13 i == 0) = true then c + 1 else c) (fin := fun c => some (some (.int (nI c)), mk S)) (n := S.1 3 0 2) (a0 := 0) (fun i c hi => ?_) (fun c => ?_)
  · exact key
  · have hi24 : i < 24 := by omega
    rw [u_MD_count_0]
    simp (disch := first | omega | exact hB _ _ | assumption | decide) only [st_MD_count, rs_L, hi, md_isOpen E S hB hi24, mr_md E _, mm_pI_at, mm_pI_pI, mm_pI_2, mm_pL_1, mm_pL_at, mm_pL_pL, mm_pL_3, mm_pM_1, mm_pM_2, mm_pM_at, mm_pM_pM, mm_pI_pL, mm_pI_pM, mm_pL_pM, Bool.false_eq_true, n_10, true_and, and_true, false_and, and_false, Nat.not_lt_zero, true_or, or_true, eq_self, mm_z, mm_rs, sw_xc_ite, sw_xv_ite, n_m1, Nat.lt_irrefl, not_false_eq_true, not_true_eq_false, inS_0, inS_1, ite_not, sw_xv_some, sw_xm_some, sw_xc_some, sw_xc_void, if_true, if_false, reduceIte, bI_0, bI_01, bI_1, nt_or, Nat.reduceAdd, n_add, n_mul, n_addL, n_Ladd, n_mulL, n_Lmul, n_sub, n_subL, n_lt, n_eq, n_ltL, n_Llt, n_eqL, n_Leq, n_nneg, n_pos]
    by_cases h1 : S.1 3 13 i = 0 <;> simp [h1]
  · rw [u_MD_count_0]
    simp (disch := first | omega | exact hB _ _ | assumption | decide) only [st_MD_count, rs_L, mr_md E _, mm_pI_at, mm_pI_pI, mm_pI_2, mm_pL_1, mm_pL_at, mm_pL_pL, mm_pL_3, mm_pM_1, mm_pM_2, mm_pM_at, mm_pM_pM, mm_pI_pL, mm_pI_pM, mm_pL_pM, Bool.false_eq_true, n_10, true_and, and_true, false_and, and_false, Nat.not_lt_zero, true_or, or_true, eq_self, mm_z, mm_rs, sw_xc_ite, sw_xv_ite, n_m1, Nat.lt_irrefl, not_false_eq_true, not_true_eq_false, inS_0, inS_1, ite_not, sw_xv_some, sw_xm_some, sw_xc_some, sw_xc_void, if_true, if_false, reduceIte, bI_0, bI_01, bI_1, nt_or, Nat.reduceAdd, n_add, n_mul, n_addL, n_Ladd, n_mulL, n_Lmul, n_sub, n_subL, n_lt, n_eq, n_ltL, n_Llt, n_eqL, n_Leq, n_nneg, n_pos]
set_option maxRecDepth 100000 in
set_option maxHeartbeats 4000000 in
theorem md_count6 (hI : IT (S.1 3)) (a1 : Value) : h_MD_count_1 E [.ref 71, a1, .int 0, .int 0] (mk S) = some (some (.int (nI (tw_sum (S.1 3 0 1) (fun _ => true) (S.1 3 4)))), mk S) := by
  have hB := hI.b
  have hn := hI.n
  have key := lp_up' (G := fun i c => h_MD_count_1 E [.ref 71, a1, .int (nI c), .int (nI i)] (mk S)) (f := fun i c => if true = true then c + S.1 3 4 i else c) (fin := fun c => some (some (.int (nI c)), mk S)) (n := S.1 3 0 1) (a0 := 0) (fun i c hi => ?_) (fun c => ?_)
  · exact key
  · have hi16 : i < 16 := by omega
    rw [u_MD_count_1]
    simp (disch := first | omega | exact hB _ _ | assumption | decide) only [st_MD_count, rs_L, hi, md_has2 E S hi16, mr_md E _, mm_pI_at, mm_pI_pI, mm_pI_2, mm_pL_1, mm_pL_at, mm_pL_pL, mm_pL_3, mm_pM_1, mm_pM_2, mm_pM_at, mm_pM_pM, mm_pI_pL, mm_pI_pM, mm_pL_pM, Bool.false_eq_true, n_10, true_and, and_true, false_and, and_false, Nat.not_lt_zero, true_or, or_true, eq_self, mm_z, mm_rs, sw_xc_ite, sw_xv_ite, n_m1, Nat.lt_irrefl, not_false_eq_true, not_true_eq_false, inS_0, inS_1, ite_not, sw_xv_some, sw_xm_some, sw_xc_some, sw_xc_void, if_true, if_false, reduceIte, bI_0, bI_01, bI_1, nt_or, Nat.reduceAdd, n_add, n_mul, n_addL, n_Ladd, n_mulL, n_Lmul, n_sub, n_subL, n_lt, n_eq, n_ltL, n_Llt, n_eqL, n_Leq, n_nneg, n_pos]
  · rw [u_MD_count_1]
    simp (disch := first | omega | exact hB _ _ | assumption | decide) only [st_MD_count, rs_L, mr_md E _, mm_pI_at, mm_pI_pI, mm_pI_2, mm_pL_1, mm_pL_at, mm_pL_pL, mm_pL_3, mm_pM_1, mm_pM_2, mm_pM_at, mm_pM_pM, mm_pI_pL, mm_pI_pM, mm_pL_pM, Bool.false_eq_true, n_10, true_and, and_true, false_and, and_false, Nat.not_lt_zero, true_or, or_true, eq_self, mm_z, mm_rs, sw_xc_ite, sw_xv_ite, n_m1, Nat.lt_irrefl, not_false_eq_true, not_true_eq_false, inS_0, inS_1, ite_not, sw_xv_some, sw_xm_some, sw_xc_some, sw_xc_void, if_true, if_false, reduceIte, bI_0, bI_01, bI_1, nt_or, Nat.reduceAdd, n_add, n_mul, n_addL, n_Ladd, n_mulL, n_Lmul, n_sub, n_subL, n_lt, n_eq, n_ltL, n_Llt, n_eqL, n_Leq, n_nneg, n_pos]
set_option maxRecDepth 100000 in
set_option maxHeartbeats 4000000 in
theorem c_status_l (a1 : Value) : h_SW_status_0 E [.ref 0, a1, .int 0, .int 0] (mk S) = some (some (.int (lp (fun i a => a + S.2.2 8 i) 7 0)), mk S) := by
  have key := lp_up' (G := fun i a => h_SW_status_0 E [.ref 0, a1, .int a, .int (nI i)] (mk S)) (f := fun i a => a + S.2.2 8 i) (fin := fun a => some (some (.int a), mk S)) (n := 7) (a0 := 0) (fun i a hi => ?_) (fun a => ?_)
  · exact key
  · rw [u_SW_status_0]
    simp (disch := first | omega | exact hB _ _ | assumption | decide) only [st_SW_status, hi, mr_cl E _, mm_pI_at, mm_pI_pI, mm_pI_2, mm_pL_1, mm_pL_at, mm_pL_pL, mm_pL_3, mm_pM_1, mm_pM_2, mm_pM_at, mm_pM_pM, mm_pI_pL, mm_pI_pM, mm_pL_pM, Bool.false_eq_true, n_10, true_and, and_true, false_and, and_false, Nat.not_lt_zero, true_or, or_true, eq_self, mm_z, mm_rs, sw_xc_ite, sw_xv_ite, n_m1, Nat.lt_irrefl, not_false_eq_true, not_true_eq_false, inS_0, inS_1, ite_not, sw_xv_some, sw_xm_some, sw_xc_some, sw_xc_void, if_true, if_false, reduceIte, bI_0, bI_01, bI_1, nt_or, Nat.reduceAdd, n_add, n_mul, n_addL, n_Ladd, n_mulL, n_Lmul, n_sub, n_subL, n_lt, n_eq, n_ltL, n_Llt, n_eqL, n_Leq, n_nneg, n_pos]
  · rw [u_SW_status_0]
    simp (disch := first | omega | exact hB _ _ | assumption | decide) only [st_SW_status, mr_cl E _, mm_pI_at, mm_pI_pI, mm_pI_2, mm_pL_1, mm_pL_at, mm_pL_pL, mm_pL_3, mm_pM_1, mm_pM_2, mm_pM_at, mm_pM_pM, mm_pI_pL, mm_pI_pM, mm_pL_pM, Bool.false_eq_true, n_10, true_and, and_true, false_and, and_false, Nat.not_lt_zero, true_or, or_true, eq_self, mm_z, mm_rs, sw_xc_ite, sw_xv_ite, n_m1, Nat.lt_irrefl, not_false_eq_true, not_true_eq_false, inS_0, inS_1, ite_not, sw_xv_some, sw_xm_some, sw_xc_some, sw_xc_void, if_true, if_false, reduceIte, bI_0, bI_01, bI_1, nt_or, Nat.reduceAdd, n_add, n_mul, n_addL, n_Ladd, n_mulL, n_Lmul, n_sub, n_subL, n_lt, n_eq, n_ltL, n_Llt, n_eqL, n_Leq, n_nneg, n_pos]
set_option maxRecDepth 100000 in
set_option maxHeartbeats 4000000 in
theorem md_status_l (x : Int32) : h_MD_status_0 E [.ref 71, .int x, .int 0, .int 0] (mk S) = some (some (.int (lp (fun i a => a + (if x < 0 ∨ nI i = x then S.2.2 20 i else 0)) 7 0)), mk S) := by
  have key := lp_up' (G := fun i a => h_MD_status_0 E [.ref 71, .int x, .int a, .int (nI i)] (mk S)) (f := fun i a => a + (if x < 0 ∨ nI i = x then S.2.2 20 i else 0)) (fin := fun a => some (some (.int a), mk S)) (n := 7) (a0 := 0) (fun i a hi => ?_) (fun a => ?_)
  · exact key
  · rw [u_MD_status_0]
    simp (disch := first | omega | exact hB _ _ | assumption | decide) only [st_MD_status, hi, mr_md E _, mm_pI_at, mm_pI_pI, mm_pI_2, mm_pL_1, mm_pL_at, mm_pL_pL, mm_pL_3, mm_pM_1, mm_pM_2, mm_pM_at, mm_pM_pM, mm_pI_pL, mm_pI_pM, mm_pL_pM, Bool.false_eq_true, n_10, true_and, and_true, false_and, and_false, Nat.not_lt_zero, true_or, or_true, eq_self, mm_z, mm_rs, sw_xc_ite, sw_xv_ite, n_m1, Nat.lt_irrefl, not_false_eq_true, not_true_eq_false, inS_0, inS_1, ite_not, sw_xv_some, sw_xm_some, sw_xc_some, sw_xc_void, if_true, if_false, reduceIte, bI_0, bI_01, bI_1, nt_or, Nat.reduceAdd, n_add, n_mul, n_addL, n_Ladd, n_mulL, n_Lmul, n_sub, n_subL, n_lt, n_eq, n_ltL, n_Llt, n_eqL, n_Leq, n_nneg, n_pos]
    by_cases h1 : x < 0 <;> by_cases h2 : nI i = x <;> simp [h1, h2]
  · rw [u_MD_status_0]
    simp (disch := first | omega | exact hB _ _ | assumption | decide) only [st_MD_status, mr_md E _, mm_pI_at, mm_pI_pI, mm_pI_2, mm_pL_1, mm_pL_at, mm_pL_pL, mm_pL_3, mm_pM_1, mm_pM_2, mm_pM_at, mm_pM_pM, mm_pI_pL, mm_pI_pM, mm_pL_pM, Bool.false_eq_true, n_10, true_and, and_true, false_and, and_false, Nat.not_lt_zero, true_or, or_true, eq_self, mm_z, mm_rs, sw_xc_ite, sw_xv_ite, n_m1, Nat.lt_irrefl, not_false_eq_true, not_true_eq_false, inS_0, inS_1, ite_not, sw_xv_some, sw_xm_some, sw_xc_some, sw_xc_void, if_true, if_false, reduceIte, bI_0, bI_01, bI_1, nt_or, Nat.reduceAdd, n_add, n_mul, n_addL, n_Ladd, n_mulL, n_Lmul, n_sub, n_subL, n_lt, n_eq, n_ltL, n_Llt, n_eqL, n_Leq, n_nneg, n_pos]
end PL
