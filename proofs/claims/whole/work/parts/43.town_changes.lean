/-! ===== Town: what changes it ===== -/
theorem n_10 : ((1 : Int32) = 0) ↔ False := by decide
def tw_hold (T : Nat → Nat → Nat) (p : Nat) (s : Int32) : Bool := decide (∀ x, x < T 0 1 → (!inS s x || (T 3 x == p && T 6 x == 0)) = true)
def tw_may (T : Nat → Nat → Nat) (s : Int32) : Bool := decide (∀ x, x < T 0 1 → (!inS s x || decide (T 7 x ≤ T 0 4 ∧ T 7 x < 6)) = true)
section C43
variable (E : sw_E) (S : sw_S) (t : Nat)
set_option maxRecDepth 100000 in
set_option maxHeartbeats 4000000 in
theorem c_Town_holdsAll (h : t < 3) (hI : IT (S.1 t)) {p : Nat} (hp : p < 2147483648) (s : Int32) : f_Town_holdsAll E (.ref (mm_tn t 0)) (.int (nI p)) (.int s) (mk S) = some (some (.int (bI (tw_hold (S.1 t) p s = true))), mk S) := by
  have hB := hI.b
  have hn := hI.n
  have key := lp_all (G := fun i => h_Town_holdsAll_0 E [.ref (mm_tn t 0), .int (nI p), .int s, .int (nI i)] (mk S)) (p := fun x => !inS s x || (S.1 t 3 x == p && S.1 t 6 x == 0)) (yes := some (some (.int 1), mk S)) (no := some (some (.int 0), mk S)) (n := S.1 t 0 1) (fun i hi => ?_) ?_
  · simp only [e_Town_holdsAll, st_Town_holdsAll]
    rw [show (0 : Int32) = nI 0 from rfl, key]
    unfold tw_hold bI
    simp only [decide_eq_true_eq]
    split <;> rfl
  · rw [u_Town_holdsAll_0]
    simp (disch := first | omega | exact hB _ _ | assumption | decide) only [st_Town_holdsAll, mr_town E S t h, hi, e_SW_isInSet, st_SW_isInSet, e_Town_isSoundWith, st_Town_isSoundWith, Bool.false_eq_true, n_10, true_and, and_true, false_and, and_false, Nat.not_lt_zero, true_or, or_true, eq_self, mm_z, mm_rs, sw_xc_ite, sw_xv_ite, n_m1, Nat.lt_irrefl, not_false_eq_true, not_true_eq_false, inS_0, inS_1, ite_not, sw_xv_some, sw_xm_some, sw_xc_some, sw_xc_void, if_true, if_false, reduceIte, bI_0, bI_01, n_add, n_mul, n_addL, n_Ladd, n_mulL, n_Lmul, n_sub, n_subL, n_lt, n_eq, n_ltL, n_Llt, n_eqL, n_Leq, n_nneg, n_pos]
    by_cases h1 : inS s i = true <;> by_cases h2 : S.1 t 3 i = p <;> by_cases h3 : S.1 t 6 i = 0 <;> simp [h1, h2, h3]
  · rw [u_Town_holdsAll_0]
    simp (disch := first | omega | exact hB _ _ | assumption | decide) only [st_Town_holdsAll, mr_town E S t h, Bool.false_eq_true, n_10, true_and, and_true, false_and, and_false, Nat.not_lt_zero, true_or, or_true, eq_self, mm_z, mm_rs, sw_xc_ite, sw_xv_ite, n_m1, Nat.lt_irrefl, not_false_eq_true, not_true_eq_false, inS_0, inS_1, ite_not, sw_xv_some, sw_xm_some, sw_xc_some, sw_xc_void, if_true, if_false, reduceIte, bI_0, bI_01, n_add, n_mul, n_addL, n_Ladd, n_mulL, n_Lmul, n_sub, n_subL, n_lt, n_eq, n_ltL, n_Llt, n_eqL, n_Leq, n_nneg, n_pos]
set_option maxRecDepth 100000 in
set_option maxHeartbeats 4000000 in
theorem c_Town_mayPassAll (h : t < 3) (hI : IT (S.1 t)) (s : Int32) : f_Town_mayPassAll E (.ref (mm_tn t 0)) (.int s) (mk S) = some (some (.int (bI (tw_may (S.1 t) s = true))), mk S) := by
  have hB := hI.b
  have hn := hI.n
  have key := lp_all (G := fun i => h_Town_mayPassAll_0 E [.ref (mm_tn t 0), .int s, .int (nI i)] (mk S)) (p := fun x => !inS s x || decide (S.1 t 7 x ≤ S.1 t 0 4 ∧ S.1 t 7 x < 6)) (yes := some (some (.int 1), mk S)) (no := some (some (.int 0), mk S)) (n := S.1 t 0 1) (fun i hi => ?_) ?_
  · simp only [e_Town_mayPassAll, st_Town_mayPassAll]
    rw [show (0 : Int32) = nI 0 from rfl, key]
    unfold tw_may bI
    simp only [decide_eq_true_eq]
    split <;> rfl
  · rw [u_Town_mayPassAll_0]
    simp (disch := first | omega | exact hB _ _ | assumption | decide) only [st_Town_mayPassAll, mr_town E S t h, hi, e_SW_isInSet, st_SW_isInSet, e_Town_mayPass, st_Town_mayPass, Bool.false_eq_true, n_10, true_and, and_true, false_and, and_false, Nat.not_lt_zero, true_or, or_true, eq_self, mm_z, mm_rs, sw_xc_ite, sw_xv_ite, n_m1, Nat.lt_irrefl, not_false_eq_true, not_true_eq_false, inS_0, inS_1, ite_not, sw_xv_some, sw_xm_some, sw_xc_some, sw_xc_void, if_true, if_false, reduceIte, bI_0, bI_01, n_add, n_mul, n_addL, n_Ladd, n_mulL, n_Lmul, n_sub, n_subL, n_lt, n_eq, n_ltL, n_Llt, n_eqL, n_Leq, n_nneg, n_pos]
    by_cases h1 : inS s i = true <;> by_cases h2 : S.1 t 0 4 < S.1 t 7 i <;> by_cases h3 : S.1 t 7 i < 6 <;> simp [h1, h2, h3, Nat.not_le.mpr, Nat.not_lt.mp] <;> omega
  · rw [u_Town_mayPassAll_0]
    simp (disch := first | omega | exact hB _ _ | assumption | decide) only [st_Town_mayPassAll, mr_town E S t h, Bool.false_eq_true, n_10, true_and, and_true, false_and, and_false, Nat.not_lt_zero, true_or, or_true, eq_self, mm_z, mm_rs, sw_xc_ite, sw_xv_ite, n_m1, Nat.lt_irrefl, not_false_eq_true, not_true_eq_false, inS_0, inS_1, ite_not, sw_xv_some, sw_xm_some, sw_xc_some, sw_xc_void, if_true, if_false, reduceIte, bI_0, bI_01, n_add, n_mul, n_addL, n_Ladd, n_mulL, n_Lmul, n_sub, n_subL, n_lt, n_eq, n_ltL, n_Llt, n_eqL, n_Leq, n_nneg, n_pos]
set_option maxRecDepth 100000 in
set_option maxHeartbeats 4000000 in
theorem c_Town_couldPut (h : t < 3) (hI : IT (S.1 t)) {p : Nat} (hp : p < 2147483648) : f_Town_couldPut E (.ref (mm_tn t 0)) (.int (nI p)) (mk S) = some (some (.int (tw_put (S.1 t) p)), mk S) := by
  have hB := hI.b
  have hn := hI.n
  have key := lp_up' (G := fun i a => h_Town_couldPut_0 E [.ref (mm_tn t 0), .int (nI p), .int a, .int (nI i)] (mk S)) (f := fun x a => if ((S.1 t 3 x == p && S.1 t 6 x == 0) && decide (S.1 t 7 x ≤ S.1 t 0 4 ∧ S.1 t 7 x < 6)) = true then a ||| sb x else a) (fin := fun a => some (some (.int a), mk S)) (n := S.1 t 0 1) (a0 := 0) (fun i a hi => ?_) (fun a => ?_)
  · simp only [e_Town_couldPut, st_Town_couldPut]
    exact key
  · rw [u_Town_couldPut_0]
    simp (disch := first | omega | exact hB _ _ | assumption | decide) only [st_Town_couldPut, mr_town E S t h, hi, e_Town_isSoundWith, st_Town_isSoundWith, e_Town_mayPass, st_Town_mayPass, Bool.false_eq_true, n_10, true_and, and_true, false_and, and_false, Nat.not_lt_zero, true_or, or_true, eq_self, mm_z, mm_rs, sw_xc_ite, sw_xv_ite, n_m1, Nat.lt_irrefl, not_false_eq_true, not_true_eq_false, inS_0, inS_1, ite_not, sw_xv_some, sw_xm_some, sw_xc_some, sw_xc_void, if_true, if_false, reduceIte, bI_0, bI_01, n_add, n_mul, n_addL, n_Ladd, n_mulL, n_Lmul, n_sub, n_subL, n_lt, n_eq, n_ltL, n_Llt, n_eqL, n_Leq, n_nneg, n_pos]
    by_cases h1 : S.1 t 3 i = p <;> by_cases h3 : S.1 t 6 i = 0 <;> by_cases h2 : S.1 t 0 4 < S.1 t 7 i <;> by_cases h4 : S.1 t 7 i < 6 <;> simp [h1, h2, h3, h4, Nat.not_le.mpr, Nat.not_lt.mp, sb]
  · rw [u_Town_couldPut_0]
    simp (disch := first | omega | exact hB _ _ | assumption | decide) only [st_Town_couldPut, mr_town E S t h, Bool.false_eq_true, n_10, true_and, and_true, false_and, and_false, Nat.not_lt_zero, true_or, or_true, eq_self, mm_z, mm_rs, sw_xc_ite, sw_xv_ite, n_m1, Nat.lt_irrefl, not_false_eq_true, not_true_eq_false, inS_0, inS_1, ite_not, sw_xv_some, sw_xm_some, sw_xc_some, sw_xc_void, if_true, if_false, reduceIte, bI_0, bI_01, n_add, n_mul, n_addL, n_Ladd, n_mulL, n_Lmul, n_sub, n_subL, n_lt, n_eq, n_ltL, n_Llt, n_eqL, n_Leq, n_nneg, n_pos]
set_option maxRecDepth 100000 in
set_option maxHeartbeats 4000000 in
theorem c_Town_canSettle (h : t < 3) (hI : IT (S.1 t)) {k : Nat} (hk : k < S.1 t 0 2) : f_Town_canSettle E (.ref (mm_tn t 0)) (.int (nI k)) (mk S) = some (some (.int (bI (tw_can (S.1 t) k = true))), mk S) := by
  have hB := hI.b
  have hk2 := hI.k
  simp (disch := first | omega | exact hB _ _ | assumption | decide) only [e_Town_canSettle, st_Town_canSettle, mr_town E S t h, e_Promises_isOpen, st_Promises_isOpen, c_Things_endWith E S t h hI (k := k) (by omega), Bool.false_eq_true, n_10, true_and, and_true, false_and, and_false, Nat.not_lt_zero, true_or, or_true, eq_self, mm_z, mm_rs, sw_xc_ite, sw_xv_ite, n_m1, Nat.lt_irrefl, not_false_eq_true, not_true_eq_false, inS_0, inS_1, ite_not, sw_xv_some, sw_xm_some, sw_xc_some, sw_xc_void, if_true, if_false, reduceIte, bI_0, bI_01, n_add, n_mul, n_addL, n_Ladd, n_mulL, n_Lmul, n_sub, n_subL, n_lt, n_eq, n_ltL, n_Llt, n_eqL, n_Leq, n_nneg, n_pos]
  unfold tw_can bI
  by_cases h1 : S.1 t 13 k = 0 <;> by_cases h2 : tw_last (S.1 t) k = true <;> simp [h1, h2]
set_option maxRecDepth 100000 in
set_option maxHeartbeats 4000000 in
theorem c_Town_keepable (h : t < 3) (hI : IT (S.1 t)) : f_Town_keepable E (.ref (mm_tn t 0)) (mk S) = some (some (.int (tw_set (S.1 t 0 2) (tw_can (S.1 t)))), mk S) := by
  have hB := hI.b
  have hk := hI.k
  have key := lp_up' (G := fun i a => h_Town_keepable_0 E [.ref (mm_tn t 0), .int a, .int (nI i)] (mk S)) (f := fun x a => if tw_can (S.1 t) x = true then a ||| sb x else a) (fin := fun a => some (some (.int a), mk S)) (n := S.1 t 0 2) (a0 := 0) (fun i a hi => ?_) (fun a => ?_)
  · simp only [e_Town_keepable, st_Town_keepable]
    exact key
  · rw [u_Town_keepable_0]
    simp (disch := first | omega | exact hB _ _ | assumption | decide) only [st_Town_keepable, mr_town E S t h, hi, c_Town_canSettle E S t h hI hi, Bool.false_eq_true, n_10, true_and, and_true, false_and, and_false, Nat.not_lt_zero, true_or, or_true, eq_self, mm_z, mm_rs, sw_xc_ite, sw_xv_ite, n_m1, Nat.lt_irrefl, not_false_eq_true, not_true_eq_false, inS_0, inS_1, ite_not, sw_xv_some, sw_xm_some, sw_xc_some, sw_xc_void, if_true, if_false, reduceIte, bI_0, bI_01, n_add, n_mul, n_addL, n_Ladd, n_mulL, n_Lmul, n_sub, n_subL, n_lt, n_eq, n_ltL, n_Llt, n_eqL, n_Leq, n_nneg, n_pos]
    by_cases h1 : tw_can (S.1 t) i = true <;> simp [h1, sb]
  · rw [u_Town_keepable_0]
    simp (disch := first | omega | exact hB _ _ | assumption | decide) only [st_Town_keepable, mr_town E S t h, Bool.false_eq_true, n_10, true_and, and_true, false_and, and_false, Nat.not_lt_zero, true_or, or_true, eq_self, mm_z, mm_rs, sw_xc_ite, sw_xv_ite, n_m1, Nat.lt_irrefl, not_false_eq_true, not_true_eq_false, inS_0, inS_1, ite_not, sw_xv_some, sw_xm_some, sw_xc_some, sw_xc_void, if_true, if_false, reduceIte, bI_0, bI_01, n_add, n_mul, n_addL, n_Ladd, n_mulL, n_Lmul, n_sub, n_subL, n_lt, n_eq, n_ltL, n_Llt, n_eqL, n_Leq, n_nneg, n_pos]
set_option maxRecDepth 100000 in
set_option maxHeartbeats 4000000 in
theorem c_settle1 (h : t < 3) (hI : IT (S.1 t)) {k i c : Nat} (hk : k < S.1 t 0 2) (hi : i < S.1 t 0 1) : h_Town_settle_0 E [.ref (mm_tn t 0), .int (nI k), .int (nI c), .int (nI i)] (mk S) = h_Town_settle_0 E [.ref (mm_tn t 0), .int (nI k), .int (nI (kp1 k i (c, S.1 t)).1), .int (nI (i + 1))] (mk (mm_pI S t (kp1 k i (c, S.1 t)).2)) := by
  have hB := hI.b
  have hn := hI.n
  have hk2 := hI.k
  have hl := hI.len hi
  rw [u_Town_settle_0]
  unfold kp1
  by_cases hq : tw_in (S.1 t) i k = true
  · have hq1 := tw_in_lt hq
    have hm : ∀ f, mm_u (S.1 t) 7 i (S.1 t 7 i - 1) 9 f = S.1 t 9 f := fun f => by rw [mm_u_fn (by omega)]
    simp (disch := first | omega | exact hB _ _ | assumption | decide) only [st_Town_settle, mr_town E _ t h, hi, c_pl_y E S t h hI hi (k := k) (by omega) hq, hq, mw_t10 _ h, mw_t6 _ h, hm, mm_pI_at, mm_pI_pI, mm_pI_2, mm_pL_1, mm_pL_at, mm_pL_pL, mm_pL_3, mm_pM_1, mm_pM_2, mm_pM_at, mm_pM_pM, mm_pI_pL, mm_pI_pM, mm_pL_pM, Bool.false_eq_true, n_10, true_and, and_true, false_and, and_false, Nat.not_lt_zero, true_or, or_true, eq_self, mm_z, mm_rs, sw_xc_ite, sw_xv_ite, n_m1, Nat.lt_irrefl, not_false_eq_true, not_true_eq_false, inS_0, inS_1, ite_not, sw_xv_some, sw_xm_some, sw_xc_some, sw_xc_void, if_true, if_false, reduceIte, bI_0, bI_01, n_add, n_mul, n_addL, n_Ladd, n_mulL, n_Lmul, n_sub, n_subL, n_lt, n_eq, n_ltL, n_Llt, n_eqL, n_Leq, n_nneg, n_pos]
  · simp (disch := first | omega | exact hB _ _ | assumption | decide) only [st_Town_settle, mr_town E _ t h, hi, c_pl_n E S t h hI hi (k := k) (by omega) hq, hq, mm_pI_at, mm_pI_pI, mm_pI_2, mm_pL_1, mm_pL_at, mm_pL_pL, mm_pL_3, mm_pM_1, mm_pM_2, mm_pM_at, mm_pM_pM, mm_pI_pL, mm_pI_pM, mm_pL_pM, Bool.false_eq_true, n_10, true_and, and_true, false_and, and_false, Nat.not_lt_zero, true_or, or_true, eq_self, mm_z, mm_rs, sw_xc_ite, sw_xv_ite, n_m1, Nat.lt_irrefl, not_false_eq_true, not_true_eq_false, inS_0, inS_1, ite_not, sw_xv_some, sw_xm_some, sw_xc_some, sw_xc_void, if_true, if_false, reduceIte, bI_0, bI_01, n_add, n_mul, n_addL, n_Ladd, n_mulL, n_Lmul, n_sub, n_subL, n_lt, n_eq, n_ltL, n_Llt, n_eqL, n_Leq, n_nneg, n_pos]
    simp [hq, mm_pI_id]
set_option maxRecDepth 100000 in
set_option maxHeartbeats 4000000 in
theorem c_Town_settle (h : t < 3) (hI : IT (S.1 t)) {k : Nat} (hk : k < S.1 t 0 2) : f_Town_settle E (.ref (mm_tn t 0)) (.int (nI k)) (mk S) = some (some (.int (nI (tw_kp (S.1 t) k).1)), mk (mm_pI S t (tw_kp (S.1 t) k).2)) := by
  have hk2 := hI.k
  have hn := hI.n
  have key := lp_up (G := fun i a => h_Town_settle_0 E [.ref (mm_tn t 0), .int (nI k), .int (nI a.1), .int (nI i)] (mk (mm_pI S t a.2))) (P := fun _ a => IT a.2 ∧ a.2 0 = S.1 t 0) (f := kp1 k) (fin := fun a => some (some (.int (nI a.1)), mk (mm_pI S t (mm_u a.2 13 k 1)))) (n := S.1 t 0 1) (a0 := (0, S.1 t)) ⟨hI, rfl⟩ (fun i a hi hP => ?_) (fun a hP => ?_)
  · simp only [e_Town_settle, st_Town_settle]
    simp only [mm_pI_id] at key
    exact key
  · obtain ⟨h1, h2⟩ := hP
    obtain ⟨g1, g2⟩ := kp1_IT (x := i) h1 (by rw [h2]; exact hk)
    refine ⟨?_, g1, g2.trans h2⟩
    have := c_settle1 E (mm_pI S t a.2) t h (by rw [mm_pI_at]; exact h1) (k := k) (i := i) (c := a.1) (by rw [mm_pI_at, h2]; exact hk) (by rw [mm_pI_at, h2]; exact hi)
    rw [this, mm_pI_at, mm_pI_pI]
  · obtain ⟨h1, h2⟩ := hP
    have hB := h1.b
    rw [u_Town_settle_0]
    simp (disch := first | omega | exact hB _ _ | assumption | decide) only [st_Town_settle, mr_town E _ t h, h2, mw_t17 _ h, show (1 : Int32) = nI 1 from rfl, mm_pI_at, mm_pI_pI, mm_pI_2, mm_pL_1, mm_pL_at, mm_pL_pL, mm_pL_3, mm_pM_1, mm_pM_2, mm_pM_at, mm_pM_pM, mm_pI_pL, mm_pI_pM, mm_pL_pM, Bool.false_eq_true, n_10, true_and, and_true, false_and, and_false, Nat.not_lt_zero, true_or, or_true, eq_self, mm_z, mm_rs, sw_xc_ite, sw_xv_ite, n_m1, Nat.lt_irrefl, not_false_eq_true, not_true_eq_false, inS_0, inS_1, ite_not, sw_xv_some, sw_xm_some, sw_xc_some, sw_xc_void, if_true, if_false, reduceIte, bI_0, bI_01, n_add, n_mul, n_addL, n_Ladd, n_mulL, n_Lmul, n_sub, n_subL, n_lt, n_eq, n_ltL, n_Llt, n_eqL, n_Leq, n_nneg, n_pos]
set_option maxRecDepth 100000 in
set_option maxHeartbeats 4000000 in
theorem c_Town_settleRound (h : t < 3) (hI : IT (S.1 t)) : f_Town_settleRound E (.ref (mm_tn t 0)) (mk S) = some (some (.int (nI (tw_sr (S.1 t)).1)), mk (mm_pI S t (tw_sr (S.1 t)).2)) := by
  have hk2 := hI.k
  have key := lp_up (G := fun i a => h_Town_settleRound_0 E [.ref (mm_tn t 0), .int (nI a.1), .int (nI i)] (mk (mm_pI S t a.2))) (P := fun _ a => IT a.2 ∧ a.2 0 = S.1 t 0) (f := sr1) (fin := fun a => some (some (.int (nI a.1)), mk (mm_pI S t a.2))) (n := S.1 t 0 2) (a0 := (0, S.1 t)) ⟨hI, rfl⟩ (fun i a hi hP => ?_) (fun a hP => ?_)
  · simp only [e_Town_settleRound, st_Town_settleRound]
    simp only [mm_pI_id] at key
    exact key
  · obtain ⟨h1, h2⟩ := hP
    obtain ⟨g1, g2⟩ := sr1_IT (k := i) h1 (by rw [h2]; exact hi)
    refine ⟨?_, g1, g2.trans h2⟩
    have hB := h1.b
    rw [u_Town_settleRound_0]
    have hI' : IT ((mm_pI S t a.2).1 t) := by rw [mm_pI_at]; exact h1
    have hi' : i < (mm_pI S t a.2).1 t 0 2 := by rw [mm_pI_at, h2]; exact hi
    unfold sr1
    simp (disch := first | omega | exact hB _ _ | assumption | decide) only [st_Town_settleRound, mr_town E _ t h, h2, hi, c_Town_canSettle E _ t h hI' hi', c_Town_settle E _ t h hI' hi', mm_pI_at, mm_pI_pI, mm_pI_2, mm_pL_1, mm_pL_at, mm_pL_pL, mm_pL_3, mm_pM_1, mm_pM_2, mm_pM_at, mm_pM_pM, mm_pI_pL, mm_pI_pM, mm_pL_pM, Bool.false_eq_true, n_10, true_and, and_true, false_and, and_false, Nat.not_lt_zero, true_or, or_true, eq_self, mm_z, mm_rs, sw_xc_ite, sw_xv_ite, n_m1, Nat.lt_irrefl, not_false_eq_true, not_true_eq_false, inS_0, inS_1, ite_not, sw_xv_some, sw_xm_some, sw_xc_some, sw_xc_void, if_true, if_false, reduceIte, bI_0, bI_01, n_add, n_mul, n_addL, n_Ladd, n_mulL, n_Lmul, n_sub, n_subL, n_lt, n_eq, n_ltL, n_Llt, n_eqL, n_Leq, n_nneg, n_pos]
    by_cases h3 : tw_can a.2 i = true <;> simp [h3]
  · obtain ⟨h1, h2⟩ := hP
    have hB := h1.b
    rw [u_Town_settleRound_0]
    simp (disch := first | omega | exact hB _ _ | assumption | decide) only [st_Town_settleRound, mr_town E _ t h, h2, mm_pI_at, mm_pI_pI, mm_pI_2, mm_pL_1, mm_pL_at, mm_pL_pL, mm_pL_3, mm_pM_1, mm_pM_2, mm_pM_at, mm_pM_pM, mm_pI_pL, mm_pI_pM, mm_pL_pM, Bool.false_eq_true, n_10, true_and, and_true, false_and, and_false, Nat.not_lt_zero, true_or, or_true, eq_self, mm_z, mm_rs, sw_xc_ite, sw_xv_ite, n_m1, Nat.lt_irrefl, not_false_eq_true, not_true_eq_false, inS_0, inS_1, ite_not, sw_xv_some, sw_xm_some, sw_xc_some, sw_xc_void, if_true, if_false, reduceIte, bI_0, bI_01, n_add, n_mul, n_addL, n_Ladd, n_mulL, n_Lmul, n_sub, n_subL, n_lt, n_eq, n_ltL, n_Llt, n_eqL, n_Leq, n_nneg, n_pos]
set_option maxRecDepth 100000 in
set_option maxHeartbeats 4000000 in
theorem c_fail1 (h : t < 3) (hI : IT (S.1 t)) {k i c : Nat} (d5 d6 : Value) (hk : k < S.1 t 0 2) (hi : i < S.1 t 0 1) : ∃ d5' d6', h_Town_fail_0 E [.ref (mm_tn t 0), .int (nI k), .int (nI (S.1 t 10 k)), .int (nI c), .int (nI i), d5, d6] (mk S) = h_Town_fail_0 E [.ref (mm_tn t 0), .int (nI k), .int (nI (S.1 t 10 k)), .int (nI (fl1 k i (c, S.1 t, S.2.1 t)).1), .int (nI (i + 1)), d5', d6'] (mk (mm_pL (mm_pI S t (fl1 k i (c, S.1 t, S.2.1 t)).2.1) t (fl1 k i (c, S.1 t, S.2.1 t)).2.2)) := by
  have hB := hI.b
  have hn := hI.n
  have hp := hI.p
  have hk2 := hI.k
  have hl := hI.len hi
  have ho := (hI.th i hi).1
  rw [u_Town_fail_0]
  unfold fl1
  by_cases hq : tw_in (S.1 t) i k = true
  · have hq1 := tw_in_lt hq
    refine ⟨.int (nI (tw_pl (S.1 t) i k)), .int (nI (S.1 t 2 i)), ?_⟩
    have e7 : mm_u (S.1 t) 2 i (S.1 t 10 k) 7 i = S.1 t 7 i := by rw [mm_u_fn (by omega)]
    have hd : ∀ H, f_Things_dropFirst E (.ref (mm_tn t 4)) (.int (nI i)) (.int (nI (tw_pl (S.1 t) i k + 1))) (mk (mm_pL (mm_pI S t (mm_u (S.1 t) 2 i (S.1 t 10 k))) t H)) = _ := fun H => c_Things_dropFirst E (mm_pL (mm_pI S t (mm_u (S.1 t) 2 i (S.1 t 10 k))) t H) t h (by rw [mm_pL_1, mm_pI_at]; exact mm_u_b hB (hB _ _)) (x := i) (m := tw_pl (S.1 t) i k + 1) (by omega) (by rw [mm_pL_1, mm_pI_at, e7]; omega) (by rw [mm_pL_1, mm_pI_at, e7]; omega)
    simp (disch := first | omega | exact hB _ _ | assumption | decide) only [st_Town_fail, mr_town E _ t h, hi, c_pl_y E S t h hI hi (k := k) (by omega) hq, hq, mw_t3 _ h, mw_t5 _ h, hd, mm_pI_at, mm_pI_pI, mm_pI_2, mm_pL_1, mm_pL_at, mm_pL_pL, mm_pL_3, mm_pM_1, mm_pM_2, mm_pM_at, mm_pM_pM, mm_pI_pL, mm_pI_pM, mm_pL_pM, Bool.false_eq_true, n_10, true_and, and_true, false_and, and_false, Nat.not_lt_zero, true_or, or_true, eq_self, mm_z, mm_rs, sw_xc_ite, sw_xv_ite, n_m1, Nat.lt_irrefl, not_false_eq_true, not_true_eq_false, inS_0, inS_1, ite_not, sw_xv_some, sw_xm_some, sw_xc_some, sw_xc_void, if_true, if_false, reduceIte, bI_0, bI_01, n_add, n_mul, n_addL, n_Ladd, n_mulL, n_Lmul, n_sub, n_subL, n_lt, n_eq, n_ltL, n_Llt, n_eqL, n_Leq, n_nneg, n_pos]
    by_cases h1 : S.1 t 2 i = S.1 t 10 k <;> simp [h1]
  · refine ⟨.int (-1), d6, ?_⟩
    simp (disch := first | omega | exact hB _ _ | assumption | decide) only [st_Town_fail, mr_town E _ t h, hi, c_pl_n E S t h hI hi (k := k) (by omega) hq, hq, mm_pI_at, mm_pI_pI, mm_pI_2, mm_pL_1, mm_pL_at, mm_pL_pL, mm_pL_3, mm_pM_1, mm_pM_2, mm_pM_at, mm_pM_pM, mm_pI_pL, mm_pI_pM, mm_pL_pM, Bool.false_eq_true, n_10, true_and, and_true, false_and, and_false, Nat.not_lt_zero, true_or, or_true, eq_self, mm_z, mm_rs, sw_xc_ite, sw_xv_ite, n_m1, Nat.lt_irrefl, not_false_eq_true, not_true_eq_false, inS_0, inS_1, ite_not, sw_xv_some, sw_xm_some, sw_xc_some, sw_xc_void, if_true, if_false, reduceIte, bI_0, bI_01, n_add, n_mul, n_addL, n_Ladd, n_mulL, n_Lmul, n_sub, n_subL, n_lt, n_eq, n_ltL, n_Llt, n_eqL, n_Leq, n_nneg, n_pos]
    simp [hq, mm_pI_id, mm_pL_id]
set_option maxRecDepth 100000 in
set_option maxHeartbeats 4000000 in
theorem c_Town_fail (h : t < 3) (hI : IT (S.1 t)) {k : Nat} (hk : k < S.1 t 0 2) : f_Town_fail E (.ref (mm_tn t 0)) (.int (nI k)) (mk S) = some (some (.int (nI (tw_fl (S.1 t) (S.2.1 t) k).1)), mk (mm_pL (mm_pI S t (tw_fl (S.1 t) (S.2.1 t) k).2.1) t (tw_fl (S.1 t) (S.2.1 t) k).2.2)) := by
  have hk2 := hI.k
  have hn := hI.n
  have hB := hI.b
  have key := lp_upD (δ := Value × Value) (G := fun i d a => h_Town_fail_0 E [.ref (mm_tn t 0), .int (nI k), .int (nI (S.1 t 10 k)), .int (nI a.1), .int (nI i), d.1, d.2] (mk (mm_pL (mm_pI S t a.2.1) t a.2.2))) (P := fun _ a => IT a.2.1 ∧ a.2.1 0 = S.1 t 0 ∧ a.2.1 10 = S.1 t 10) (f := fl1 k) (fin := fun a => some (some (.int (nI a.1)), mk (mm_pL (mm_pI S t (mm_u a.2.1 13 k 2)) t a.2.2))) (n := S.1 t 0 1) (a0 := (0, S.1 t, S.2.1 t)) ⟨hI, rfl, rfl⟩ (fun i d a hi hP => ?_) (fun d a hP => ?_) (sw_J, sw_J)
  · simp only [mm_pI_id, mm_pL_id] at key
    simp (disch := first | omega | exact hB _ _ | assumption | decide) only [e_Town_fail, st_Town_fail, mr_town E _ t h, mm_pI_at, mm_pI_pI, mm_pI_2, mm_pL_1, mm_pL_at, mm_pL_pL, mm_pL_3, mm_pM_1, mm_pM_2, mm_pM_at, mm_pM_pM, mm_pI_pL, mm_pI_pM, mm_pL_pM, Bool.false_eq_true, n_10, true_and, and_true, false_and, and_false, Nat.not_lt_zero, true_or, or_true, eq_self, mm_z, mm_rs, sw_xc_ite, sw_xv_ite, n_m1, Nat.lt_irrefl, not_false_eq_true, not_true_eq_false, inS_0, inS_1, ite_not, sw_xv_some, sw_xm_some, sw_xc_some, sw_xc_void, if_true, if_false, reduceIte, bI_0, bI_01, n_add, n_mul, n_addL, n_Ladd, n_mulL, n_Lmul, n_sub, n_subL, n_lt, n_eq, n_ltL, n_Llt, n_eqL, n_Leq, n_nneg, n_pos]
    exact key
  · obtain ⟨h1, h2, h3⟩ := hP
    obtain ⟨g1, g2⟩ := fl1_IT (x := i) (k := k) h1 (by rw [h2]; exact hk) (by rw [h2]; exact hi)
    refine ⟨?_, g1, g2.trans h2, ?_⟩
    · have := c_fail1 E (mm_pL (mm_pI S t a.2.1) t a.2.2) t h (by rw [mm_pL_1, mm_pI_at]; exact h1) (k := k) (i := i) (c := a.1) d.1 d.2 (by rw [mm_pL_1, mm_pI_at, h2]; exact hk) (by rw [mm_pL_1, mm_pI_at, h2]; exact hi)
      obtain ⟨d5, d6, e⟩ := this
      refine ⟨(d5, d6), ?_⟩
      rw [mm_pL_at, mm_pL_1, mm_pI_at, h3, mm_pI_pL, mm_pL_pL, mm_pI_pI] at e
      exact e
    · rw [← h3]
      unfold fl1
      split
      · show tw_drop _ _ _ 10 = _
        rw [tw_drop_ne (by omega) (by omega), mm_u_fn (by omega)]
      · rfl
  · obtain ⟨h1, h2, h3⟩ := hP
    have hB := h1.b
    rw [u_Town_fail_0]
    simp (disch := first | omega | exact hB _ _ | assumption | decide) only [st_Town_fail, mr_town E _ t h, h2, mw_t17 _ h, show (2 : Int32) = nI 2 from rfl, mm_pI_at, mm_pI_pI, mm_pI_2, mm_pL_1, mm_pL_at, mm_pL_pL, mm_pL_3, mm_pM_1, mm_pM_2, mm_pM_at, mm_pM_pM, mm_pI_pL, mm_pI_pM, mm_pL_pM, Bool.false_eq_true, n_10, true_and, and_true, false_and, and_false, Nat.not_lt_zero, true_or, or_true, eq_self, mm_z, mm_rs, sw_xc_ite, sw_xv_ite, n_m1, Nat.lt_irrefl, not_false_eq_true, not_true_eq_false, inS_0, inS_1, ite_not, sw_xv_some, sw_xm_some, sw_xc_some, sw_xc_void, if_true, if_false, reduceIte, bI_0, bI_01, n_add, n_mul, n_addL, n_Ladd, n_mulL, n_Lmul, n_sub, n_subL, n_lt, n_eq, n_ltL, n_Llt, n_eqL, n_Leq, n_nneg, n_pos]
set_option maxRecDepth 100000 in
set_option maxHeartbeats 4000000 in
theorem c_Town_passDay (h : t < 3) (hI : IT (S.1 t)) (hd : S.1 t 0 3 < 999) : f_Town_passDay E (.ref (mm_tn t 0)) (mk S) = some (some (.int (nI (tw_pd (S.1 t) (S.2.1 t)).1)), mk (mm_pL (mm_pI S t (tw_pd (S.1 t) (S.2.1 t)).2.1) t (tw_pd (S.1 t) (S.2.1 t)).2.2)) := by
  have hk2 := hI.k
  have hB := hI.b
  have hI0 := IT_u03 hI (v := S.1 t 0 3 + 1) (by omega)
  have hI1 := IT_rot hI0
  have hz : ∀ j, mm_u (S.1 t) 0 3 (S.1 t 0 3 + 1) 0 j = if j = 3 then S.1 t 0 3 + 1 else S.1 t 0 j := fun j => by simp [mm_u]
  have key := lp_up (G := fun i a => h_Town_passDay_0 E [.ref (mm_tn t 0), .int (nI a.1), .int (nI i)] (mk (mm_pL (mm_pI S t a.2.1) t a.2.2))) (P := fun _ a => IT a.2.1 ∧ a.2.1 0 = mm_u (S.1 t) 0 3 (S.1 t 0 3 + 1) 0) (f := pd1) (fin := fun a => some (some (.int (nI a.1)), mk (mm_pL (mm_pI S t a.2.1) t a.2.2))) (n := S.1 t 0 2) (a0 := (0, tw_rot (mm_u (S.1 t) 0 3 (S.1 t 0 3 + 1)), S.2.1 t)) ⟨hI1.1, hI1.2⟩ (fun i a hi hP => ?_) (fun a hP => ?_)
  · have hr : f_Things_rot E (.ref (mm_tn t 4)) (mk (mm_pI S t (mm_u (S.1 t) 0 3 (S.1 t 0 3 + 1)))) = _ := c_Things_rot E (mm_pI S t (mm_u (S.1 t) 0 3 (S.1 t 0 3 + 1))) t h (by rw [mm_pI_at]; exact hI0)
    rw [mm_pI_at, mm_pI_pI] at hr
    simp (disch := first | omega | exact hB _ _ | assumption | decide) only [e_Town_passDay, st_Town_passDay, mr_town E _ t h, mw_t0_5 _ h, hr, mm_pI_at, mm_pI_pI, mm_pI_2, mm_pL_1, mm_pL_at, mm_pL_pL, mm_pL_3, mm_pM_1, mm_pM_2, mm_pM_at, mm_pM_pM, mm_pI_pL, mm_pI_pM, mm_pL_pM, Bool.false_eq_true, n_10, true_and, and_true, false_and, and_false, Nat.not_lt_zero, true_or, or_true, eq_self, mm_z, mm_rs, sw_xc_ite, sw_xv_ite, n_m1, Nat.lt_irrefl, not_false_eq_true, not_true_eq_false, inS_0, inS_1, ite_not, sw_xv_some, sw_xm_some, sw_xc_some, sw_xc_void, if_true, if_false, reduceIte, bI_0, bI_01, n_add, n_mul, n_addL, n_Ladd, n_mulL, n_Lmul, n_sub, n_subL, n_lt, n_eq, n_ltL, n_Llt, n_eqL, n_Leq, n_nneg, n_pos]
    have e : ∀ T, mm_pL (mm_pI S t T) t (S.2.1 t) = mm_pI S t T := fun T => mm_pL_id (mm_pI S t T) t
    simp only [e] at key
    exact key
  · obtain ⟨h1, h2⟩ := hP
    have h02 : a.2.1 0 2 = S.1 t 0 2 := by rw [h2, hz]; simp
    obtain ⟨g1, g2⟩ := pd1_IT (k := i) h1 (by rw [h02]; exact hi)
    refine ⟨?_, g1, g2.trans h2⟩
    have hB := h1.b
    rw [u_Town_passDay_0]
    have hI' : IT ((mm_pL (mm_pI S t a.2.1) t a.2.2).1 t) := by rw [mm_pL_1, mm_pI_at]; exact h1
    have hi' : i < (mm_pL (mm_pI S t a.2.1) t a.2.2).1 t 0 2 := by rw [mm_pL_1, mm_pI_at, h02]; exact hi
    unfold pd1
    simp (disch := first | omega | exact hB _ _ | assumption | decide) only [st_Town_passDay, mr_town E _ t h, h02, hi, e_Promises_isOpen, st_Promises_isOpen, c_Town_fail E _ t h hI' hi', mm_pI_at, mm_pI_pI, mm_pI_2, mm_pL_1, mm_pL_at, mm_pL_pL, mm_pL_3, mm_pM_1, mm_pM_2, mm_pM_at, mm_pM_pM, mm_pI_pL, mm_pI_pM, mm_pL_pM, Bool.false_eq_true, n_10, true_and, and_true, false_and, and_false, Nat.not_lt_zero, true_or, or_true, eq_self, mm_z, mm_rs, sw_xc_ite, sw_xv_ite, n_m1, Nat.lt_irrefl, not_false_eq_true, not_true_eq_false, inS_0, inS_1, ite_not, sw_xv_some, sw_xm_some, sw_xc_some, sw_xc_void, if_true, if_false, reduceIte, bI_0, bI_01, n_add, n_mul, n_addL, n_Ladd, n_mulL, n_Lmul, n_sub, n_subL, n_lt, n_eq, n_ltL, n_Llt, n_eqL, n_Leq, n_nneg, n_pos]
    by_cases h3 : a.2.1 13 i = 0 <;> by_cases h4 : a.2.1 12 i < a.2.1 0 3 <;> simp [h3, h4]
  · obtain ⟨h1, h2⟩ := hP
    have h02 : a.2.1 0 2 = S.1 t 0 2 := by rw [h2, hz]; simp
    have hB := h1.b
    rw [u_Town_passDay_0]
    simp (disch := first | omega | exact hB _ _ | assumption | decide) only [st_Town_passDay, mr_town E _ t h, h02, mm_pI_at, mm_pI_pI, mm_pI_2, mm_pL_1, mm_pL_at, mm_pL_pL, mm_pL_3, mm_pM_1, mm_pM_2, mm_pM_at, mm_pM_pM, mm_pI_pL, mm_pI_pM, mm_pL_pM, Bool.false_eq_true, n_10, true_and, and_true, false_and, and_false, Nat.not_lt_zero, true_or, or_true, eq_self, mm_z, mm_rs, sw_xc_ite, sw_xv_ite, n_m1, Nat.lt_irrefl, not_false_eq_true, not_true_eq_false, inS_0, inS_1, ite_not, sw_xv_some, sw_xm_some, sw_xc_some, sw_xc_void, if_true, if_false, reduceIte, bI_0, bI_01, n_add, n_mul, n_addL, n_Ladd, n_mulL, n_Lmul, n_sub, n_subL, n_lt, n_eq, n_ltL, n_Llt, n_eqL, n_Leq, n_nneg, n_pos]
set_option maxRecDepth 100000 in
set_option maxHeartbeats 4000000 in
theorem c_Town_harmOf (h : t < 3) (hI : IT (S.1 t)) {k : Nat} (hk : k < 2147483648) : f_Town_harmOf E (.ref (mm_tn t 0)) (.int (nI k)) (mk S) = some (some (.int (nI (tw_sum (S.1 t 0 1) (inS (tw_be (S.1 t) k)) (S.1 t 4)))), mk S) := by
  have hB := hI.b
  simp (disch := first | omega | exact hB _ _ | assumption | decide) only [e_Town_harmOf, st_Town_harmOf, mr_town E S t h, c_Things_behind E S t h hI hk, c_Things_basesOf E S t h hI, Bool.false_eq_true, n_10, true_and, and_true, false_and, and_false, Nat.not_lt_zero, true_or, or_true, eq_self, mm_z, mm_rs, sw_xc_ite, sw_xv_ite, n_m1, Nat.lt_irrefl, not_false_eq_true, not_true_eq_false, inS_0, inS_1, ite_not, sw_xv_some, sw_xm_some, sw_xc_some, sw_xc_void, if_true, if_false, reduceIte, bI_0, bI_01, n_add, n_mul, n_addL, n_Ladd, n_mulL, n_Lmul, n_sub, n_subL, n_lt, n_eq, n_ltL, n_Llt, n_eqL, n_Leq, n_nneg, n_pos]
end C43
/-- the harm that a break would do -/
def tw_harm (T : Nat → Nat → Nat) (k : Nat) : Nat := tw_sum (T 0 1) (fun x => tw_in T x k) (T 4)
theorem tw_harm_eq {T : Nat → Nat → Nat} (h : IT T) (k : Nat) : tw_sum (T 0 1) (inS (tw_be T k)) (T 4) = tw_harm T k := by
  have hn := h.n
  exact tw_sum_cong (fun i hi => inS_set (by omega) hi) (fun _ _ => rfl)
theorem tw_harm_le {T : Nat → Nat → Nat} (h : IT T) (k : Nat) : tw_harm T k ≤ 16 * 9999 := by
  have := tw_sum_le (n := T 0 1) (c := 9999) (p := fun x => tw_in T x k) (v := T 4) (fun i hi _ => (h.th i hi).2.2.1)
  have hn := h.n
  exact Nat.le_trans this (Nat.mul_le_mul_right _ hn)
/-- the open promise whose break would do most harm -/
def wo1 (T : Nat → Nat → Nat) (k : Nat) (o : Option Nat) : Option Nat := match o with
  | none => if T 13 k = 0 then some k else none
  | some b => if T 13 k = 0 ∧ tw_harm T b < tw_harm T k then some k else some b
def tw_worst (T : Nat → Nat → Nat) : Option Nat := lp (wo1 T) (T 0 2) none
def oI (o : Option Nat) : Int32 := match o with
  | none => -1
  | some k => nI k
section C43b
variable (E : sw_E) (S : sw_S) (t : Nat)
set_option maxRecDepth 100000 in
set_option maxHeartbeats 4000000 in
theorem c_Town_mostHarmful (h : t < 3) (hI : IT (S.1 t)) : f_Town_mostHarmful E (.ref (mm_tn t 0)) (mk S) = some (some (.int (oI (tw_worst (S.1 t)))), mk S) := by
  have hB := hI.b
  have hk := hI.k
  have key := lp_up' (G := fun i o => h_Town_mostHarmful_0 E [.ref (mm_tn t 0), .int (oI o), .int (oI (o.map (tw_harm (S.1 t)))), .int (nI i)] (mk S)) (f := wo1 (S.1 t)) (fin := fun o => some (some (.int (oI o)), mk S)) (n := S.1 t 0 2) (a0 := none) (fun i o hi => ?_) (fun a => ?_)
  · simp only [e_Town_mostHarmful, st_Town_mostHarmful]
    exact key
  · have hh : f_Town_harmOf E (.ref (mm_tn t 0)) (.int (nI i)) (mk S) = _ := c_Town_harmOf E S t h hI (k := i) (by omega)
    rw [tw_harm_eq hI] at hh
    have hle := tw_harm_le hI i
    rw [u_Town_mostHarmful_0]
    cases o with
    | none =>
      have hm : (-1 : Int32) < nI (tw_harm (S.1 t) i) := by
        rw [Int32.lt_iff_toInt_lt, nI_toInt (by omega)]
        have : (-1 : Int32).toInt = -1 := by decide
        omega
      simp only [wo1, oI, Option.map_none]
      simp (disch := first | omega | exact hB _ _ | assumption | decide) only [st_Town_mostHarmful, mr_town E S t h, hi, e_Promises_isOpen, st_Promises_isOpen, hh, hm, Bool.false_eq_true, n_10, true_and, and_true, false_and, and_false, Nat.not_lt_zero, true_or, or_true, eq_self, mm_z, mm_rs, sw_xc_ite, sw_xv_ite, n_m1, Nat.lt_irrefl, not_false_eq_true, not_true_eq_false, inS_0, inS_1, ite_not, sw_xv_some, sw_xm_some, sw_xc_some, sw_xc_void, if_true, if_false, reduceIte, bI_0, bI_01, n_add, n_mul, n_addL, n_Ladd, n_mulL, n_Lmul, n_sub, n_subL, n_lt, n_eq, n_ltL, n_Llt, n_eqL, n_Leq, n_nneg, n_pos]
      by_cases h1 : S.1 t 13 i = 0 <;> simp [h1, oI]
    | some b =>
      have hleb := tw_harm_le hI b
      simp only [wo1, oI, Option.map_some]
      simp (disch := first | omega | exact hB _ _ | assumption | decide) only [st_Town_mostHarmful, mr_town E S t h, hi, e_Promises_isOpen, st_Promises_isOpen, hh, Bool.false_eq_true, n_10, true_and, and_true, false_and, and_false, Nat.not_lt_zero, true_or, or_true, eq_self, mm_z, mm_rs, sw_xc_ite, sw_xv_ite, n_m1, Nat.lt_irrefl, not_false_eq_true, not_true_eq_false, inS_0, inS_1, ite_not, sw_xv_some, sw_xm_some, sw_xc_some, sw_xc_void, if_true, if_false, reduceIte, bI_0, bI_01, n_add, n_mul, n_addL, n_Ladd, n_mulL, n_Lmul, n_sub, n_subL, n_lt, n_eq, n_ltL, n_Llt, n_eqL, n_Leq, n_nneg, n_pos]
      by_cases h1 : S.1 t 13 i = 0 <;> by_cases h2 : tw_harm (S.1 t) b < tw_harm (S.1 t) i <;> simp [h1, h2, oI]
  · rw [u_Town_mostHarmful_0]
    simp (disch := first | omega | exact hB _ _ | assumption | decide) only [st_Town_mostHarmful, mr_town E S t h, Bool.false_eq_true, n_10, true_and, and_true, false_and, and_false, Nat.not_lt_zero, true_or, or_true, eq_self, mm_z, mm_rs, sw_xc_ite, sw_xv_ite, n_m1, Nat.lt_irrefl, not_false_eq_true, not_true_eq_false, inS_0, inS_1, ite_not, sw_xv_some, sw_xm_some, sw_xc_some, sw_xc_void, if_true, if_false, reduceIte, bI_0, bI_01, n_add, n_mul, n_addL, n_Ladd, n_mulL, n_Lmul, n_sub, n_subL, n_lt, n_eq, n_ltL, n_Llt, n_eqL, n_Leq, n_nneg, n_pos]
set_option maxRecDepth 100000 in
set_option maxHeartbeats 4000000 in
theorem c_takeOff1 (h : t < 3) (hI : IT (S.1 t)) {p q k l : Nat} {a3 : Value} (d : Value) (hp : p < 2147483648) (hq : q < 2147483648) (hl : 0 < l) (hl2 : l < 2147483648) (hk : k < S.1 t 0 2) : ∃ d', h_Town_takeOff_0 E [.ref (mm_tn t 0), .int (nI p), .int (nI q), a3, .int (nI l), .int (nI k), d] (mk S) = h_Town_takeOff_0 E [.ref (mm_tn t 0), .int (nI p), .int (nI q), a3, .int (nI (to1 p q k (l, S.1 t)).1), .int (nI (k + 1)), d'] (mk (mm_pI S t (to1 p q k (l, S.1 t)).2)) := by
  have hB := hI.b
  have hk2 := hI.k
  have hs := (hI.pr k hk).2.2.2.1
  rw [u_Town_takeOff_0]
  by_cases h1 : S.1 t 13 k = 0 ∧ S.1 t 9 k = p ∧ S.1 t 10 k = q
  · obtain ⟨h1, h2, h3⟩ := h1
    by_cases h4 : 0 < S.1 t 11 k
    · by_cases h5 : l < S.1 t 11 k
      · have et : to1 p q k (l, S.1 t) = (0, mm_u (S.1 t) 11 k (S.1 t 11 k - l)) := by
          unfold to1
          rw [if_pos ⟨hl, ⟨h1, h2, h3⟩, h4⟩, if_neg (fun g => absurd g.1 (by simp only; omega))]
          simp only [Prod.mk.injEq, and_true]; omega
        have h6 : ¬ S.1 t 11 k - l = 0 := by omega
        have h7 : ¬ S.1 t 11 k < l := by omega
        rw [et]
        refine ⟨.int (nI l), ?_⟩
        simp (disch := first | omega | exact hB _ _ | assumption | decide) only [st_Town_takeOff, mr_town E _ t h, hk, e_Promises_isOpenBetween, st_Promises_isOpenBetween, e_Promises_isOpen, st_Promises_isOpen, h1, h2, h3, h4, h7, hl, mw_t15 _ h, mm_u_at, h6, Nat.sub_self, mm_pI_at, mm_pI_pI, mm_pI_2, mm_pL_1, mm_pL_at, mm_pL_pL, mm_pL_3, mm_pM_1, mm_pM_2, mm_pM_at, mm_pM_pM, mm_pI_pL, mm_pI_pM, mm_pL_pM, Bool.false_eq_true, n_10, true_and, and_true, false_and, and_false, Nat.not_lt_zero, true_or, or_true, eq_self, mm_z, mm_rs, sw_xc_ite, sw_xv_ite, n_m1, Nat.lt_irrefl, not_false_eq_true, not_true_eq_false, inS_0, inS_1, ite_not, sw_xv_some, sw_xm_some, sw_xc_some, sw_xc_void, if_true, if_false, reduceIte, bI_0, bI_01, n_add, n_mul, n_addL, n_Ladd, n_mulL, n_Lmul, n_sub, n_subL, n_lt, n_eq, n_ltL, n_Llt, n_eqL, n_Leq, n_nneg, n_pos]
      · have h6 : S.1 t 11 k - l = 0 := by omega
        have h7 : S.1 t 11 k ≤ l := by omega
        have et : to1 p q k (l, S.1 t) = (l - S.1 t 11 k, if tw_last (mm_u (S.1 t) 11 k 0) k = true then (tw_kp (mm_u (S.1 t) 11 k 0) k).2 else mm_u (S.1 t) 11 k 0) := by
          unfold to1
          rw [if_pos ⟨hl, ⟨h1, h2, h3⟩, h4⟩]
          simp only [h6, h7, true_and]
        have hI1 : IT (mm_u (S.1 t) 11 k 0) := IT_u11 hI (by omega)
        have hI' : IT ((mm_pI S t (mm_u (S.1 t) 11 k 0)).1 t) := by rw [mm_pI_at]; exact hI1
        have hk' : k < (mm_pI S t (mm_u (S.1 t) 11 k 0)).1 t 0 2 := by rw [mm_pI_at]; exact hk
        have ec : tw_can (mm_u (S.1 t) 11 k 0) k = tw_last (mm_u (S.1 t) 11 k 0) k := by
          unfold tw_can
          rw [mm_u_fn (by omega), h1]
          simp
        have hm : (if S.1 t 11 k < l then nI (S.1 t 11 k) else nI l) = nI (S.1 t 11 k) := by
          split
          · rfl
          · rw [show S.1 t 11 k = l by omega]
        rw [et]
        refine ⟨.int (nI (S.1 t 11 k)), ?_⟩
        simp (disch := first | omega | exact hB _ _ | assumption | decide) only [st_Town_takeOff, mr_town E _ t h, hk, e_Promises_isOpenBetween, st_Promises_isOpenBetween, e_Promises_isOpen, st_Promises_isOpen, h1, h2, h3, h4, hm, hl, mw_t15 _ h, mm_u_at, Nat.sub_self, c_Town_canSettle E _ t h hI' hk', c_Town_settle E _ t h hI' hk', ec, mm_pI_at, mm_pI_pI, mm_pI_2, mm_pL_1, mm_pL_at, mm_pL_pL, mm_pL_3, mm_pM_1, mm_pM_2, mm_pM_at, mm_pM_pM, mm_pI_pL, mm_pI_pM, mm_pL_pM, Bool.false_eq_true, n_10, true_and, and_true, false_and, and_false, Nat.not_lt_zero, true_or, or_true, eq_self, mm_z, mm_rs, sw_xc_ite, sw_xv_ite, n_m1, Nat.lt_irrefl, not_false_eq_true, not_true_eq_false, inS_0, inS_1, ite_not, sw_xv_some, sw_xm_some, sw_xc_some, sw_xc_void, if_true, if_false, reduceIte, bI_0, bI_01, n_add, n_mul, n_addL, n_Ladd, n_mulL, n_Lmul, n_sub, n_subL, n_lt, n_eq, n_ltL, n_Llt, n_eqL, n_Leq, n_nneg, n_pos]
        by_cases h8 : tw_last (mm_u (S.1 t) 11 k 0) k = true <;> simp [h8]
    · refine ⟨d, ?_⟩
      have et : to1 p q k (l, S.1 t) = (l, S.1 t) := by
        unfold to1
        rw [if_neg (fun g => h4 g.2.2)]
      rw [et, mm_pI_id]
      simp (disch := first | omega | exact hB _ _ | assumption | decide) only [st_Town_takeOff, mr_town E _ t h, hk, e_Promises_isOpenBetween, st_Promises_isOpenBetween, e_Promises_isOpen, st_Promises_isOpen, h1, h2, h3, h4, hl, mm_pI_at, mm_pI_pI, mm_pI_2, mm_pL_1, mm_pL_at, mm_pL_pL, mm_pL_3, mm_pM_1, mm_pM_2, mm_pM_at, mm_pM_pM, mm_pI_pL, mm_pI_pM, mm_pL_pM, Bool.false_eq_true, n_10, true_and, and_true, false_and, and_false, Nat.not_lt_zero, true_or, or_true, eq_self, mm_z, mm_rs, sw_xc_ite, sw_xv_ite, n_m1, Nat.lt_irrefl, not_false_eq_true, not_true_eq_false, inS_0, inS_1, ite_not, sw_xv_some, sw_xm_some, sw_xc_some, sw_xc_void, if_true, if_false, reduceIte, bI_0, bI_01, n_add, n_mul, n_addL, n_Ladd, n_mulL, n_Lmul, n_sub, n_subL, n_lt, n_eq, n_ltL, n_Llt, n_eqL, n_Leq, n_nneg, n_pos]
  · refine ⟨d, ?_⟩
    have et : to1 p q k (l, S.1 t) = (l, S.1 t) := by
      unfold to1
      rw [if_neg (fun g => h1 g.2.1)]
    rw [et, mm_pI_id]
    simp (disch := first | omega | exact hB _ _ | assumption | decide) only [st_Town_takeOff, mr_town E _ t h, hk, e_Promises_isOpenBetween, st_Promises_isOpenBetween, e_Promises_isOpen, st_Promises_isOpen, hl, mm_pI_at, mm_pI_pI, mm_pI_2, mm_pL_1, mm_pL_at, mm_pL_pL, mm_pL_3, mm_pM_1, mm_pM_2, mm_pM_at, mm_pM_pM, mm_pI_pL, mm_pI_pM, mm_pL_pM, Bool.false_eq_true, n_10, true_and, and_true, false_and, and_false, Nat.not_lt_zero, true_or, or_true, eq_self, mm_z, mm_rs, sw_xc_ite, sw_xv_ite, n_m1, Nat.lt_irrefl, not_false_eq_true, not_true_eq_false, inS_0, inS_1, ite_not, sw_xv_some, sw_xm_some, sw_xc_some, sw_xc_void, if_true, if_false, reduceIte, bI_0, bI_01, n_add, n_mul, n_addL, n_Ladd, n_mulL, n_Lmul, n_sub, n_subL, n_lt, n_eq, n_ltL, n_Llt, n_eqL, n_Leq, n_nneg, n_pos]
    by_cases g1 : S.1 t 13 k = 0 <;> by_cases g2 : S.1 t 9 k = p <;> by_cases g3 : S.1 t 10 k = q <;> simp_all
set_option maxRecDepth 100000 in
set_option maxHeartbeats 4000000 in
theorem c_Town_takeOff (h : t < 3) (hI : IT (S.1 t)) {p q l : Nat} (hp : p < 2147483648) (hq : q < 2147483648) (hl2 : l < 2147483648) : f_Town_takeOff E (.ref (mm_tn t 0)) (.int (nI p)) (.int (nI q)) (.int (nI l)) (mk S) = some (none, mk (mm_pI S t (tw_to (S.1 t) p q l))) := by
  have hk2 := hI.k
  have key := lp_upX (δ := Value) (G := fun i d a => h_Town_takeOff_0 E [.ref (mm_tn t 0), .int (nI p), .int (nI q), .int (nI l), .int (nI a.1), .int (nI i), d] (mk (mm_pI S t a.2))) (P := fun _ a => IT a.2 ∧ a.2 0 = S.1 t 0 ∧ a.1 < 2147483648) (live := fun a => 0 < a.1) (f := to1 p q) (fin := fun a => some (none, mk (mm_pI S t a.2))) (n := S.1 t 0 2) (a0 := (l, S.1 t)) ⟨hI, rfl, hl2⟩ (fun i d a hi hP => ?_) (fun d a hP => ?_) sw_J
  · simp only [e_Town_takeOff, st_Town_takeOff]
    simp only [mm_pI_id] at key
    exact key
  · obtain ⟨h1, h2, h3⟩ := hP
    obtain ⟨g1, g2, g3⟩ := to1_IT (p := p) (q := q) (k := i) h1 (by rw [h2]; exact hi)
    refine ⟨fun hlive => ?_, fun hd => ⟨?_, ?_⟩, g1, g2.trans h2, Nat.lt_of_le_of_lt g3 h3⟩
    · have := c_takeOff1 E (mm_pI S t a.2) t h (by rw [mm_pI_at]; exact h1) (k := i) (l := a.1) (a3 := .int (nI l)) d hp hq hlive h3 (by rw [mm_pI_at, h2]; exact hi)
      rw [mm_pI_at, mm_pI_pI] at this
      exact this
    · have hB := h1.b
      have h0 : a.1 = 0 := by omega
      rw [u_Town_takeOff_0]
      simp (disch := first | omega | exact hB _ _ | assumption | decide) only [st_Town_takeOff, mr_town E _ t h, h2, hi, h0, mm_pI_at, mm_pI_pI, mm_pI_2, mm_pL_1, mm_pL_at, mm_pL_pL, mm_pL_3, mm_pM_1, mm_pM_2, mm_pM_at, mm_pM_pM, mm_pI_pL, mm_pI_pM, mm_pL_pM, Bool.false_eq_true, n_10, true_and, and_true, false_and, and_false, Nat.not_lt_zero, true_or, or_true, eq_self, mm_z, mm_rs, sw_xc_ite, sw_xv_ite, n_m1, Nat.lt_irrefl, not_false_eq_true, not_true_eq_false, inS_0, inS_1, ite_not, sw_xv_some, sw_xm_some, sw_xc_some, sw_xc_void, if_true, if_false, reduceIte, bI_0, bI_01, n_add, n_mul, n_addL, n_Ladd, n_mulL, n_Lmul, n_sub, n_subL, n_lt, n_eq, n_ltL, n_Llt, n_eqL, n_Leq, n_nneg, n_pos]
    · unfold to1
      rw [if_neg (fun g => hd g.1)]
  · obtain ⟨h1, h2, h3⟩ := hP
    have hB := h1.b
    rw [u_Town_takeOff_0]
    simp (disch := first | omega | exact hB _ _ | assumption | decide) only [st_Town_takeOff, mr_town E _ t h, h2, mm_pI_at, mm_pI_pI, mm_pI_2, mm_pL_1, mm_pL_at, mm_pL_pL, mm_pL_3, mm_pM_1, mm_pM_2, mm_pM_at, mm_pM_pM, mm_pI_pL, mm_pI_pM, mm_pL_pM, Bool.false_eq_true, n_10, true_and, and_true, false_and, and_false, Nat.not_lt_zero, true_or, or_true, eq_self, mm_z, mm_rs, sw_xc_ite, sw_xv_ite, n_m1, Nat.lt_irrefl, not_false_eq_true, not_true_eq_false, inS_0, inS_1, ite_not, sw_xv_some, sw_xm_some, sw_xc_some, sw_xc_void, if_true, if_false, reduceIte, bI_0, bI_01, n_add, n_mul, n_addL, n_Ladd, n_mulL, n_Lmul, n_sub, n_subL, n_lt, n_eq, n_ltL, n_Llt, n_eqL, n_Leq, n_nneg, n_pos]
end C43b
