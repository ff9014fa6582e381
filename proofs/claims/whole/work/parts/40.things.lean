/-! ===== Things ===== -/
theorem n_m1 : ((-1 : Int32) < 0) ↔ True := by decide
theorem n_max0 {b r : Nat} (hb : b < 2147483648) (hr : r < 2147483648) : (if 0 < nI b - nI r then nI b - nI r else 0) = nI (b - r) := by
  by_cases h : r ≤ b
  · rw [n_sub h]
    by_cases h0 : 0 < b - r
    · rw [if_pos ((n_pos (by omega)).mpr h0)]
    · rw [if_neg (fun g => h0 ((n_pos (by omega)).mp g)), show b - r = 0 by omega]; rfl
  · have e : ¬ (0 : Int32) < nI b - nI r := by
      rw [Int32.lt_iff_toInt_lt, fb_subI (by rw [nI_toInt hb, nI_toInt hr]; omega) (by rw [nI_toInt hb, nI_toInt hr]; omega), nI_toInt hb, nI_toInt hr]
      show ¬ (0 : Int) < _
      omega
    rw [if_neg e, show b - r = 0 by omega]; rfl
def tw_drop (T : Nat → Nat → Nat) (x m : Nat) : Nat → Nat → Nat := mm_u (lp (fun i a => mm_u a 8 (6 * x + i) (a 8 (6 * x + m + i))) (T 7 x - m) T) 7 x (T 7 x - m)
def tw_rot (T : Nat → Nat → Nat) : Nat → Nat → Nat := lp (fun i a => mm_u a 4 i (a 4 i - a 5 i)) (T 0 1) T
section C40
variable (E : sw_E) (S : sw_S) (t : Nat)
set_option maxRecDepth 100000 in
set_option maxHeartbeats 4000000 in
theorem c_Things_placeOf (h : t < 3) (hB : ∀ f i, S.1 t f i < 2147483648) {x k : Nat} (hx : x < 16) (hl : S.1 t 7 x ≤ 6) (hk : k < 2147483648) : f_Things_placeOf E (.ref (mm_tn t 4)) (.int (nI x)) (.int (nI k)) (mk S) = some (some (.int (if tw_pl (S.1 t) x k < S.1 t 7 x then nI (tw_pl (S.1 t) x k) else -1)), mk S) := by
  have key := lp_find (G := fun i => h_Things_placeOf_0 E [.ref (mm_tn t 4), .int (nI x), .int (nI k), .int (nI i)] (mk S)) (p := fun i => S.1 t 8 (6 * x + i) == k) (yes := fun i => some (some (.int (nI i)), mk S)) (no := some (some (.int (-1)), mk S)) (n := S.1 t 7 x) (fun i hi => ?_) ?_
  · simp only [e_Things_placeOf, st_Things_placeOf]
    rw [show (0 : Int32) = nI 0 from rfl, key]
    unfold tw_pl
    split <;> rfl
  · rw [u_Things_placeOf_0]
    simp (disch := first | omega | exact hB _ _ | decide) only [st_Things_placeOf, mr_town E S t h, hi, Bool.false_eq_true, true_or, or_true, eq_self, mm_z, mm_rs, sw_xc_ite, sw_xv_ite, n_m1, Nat.lt_irrefl, not_false_eq_true, not_true_eq_false, inS_0, inS_1, ite_not, sw_xv_some, sw_xm_some, sw_xc_some, sw_xc_void, if_true, if_false, reduceIte, bI_0, bI_01, n_add, n_mul, n_addL, n_Ladd, n_mulL, n_Lmul, n_sub, n_subL, n_lt, n_eq, n_ltL, n_Llt, n_eqL, n_Leq, n_nneg, n_pos]
    rw [Nat.mul_comm x 6]
    simp only [beq_iff_eq]
  · rw [u_Things_placeOf_0]
    simp (disch := first | omega | exact hB _ _ | decide) only [st_Things_placeOf, mr_town E S t h, Bool.false_eq_true, true_or, or_true, eq_self, mm_z, mm_rs, sw_xc_ite, sw_xv_ite, n_m1, Nat.lt_irrefl, not_false_eq_true, not_true_eq_false, inS_0, inS_1, ite_not, sw_xv_some, sw_xm_some, sw_xc_some, sw_xc_void, if_true, if_false, reduceIte, bI_0, bI_01, n_add, n_mul, n_addL, n_Ladd, n_mulL, n_Lmul, n_sub, n_subL, n_lt, n_eq, n_ltL, n_Llt, n_eqL, n_Leq, n_nneg, n_pos]
theorem c_pl_y (h : t < 3) (hI : IT (S.1 t)) {x k : Nat} (hx : x < S.1 t 0 1) (hk : k < 2147483648) (hp : tw_in (S.1 t) x k = true) : f_Things_placeOf E (.ref (mm_tn t 4)) (.int (nI x)) (.int (nI k)) (mk S) = some (some (.int (nI (tw_pl (S.1 t) x k))), mk S) := by
  have hn := hI.n
  rw [c_Things_placeOf E S t h hI.b (by omega) (hI.len hx) hk, if_pos (by simpa [tw_in] using hp)]
theorem c_pl_n (h : t < 3) (hI : IT (S.1 t)) {x k : Nat} (hx : x < S.1 t 0 1) (hk : k < 2147483648) (hp : ¬ tw_in (S.1 t) x k = true) : f_Things_placeOf E (.ref (mm_tn t 4)) (.int (nI x)) (.int (nI k)) (mk S) = some (some (.int (-1)), mk S) := by
  have hn := hI.n
  rw [c_Things_placeOf E S t h hI.b (by omega) (hI.len hx) hk, if_neg (by simpa [tw_in] using hp)]
theorem tw_pl_le (T : Nat → Nat → Nat) (x k : Nat) : tw_pl T x k ≤ T 7 x := fa_first_le _ _
theorem tw_in_lt {T : Nat → Nat → Nat} {x k : Nat} (h : tw_in T x k = true) : tw_pl T x k < T 7 x := by simpa [tw_in] using h
set_option maxRecDepth 100000 in
set_option maxHeartbeats 4000000 in
theorem c_Things_ownedBy (h : t < 3) (hI : IT (S.1 t)) {p : Nat} (hp : p < 2147483648) : f_Things_ownedBy E (.ref (mm_tn t 4)) (.int (nI p)) (mk S) = some (some (.int (tw_set (S.1 t 0 1) (fun x => S.1 t 2 x == p))), mk S) := by
  have hB := hI.b
  have hn := hI.n
  have key := lp_up' (G := fun i a => h_Things_ownedBy_0 E [.ref (mm_tn t 4), .int (nI p), .int a, .int (nI i)] (mk S)) (f := fun i a => if (S.1 t 2 i == p) = true then a ||| sb i else a) (fin := fun a => some (some (.int a), mk S)) (n := S.1 t 0 1) (a0 := 0) (fun i a hi => ?_) (fun a => ?_)
  · simp only [e_Things_ownedBy, st_Things_ownedBy]
    exact key
  · rw [u_Things_ownedBy_0]
    simp (disch := first | omega | exact hB _ _ | decide) only [st_Things_ownedBy, mr_town E S t h, hi, Bool.false_eq_true, true_or, or_true, eq_self, mm_z, mm_rs, sw_xc_ite, sw_xv_ite, n_m1, Nat.lt_irrefl, not_false_eq_true, not_true_eq_false, inS_0, inS_1, ite_not, sw_xv_some, sw_xm_some, sw_xc_some, sw_xc_void, if_true, if_false, reduceIte, bI_0, bI_01, n_add, n_mul, n_addL, n_Ladd, n_mulL, n_Lmul, n_sub, n_subL, n_lt, n_eq, n_ltL, n_Llt, n_eqL, n_Leq, n_nneg, n_pos]
    by_cases hq : S.1 t 2 i = p <;> simp [hq, sb]
  · rw [u_Things_ownedBy_0]
    simp (disch := first | omega | exact hB _ _ | decide) only [st_Things_ownedBy, mr_town E S t h, Bool.false_eq_true, true_or, or_true, eq_self, mm_z, mm_rs, sw_xc_ite, sw_xv_ite, n_m1, Nat.lt_irrefl, not_false_eq_true, not_true_eq_false, inS_0, inS_1, ite_not, sw_xv_some, sw_xm_some, sw_xc_some, sw_xc_void, if_true, if_false, reduceIte, bI_0, bI_01, n_add, n_mul, n_addL, n_Ladd, n_mulL, n_Lmul, n_sub, n_subL, n_lt, n_eq, n_ltL, n_Llt, n_eqL, n_Leq, n_nneg, n_pos]
set_option maxRecDepth 100000 in
set_option maxHeartbeats 4000000 in
theorem c_Things_heldBy (h : t < 3) (hI : IT (S.1 t)) {p : Nat} (hp : p < 2147483648) : f_Things_heldBy E (.ref (mm_tn t 4)) (.int (nI p)) (mk S) = some (some (.int (tw_set (S.1 t 0 1) (fun x => S.1 t 3 x == p))), mk S) := by
  have hB := hI.b
  have hn := hI.n
  have key := lp_up' (G := fun i a => h_Things_heldBy_0 E [.ref (mm_tn t 4), .int (nI p), .int a, .int (nI i)] (mk S)) (f := fun i a => if (S.1 t 3 i == p) = true then a ||| sb i else a) (fin := fun a => some (some (.int a), mk S)) (n := S.1 t 0 1) (a0 := 0) (fun i a hi => ?_) (fun a => ?_)
  · simp only [e_Things_heldBy, st_Things_heldBy]
    exact key
  · rw [u_Things_heldBy_0]
    simp (disch := first | omega | exact hB _ _ | decide) only [st_Things_heldBy, mr_town E S t h, hi, Bool.false_eq_true, true_or, or_true, eq_self, mm_z, mm_rs, sw_xc_ite, sw_xv_ite, n_m1, Nat.lt_irrefl, not_false_eq_true, not_true_eq_false, inS_0, inS_1, ite_not, sw_xv_some, sw_xm_some, sw_xc_some, sw_xc_void, if_true, if_false, reduceIte, bI_0, bI_01, n_add, n_mul, n_addL, n_Ladd, n_mulL, n_Lmul, n_sub, n_subL, n_lt, n_eq, n_ltL, n_Llt, n_eqL, n_Leq, n_nneg, n_pos]
    by_cases hq : S.1 t 3 i = p <;> simp [hq, sb]
  · rw [u_Things_heldBy_0]
    simp (disch := first | omega | exact hB _ _ | decide) only [st_Things_heldBy, mr_town E S t h, Bool.false_eq_true, true_or, or_true, eq_self, mm_z, mm_rs, sw_xc_ite, sw_xv_ite, n_m1, Nat.lt_irrefl, not_false_eq_true, not_true_eq_false, inS_0, inS_1, ite_not, sw_xv_some, sw_xm_some, sw_xc_some, sw_xc_void, if_true, if_false, reduceIte, bI_0, bI_01, n_add, n_mul, n_addL, n_Ladd, n_mulL, n_Lmul, n_sub, n_subL, n_lt, n_eq, n_ltL, n_Llt, n_eqL, n_Leq, n_nneg, n_pos]
set_option maxRecDepth 100000 in
set_option maxHeartbeats 4000000 in
theorem c_Things_basesOf (h : t < 3) (hI : IT (S.1 t)) (s : Int32) : f_Things_basesOf E (.ref (mm_tn t 4)) (.int s) (mk S) = some (some (.int (nI (tw_sum (S.1 t 0 1) (inS s) (S.1 t 4)))), mk S) := by
  have hB := hI.b
  have hn := hI.n
  have key := lp_up' (G := fun i a => h_Things_basesOf_0 E [.ref (mm_tn t 4), .int s, .int (nI a), .int (nI i)] (mk S)) (f := fun i a => if inS s i = true then a + S.1 t 4 i else a) (fin := fun a => some (some (.int (nI a)), mk S)) (n := S.1 t 0 1) (a0 := 0) (fun i a hi => ?_) (fun a => ?_)
  · simp only [e_Things_basesOf, st_Things_basesOf]
    exact key
  · rw [u_Things_basesOf_0]
    simp (disch := first | omega | exact hB _ _ | decide) only [st_Things_basesOf, mr_town E S t h, hi, e_SW_isInSet, st_SW_isInSet, Bool.false_eq_true, true_or, or_true, eq_self, mm_z, mm_rs, sw_xc_ite, sw_xv_ite, n_m1, Nat.lt_irrefl, not_false_eq_true, not_true_eq_false, inS_0, inS_1, ite_not, sw_xv_some, sw_xm_some, sw_xc_some, sw_xc_void, if_true, if_false, reduceIte, bI_0, bI_01, n_add, n_mul, n_addL, n_Ladd, n_mulL, n_Lmul, n_sub, n_subL, n_lt, n_eq, n_ltL, n_Llt, n_eqL, n_Leq, n_nneg, n_pos]
    by_cases hq : inS s i = true <;> simp [hq, n_add]
  · rw [u_Things_basesOf_0]
    simp (disch := first | omega | exact hB _ _ | decide) only [st_Things_basesOf, mr_town E S t h, Bool.false_eq_true, true_or, or_true, eq_self, mm_z, mm_rs, sw_xc_ite, sw_xv_ite, n_m1, Nat.lt_irrefl, not_false_eq_true, not_true_eq_false, inS_0, inS_1, ite_not, sw_xv_some, sw_xm_some, sw_xc_some, sw_xc_void, if_true, if_false, reduceIte, bI_0, bI_01, n_add, n_mul, n_addL, n_Ladd, n_mulL, n_Lmul, n_sub, n_subL, n_lt, n_eq, n_ltL, n_Llt, n_eqL, n_Leq, n_nneg, n_pos]
set_option maxRecDepth 100000 in
set_option maxHeartbeats 4000000 in
theorem c_Things_atHome (h : t < 3) (hI : IT (S.1 t)) : f_Things_atHome E (.ref (mm_tn t 4)) (mk S) = some (some (.int (nI (tw_cnt (S.1 t 0 1) (fun x => S.1 t 6 x == 0 && S.1 t 3 x == S.1 t 2 x)))), mk S) := by
  have hB := hI.b
  have hn := hI.n
  have key := lp_up' (G := fun i a => h_Things_atHome_0 E [.ref (mm_tn t 4), .int (nI a), .int (nI i)] (mk S)) (f := fun i a => if (S.1 t 6 i == 0 && S.1 t 3 i == S.1 t 2 i) = true then a + 1 else a) (fin := fun a => some (some (.int (nI a)), mk S)) (n := S.1 t 0 1) (a0 := 0) (fun i a hi => ?_) (fun a => ?_)
  · simp only [e_Things_atHome, st_Things_atHome]
    exact key
  · rw [u_Things_atHome_0]
    simp (disch := first | omega | exact hB _ _ | decide) only [st_Things_atHome, mr_town E S t h, hi, Bool.false_eq_true, true_or, or_true, eq_self, mm_z, mm_rs, sw_xc_ite, sw_xv_ite, n_m1, Nat.lt_irrefl, not_false_eq_true, not_true_eq_false, inS_0, inS_1, ite_not, sw_xv_some, sw_xm_some, sw_xc_some, sw_xc_void, if_true, if_false, reduceIte, bI_0, bI_01, n_add, n_mul, n_addL, n_Ladd, n_mulL, n_Lmul, n_sub, n_subL, n_lt, n_eq, n_ltL, n_Llt, n_eqL, n_Leq, n_nneg, n_pos]
    by_cases hq : S.1 t 6 i = 0 <;> by_cases hq2 : S.1 t 3 i = S.1 t 2 i <;> simp [hq, hq2]
  · rw [u_Things_atHome_0]
    simp (disch := first | omega | exact hB _ _ | decide) only [st_Things_atHome, mr_town E S t h, Bool.false_eq_true, true_or, or_true, eq_self, mm_z, mm_rs, sw_xc_ite, sw_xv_ite, n_m1, Nat.lt_irrefl, not_false_eq_true, not_true_eq_false, inS_0, inS_1, ite_not, sw_xv_some, sw_xm_some, sw_xc_some, sw_xc_void, if_true, if_false, reduceIte, bI_0, bI_01, n_add, n_mul, n_addL, n_Ladd, n_mulL, n_Lmul, n_sub, n_subL, n_lt, n_eq, n_ltL, n_Llt, n_eqL, n_Leq, n_nneg, n_pos]
set_option maxRecDepth 100000 in
set_option maxHeartbeats 4000000 in
theorem c_Things_rot (h : t < 3) (hI : IT (S.1 t)) : f_Things_rot E (.ref (mm_tn t 4)) (mk S) = some (none, mk (mm_pI S t (tw_rot (S.1 t)))) := by
  have hn := hI.n
  have key := lp_up (G := fun i a => h_Things_rot_0 E [.ref (mm_tn t 4), .int (nI i)] (mk (mm_pI S t a))) (P := fun _ a => a 0 1 = S.1 t 0 1 ∧ ∀ f i, a f i < 2147483648) (f := fun i a => mm_u a 4 i (a 4 i - a 5 i)) (fin := fun a => some (none, mk (mm_pI S t a))) (n := S.1 t 0 1) (a0 := S.1 t) ⟨rfl, hI.b⟩ (fun i a hi hP => ?_) (fun a hP => ?_)
  · simp only [e_Things_rot, st_Things_rot]
    rw [show (0 : Int32) = nI 0 from rfl, ← mm_pI_id S t]
    rw [mm_pI_id S t] at key ⊢
    exact key
  · obtain ⟨h1, hB⟩ := hP
    refine ⟨?_, ?_, ?_⟩
    · rw [u_Things_rot_0]
      simp (disch := first | omega | exact hB _ _ | decide) only [st_Things_rot, mr_town E (mm_pI S t a) t h, h1, hi, n_max0, mw_t7 _ h, mm_pI_at, mm_pI_pI, mm_pI_2, mm_pL_1, mm_pL_at, mm_pL_pL, mm_pL_3, mm_pM_1, mm_pM_2, mm_pM_at, mm_pM_pM, mm_pI_pL, mm_pI_pM, mm_pL_pM, Bool.false_eq_true, true_or, or_true, eq_self, mm_z, mm_rs, sw_xc_ite, sw_xv_ite, n_m1, Nat.lt_irrefl, not_false_eq_true, not_true_eq_false, inS_0, inS_1, ite_not, sw_xv_some, sw_xm_some, sw_xc_some, sw_xc_void, if_true, if_false, reduceIte, bI_0, bI_01, n_add, n_mul, n_addL, n_Ladd, n_mulL, n_Lmul, n_sub, n_subL, n_lt, n_eq, n_ltL, n_Llt, n_eqL, n_Leq, n_nneg, n_pos]
    · rw [mm_u_ne _ (by omega)]; exact h1
    · intro f j
      unfold mm_u
      split
      · have := hB 4 i; omega
      · exact hB f j
  · obtain ⟨h1, hB⟩ := hP
    rw [u_Things_rot_0]
    simp (disch := first | omega | exact hB _ _ | decide) only [st_Things_rot, mr_town E (mm_pI S t a) t h, h1, mm_pI_at, mm_pI_pI, mm_pI_2, mm_pL_1, mm_pL_at, mm_pL_pL, mm_pL_3, mm_pM_1, mm_pM_2, mm_pM_at, mm_pM_pM, mm_pI_pL, mm_pI_pM, mm_pL_pM, Bool.false_eq_true, true_or, or_true, eq_self, mm_z, mm_rs, sw_xc_ite, sw_xv_ite, n_m1, Nat.lt_irrefl, not_false_eq_true, not_true_eq_false, inS_0, inS_1, ite_not, sw_xv_some, sw_xm_some, sw_xc_some, sw_xc_void, if_true, if_false, reduceIte, bI_0, bI_01, n_add, n_mul, n_addL, n_Ladd, n_mulL, n_Lmul, n_sub, n_subL, n_lt, n_eq, n_ltL, n_Llt, n_eqL, n_Leq, n_nneg, n_pos]
set_option maxRecDepth 100000 in
set_option maxHeartbeats 4000000 in
theorem c_Things_behind (h : t < 3) (hI : IT (S.1 t)) {k : Nat} (hk : k < 2147483648) : f_Things_behind E (.ref (mm_tn t 4)) (.int (nI k)) (mk S) = some (some (.int (tw_be (S.1 t) k)), mk S) := by
  have hB := hI.b
  have hn := hI.n
  have key := lp_up' (G := fun i a => h_Things_behind_0 E [.ref (mm_tn t 4), .int (nI k), .int a, .int (nI i)] (mk S)) (f := fun i a => if tw_in (S.1 t) i k = true then a ||| sb i else a) (fin := fun a => some (some (.int a), mk S)) (n := S.1 t 0 1) (a0 := 0) (fun i a hi => ?_) (fun a => ?_)
  · simp only [e_Things_behind, st_Things_behind]
    exact key
  · rw [u_Things_behind_0]
    have hl := hI.len hi
    have hl2 := tw_pl_le (S.1 t) i k
    by_cases hq : tw_in (S.1 t) i k = true
    · simp (disch := first | omega | exact hB _ _ | decide) only [st_Things_behind, mr_town E S t h, hi, c_pl_y E S t h hI hi hk hq, hq, Bool.false_eq_true, true_or, or_true, eq_self, mm_z, mm_rs, sw_xc_ite, sw_xv_ite, n_m1, Nat.lt_irrefl, not_false_eq_true, not_true_eq_false, inS_0, inS_1, ite_not, sw_xv_some, sw_xm_some, sw_xc_some, sw_xc_void, if_true, if_false, reduceIte, bI_0, bI_01, n_add, n_mul, n_addL, n_Ladd, n_mulL, n_Lmul, n_sub, n_subL, n_lt, n_eq, n_ltL, n_Llt, n_eqL, n_Leq, n_nneg, n_pos]
      rfl
    · simp (disch := first | omega | exact hB _ _ | decide) only [st_Things_behind, mr_town E S t h, hi, c_pl_n E S t h hI hi hk hq, hq, Bool.false_eq_true, true_or, or_true, eq_self, mm_z, mm_rs, sw_xc_ite, sw_xv_ite, n_m1, Nat.lt_irrefl, not_false_eq_true, not_true_eq_false, inS_0, inS_1, ite_not, sw_xv_some, sw_xm_some, sw_xc_some, sw_xc_void, if_true, if_false, reduceIte, bI_0, bI_01, n_add, n_mul, n_addL, n_Ladd, n_mulL, n_Lmul, n_sub, n_subL, n_lt, n_eq, n_ltL, n_Llt, n_eqL, n_Leq, n_nneg, n_pos]
  · rw [u_Things_behind_0]
    simp (disch := first | omega | exact hB _ _ | decide) only [st_Things_behind, mr_town E S t h, Bool.false_eq_true, true_or, or_true, eq_self, mm_z, mm_rs, sw_xc_ite, sw_xv_ite, n_m1, Nat.lt_irrefl, not_false_eq_true, not_true_eq_false, inS_0, inS_1, ite_not, sw_xv_some, sw_xm_some, sw_xc_some, sw_xc_void, if_true, if_false, reduceIte, bI_0, bI_01, n_add, n_mul, n_addL, n_Ladd, n_mulL, n_Lmul, n_sub, n_subL, n_lt, n_eq, n_ltL, n_Llt, n_eqL, n_Leq, n_nneg, n_pos]
set_option maxRecDepth 100000 in
set_option maxHeartbeats 4000000 in
theorem c_Things_endWith (h : t < 3) (hI : IT (S.1 t)) {k : Nat} (hk : k < 2147483648) : f_Things_endWith E (.ref (mm_tn t 4)) (.int (nI k)) (mk S) = some (some (.int (bI (tw_last (S.1 t) k = true))), mk S) := by
  have hB := hI.b
  have hn := hI.n
  have key := lp_findD (G := fun i d => h_Things_endWith_0 E [.ref (mm_tn t 4), .int (nI k), .int (nI i), d] (mk S)) (p := fun i => tw_in (S.1 t) i k && decide (¬ tw_pl (S.1 t) i k + 1 = S.1 t 7 i)) (yes := fun _ => some (some (.int 0), mk S)) (no := some (some (.int 1), mk S)) (n := S.1 t 0 1) (fun i d hi => ?_) (fun d => ?_) sw_J
  · simp only [e_Things_endWith, st_Things_endWith]
    rw [show (0 : Int32) = nI 0 from rfl, key]
    by_cases hf : fa_first (fun i => tw_in (S.1 t) i k && decide (¬ tw_pl (S.1 t) i k + 1 = S.1 t 7 i)) (S.1 t 0 1) < S.1 t 0 1
    · rw [if_pos hf, bI_f]
      intro hl
      unfold tw_last at hl
      rw [decide_eq_true_eq] at hl
      have := fa_first_yes _ _ hf
      simp only [Bool.and_eq_true, decide_eq_true_eq] at this
      exact this.2 (hl _ hf this.1)
    · rw [if_neg hf, bI_t]
      unfold tw_last
      rw [decide_eq_true_eq]
      intro x hx hin
      have := fa_first_no (fun i => tw_in (S.1 t) i k && decide (¬ tw_pl (S.1 t) i k + 1 = S.1 t 7 i)) (S.1 t 0 1) x (by omega)
      simp only [hin, Bool.true_and, decide_eq_false_iff_not, Classical.not_not] at this
      exact this
  · rw [u_Things_endWith_0]
    have hl := hI.len hi
    have hl2 := tw_pl_le (S.1 t) i k
    by_cases hq : tw_in (S.1 t) i k = true
    · have hl3 := tw_in_lt hq
      by_cases hq2 : tw_pl (S.1 t) i k + 1 = S.1 t 7 i
      · refine ⟨.int (nI (tw_pl (S.1 t) i k)), ?_⟩
        have e : tw_pl (S.1 t) i k = S.1 t 7 i - 1 := by omega
        simp (disch := first | omega | exact hB _ _ | decide) only [st_Things_endWith, mr_town E S t h, hi, c_pl_y E S t h hI hi hk hq, hq, hq2, Bool.false_eq_true, true_or, or_true, eq_self, mm_z, mm_rs, sw_xc_ite, sw_xv_ite, n_m1, Nat.lt_irrefl, not_false_eq_true, not_true_eq_false, inS_0, inS_1, ite_not, sw_xv_some, sw_xm_some, sw_xc_some, sw_xc_void, if_true, if_false, reduceIte, bI_0, bI_01, n_add, n_mul, n_addL, n_Ladd, n_mulL, n_Lmul, n_sub, n_subL, n_lt, n_eq, n_ltL, n_Llt, n_eqL, n_Leq, n_nneg, n_pos]
        simp [e]
      · refine ⟨d, ?_⟩
        have e : ¬ tw_pl (S.1 t) i k = S.1 t 7 i - 1 := by omega
        simp (disch := first | omega | exact hB _ _ | decide) only [st_Things_endWith, mr_town E S t h, hi, c_pl_y E S t h hI hi hk hq, hq, hq2, Bool.false_eq_true, true_or, or_true, eq_self, mm_z, mm_rs, sw_xc_ite, sw_xv_ite, n_m1, Nat.lt_irrefl, not_false_eq_true, not_true_eq_false, inS_0, inS_1, ite_not, sw_xv_some, sw_xm_some, sw_xc_some, sw_xc_void, if_true, if_false, reduceIte, bI_0, bI_01, n_add, n_mul, n_addL, n_Ladd, n_mulL, n_Lmul, n_sub, n_subL, n_lt, n_eq, n_ltL, n_Llt, n_eqL, n_Leq, n_nneg, n_pos]
        simp [e]
    · refine ⟨.int (-1), ?_⟩
      simp (disch := first | omega | exact hB _ _ | decide) only [st_Things_endWith, mr_town E S t h, hi, c_pl_n E S t h hI hi hk hq, Bool.false_eq_true, true_or, or_true, eq_self, mm_z, mm_rs, sw_xc_ite, sw_xv_ite, n_m1, Nat.lt_irrefl, not_false_eq_true, not_true_eq_false, inS_0, inS_1, ite_not, sw_xv_some, sw_xm_some, sw_xc_some, sw_xc_void, if_true, if_false, reduceIte, bI_0, bI_01, n_add, n_mul, n_addL, n_Ladd, n_mulL, n_Lmul, n_sub, n_subL, n_lt, n_eq, n_ltL, n_Llt, n_eqL, n_Leq, n_nneg, n_pos]
      rw [if_neg (by simp [hq])]
  · rw [u_Things_endWith_0]
    simp (disch := first | omega | exact hB _ _ | decide) only [st_Things_endWith, mr_town E S t h, Bool.false_eq_true, true_or, or_true, eq_self, mm_z, mm_rs, sw_xc_ite, sw_xv_ite, n_m1, Nat.lt_irrefl, not_false_eq_true, not_true_eq_false, inS_0, inS_1, ite_not, sw_xv_some, sw_xm_some, sw_xc_some, sw_xc_void, if_true, if_false, reduceIte, bI_0, bI_01, n_add, n_mul, n_addL, n_Ladd, n_mulL, n_Lmul, n_sub, n_subL, n_lt, n_eq, n_ltL, n_Llt, n_eqL, n_Leq, n_nneg, n_pos]
set_option maxRecDepth 100000 in
set_option maxHeartbeats 4000000 in
/-- the chain moves up -/
theorem c_Things_dropFirst (h : t < 3) (hB : ∀ f i, S.1 t f i < 2147483648) {x m : Nat} (hx : x < 16) (hl : S.1 t 7 x ≤ 6) (hm : m ≤ S.1 t 7 x) : f_Things_dropFirst E (.ref (mm_tn t 4)) (.int (nI x)) (.int (nI m)) (mk S) = some (none, mk (mm_pI S t (tw_drop (S.1 t) x m))) := by
  have key := lp_up (G := fun i a => h_Things_dropFirst_0 E [.ref (mm_tn t 4), .int (nI x), .int (nI m), .int (nI (x * 6)), .int (nI (S.1 t 7 x - m)), .int (nI i)] (mk (mm_pI S t a))) (P := fun _ a => (∀ j, a 7 j = S.1 t 7 j) ∧ ∀ f i, a f i < 2147483648) (f := fun i a => mm_u a 8 (6 * x + i) (a 8 (6 * x + m + i))) (fin := fun a => some (none, mk (mm_pI S t (mm_u a 7 x (S.1 t 7 x - m))))) (n := S.1 t 7 x - m) (a0 := S.1 t) ⟨fun _ => rfl, hB⟩ (fun i a hi hP => ?_) (fun a hP => ?_)
  · simp (disch := first | omega | exact hB _ _ | decide) only [e_Things_dropFirst, st_Things_dropFirst, mr_town E S t h, mm_pI_at, mm_pI_pI, mm_pI_2, mm_pL_1, mm_pL_at, mm_pL_pL, mm_pL_3, mm_pM_1, mm_pM_2, mm_pM_at, mm_pM_pM, mm_pI_pL, mm_pI_pM, mm_pL_pM, Bool.false_eq_true, true_or, or_true, eq_self, mm_z, mm_rs, sw_xc_ite, sw_xv_ite, n_m1, Nat.lt_irrefl, not_false_eq_true, not_true_eq_false, inS_0, inS_1, ite_not, sw_xv_some, sw_xm_some, sw_xc_some, sw_xc_void, if_true, if_false, reduceIte, bI_0, bI_01, n_add, n_mul, n_addL, n_Ladd, n_mulL, n_Lmul, n_sub, n_subL, n_lt, n_eq, n_ltL, n_Llt, n_eqL, n_Leq, n_nneg, n_pos]
    rw [mm_pI_id S t] at key
    exact key
  · obtain ⟨h1, hB⟩ := hP
    refine ⟨?_, ?_, ?_⟩
    · rw [u_Things_dropFirst_0]
      simp (disch := first | omega | exact hB _ _ | decide) only [st_Things_dropFirst, mr_town E (mm_pI S t a) t h, hi, mw_t11 _ h, Nat.mul_comm x 6, mm_pI_at, mm_pI_pI, mm_pI_2, mm_pL_1, mm_pL_at, mm_pL_pL, mm_pL_3, mm_pM_1, mm_pM_2, mm_pM_at, mm_pM_pM, mm_pI_pL, mm_pI_pM, mm_pL_pM, Bool.false_eq_true, true_or, or_true, eq_self, mm_z, mm_rs, sw_xc_ite, sw_xv_ite, n_m1, Nat.lt_irrefl, not_false_eq_true, not_true_eq_false, inS_0, inS_1, ite_not, sw_xv_some, sw_xm_some, sw_xc_some, sw_xc_void, if_true, if_false, reduceIte, bI_0, bI_01, n_add, n_mul, n_addL, n_Ladd, n_mulL, n_Lmul, n_sub, n_subL, n_lt, n_eq, n_ltL, n_Llt, n_eqL, n_Leq, n_nneg, n_pos]
    · intro j
      rw [mm_u_ne _ (by omega)]; exact h1 j
    · intro f j
      unfold mm_u
      split
      · exact hB 8 _
      · exact hB f j
  · obtain ⟨h1, hB⟩ := hP
    rw [u_Things_dropFirst_0]
    simp (disch := first | omega | exact hB _ _ | decide) only [st_Things_dropFirst, mr_town E (mm_pI S t a) t h, mw_t10 _ h, mm_pI_at, mm_pI_pI, mm_pI_2, mm_pL_1, mm_pL_at, mm_pL_pL, mm_pL_3, mm_pM_1, mm_pM_2, mm_pM_at, mm_pM_pM, mm_pI_pL, mm_pI_pM, mm_pL_pM, Bool.false_eq_true, true_or, or_true, eq_self, mm_z, mm_rs, sw_xc_ite, sw_xv_ite, n_m1, Nat.lt_irrefl, not_false_eq_true, not_true_eq_false, inS_0, inS_1, ite_not, sw_xv_some, sw_xm_some, sw_xc_some, sw_xc_void, if_true, if_false, reduceIte, bI_0, bI_01, n_add, n_mul, n_addL, n_Ladd, n_mulL, n_Lmul, n_sub, n_subL, n_lt, n_eq, n_ltL, n_Llt, n_eqL, n_Leq, n_nneg, n_pos]
set_option maxRecDepth 100000 in
set_option maxHeartbeats 4000000 in
/-- all of a town's things copied -/
theorem c_Things_become {a b : Nat} (ha : a < 3) (hb : b < 3) (hab : b ≠ a) (hf : ∀ i, S.1 b 6 i ≤ 1) : f_Things_become E (.ref (mm_tn a 4)) (.ref (mm_tn b 4)) (mk S) = some (none, mk (mm_pI S a (mm_u (mm_uf (mm_uf (mm_uf (mm_uf (mm_uf (mm_uf (mm_uf (S.1 a) 2 (S.1 b 2)) 3 (S.1 b 3)) 4 (S.1 b 4)) 5 (S.1 b 5)) 6 (S.1 b 6)) 7 (S.1 b 7)) 8 (S.1 b 8)) 0 1 (S.1 b 0 1)))) := by
  have e1 : ∀ (S : sw_S) T, (mm_pI S a T).1 b = S.1 b := fun S T => mm_pI_ne S T hab
  have hf2 : ∀ (S' : sw_S), S'.1 b = S.1 b → ∀ i, S'.1 b 6 i ≤ 1 := fun S' e i => by rw [e]; exact hf i
  have m9 : ∀ (S' : sw_S), S'.1 b = S.1 b → sw_cp (mk S') (mm_tn b 9) 0 (mm_tn a 9) 0 16 = some (mk (mm_pI S' a (mm_uf (S'.1 a) 6 (S.1 b 6)))) := fun S' e => by rw [mc_t9 S' ha hb (hf2 S' e), e]
  simp (disch := first | omega | (simp only [e1]; done)) only [e_Things_become, st_Things_become, mr_town _ _ a ha, mr_town _ _ b hb, mc_t5 _ ha hb, mc_t6 _ ha hb, mc_t7 _ ha hb, mc_t8 _ ha hb, mc_t10 _ ha hb, mc_t11 _ ha hb, m9, mw_t4_7 _ ha, e1, mm_pI_at, mm_pI_pI, mm_pI_2, mm_pL_1, mm_pL_at, mm_pL_pL, mm_pL_3, mm_pM_1, mm_pM_2, mm_pM_at, mm_pM_pM, mm_pI_pL, mm_pI_pM, mm_pL_pM, Bool.false_eq_true, true_or, or_true, eq_self, mm_z, mm_rs, sw_xc_ite, sw_xv_ite, n_m1, Nat.lt_irrefl, not_false_eq_true, not_true_eq_false, inS_0, inS_1, ite_not, sw_xv_some, sw_xm_some, sw_xc_some, sw_xc_void, if_true, if_false, reduceIte, bI_0, bI_01]
end C40
