/-! ===== a promise is made ===== -/
theorem lp_pair {α β : Type} (f : Nat → α → α) (g : Nat → β → β) : ∀ (n : Nat) (a : α) (b : β), lp (fun i (q : α × β) => (f i q.1, g i q.2)) n (a, b) = (lp f n a, lp g n b)
  | 0, _, _ => rfl
  | n + 1, a, b => by rw [lp_s, lp_pair f g n a b, lp_s, lp_s]
theorem lp_and (p : Nat → Bool) : ∀ n, lp (fun i b => b && p i) n true = decide (∀ i, i < n → p i = true)
  | 0 => by rw [lp_0]; simp
  | n + 1 => by
    rw [lp_s, lp_and p n]
    by_cases h : ∀ i, i < n → p i = true
    · rw [decide_eq_true h, Bool.true_and]
      by_cases hp : p n = true
      · rw [hp, decide_eq_true]
        intro i hi
        rcases Nat.lt_or_ge i n with h1 | h1
        · exact h i h1
        · rw [show i = n by omega]; exact hp
      · rw [Bool.eq_false_iff.mpr hp, decide_eq_false]
        exact fun g => hp (g n (by omega))
    · rw [decide_eq_false h, Bool.false_and, decide_eq_false]
      exact fun g => h (fun i hi => g i (by omega))
section PR
variable (E : sw_E) (S : sw_S)
set_option maxRecDepth 100000 in
set_option maxHeartbeats 4000000 in
theorem md_prom0 (hI : IT (S.1 3)) {p : Nat} (hp : p < 2147483648) (s : Int32) (a2 a3 a4 a9 a10 a11 : Value) : h_MD_promise_0 E [.ref 71, .int (nI p), a2, a3, a4, .int s, .int 1, .int 1, .int 0, a9, a10, a11] (mk S) = sw_ex E 166 130 [.ref 71, .int (nI p), a2, a3, a4, .int s, .int (bI (tw_hold (S.1 3) p s = true)), .int (bI (tw_may (S.1 3) s = true)), .int (nI (S.1 3 0 1)), a9, a10, a11] [] (mk S) := by
  have hB := hI.b
  have hn := hI.n
  have key := lp_up' (G := fun i (b : Bool × Bool) => h_MD_promise_0 E [.ref 71, .int (nI p), a2, a3, a4, .int s, .int (bI (b.1 = true)), .int (bI (b.2 = true)), .int (nI i), a9, a10, a11] (mk S)) (f := fun x b => (b.1 && (!inS s x || (S.1 3 3 x == p && S.1 3 6 x == 0)), b.2 && (!inS s x || decide (S.1 3 7 x ≤ S.1 3 0 4 ∧ S.1 3 7 x < 6)))) (fin := fun b => sw_ex E 166 130 [.ref 71, .int (nI p), a2, a3, a4, .int s, .int (bI (b.1 = true)), .int (bI (b.2 = true)), .int (nI (S.1 3 0 1)), a9, a10, a11] [] (mk S)) (n := S.1 3 0 1) (a0 := (true, true)) (fun i b hi => ?_) (fun b => ?_)
  · rw [lp_pair (fun x b => b && (!inS s x || (S.1 3 3 x == p && S.1 3 6 x == 0))) (fun x b => b && (!inS s x || decide (S.1 3 7 x ≤ S.1 3 0 4 ∧ S.1 3 7 x < 6))), lp_and, lp_and] at key
    exact key
  · have hi16 : i < 16 := by omega
    rw [u_MD_promise_0]
    by_cases h1 : inS s i = true
    · simp (disch := first | omega | exact hB _ _ | assumption | decide) only [st_MD_promise, rs_L, hi, h1, md_isHeld E S hI hi16 hp, md_isShort E S hI hi16, mr_md E _, mm_pI_at, mm_pI_pI, mm_pI_2, mm_pL_1, mm_pL_at, mm_pL_pL, mm_pL_3, mm_pM_1, mm_pM_2, mm_pM_at, mm_pM_pM, mm_pI_pL, mm_pI_pM, mm_pL_pM, Bool.false_eq_true, n_10, true_and, and_true, false_and, and_false, Nat.not_lt_zero, true_or, or_true, eq_self, mm_z, mm_rs, sw_xc_ite, sw_xv_ite, n_m1, Nat.lt_irrefl, not_false_eq_true, not_true_eq_false, inS_0, inS_1, ite_not, sw_xv_some, sw_xm_some, sw_xc_some, sw_xc_void, if_true, if_false, reduceIte, bI_0, bI_01, bI_1, nt_or, Nat.reduceAdd, n_add, n_mul, n_addL, n_Ladd, n_mulL, n_Lmul, n_sub, n_subL, n_lt, n_eq, n_ltL, n_Llt, n_eqL, n_Leq, n_nneg, n_pos]
      obtain ⟨b, c⟩ := b
      cases b <;> cases c <;> by_cases h2 : S.1 3 3 i = p <;> by_cases h3 : S.1 3 6 i = 0 <;> by_cases h4 : S.1 3 7 i ≤ S.1 3 0 4 <;> by_cases h5 : S.1 3 7 i < 6 <;> simp [h2, h3, h4, h5, bI]
    · simp (disch := first | omega | exact hB _ _ | assumption | decide) only [st_MD_promise, rs_L, hi, h1, mr_md E _, mm_pI_at, mm_pI_pI, mm_pI_2, mm_pL_1, mm_pL_at, mm_pL_pL, mm_pL_3, mm_pM_1, mm_pM_2, mm_pM_at, mm_pM_pM, mm_pI_pL, mm_pI_pM, mm_pL_pM, Bool.false_eq_true, n_10, true_and, and_true, false_and, and_false, Nat.not_lt_zero, true_or, or_true, eq_self, mm_z, mm_rs, sw_xc_ite, sw_xv_ite, n_m1, Nat.lt_irrefl, not_false_eq_true, not_true_eq_false, inS_0, inS_1, ite_not, sw_xv_some, sw_xm_some, sw_xc_some, sw_xc_void, if_true, if_false, reduceIte, bI_0, bI_01, bI_1, nt_or, Nat.reduceAdd, n_add, n_mul, n_addL, n_Ladd, n_mulL, n_Lmul, n_sub, n_subL, n_lt, n_eq, n_ltL, n_Llt, n_eqL, n_Leq, n_nneg, n_pos]
      simp [h1]
  · rw [u_MD_promise_0]
    simp (disch := first | omega | exact hB _ _ | assumption | decide) only [st_MD_promise, rs_L, mr_md E _, mm_pI_at, mm_pI_pI, mm_pI_2, mm_pL_1, mm_pL_at, mm_pL_pL, mm_pL_3, mm_pM_1, mm_pM_2, mm_pM_at, mm_pM_pM, mm_pI_pL, mm_pI_pM, mm_pL_pM, Bool.false_eq_true, n_10, true_and, and_true, false_and, and_false, Nat.not_lt_zero, true_or, or_true, eq_self, mm_z, mm_rs, sw_xc_ite, sw_xv_ite, n_m1, Nat.lt_irrefl, not_false_eq_true, not_true_eq_false, inS_0, inS_1, ite_not, sw_xv_some, sw_xm_some, sw_xc_some, sw_xc_void, if_true, if_false, reduceIte, bI_0, bI_01, bI_1, nt_or, Nat.reduceAdd, n_add, n_mul, n_addL, n_Ladd, n_mulL, n_Lmul, n_sub, n_subL, n_lt, n_eq, n_ltL, n_Llt, n_eqL, n_Leq, n_nneg, n_pos]
set_option maxRecDepth 100000 in
set_option maxHeartbeats 4000000 in
theorem md_prom1 (hI : IT (S.1 3)) {k : Nat} (hk : k < S.1 3 0 2) (s : Int32) (hl : ∀ x, x < S.1 3 0 1 → inS s x = true → S.1 3 7 x < 6) (a1 a3 a4 a6 a7 a9 a11 : Value) : h_MD_promise_1 E [.ref 71, a1, .int (nI (S.1 3 10 k)), a3, a4, .int s, a6, a7, .int (nI k), a9, .int 0, a11] (mk S) = some (some (.int (nI k)), mk (mm_pI S 3 (tw_pb (S.1 3) k s))) := by
  have hn := hI.n
  have hk2 := hI.k
  have key := lp_upD (δ := Value) (G := fun i d a => h_MD_promise_1 E [.ref 71, a1, .int (nI (S.1 3 10 k)), a3, a4, .int s, a6, a7, .int (nI k), a9, .int (nI i), d] (mk (mm_pI S 3 a))) (P := fun i a => (∀ f i, a f i < 2147483648) ∧ a 0 = S.1 3 0 ∧ (∀ x, i ≤ x → a 7 x = S.1 3 7 x) ∧ a 10 = S.1 3 10) (f := fun x a => if inS s x = true then mm_u (tw_app a x k) 3 x (a 10 k) else a) (fin := fun a => some (some (.int (nI k)), mk (mm_pI S 3 a))) (n := S.1 3 0 1) (a0 := S.1 3) ⟨hI.b, rfl, fun _ _ => rfl, rfl⟩ (fun i d a hi hP => ?_) (fun d a hP => ?_) a11
  · rw [mm_pI_id] at key
    exact key
  · obtain ⟨hB, h0, h7, h10⟩ := hP
    have hi16 : i < 16 := by omega
    by_cases h1 : inS s i = true
    · rw [if_pos h1]
      have hl6 : a 7 i < 6 := by rw [h7 i (Nat.le_refl i)]; exact hl i hi h1
      refine ⟨⟨.int (nI (16 + 12 * i)), ?_⟩, ?_, ?_, ?_, ?_⟩
      · rw [u_MD_promise_1]
        have e1 : a 0 1 = S.1 3 0 1 := by rw [h0]
        have e2 : a 10 k = S.1 3 10 k := by rw [h10]
        have g7 : mm_u a 8 (6 * i + a 7 i) k 7 = a 7 := mm_u_fn (by decide)
        unfold tw_app
        rw [e2]
        simp (disch := first | omega | exact hB _ _ | assumption | decide) only [st_MD_promise, rs_L, e1, hi, h1, rs_t, ws_t, ws_c _ hi16 hl6, g7, mr_md E _, mm_pI_at, mm_pI_pI, mm_pI_2, mm_pL_1, mm_pL_at, mm_pL_pL, mm_pL_3, mm_pM_1, mm_pM_2, mm_pM_at, mm_pM_pM, mm_pI_pL, mm_pI_pM, mm_pL_pM, Bool.false_eq_true, n_10, true_and, and_true, false_and, and_false, Nat.not_lt_zero, true_or, or_true, eq_self, mm_z, mm_rs, sw_xc_ite, sw_xv_ite, n_m1, Nat.lt_irrefl, not_false_eq_true, not_true_eq_false, inS_0, inS_1, ite_not, sw_xv_some, sw_xm_some, sw_xc_some, sw_xc_void, if_true, if_false, reduceIte, bI_0, bI_01, bI_1, nt_or, Nat.reduceAdd, n_add, n_mul, n_addL, n_Ladd, n_mulL, n_Lmul, n_sub, n_subL, n_lt, n_eq, n_ltL, n_Llt, n_eqL, n_Leq, n_nneg, n_pos]
      · exact mm_u_b (mm_u_b (mm_u_b hB (by omega)) (by omega)) (hB _ _)
      · rw [mm_u_fn (by decide)]; unfold tw_app; rw [mm_u_fn (by decide), mm_u_fn (by decide)]; exact h0
      · intro x hx
        rw [mm_u_fn (by decide)]; unfold tw_app; rw [mm_u_ne _ (by omega), mm_u_fn (by decide)]; exact h7 x (by omega)
      · rw [mm_u_fn (by decide)]; unfold tw_app; rw [mm_u_fn (by decide), mm_u_fn (by decide)]; exact h10
    · rw [if_neg h1]
      refine ⟨⟨d, ?_⟩, hB, h0, fun x hx => h7 x (by omega), h10⟩
      have e1 : a 0 1 = S.1 3 0 1 := by rw [h0]
      rw [u_MD_promise_1]
      simp (disch := first | omega | exact hB _ _ | assumption | decide) only [st_MD_promise, rs_L, e1, hi, h1, mr_md E _, mm_pI_at, mm_pI_pI, mm_pI_2, mm_pL_1, mm_pL_at, mm_pL_pL, mm_pL_3, mm_pM_1, mm_pM_2, mm_pM_at, mm_pM_pM, mm_pI_pL, mm_pI_pM, mm_pL_pM, Bool.false_eq_true, n_10, true_and, and_true, false_and, and_false, Nat.not_lt_zero, true_or, or_true, eq_self, mm_z, mm_rs, sw_xc_ite, sw_xv_ite, n_m1, Nat.lt_irrefl, not_false_eq_true, not_true_eq_false, inS_0, inS_1, ite_not, sw_xv_some, sw_xm_some, sw_xc_some, sw_xc_void, if_true, if_false, reduceIte, bI_0, bI_01, bI_1, nt_or, Nat.reduceAdd, n_add, n_mul, n_addL, n_Ladd, n_mulL, n_Lmul, n_sub, n_subL, n_lt, n_eq, n_ltL, n_Llt, n_eqL, n_Leq, n_nneg, n_pos]
  · obtain ⟨hB, h0, h7, h10⟩ := hP
    have e1 : a 0 1 = S.1 3 0 1 := by rw [h0]
    rw [u_MD_promise_1]
    simp (disch := first | omega | exact hB _ _ | assumption | decide) only [st_MD_promise, rs_L, e1, mr_md E _, mm_pI_at, mm_pI_pI, mm_pI_2, mm_pL_1, mm_pL_at, mm_pL_pL, mm_pL_3, mm_pM_1, mm_pM_2, mm_pM_at, mm_pM_pM, mm_pI_pL, mm_pI_pM, mm_pL_pM, Bool.false_eq_true, n_10, true_and, and_true, false_and, and_false, Nat.not_lt_zero, true_or, or_true, eq_self, mm_z, mm_rs, sw_xc_ite, sw_xv_ite, n_m1, Nat.lt_irrefl, not_false_eq_true, not_true_eq_false, inS_0, inS_1, ite_not, sw_xv_some, sw_xm_some, sw_xc_some, sw_xc_void, if_true, if_false, reduceIte, bI_0, bI_01, bI_1, nt_or, Nat.reduceAdd, n_add, n_mul, n_addL, n_Ladd, n_mulL, n_Lmul, n_sub, n_subL, n_lt, n_eq, n_ltL, n_Llt, n_eqL, n_Leq, n_nneg, n_pos]
set_option maxRecDepth 100000 in
set_option maxHeartbeats 4000000 in
theorem c_Town_putBehind {t : Nat} (h : t < 3) (hI : IT (S.1 t)) {k : Nat} (hk : k < S.1 t 0 2) (s : Int32) (hl : ∀ x, x < S.1 t 0 1 → inS s x = true → S.1 t 7 x < 6) : f_Town_putBehind E (.ref (mm_tn t 0)) (.int (nI k)) (.int s) (mk S) = some (none, mk (mm_pI S t (tw_pb (S.1 t) k s))) := by
  have hn := hI.n
  have hk2 := hI.k
  have key := lp_up (G := fun i a => h_Town_putBehind_0 E [.ref (mm_tn t 0), .int (nI k), .int s, .int (nI i)] (mk (mm_pI S t a))) (P := fun i a => (∀ f i, a f i < 2147483648) ∧ a 0 = S.1 t 0 ∧ (∀ x, i ≤ x → a 7 x = S.1 t 7 x)) (f := fun x a => if inS s x = true then mm_u (tw_app a x k) 3 x (a 10 k) else a) (fin := fun a => some (none, mk (mm_pI S t a))) (n := S.1 t 0 1) (a0 := S.1 t) ⟨hI.b, rfl, fun _ _ => rfl⟩ (fun i a hi hP => ?_) (fun a hP => ?_)
  · simp only [e_Town_putBehind, st_Town_putBehind]
    rw [mm_pI_id] at key
    exact key
  · obtain ⟨hB, h0, h7⟩ := hP
    have hi16 : i < 16 := by omega
    by_cases h1 : inS s i = true
    · rw [if_pos h1]
      have hl6 : a 7 i < 6 := by rw [h7 i (Nat.le_refl i)]; exact hl i hi h1
      refine ⟨?_, ?_, ?_, ?_⟩
      · rw [u_Town_putBehind_0]
        have e1 : a 0 1 = S.1 t 0 1 := by rw [h0]
        have g7 : mm_u a 8 (6 * i + a 7 i) k 7 = a 7 := mm_u_fn (by decide)
        have g10 : mm_u (mm_u a 8 (6 * i + a 7 i) k) 7 i (a 7 i + 1) 10 = a 10 := by rw [mm_u_fn (by decide), mm_u_fn (by decide)]
        unfold tw_app
        simp (disch := first | omega | exact hB _ _ | assumption | decide) only [st_Town_putBehind, mr_town E _ t h, e1, hi, h1, e_SW_isInSet, st_SW_isInSet, e_Things_append, st_Things_append, hl6, mw_t11 _ h, mw_t10 _ h, mw_t6 _ h, Nat.mul_comm i 6, g7, g10, mm_pI_at, mm_pI_pI, mm_pI_2, mm_pL_1, mm_pL_at, mm_pL_pL, mm_pL_3, mm_pM_1, mm_pM_2, mm_pM_at, mm_pM_pM, mm_pI_pL, mm_pI_pM, mm_pL_pM, Bool.false_eq_true, n_10, true_and, and_true, false_and, and_false, Nat.not_lt_zero, true_or, or_true, eq_self, mm_z, mm_rs, sw_xc_ite, sw_xv_ite, n_m1, Nat.lt_irrefl, not_false_eq_true, not_true_eq_false, inS_0, inS_1, ite_not, sw_xv_some, sw_xm_some, sw_xc_some, sw_xc_void, if_true, if_false, reduceIte, bI_0, bI_01, n_add, n_mul, n_addL, n_Ladd, n_mulL, n_Lmul, n_sub, n_subL, n_lt, n_eq, n_ltL, n_Llt, n_eqL, n_Leq, n_nneg, n_pos]
      · exact mm_u_b (mm_u_b (mm_u_b hB (by omega)) (by omega)) (hB _ _)
      · rw [mm_u_fn (by decide)]; unfold tw_app; rw [mm_u_fn (by decide), mm_u_fn (by decide)]; exact h0
      · intro x hx
        rw [mm_u_fn (by decide)]; unfold tw_app; rw [mm_u_ne _ (by omega), mm_u_fn (by decide)]; exact h7 x (by omega)
    · rw [if_neg h1]
      refine ⟨?_, hB, h0, fun x hx => h7 x (by omega)⟩
      have e1 : a 0 1 = S.1 t 0 1 := by rw [h0]
      rw [u_Town_putBehind_0]
      simp (disch := first | omega | exact hB _ _ | assumption | decide) only [st_Town_putBehind, mr_town E _ t h, e1, hi, h1, e_SW_isInSet, st_SW_isInSet, mm_pI_at, mm_pI_pI, mm_pI_2, mm_pL_1, mm_pL_at, mm_pL_pL, mm_pL_3, mm_pM_1, mm_pM_2, mm_pM_at, mm_pM_pM, mm_pI_pL, mm_pI_pM, mm_pL_pM, Bool.false_eq_true, n_10, true_and, and_true, false_and, and_false, Nat.not_lt_zero, true_or, or_true, eq_self, mm_z, mm_rs, sw_xc_ite, sw_xv_ite, n_m1, Nat.lt_irrefl, not_false_eq_true, not_true_eq_false, inS_0, inS_1, ite_not, sw_xv_some, sw_xm_some, sw_xc_some, sw_xc_void, if_true, if_false, reduceIte, bI_0, bI_01, n_add, n_mul, n_addL, n_Ladd, n_mulL, n_Lmul, n_sub, n_subL, n_lt, n_eq, n_ltL, n_Llt, n_eqL, n_Leq, n_nneg, n_pos]
  · obtain ⟨hB, h0, h7⟩ := hP
    have e1 : a 0 1 = S.1 t 0 1 := by rw [h0]
    rw [u_Town_putBehind_0]
    simp (disch := first | omega | exact hB _ _ | assumption | decide) only [st_Town_putBehind, mr_town E _ t h, e1, mm_pI_at, mm_pI_pI, mm_pI_2, mm_pL_1, mm_pL_at, mm_pL_pL, mm_pL_3, mm_pM_1, mm_pM_2, mm_pM_at, mm_pM_pM, mm_pI_pL, mm_pI_pM, mm_pL_pM, Bool.false_eq_true, n_10, true_and, and_true, false_and, and_false, Nat.not_lt_zero, true_or, or_true, eq_self, mm_z, mm_rs, sw_xc_ite, sw_xv_ite, n_m1, Nat.lt_irrefl, not_false_eq_true, not_true_eq_false, inS_0, inS_1, ite_not, sw_xv_some, sw_xm_some, sw_xc_some, sw_xc_void, if_true, if_false, reduceIte, bI_0, bI_01, n_add, n_mul, n_addL, n_Ladd, n_mulL, n_Lmul, n_sub, n_subL, n_lt, n_eq, n_ltL, n_Llt, n_eqL, n_Leq, n_nneg, n_pos]
end PR
