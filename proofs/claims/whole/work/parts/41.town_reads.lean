/-! ===== Promises, People, Town: reads ===== -/
def tw_owed (T : Nat → Nat → Nat) (a b : Nat) : Nat := tw_sum (T 0 2) (fun k => T 13 k == 0 && (T 9 k == a && T 10 k == b)) (T 11)
section C41
variable (E : sw_E) (S : sw_S) (t : Nat)
set_option maxRecDepth 100000 in
set_option maxHeartbeats 4000000 in
theorem c_Promises_sumBetween (h : t < 3) (hI : IT (S.1 t)) {a b : Nat} (ha : a < 2147483648) (hb : b < 2147483648) : f_Promises_sumBetween E (.ref (mm_tn t 12)) (.int (nI a)) (.int (nI b)) (mk S) = some (some (.int (nI (tw_owed (S.1 t) a b))), mk S) := by
  have hB := hI.b
  have hk := hI.k
  have key := lp_up' (G := fun i c => h_Promises_sumBetween_0 E [.ref (mm_tn t 12), .int (nI a), .int (nI b), .int (nI c), .int (nI i)] (mk S)) (f := fun i c => if (S.1 t 13 i == 0 && (S.1 t 9 i == a && S.1 t 10 i == b)) = true then c + S.1 t 11 i else c) (fin := fun c => some (some (.int (nI c)), mk S)) (n := S.1 t 0 2) (a0 := 0) (fun i c hi => ?_) (fun c => ?_)
  · simp only [e_Promises_sumBetween, st_Promises_sumBetween]
    exact key
  · rw [u_Promises_sumBetween_0]
    simp (disch := first | omega | exact hB _ _ | assumption | decide) only [st_Promises_sumBetween, mr_town E S t h, hi, e_Promises_isOpenBetween, st_Promises_isOpenBetween, e_Promises_isOpen, st_Promises_isOpen, Bool.false_eq_true, true_or, or_true, eq_self, mm_z, mm_rs, sw_xc_ite, sw_xv_ite, n_m1, Nat.lt_irrefl, not_false_eq_true, not_true_eq_false, inS_0, inS_1, ite_not, sw_xv_some, sw_xm_some, sw_xc_some, sw_xc_void, if_true, if_false, reduceIte, bI_0, bI_01, n_add, n_mul, n_addL, n_Ladd, n_mulL, n_Lmul, n_sub, n_subL, n_lt, n_eq, n_ltL, n_Llt, n_eqL, n_Leq, n_nneg, n_pos]
    by_cases h1 : S.1 t 13 i = 0 <;> by_cases h2 : S.1 t 9 i = a <;> by_cases h3 : S.1 t 10 i = b <;> simp [h1, h2, h3, n_add]
  · rw [u_Promises_sumBetween_0]
    simp (disch := first | omega | exact hB _ _ | assumption | decide) only [st_Promises_sumBetween, mr_town E S t h, Bool.false_eq_true, true_or, or_true, eq_self, mm_z, mm_rs, sw_xc_ite, sw_xv_ite, n_m1, Nat.lt_irrefl, not_false_eq_true, not_true_eq_false, inS_0, inS_1, ite_not, sw_xv_some, sw_xm_some, sw_xc_some, sw_xc_void, if_true, if_false, reduceIte, bI_0, bI_01, n_add, n_mul, n_addL, n_Ladd, n_mulL, n_Lmul, n_sub, n_subL, n_lt, n_eq, n_ltL, n_Llt, n_eqL, n_Leq, n_nneg, n_pos]
set_option maxRecDepth 100000 in
set_option maxHeartbeats 4000000 in
theorem c_Promises_openOnes (h : t < 3) (hI : IT (S.1 t)) : f_Promises_openOnes E (.ref (mm_tn t 12)) (mk S) = some (some (.int (nI (tw_cnt (S.1 t 0 2) (fun k => S.1 t 13 k == 0)))), mk S) := by
  have hB := hI.b
  have hk := hI.k
  have key := lp_up' (G := fun i c => h_Promises_openOnes_0 E [.ref (mm_tn t 12), .int (nI c), .int (nI i)] (mk S)) (f := fun i c => if (S.1 t 13 i == 0) = true then c + 1 else c) (fin := fun c => some (some (.int (nI c)), mk S)) (n := S.1 t 0 2) (a0 := 0) (fun i c hi => ?_) (fun c => ?_)
  · simp only [e_Promises_openOnes, st_Promises_openOnes]
    exact key
  · rw [u_Promises_openOnes_0]
    simp (disch := first | omega | exact hB _ _ | assumption | decide) only [st_Promises_openOnes, mr_town E S t h, hi, e_Promises_isOpen, st_Promises_isOpen, Bool.false_eq_true, true_or, or_true, eq_self, mm_z, mm_rs, sw_xc_ite, sw_xv_ite, n_m1, Nat.lt_irrefl, not_false_eq_true, not_true_eq_false, inS_0, inS_1, ite_not, sw_xv_some, sw_xm_some, sw_xc_some, sw_xc_void, if_true, if_false, reduceIte, bI_0, bI_01, n_add, n_mul, n_addL, n_Ladd, n_mulL, n_Lmul, n_sub, n_subL, n_lt, n_eq, n_ltL, n_Llt, n_eqL, n_Leq, n_nneg, n_pos]
    by_cases h1 : S.1 t 13 i = 0 <;> simp [h1]
  · rw [u_Promises_openOnes_0]
    simp (disch := first | omega | exact hB _ _ | assumption | decide) only [st_Promises_openOnes, mr_town E S t h, Bool.false_eq_true, true_or, or_true, eq_self, mm_z, mm_rs, sw_xc_ite, sw_xv_ite, n_m1, Nat.lt_irrefl, not_false_eq_true, not_true_eq_false, inS_0, inS_1, ite_not, sw_xv_some, sw_xm_some, sw_xc_some, sw_xc_void, if_true, if_false, reduceIte, bI_0, bI_01, n_add, n_mul, n_addL, n_Ladd, n_mulL, n_Lmul, n_sub, n_subL, n_lt, n_eq, n_ltL, n_Llt, n_eqL, n_Leq, n_nneg, n_pos]
set_option maxRecDepth 100000 in
set_option maxHeartbeats 4000000 in
theorem c_Promises_become {a b : Nat} (ha : a < 3) (hb : b < 3) (hab : b ≠ a) : f_Promises_become E (.ref (mm_tn a 12)) (.ref (mm_tn b 12)) (mk S) = some (none, mk (mm_pI S a (mm_u (mm_uf (mm_uf (mm_uf (mm_uf (mm_uf (S.1 a) 9 (S.1 b 9)) 10 (S.1 b 10)) 11 (S.1 b 11)) 12 (S.1 b 12)) 13 (S.1 b 13)) 0 2 (S.1 b 0 2)))) := by
  have e1 : ∀ (S : sw_S) T, (mm_pI S a T).1 b = S.1 b := fun S T => mm_pI_ne S T hab
  simp (disch := omega) only [e_Promises_become, st_Promises_become, mr_town _ _ a ha, mr_town _ _ b hb, mc_t13 _ ha hb, mc_t14 _ ha hb, mc_t15 _ ha hb, mc_t16 _ ha hb, mc_t17 _ ha hb, mw_t12_5 _ ha, e1, mm_pI_at, mm_pI_pI, mm_pI_2, mm_pL_1, mm_pL_at, mm_pL_pL, mm_pL_3, mm_pM_1, mm_pM_2, mm_pM_at, mm_pM_pM, mm_pI_pL, mm_pI_pM, mm_pL_pM, Bool.false_eq_true, true_or, or_true, eq_self, mm_z, mm_rs, sw_xc_ite, sw_xv_ite, n_m1, Nat.lt_irrefl, not_false_eq_true, not_true_eq_false, inS_0, inS_1, ite_not, sw_xv_some, sw_xm_some, sw_xc_some, sw_xc_void, if_true, if_false, reduceIte, bI_0, bI_01]
set_option maxRecDepth 100000 in
set_option maxHeartbeats 4000000 in
theorem c_People_become {a b : Nat} (ha : a < 3) (hb : b < 3) (hab : b ≠ a) : f_People_become E (.ref (mm_tn a 1)) (.ref (mm_tn b 1)) (mk S) = some (none, mk (mm_pL (mm_pI S a (mm_u (mm_uf (S.1 a) 1 (S.1 b 1)) 0 0 (S.1 b 0 0))) a (S.2.1 b))) := by
  have e1 : ∀ (S : sw_S) T, (mm_pI S a T).1 b = S.1 b := fun S T => mm_pI_ne S T hab
  simp (disch := omega) only [e_People_become, st_People_become, mr_town _ _ a ha, mr_town _ _ b hb, mc_t2 _ ha hb, mc_t3 _ ha hb, mw_t1_2 _ ha, e1, mm_pI_at, mm_pI_pI, mm_pI_2, mm_pL_1, mm_pL_at, mm_pL_pL, mm_pL_3, mm_pM_1, mm_pM_2, mm_pM_at, mm_pM_pM, mm_pI_pL, mm_pI_pM, mm_pL_pM, Bool.false_eq_true, true_or, or_true, eq_self, mm_z, mm_rs, sw_xc_ite, sw_xv_ite, n_m1, Nat.lt_irrefl, not_false_eq_true, not_true_eq_false, inS_0, inS_1, ite_not, sw_xv_some, sw_xm_some, sw_xc_some, sw_xc_void, if_true, if_false, reduceIte, bI_0, bI_01]
set_option maxRecDepth 100000 in
set_option maxHeartbeats 4000000 in
/-- a town becomes another one -/
theorem c_Town_become {a b : Nat} (ha : a < 3) (hb : b < 3) (hab : b ≠ a) (hf : ∀ i, S.1 b 6 i ≤ 1) : f_Town_become E (.ref (mm_tn a 0)) (.ref (mm_tn b 0)) (mk S) = some (none, mk (mm_pL (mm_pI S a (S.1 b)) a (S.2.1 b))) := by
  have e1 : ∀ (S : sw_S) T, (mm_pI S a T).1 b = S.1 b := fun S T => mm_pI_ne S T hab
  have e2 : ∀ (S : sw_S) T, (mm_pL S a T).1 = S.1 := fun S T => rfl
  have cT : ∀ (S' : sw_S), S'.1 b = S.1 b → f_Things_become E (.ref (mm_tn a 4)) (.ref (mm_tn b 4)) (mk S') = _ := fun S' e => c_Things_become E S' ha hb hab (by rw [e]; exact hf)
  simp (disch := first | omega | (simp only [e1, e2]; done)) only [e_Town_become, st_Town_become, mr_town _ _ a ha, mr_town _ _ b hb, c_People_become E _ ha hb hab, cT, c_Promises_become E _ ha hb hab, mw_t0_3 _ ha, mw_t0_4 _ ha, mw_t0_5 _ ha, e1, mm_pI_at, mm_pI_pI, mm_pI_2, mm_pL_1, mm_pL_at, mm_pL_pL, mm_pL_3, mm_pM_1, mm_pM_2, mm_pM_at, mm_pM_pM, mm_pI_pL, mm_pI_pM, mm_pL_pM, Bool.false_eq_true, true_or, or_true, eq_self, mm_z, mm_rs, sw_xc_ite, sw_xv_ite, n_m1, Nat.lt_irrefl, not_false_eq_true, not_true_eq_false, inS_0, inS_1, ite_not, sw_xv_some, sw_xm_some, sw_xc_some, sw_xc_void, if_true, if_false, reduceIte, bI_0, bI_01]
  refine congrArg (fun M => some ((none : Option Value), M)) (mm_mk_congr (fun t f i ht hv => ?_) (fun t i _ _ => ?_) (fun t i _ _ => ?_) ?_)
  · simp only [mm_pL_1]
    by_cases hta : t = a
    · subst hta
      simp only [mm_pI_at]
      rcases hv with ⟨rfl, hi⟩ | ⟨rfl, hi⟩ | ⟨h1, h2, hi⟩ | ⟨rfl, hi⟩ | ⟨h1, h2, hi⟩
      · rcases (show i = 0 ∨ i = 1 ∨ i = 2 ∨ i = 3 ∨ i = 4 ∨ i = 5 by omega) with rfl | rfl | rfl | rfl | rfl | rfl <;> simp [mm_u, mm_uf]
      · simp [mm_u, mm_uf]
      · rcases (show f = 2 ∨ f = 3 ∨ f = 4 ∨ f = 5 ∨ f = 6 ∨ f = 7 by omega) with rfl | rfl | rfl | rfl | rfl | rfl <;> simp [mm_u, mm_uf]
      · simp [mm_u, mm_uf]
      · rcases (show f = 9 ∨ f = 10 ∨ f = 11 ∨ f = 12 ∨ f = 13 by omega) with rfl | rfl | rfl | rfl | rfl <;> simp [mm_u, mm_uf]
    · rw [mm_pI_ne _ _ hta, mm_pI_ne _ _ hta]
  · simp only [mm_pL, mm_pI]
  · simp only [mm_pL, mm_pI]
  · rfl
set_option maxRecDepth 100000 in
set_option maxHeartbeats 4000000 in
theorem c_Town_worth (h : t < 3) (hI : IT (S.1 t)) {x p q : Nat} (hx : x < S.1 t 0 1) (hp : p < 10) (hq : q ≤ 100) : f_Town_worth E (.ref (mm_tn t 0)) (.int (nI x)) (.int (nI p)) (.int (nI q)) (mk S) = some (some (.int (nI (tw_w (S.1 t) x p q))), mk S) := by
  have hB := hI.b
  have hn := hI.n
  have hb := (hI.th x hx).2.2.1
  have h1 : S.1 t 4 x * q ≤ 9999 * 100 := Nat.mul_le_mul hb hq
  have h2 : S.1 t 4 x * q < 2147483648 := by omega
  have h3 : S.1 t 4 x * q / 100 < 2147483648 := by omega
  simp (disch := first | omega | exact hB _ _ | assumption | decide) only [e_Town_worth, st_Town_worth, mr_town E S t h, e_SW_worthFor, st_SW_worthFor, n_divL, Bool.false_eq_true, true_or, or_true, eq_self, mm_z, mm_rs, sw_xc_ite, sw_xv_ite, n_m1, Nat.lt_irrefl, not_false_eq_true, not_true_eq_false, inS_0, inS_1, ite_not, sw_xv_some, sw_xm_some, sw_xc_some, sw_xc_void, if_true, if_false, reduceIte, bI_0, bI_01, n_add, n_mul, n_addL, n_Ladd, n_mulL, n_Lmul, n_sub, n_subL, n_lt, n_eq, n_ltL, n_Llt, n_eqL, n_Leq, n_nneg, n_pos]
  unfold tw_w w_k
  by_cases hs : S.1 t 6 x = 0
  · simp only [hs, if_true]
    repeat' split
    all_goals first | rfl | omega | (simp_all; done)
  · simp only [hs, if_false]
    rfl
set_option maxRecDepth 100000 in
set_option maxHeartbeats 4000000 in
theorem c_Town_worthOfAll (h : t < 3) (hI : IT (S.1 t)) (s : Int32) {p q : Nat} (hp : p < 10) (hq : q ≤ 100) : f_Town_worthOfAll E (.ref (mm_tn t 0)) (.int s) (.int (nI p)) (.int (nI q)) (mk S) = some (some (.int (nI (tw_wa (S.1 t) s p q))), mk S) := by
  have hB := hI.b
  have hn := hI.n
  have key := lp_up' (G := fun i c => h_Town_worthOfAll_0 E [.ref (mm_tn t 0), .int s, .int (nI p), .int (nI q), .int (nI c), .int (nI i)] (mk S)) (f := fun i c => if inS s i = true then c + tw_w (S.1 t) i p q else c) (fin := fun c => some (some (.int (nI c)), mk S)) (n := S.1 t 0 1) (a0 := 0) (fun i c hi => ?_) (fun c => ?_)
  · simp only [e_Town_worthOfAll, st_Town_worthOfAll]
    exact key
  · rw [u_Town_worthOfAll_0]
    simp (disch := first | omega | exact hB _ _ | assumption | decide) only [st_Town_worthOfAll, mr_town E S t h, hi, e_SW_isInSet, st_SW_isInSet, c_Town_worth E S t h hI hi hp hq, Bool.false_eq_true, true_or, or_true, eq_self, mm_z, mm_rs, sw_xc_ite, sw_xv_ite, n_m1, Nat.lt_irrefl, not_false_eq_true, not_true_eq_false, inS_0, inS_1, ite_not, sw_xv_some, sw_xm_some, sw_xc_some, sw_xc_void, if_true, if_false, reduceIte, bI_0, bI_01, n_add, n_mul, n_addL, n_Ladd, n_mulL, n_Lmul, n_sub, n_subL, n_lt, n_eq, n_ltL, n_Llt, n_eqL, n_Leq, n_nneg, n_pos]
    by_cases h1 : inS s i = true <;> simp [h1, n_add]
  · rw [u_Town_worthOfAll_0]
    simp (disch := first | omega | exact hB _ _ | assumption | decide) only [st_Town_worthOfAll, mr_town E S t h, Bool.false_eq_true, true_or, or_true, eq_self, mm_z, mm_rs, sw_xc_ite, sw_xv_ite, n_m1, Nat.lt_irrefl, not_false_eq_true, not_true_eq_false, inS_0, inS_1, ite_not, sw_xv_some, sw_xm_some, sw_xc_some, sw_xc_void, if_true, if_false, reduceIte, bI_0, bI_01, n_add, n_mul, n_addL, n_Ladd, n_mulL, n_Lmul, n_sub, n_subL, n_lt, n_eq, n_ltL, n_Llt, n_eqL, n_Leq, n_nneg, n_pos]
set_option maxRecDepth 100000 in
set_option maxHeartbeats 4000000 in
theorem c_Town_coverOf (h : t < 3) (hI : IT (S.1 t)) {k : Nat} (hk : k < S.1 t 0 2) : f_Town_coverOf E (.ref (mm_tn t 0)) (.int (nI k)) (mk S) = some (some (.int (nI (tw_cov (S.1 t) k))), mk S) := by
  have hB := hI.b
  have hn := hI.n
  have hk2 := hI.k
  have hto := (hI.pr k hk).2.1
  have hp := hI.p
  simp (disch := first | omega | exact hB _ _ | assumption | decide) only [e_Town_coverOf, st_Town_coverOf, mr_town E S t h, c_Things_behind E S t h hI (k := k) (by omega), c_Town_worthOfAll E S t h hI _ (p := S.1 t 10 k) (q := S.1 t 0 5) (by omega) hI.part, Bool.false_eq_true, true_or, or_true, eq_self, mm_z, mm_rs, sw_xc_ite, sw_xv_ite, n_m1, Nat.lt_irrefl, not_false_eq_true, not_true_eq_false, inS_0, inS_1, ite_not, sw_xv_some, sw_xm_some, sw_xc_some, sw_xc_void, if_true, if_false, reduceIte, bI_0, bI_01, n_add, n_mul, n_addL, n_Ladd, n_mulL, n_Lmul, n_sub, n_subL, n_lt, n_eq, n_ltL, n_Llt, n_eqL, n_Leq, n_nneg, n_pos]
  rfl
set_option maxRecDepth 100000 in
set_option maxHeartbeats 4000000 in
theorem c_Town_uncovered (h : t < 3) (hI : IT (S.1 t)) : f_Town_uncovered E (.ref (mm_tn t 0)) (mk S) = some (some (.int (tw_bare (S.1 t))), mk S) := by
  have hB := hI.b
  have hk := hI.k
  have key := lp_up' (G := fun i c => h_Town_uncovered_0 E [.ref (mm_tn t 0), .int c, .int (nI i)] (mk S)) (f := fun i c => if (S.1 t 13 i == 0 && decide (tw_cov (S.1 t) i < S.1 t 11 i)) = true then c ||| sb i else c) (fin := fun c => some (some (.int c), mk S)) (n := S.1 t 0 2) (a0 := 0) (fun i c hi => ?_) (fun c => ?_)
  · simp only [e_Town_uncovered, st_Town_uncovered]
    exact key
  · have hc : tw_cov (S.1 t) i ≤ 176000 := tw_wa_le hI hI.part
    rw [u_Town_uncovered_0]
    simp (disch := first | omega | exact hB _ _ | assumption | decide) only [st_Town_uncovered, mr_town E S t h, hi, e_Promises_isOpen, st_Promises_isOpen, c_Town_coverOf E S t h hI hi, Bool.false_eq_true, true_or, or_true, eq_self, mm_z, mm_rs, sw_xc_ite, sw_xv_ite, n_m1, Nat.lt_irrefl, not_false_eq_true, not_true_eq_false, inS_0, inS_1, ite_not, sw_xv_some, sw_xm_some, sw_xc_some, sw_xc_void, if_true, if_false, reduceIte, bI_0, bI_01, n_add, n_mul, n_addL, n_Ladd, n_mulL, n_Lmul, n_sub, n_subL, n_lt, n_eq, n_ltL, n_Llt, n_eqL, n_Leq, n_nneg, n_pos]
    by_cases h1 : S.1 t 13 i = 0 <;> by_cases h2 : tw_cov (S.1 t) i < S.1 t 11 i <;> simp [h1, h2, sb]
  · rw [u_Town_uncovered_0]
    simp (disch := first | omega | exact hB _ _ | assumption | decide) only [st_Town_uncovered, mr_town E S t h, Bool.false_eq_true, true_or, or_true, eq_self, mm_z, mm_rs, sw_xc_ite, sw_xv_ite, n_m1, Nat.lt_irrefl, not_false_eq_true, not_true_eq_false, inS_0, inS_1, ite_not, sw_xv_some, sw_xm_some, sw_xc_some, sw_xc_void, if_true, if_false, reduceIte, bI_0, bI_01, n_add, n_mul, n_addL, n_Ladd, n_mulL, n_Lmul, n_sub, n_subL, n_lt, n_eq, n_ltL, n_Llt, n_eqL, n_Leq, n_nneg, n_pos]
end C41
