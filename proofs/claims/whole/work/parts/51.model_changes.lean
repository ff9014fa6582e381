/-! ===== the reference: what changes ===== -/
theorem mw_m73 (S : sw_S) {i v : Nat} (hi : i < 328) : sw_sI (mk S) 73 (nI i) (nI v) = some (mk (mm_pI S 4 (mm_u (S.1 4) (mm_ff i) (mm_fi i) v))) := by
  rw [mm_sI (by decide) (show mm_cl S 73 = mm_iA 328 (mm_fl (S.1 4)) from rfl) hi (by decide)]
  congr 1
  have key : ∀ q, q ≠ 73 → mm_cl (mm_pI S 4 (mm_u (S.1 4) (mm_ff i) (mm_fi i) v)) q = mm_cl S q := by
    intro q hq
    unfold mm_cl
    split
    · next hr =>
      have e1 : (mm_pI S 4 (mm_u (S.1 4) (mm_ff i) (mm_fi i) v)).1 ((q - 1) / 18) = S.1 ((q - 1) / 18) := mm_pI_ne S _ (by omega)
      unfold mm_ct
      split <;> first | (simp only [e1]; done) | (rw [mm_pI_2]; done) | rfl
    · split
      · rfl
      · unfold mm_cr
        split <;> first | rfl | exact absurd rfl hq | (rw [mm_pI_ne S _ (by decide)]; done)
  refine mm_sCe (fun q hq => ?_) (by decide)
  split
  · next e =>
    subst e
    show mm_iA 328 (mm_fl ((mm_pI S 4 _).1 4)) = _
    rw [mm_pI_at]
    exact mm_iA_congr (fun j hj => mm_fl_u (S.1 4) hi j hj)
  · next e => exact key q e
theorem mw_m74 (S : sw_S) {i v : Nat} (hi : i < 328) : sw_sI (mk S) 74 (nI i) (nI v) = some (mk (mm_pI S 5 (mm_u (S.1 5) (mm_ff i) (mm_fi i) v))) := by
  rw [mm_sI (by decide) (show mm_cl S 74 = mm_iA 328 (mm_fl (S.1 5)) from rfl) hi (by decide)]
  congr 1
  have key : ∀ q, q ≠ 74 → mm_cl (mm_pI S 5 (mm_u (S.1 5) (mm_ff i) (mm_fi i) v)) q = mm_cl S q := by
    intro q hq
    unfold mm_cl
    split
    · next hr =>
      have e1 : (mm_pI S 5 (mm_u (S.1 5) (mm_ff i) (mm_fi i) v)).1 ((q - 1) / 18) = S.1 ((q - 1) / 18) := mm_pI_ne S _ (by omega)
      unfold mm_ct
      split <;> first | (simp only [e1]; done) | (rw [mm_pI_2]; done) | rfl
    · split
      · rfl
      · unfold mm_cr
        split <;> first | rfl | exact absurd rfl hq | (rw [mm_pI_ne S _ (by decide)]; done)
  refine mm_sCe (fun q hq => ?_) (by decide)
  split
  · next e =>
    subst e
    show mm_iA 328 (mm_fl ((mm_pI S 5 _).1 5)) = _
    rw [mm_pI_at]
    exact mm_iA_congr (fun j hj => mm_fl_u (S.1 5) hi j hj)
  · next e => exact key q e
theorem mm_un_val {f i : Nat} (h : mm_val f i) : mm_un f i < 328 ∧ mm_ff (mm_un f i) = f ∧ mm_fi (mm_un f i) = i := by
  unfold mm_un
  rcases h with ⟨rfl, hi⟩ | ⟨rfl, hi⟩ | ⟨h1, h2, hi⟩ | ⟨rfl, hi⟩ | ⟨h1, h2, hi⟩
  · rw [if_pos rfl]
    exact ⟨by omega, mm_ff_0 hi⟩
  · rw [if_neg (by omega), if_pos rfl]
    exact ⟨by omega, mm_ff_1 hi⟩
  · rw [if_neg (by omega), if_neg (by omega), if_pos (by omega)]
    have := mm_ff_t (t := i) (w := f - 2) hi (by omega)
    exact ⟨by omega, by rw [this.1]; omega, this.2⟩
  · rw [if_neg (by omega), if_neg (by omega), if_neg (by omega), if_pos rfl]
    have := mm_ff_c (t := i / 6) (i := i % 6) (by omega) (by omega)
    exact ⟨by omega, this.1, by rw [this.2]; omega⟩
  · rw [if_neg (by omega), if_neg (by omega), if_neg (by omega), if_neg (by omega)]
    have := mm_ff_p (k := i) (w := f - 9) hi (by omega)
    exact ⟨by omega, by rw [this.1]; omega, this.2⟩
/-- a row copied, place by place -/
def cpT (A B : Nat → Nat → Nat) : Nat → Nat → Nat := lp (fun n a => mm_u a (mm_ff n) (mm_fi n) (A (mm_ff n) (mm_fi n))) 328 B
theorem cpT_val (A B : Nat → Nat → Nat) {f i : Nat} (h : mm_val f i) : cpT A B f i = A f i := by
  have key := lp_inv (f := fun n a => mm_u a (mm_ff n) (mm_fi n) (A (mm_ff n) (mm_fi n))) (P := fun n a => n ≤ 328 → ∀ j, j < n → a (mm_ff j) (mm_fi j) = A (mm_ff j) (mm_fi j)) (n := 328) (a := B) (fun _ j hj => absurd hj (Nat.not_lt_zero j)) (fun n a hn hP _ j hj => by
    by_cases hjn : j = n
    · subst hjn; rw [mm_u_at]
    · rw [mm_u_ne _ (fun q => hjn (mm_flat_inj (by omega) (by omega) q.1 q.2))]
      exact hP (by omega) j (by omega))
  obtain ⟨h1, h2, h3⟩ := mm_un_val h
  have := key (Nat.le_refl _) _ h1
  rw [h2, h3] at this
  exact this
def cpH (A B : Nat → Int64) : Nat → Int64 := lp (fun n a => vp_updL a n (A n)) 10 B
theorem cpH_val (A B : Nat → Int64) {i : Nat} (h : i < 10) : cpH A B i = A i := by
  have key := lp_inv (f := fun n a => vp_updL a n (A n)) (P := fun n a => ∀ j, j < n → a j = A j) (n := 10) (a := B) (fun j hj => absurd hj (Nat.not_lt_zero j)) (fun n a hn hP j hj => by
    by_cases hjn : j = n
    · subst hjn; simp [vp_updL]
    · simp only [vp_updL, hjn, if_false]
      exact hP j (by omega))
  exact key i h
theorem cp_mk (S : sw_S) {t : Nat} (ht : t < 6) (A : Nat → Nat → Nat) (H : Nat → Int64) : mk (mm_pL (mm_pI S t (cpT A (S.1 t))) t (cpH H (S.2.1 t))) = mk (mm_pL (mm_pI S t A) t H) := by
  refine mm_mk_congr (fun t' f i ht' hv => ?_) (fun t' i ht' hi => ?_) (fun t' i ht' hi => ?_) rfl
  · simp only [mm_pL_1]
    by_cases e : t' = t
    · subst e; rw [mm_pI_at, mm_pI_at]; exact cpT_val _ _ hv
    · rw [mm_pI_ne _ _ e, mm_pI_ne _ _ e]
  · by_cases e : t' = t
    · subst e; rw [mm_pL_at, mm_pL_at]; exact cpH_val _ _ hi
    · rw [mm_pL_ne _ _ e, mm_pL_ne _ _ e]; rfl
  · rw [mm_pL_ne _ _ (by omega), mm_pL_ne _ _ (by omega)]; rfl
section CPY
variable (E : sw_E) (S : sw_S)
set_option maxRecDepth 100000 in
set_option maxHeartbeats 4000000 in
theorem md_cp_puts : h_MD_puts_0 E [.ref 71, .int 0] (mk S) = some (none, mk (mm_pL (mm_pI S 5 (S.1 3)) 5 (S.2.1 3))) := by
  have hne : ∀ (S' : sw_S) T, (mm_pI S' 5 T).1 3 = S'.1 3 := fun S' T => mm_pI_ne S' T (by decide)
  have hnl : ∀ (S' : sw_S) H, (mm_pL S' 5 H).2.1 3 = S'.2.1 3 := fun S' T => mm_pL_ne S' T (by decide)
  have r1 : ∀ (S' : sw_S) i, i < 328 → sw_aI E (mk S') 72 (nI i) = some (.int (nI (S'.1 3 (mm_ff i) (mm_fi i)))) := fun S' i hi => mm_aI (by decide) (show mm_cl S' 72 = mm_iA 328 (mm_fl (S'.1 3)) from rfl) hi (by decide)
  have k1 := lp_up' (G := fun i a => h_MD_puts_0 E [.ref 71, .int (nI i)] (mk (mm_pI S 5 a))) (f := fun n a => mm_u a (mm_ff n) (mm_fi n) (S.1 3 (mm_ff n) (mm_fi n))) (fin := fun a => h_MD_puts_1 E [.ref 71, .int (nI 0)] (mk (mm_pI S 5 a))) (n := 328) (a0 := S.1 5) (fun i a hi => ?_) (fun a => ?_)
  · have k2 := lp_up' (G := fun i b => h_MD_puts_1 E [.ref 71, .int (nI i)] (mk (mm_pL (mm_pI S 5 (cpT (S.1 3) (S.1 5))) 5 b))) (f := fun n a => vp_updL a n (S.2.1 3 n)) (fin := fun b => some (none, mk (mm_pL (mm_pI S 5 (cpT (S.1 3) (S.1 5))) 5 b))) (n := 10) (a0 := S.2.1 5) (fun i b hi => ?_) (fun b => ?_)
    · rw [mm_pI_id] at k1
      have e := mm_pL_id (mm_pI S 5 (cpT (S.1 3) (S.1 5))) 5
      have e2 : (mm_pI S 5 (cpT (S.1 3) (S.1 5))).2.1 5 = S.2.1 5 := rfl
      rw [e2] at e
      rw [e] at k2
      refine k1.trans (k2.trans ?_)
      show some (none, mk (mm_pL (mm_pI S 5 (cpT (S.1 3) (S.1 5))) 5 (cpH (S.2.1 3) (S.2.1 5)))) = _
      rw [cp_mk S (by decide)]
    · rw [u_MD_puts_1]
      simp (disch := first | omega | exact hB _ _ | assumption | decide) only [st_MD_puts, hi, mw_l78, hnl, hne, mr_md E _, mm_pI_at, mm_pI_pI, mm_pI_2, mm_pL_1, mm_pL_at, mm_pL_pL, mm_pL_3, mm_pM_1, mm_pM_2, mm_pM_at, mm_pM_pM, mm_pI_pL, mm_pI_pM, mm_pL_pM, Bool.false_eq_true, n_10, true_and, and_true, false_and, and_false, Nat.not_lt_zero, true_or, or_true, eq_self, mm_z, mm_rs, sw_xc_ite, sw_xv_ite, n_m1, Nat.lt_irrefl, not_false_eq_true, not_true_eq_false, inS_0, inS_1, ite_not, sw_xv_some, sw_xm_some, sw_xc_some, sw_xc_void, if_true, if_false, reduceIte, bI_0, bI_01, bI_1, nt_or, Nat.reduceAdd, n_add, n_mul, n_addL, n_Ladd, n_mulL, n_Lmul, n_sub, n_subL, n_lt, n_eq, n_ltL, n_Llt, n_eqL, n_Leq, n_nneg, n_pos]
    · rw [u_MD_puts_1]
      simp (disch := first | omega | exact hB _ _ | assumption | decide) only [st_MD_puts, mr_md E _, mm_pI_at, mm_pI_pI, mm_pI_2, mm_pL_1, mm_pL_at, mm_pL_pL, mm_pL_3, mm_pM_1, mm_pM_2, mm_pM_at, mm_pM_pM, mm_pI_pL, mm_pI_pM, mm_pL_pM, Bool.false_eq_true, n_10, true_and, and_true, false_and, and_false, Nat.not_lt_zero, true_or, or_true, eq_self, mm_z, mm_rs, sw_xc_ite, sw_xv_ite, n_m1, Nat.lt_irrefl, not_false_eq_true, not_true_eq_false, inS_0, inS_1, ite_not, sw_xv_some, sw_xm_some, sw_xc_some, sw_xc_void, if_true, if_false, reduceIte, bI_0, bI_01, bI_1, nt_or, Nat.reduceAdd, n_add, n_mul, n_addL, n_Ladd, n_mulL, n_Lmul, n_sub, n_subL, n_lt, n_eq, n_ltL, n_Llt, n_eqL, n_Leq, n_nneg, n_pos]
  · rw [u_MD_puts_0]
    simp (disch := first | omega | exact hB _ _ | assumption | decide) only [st_MD_puts, hi, r1, mw_m74, hne, mr_md E _, mm_pI_at, mm_pI_pI, mm_pI_2, mm_pL_1, mm_pL_at, mm_pL_pL, mm_pL_3, mm_pM_1, mm_pM_2, mm_pM_at, mm_pM_pM, mm_pI_pL, mm_pI_pM, mm_pL_pM, Bool.false_eq_true, n_10, true_and, and_true, false_and, and_false, Nat.not_lt_zero, true_or, or_true, eq_self, mm_z, mm_rs, sw_xc_ite, sw_xv_ite, n_m1, Nat.lt_irrefl, not_false_eq_true, not_true_eq_false, inS_0, inS_1, ite_not, sw_xv_some, sw_xm_some, sw_xc_some, sw_xc_void, if_true, if_false, reduceIte, bI_0, bI_01, bI_1, nt_or, Nat.reduceAdd, n_add, n_mul, n_addL, n_Ladd, n_mulL, n_Lmul, n_sub, n_subL, n_lt, n_eq, n_ltL, n_Llt, n_eqL, n_Leq, n_nneg, n_pos]
  · rw [u_MD_puts_0]
    simp (disch := first | omega | exact hB _ _ | assumption | decide) only [st_MD_puts, mr_md E _, mm_pI_at, mm_pI_pI, mm_pI_2, mm_pL_1, mm_pL_at, mm_pL_pL, mm_pL_3, mm_pM_1, mm_pM_2, mm_pM_at, mm_pM_pM, mm_pI_pL, mm_pI_pM, mm_pL_pM, Bool.false_eq_true, n_10, true_and, and_true, false_and, and_false, Nat.not_lt_zero, true_or, or_true, eq_self, mm_z, mm_rs, sw_xc_ite, sw_xv_ite, n_m1, Nat.lt_irrefl, not_false_eq_true, not_true_eq_false, inS_0, inS_1, ite_not, sw_xv_some, sw_xm_some, sw_xc_some, sw_xc_void, if_true, if_false, reduceIte, bI_0, bI_01, bI_1, nt_or, Nat.reduceAdd, n_add, n_mul, n_addL, n_Ladd, n_mulL, n_Lmul, n_sub, n_subL, n_lt, n_eq, n_ltL, n_Llt, n_eqL, n_Leq, n_nneg, n_pos]
    rfl
set_option maxRecDepth 100000 in
set_option maxHeartbeats 4000000 in
theorem md_cp_putsBack : h_MD_putsBack_0 E [.ref 71, .int 0] (mk S) = some (none, mk (mm_pL (mm_pI S 3 (S.1 5)) 3 (S.2.1 5))) := by
  have hne : ∀ (S' : sw_S) T, (mm_pI S' 3 T).1 5 = S'.1 5 := fun S' T => mm_pI_ne S' T (by decide)
  have hnl : ∀ (S' : sw_S) H, (mm_pL S' 3 H).2.1 5 = S'.2.1 5 := fun S' T => mm_pL_ne S' T (by decide)
  have r1 : ∀ (S' : sw_S) i, i < 328 → sw_aI E (mk S') 74 (nI i) = some (.int (nI (S'.1 5 (mm_ff i) (mm_fi i)))) := fun S' i hi => mm_aI (by decide) (show mm_cl S' 74 = mm_iA 328 (mm_fl (S'.1 5)) from rfl) hi (by decide)
  have k1 := lp_up' (G := fun i a => h_MD_putsBack_0 E [.ref 71, .int (nI i)] (mk (mm_pI S 3 a))) (f := fun n a => mm_u a (mm_ff n) (mm_fi n) (S.1 5 (mm_ff n) (mm_fi n))) (fin := fun a => h_MD_putsBack_1 E [.ref 71, .int (nI 0)] (mk (mm_pI S 3 a))) (n := 328) (a0 := S.1 3) (fun i a hi => ?_) (fun a => ?_)
  · have k2 := lp_up' (G := fun i b => h_MD_putsBack_1 E [.ref 71, .int (nI i)] (mk (mm_pL (mm_pI S 3 (cpT (S.1 5) (S.1 3))) 3 b))) (f := fun n a => vp_updL a n (S.2.1 5 n)) (fin := fun b => some (none, mk (mm_pL (mm_pI S 3 (cpT (S.1 5) (S.1 3))) 3 b))) (n := 10) (a0 := S.2.1 3) (fun i b hi => ?_) (fun b => ?_)
    · rw [mm_pI_id] at k1
      have e := mm_pL_id (mm_pI S 3 (cpT (S.1 5) (S.1 3))) 3
      have e2 : (mm_pI S 3 (cpT (S.1 5) (S.1 3))).2.1 3 = S.2.1 3 := rfl
      rw [e2] at e
      rw [e] at k2
      refine k1.trans (k2.trans ?_)
      show some (none, mk (mm_pL (mm_pI S 3 (cpT (S.1 5) (S.1 3))) 3 (cpH (S.2.1 5) (S.2.1 3)))) = _
      rw [cp_mk S (by decide)]
    · rw [u_MD_putsBack_1]
      simp (disch := first | omega | exact hB _ _ | assumption | decide) only [st_MD_putsBack, hi, mw_l76, hnl, hne, mr_md E _, mm_pI_at, mm_pI_pI, mm_pI_2, mm_pL_1, mm_pL_at, mm_pL_pL, mm_pL_3, mm_pM_1, mm_pM_2, mm_pM_at, mm_pM_pM, mm_pI_pL, mm_pI_pM, mm_pL_pM, Bool.false_eq_true, n_10, true_and, and_true, false_and, and_false, Nat.not_lt_zero, true_or, or_true, eq_self, mm_z, mm_rs, sw_xc_ite, sw_xv_ite, n_m1, Nat.lt_irrefl, not_false_eq_true, not_true_eq_false, inS_0, inS_1, ite_not, sw_xv_some, sw_xm_some, sw_xc_some, sw_xc_void, if_true, if_false, reduceIte, bI_0, bI_01, bI_1, nt_or, Nat.reduceAdd, n_add, n_mul, n_addL, n_Ladd, n_mulL, n_Lmul, n_sub, n_subL, n_lt, n_eq, n_ltL, n_Llt, n_eqL, n_Leq, n_nneg, n_pos]
    · rw [u_MD_putsBack_1]
      simp (disch := first | omega | exact hB _ _ | assumption | decide) only [st_MD_putsBack, mr_md E _, mm_pI_at, mm_pI_pI, mm_pI_2, mm_pL_1, mm_pL_at, mm_pL_pL, mm_pL_3, mm_pM_1, mm_pM_2, mm_pM_at, mm_pM_pM, mm_pI_pL, mm_pI_pM, mm_pL_pM, Bool.false_eq_true, n_10, true_and, and_true, false_and, and_false, Nat.not_lt_zero, true_or, or_true, eq_self, mm_z, mm_rs, sw_xc_ite, sw_xv_ite, n_m1, Nat.lt_irrefl, not_false_eq_true, not_true_eq_false, inS_0, inS_1, ite_not, sw_xv_some, sw_xm_some, sw_xc_some, sw_xc_void, if_true, if_false, reduceIte, bI_0, bI_01, bI_1, nt_or, Nat.reduceAdd, n_add, n_mul, n_addL, n_Ladd, n_mulL, n_Lmul, n_sub, n_subL, n_lt, n_eq, n_ltL, n_Llt, n_eqL, n_Leq, n_nneg, n_pos]
  · rw [u_MD_putsBack_0]
    simp (disch := first | omega | exact hB _ _ | assumption | decide) only [st_MD_putsBack, hi, r1, mw_m72, hne, mr_md E _, mm_pI_at, mm_pI_pI, mm_pI_2, mm_pL_1, mm_pL_at, mm_pL_pL, mm_pL_3, mm_pM_1, mm_pM_2, mm_pM_at, mm_pM_pM, mm_pI_pL, mm_pI_pM, mm_pL_pM, Bool.false_eq_true, n_10, true_and, and_true, false_and, and_false, Nat.not_lt_zero, true_or, or_true, eq_self, mm_z, mm_rs, sw_xc_ite, sw_xv_ite, n_m1, Nat.lt_irrefl, not_false_eq_true, not_true_eq_false, inS_0, inS_1, ite_not, sw_xv_some, sw_xm_some, sw_xc_some, sw_xc_void, if_true, if_false, reduceIte, bI_0, bI_01, bI_1, nt_or, Nat.reduceAdd, n_add, n_mul, n_addL, n_Ladd, n_mulL, n_Lmul, n_sub, n_subL, n_lt, n_eq, n_ltL, n_Llt, n_eqL, n_Leq, n_nneg, n_pos]
  · rw [u_MD_putsBack_0]
    simp (disch := first | omega | exact hB _ _ | assumption | decide) only [st_MD_putsBack, mr_md E _, mm_pI_at, mm_pI_pI, mm_pI_2, mm_pL_1, mm_pL_at, mm_pL_pL, mm_pL_3, mm_pM_1, mm_pM_2, mm_pM_at, mm_pM_pM, mm_pI_pL, mm_pI_pM, mm_pL_pM, Bool.false_eq_true, n_10, true_and, and_true, false_and, and_false, Nat.not_lt_zero, true_or, or_true, eq_self, mm_z, mm_rs, sw_xc_ite, sw_xv_ite, n_m1, Nat.lt_irrefl, not_false_eq_true, not_true_eq_false, inS_0, inS_1, ite_not, sw_xv_some, sw_xm_some, sw_xc_some, sw_xc_void, if_true, if_false, reduceIte, bI_0, bI_01, bI_1, nt_or, Nat.reduceAdd, n_add, n_mul, n_addL, n_Ladd, n_mulL, n_Lmul, n_sub, n_subL, n_lt, n_eq, n_ltL, n_Llt, n_eqL, n_Leq, n_nneg, n_pos]
    rfl
set_option maxRecDepth 100000 in
set_option maxHeartbeats 4000000 in
theorem md_cp_image : h_MD_image_0 E [.ref 71, .int 0] (mk S) = sw_ex E 216 53 [.ref 71, .int (nI 10)] [] (mk (mm_pL (mm_pI S 4 (S.1 3)) 4 (S.2.1 3))) := by
  have hne : ∀ (S' : sw_S) T, (mm_pI S' 4 T).1 3 = S'.1 3 := fun S' T => mm_pI_ne S' T (by decide)
  have hnl : ∀ (S' : sw_S) H, (mm_pL S' 4 H).2.1 3 = S'.2.1 3 := fun S' T => mm_pL_ne S' T (by decide)
  have r1 : ∀ (S' : sw_S) i, i < 328 → sw_aI E (mk S') 72 (nI i) = some (.int (nI (S'.1 3 (mm_ff i) (mm_fi i)))) := fun S' i hi => mm_aI (by decide) (show mm_cl S' 72 = mm_iA 328 (mm_fl (S'.1 3)) from rfl) hi (by decide)
  have k1 := lp_up' (G := fun i a => h_MD_image_0 E [.ref 71, .int (nI i)] (mk (mm_pI S 4 a))) (f := fun n a => mm_u a (mm_ff n) (mm_fi n) (S.1 3 (mm_ff n) (mm_fi n))) (fin := fun a => h_MD_image_1 E [.ref 71, .int (nI 0)] (mk (mm_pI S 4 a))) (n := 328) (a0 := S.1 4) (fun i a hi => ?_) (fun a => ?_)
  · have k2 := lp_up' (G := fun i b => h_MD_image_1 E [.ref 71, .int (nI i)] (mk (mm_pL (mm_pI S 4 (cpT (S.1 3) (S.1 4))) 4 b))) (f := fun n a => vp_updL a n (S.2.1 3 n)) (fin := fun b => sw_ex E 216 53 [.ref 71, .int (nI 10)] [] (mk (mm_pL (mm_pI S 4 (cpT (S.1 3) (S.1 4))) 4 b))) (n := 10) (a0 := S.2.1 4) (fun i b hi => ?_) (fun b => ?_)
    · rw [mm_pI_id] at k1
      have e := mm_pL_id (mm_pI S 4 (cpT (S.1 3) (S.1 4))) 4
      have e2 : (mm_pI S 4 (cpT (S.1 3) (S.1 4))).2.1 4 = S.2.1 4 := rfl
      rw [e2] at e
      rw [e] at k2
      refine k1.trans (k2.trans ?_)
      show sw_ex E 216 53 [.ref 71, .int (nI 10)] [] (mk (mm_pL (mm_pI S 4 (cpT (S.1 3) (S.1 4))) 4 (cpH (S.2.1 3) (S.2.1 4)))) = _
      rw [cp_mk S (by decide)]
    · rw [u_MD_image_1]
      simp (disch := first | omega | exact hB _ _ | assumption | decide) only [st_MD_image, hi, mw_l77, hnl, hne, mr_md E _, mm_pI_at, mm_pI_pI, mm_pI_2, mm_pL_1, mm_pL_at, mm_pL_pL, mm_pL_3, mm_pM_1, mm_pM_2, mm_pM_at, mm_pM_pM, mm_pI_pL, mm_pI_pM, mm_pL_pM, Bool.false_eq_true, n_10, true_and, and_true, false_and, and_false, Nat.not_lt_zero, true_or, or_true, eq_self, mm_z, mm_rs, sw_xc_ite, sw_xv_ite, n_m1, Nat.lt_irrefl, not_false_eq_true, not_true_eq_false, inS_0, inS_1, ite_not, sw_xv_some, sw_xm_some, sw_xc_some, sw_xc_void, if_true, if_false, reduceIte, bI_0, bI_01, bI_1, nt_or, Nat.reduceAdd, n_add, n_mul, n_addL, n_Ladd, n_mulL, n_Lmul, n_sub, n_subL, n_lt, n_eq, n_ltL, n_Llt, n_eqL, n_Leq, n_nneg, n_pos]
    · rw [u_MD_image_1]
      simp (disch := first | omega | exact hB _ _ | assumption | decide) only [st_MD_image, mr_md E _, mm_pI_at, mm_pI_pI, mm_pI_2, mm_pL_1, mm_pL_at, mm_pL_pL, mm_pL_3, mm_pM_1, mm_pM_2, mm_pM_at, mm_pM_pM, mm_pI_pL, mm_pI_pM, mm_pL_pM, Bool.false_eq_true, n_10, true_and, and_true, false_and, and_false, Nat.not_lt_zero, true_or, or_true, eq_self, mm_z, mm_rs, sw_xc_ite, sw_xv_ite, n_m1, Nat.lt_irrefl, not_false_eq_true, not_true_eq_false, inS_0, inS_1, ite_not, sw_xv_some, sw_xm_some, sw_xc_some, sw_xc_void, if_true, if_false, reduceIte, bI_0, bI_01, bI_1, nt_or, Nat.reduceAdd, n_add, n_mul, n_addL, n_Ladd, n_mulL, n_Lmul, n_sub, n_subL, n_lt, n_eq, n_ltL, n_Llt, n_eqL, n_Leq, n_nneg, n_pos]
  · rw [u_MD_image_0]
    simp (disch := first | omega | exact hB _ _ | assumption | decide) only [st_MD_image, hi, r1, mw_m73, hne, mr_md E _, mm_pI_at, mm_pI_pI, mm_pI_2, mm_pL_1, mm_pL_at, mm_pL_pL, mm_pL_3, mm_pM_1, mm_pM_2, mm_pM_at, mm_pM_pM, mm_pI_pL, mm_pI_pM, mm_pL_pM, Bool.false_eq_true, n_10, true_and, and_true, false_and, and_false, Nat.not_lt_zero, true_or, or_true, eq_self, mm_z, mm_rs, sw_xc_ite, sw_xv_ite, n_m1, Nat.lt_irrefl, not_false_eq_true, not_true_eq_false, inS_0, inS_1, ite_not, sw_xv_some, sw_xm_some, sw_xc_some, sw_xc_void, if_true, if_false, reduceIte, bI_0, bI_01, bI_1, nt_or, Nat.reduceAdd, n_add, n_mul, n_addL, n_Ladd, n_mulL, n_Lmul, n_sub, n_subL, n_lt, n_eq, n_ltL, n_Llt, n_eqL, n_Leq, n_nneg, n_pos]
  · rw [u_MD_image_0]
    simp (disch := first | omega | exact hB _ _ | assumption | decide) only [st_MD_image, mr_md E _, mm_pI_at, mm_pI_pI, mm_pI_2, mm_pL_1, mm_pL_at, mm_pL_pL, mm_pL_3, mm_pM_1, mm_pM_2, mm_pM_at, mm_pM_pM, mm_pI_pL, mm_pI_pM, mm_pL_pM, Bool.false_eq_true, n_10, true_and, and_true, false_and, and_false, Nat.not_lt_zero, true_or, or_true, eq_self, mm_z, mm_rs, sw_xc_ite, sw_xv_ite, n_m1, Nat.lt_irrefl, not_false_eq_true, not_true_eq_false, inS_0, inS_1, ite_not, sw_xv_some, sw_xm_some, sw_xc_some, sw_xc_void, if_true, if_false, reduceIte, bI_0, bI_01, bI_1, nt_or, Nat.reduceAdd, n_add, n_mul, n_addL, n_Ladd, n_mulL, n_Lmul, n_sub, n_subL, n_lt, n_eq, n_ltL, n_Llt, n_eqL, n_Leq, n_nneg, n_pos]
    rfl
set_option maxRecDepth 100000 in
set_option maxHeartbeats 4000000 in
theorem md_cp_undo : h_MD_undo_0 E [.ref 71, .int 0] (mk S) = sw_ex E 217 67 [.ref 71, .int (nI 10)] [] (mk (mm_pL (mm_pI S 3 (S.1 4)) 3 (S.2.1 4))) := by
  have hne : ∀ (S' : sw_S) T, (mm_pI S' 3 T).1 4 = S'.1 4 := fun S' T => mm_pI_ne S' T (by decide)
  have hnl : ∀ (S' : sw_S) H, (mm_pL S' 3 H).2.1 4 = S'.2.1 4 := fun S' T => mm_pL_ne S' T (by decide)
  have r1 : ∀ (S' : sw_S) i, i < 328 → sw_aI E (mk S') 73 (nI i) = some (.int (nI (S'.1 4 (mm_ff i) (mm_fi i)))) := fun S' i hi => mm_aI (by decide) (show mm_cl S' 73 = mm_iA 328 (mm_fl (S'.1 4)) from rfl) hi (by decide)
  have k1 := lp_up' (G := fun i a => h_MD_undo_0 E [.ref 71, .int (nI i)] (mk (mm_pI S 3 a))) (f := fun n a => mm_u a (mm_ff n) (mm_fi n) (S.1 4 (mm_ff n) (mm_fi n))) (fin := fun a => h_MD_undo_1 E [.ref 71, .int (nI 0)] (mk (mm_pI S 3 a))) (n := 328) (a0 := S.1 3) (fun i a hi => ?_) (fun a => ?_)
  · have k2 := lp_up' (G := fun i b => h_MD_undo_1 E [.ref 71, .int (nI i)] (mk (mm_pL (mm_pI S 3 (cpT (S.1 4) (S.1 3))) 3 b))) (f := fun n a => vp_updL a n (S.2.1 4 n)) (fin := fun b => sw_ex E 217 67 [.ref 71, .int (nI 10)] [] (mk (mm_pL (mm_pI S 3 (cpT (S.1 4) (S.1 3))) 3 b))) (n := 10) (a0 := S.2.1 3) (fun i b hi => ?_) (fun b => ?_)
    · rw [mm_pI_id] at k1
      have e := mm_pL_id (mm_pI S 3 (cpT (S.1 4) (S.1 3))) 3
      have e2 : (mm_pI S 3 (cpT (S.1 4) (S.1 3))).2.1 3 = S.2.1 3 := rfl
      rw [e2] at e
      rw [e] at k2
      refine k1.trans (k2.trans ?_)
      show sw_ex E 217 67 [.ref 71, .int (nI 10)] [] (mk (mm_pL (mm_pI S 3 (cpT (S.1 4) (S.1 3))) 3 (cpH (S.2.1 4) (S.2.1 3)))) = _
      rw [cp_mk S (by decide)]
    · rw [u_MD_undo_1]
      simp (disch := first | omega | exact hB _ _ | assumption | decide) only [st_MD_undo, hi, mw_l76, hnl, hne, mr_md E _, mm_pI_at, mm_pI_pI, mm_pI_2, mm_pL_1, mm_pL_at, mm_pL_pL, mm_pL_3, mm_pM_1, mm_pM_2, mm_pM_at, mm_pM_pM, mm_pI_pL, mm_pI_pM, mm_pL_pM, Bool.false_eq_true, n_10, true_and, and_true, false_and, and_false, Nat.not_lt_zero, true_or, or_true, eq_self, mm_z, mm_rs, sw_xc_ite, sw_xv_ite, n_m1, Nat.lt_irrefl, not_false_eq_true, not_true_eq_false, inS_0, inS_1, ite_not, sw_xv_some, sw_xm_some, sw_xc_some, sw_xc_void, if_true, if_false, reduceIte, bI_0, bI_01, bI_1, nt_or, Nat.reduceAdd, n_add, n_mul, n_addL, n_Ladd, n_mulL, n_Lmul, n_sub, n_subL, n_lt, n_eq, n_ltL, n_Llt, n_eqL, n_Leq, n_nneg, n_pos]
    · rw [u_MD_undo_1]
      simp (disch := first | omega | exact hB _ _ | assumption | decide) only [st_MD_undo, mr_md E _, mm_pI_at, mm_pI_pI, mm_pI_2, mm_pL_1, mm_pL_at, mm_pL_pL, mm_pL_3, mm_pM_1, mm_pM_2, mm_pM_at, mm_pM_pM, mm_pI_pL, mm_pI_pM, mm_pL_pM, Bool.false_eq_true, n_10, true_and, and_true, false_and, and_false, Nat.not_lt_zero, true_or, or_true, eq_self, mm_z, mm_rs, sw_xc_ite, sw_xv_ite, n_m1, Nat.lt_irrefl, not_false_eq_true, not_true_eq_false, inS_0, inS_1, ite_not, sw_xv_some, sw_xm_some, sw_xc_some, sw_xc_void, if_true, if_false, reduceIte, bI_0, bI_01, bI_1, nt_or, Nat.reduceAdd, n_add, n_mul, n_addL, n_Ladd, n_mulL, n_Lmul, n_sub, n_subL, n_lt, n_eq, n_ltL, n_Llt, n_eqL, n_Leq, n_nneg, n_pos]
  · rw [u_MD_undo_0]
    simp (disch := first | omega | exact hB _ _ | assumption | decide) only [st_MD_undo, hi, r1, mw_m72, hne, mr_md E _, mm_pI_at, mm_pI_pI, mm_pI_2, mm_pL_1, mm_pL_at, mm_pL_pL, mm_pL_3, mm_pM_1, mm_pM_2, mm_pM_at, mm_pM_pM, mm_pI_pL, mm_pI_pM, mm_pL_pM, Bool.false_eq_true, n_10, true_and, and_true, false_and, and_false, Nat.not_lt_zero, true_or, or_true, eq_self, mm_z, mm_rs, sw_xc_ite, sw_xv_ite, n_m1, Nat.lt_irrefl, not_false_eq_true, not_true_eq_false, inS_0, inS_1, ite_not, sw_xv_some, sw_xm_some, sw_xc_some, sw_xc_void, if_true, if_false, reduceIte, bI_0, bI_01, bI_1, nt_or, Nat.reduceAdd, n_add, n_mul, n_addL, n_Ladd, n_mulL, n_Lmul, n_sub, n_subL, n_lt, n_eq, n_ltL, n_Llt, n_eqL, n_Leq, n_nneg, n_pos]
  · rw [u_MD_undo_0]
    simp (disch := first | omega | exact hB _ _ | assumption | decide) only [st_MD_undo, mr_md E _, mm_pI_at, mm_pI_pI, mm_pI_2, mm_pL_1, mm_pL_at, mm_pL_pL, mm_pL_3, mm_pM_1, mm_pM_2, mm_pM_at, mm_pM_pM, mm_pI_pL, mm_pI_pM, mm_pL_pM, Bool.false_eq_true, n_10, true_and, and_true, false_and, and_false, Nat.not_lt_zero, true_or, or_true, eq_self, mm_z, mm_rs, sw_xc_ite, sw_xv_ite, n_m1, Nat.lt_irrefl, not_false_eq_true, not_true_eq_false, inS_0, inS_1, ite_not, sw_xv_some, sw_xm_some, sw_xc_some, sw_xc_void, if_true, if_false, reduceIte, bI_0, bI_01, bI_1, nt_or, Nat.reduceAdd, n_add, n_mul, n_addL, n_Ladd, n_mulL, n_Lmul, n_sub, n_subL, n_lt, n_eq, n_ltL, n_Llt, n_eqL, n_Leq, n_nneg, n_pos]
    rfl
set_option maxRecDepth 100000 in
set_option maxHeartbeats 4000000 in
theorem md_puts : f_MD_puts E (.ref 71) (mk S) = some (none, mk (mm_pL (mm_pI S 5 (S.1 3)) 5 (S.2.1 3))) := by
  simp only [e_MD_puts, st_MD_puts]
  exact md_cp_puts E S
set_option maxRecDepth 100000 in
set_option maxHeartbeats 4000000 in
theorem md_putsBack : f_MD_putsBack E (.ref 71) (mk S) = some (none, mk (mm_pL (mm_pI S 3 (S.1 5)) 3 (S.2.1 5))) := by
  simp only [e_MD_putsBack, st_MD_putsBack]
  exact md_cp_putsBack E S
set_option maxRecDepth 100000 in
set_option maxHeartbeats 4000000 in
theorem md_finds0 : f_MD_finds E (.ref 71) (.int (-1000000001)) (mk S) = some (some (.int (-1000000001)), mk (mm_pM S 20 (upd (S.2.2 20) 0 (S.2.2 20 0 + 1)))) := by
  have e : (-1000000001 : Int32) - (-1000000001) = nI 0 := by decide
  simp (disch := first | omega | exact hB _ _ | assumption | decide) only [e_MD_finds, st_MD_finds, e, mw_m75, mr_md E _, mm_pI_at, mm_pI_pI, mm_pI_2, mm_pL_1, mm_pL_at, mm_pL_pL, mm_pL_3, mm_pM_1, mm_pM_2, mm_pM_at, mm_pM_pM, mm_pI_pL, mm_pI_pM, mm_pL_pM, Bool.false_eq_true, n_10, true_and, and_true, false_and, and_false, Nat.not_lt_zero, true_or, or_true, eq_self, mm_z, mm_rs, sw_xc_ite, sw_xv_ite, n_m1, Nat.lt_irrefl, not_false_eq_true, not_true_eq_false, inS_0, inS_1, ite_not, sw_xv_some, sw_xm_some, sw_xc_some, sw_xc_void, if_true, if_false, reduceIte, bI_0, bI_01, bI_1, nt_or, Nat.reduceAdd, n_add, n_mul, n_addL, n_Ladd, n_mulL, n_Lmul, n_sub, n_subL, n_lt, n_eq, n_ltL, n_Llt, n_eqL, n_Leq, n_nneg, n_pos]
set_option maxRecDepth 100000 in
set_option maxHeartbeats 4000000 in
theorem md_finds1 : f_MD_finds E (.ref 71) (.int (-1000000002)) (mk S) = some (some (.int (-1000000002)), mk (mm_pM S 20 (upd (S.2.2 20) 1 (S.2.2 20 1 + 1)))) := by
  have e : (-1000000001 : Int32) - (-1000000002) = nI 1 := by decide
  simp (disch := first | omega | exact hB _ _ | assumption | decide) only [e_MD_finds, st_MD_finds, e, mw_m75, mr_md E _, mm_pI_at, mm_pI_pI, mm_pI_2, mm_pL_1, mm_pL_at, mm_pL_pL, mm_pL_3, mm_pM_1, mm_pM_2, mm_pM_at, mm_pM_pM, mm_pI_pL, mm_pI_pM, mm_pL_pM, Bool.false_eq_true, n_10, true_and, and_true, false_and, and_false, Nat.not_lt_zero, true_or, or_true, eq_self, mm_z, mm_rs, sw_xc_ite, sw_xv_ite, n_m1, Nat.lt_irrefl, not_false_eq_true, not_true_eq_false, inS_0, inS_1, ite_not, sw_xv_some, sw_xm_some, sw_xc_some, sw_xc_void, if_true, if_false, reduceIte, bI_0, bI_01, bI_1, nt_or, Nat.reduceAdd, n_add, n_mul, n_addL, n_Ladd, n_mulL, n_Lmul, n_sub, n_subL, n_lt, n_eq, n_ltL, n_Llt, n_eqL, n_Leq, n_nneg, n_pos]
set_option maxRecDepth 100000 in
set_option maxHeartbeats 4000000 in
theorem md_finds2 : f_MD_finds E (.ref 71) (.int (-1000000003)) (mk S) = some (some (.int (-1000000003)), mk (mm_pM S 20 (upd (S.2.2 20) 2 (S.2.2 20 2 + 1)))) := by
  have e : (-1000000001 : Int32) - (-1000000003) = nI 2 := by decide
  simp (disch := first | omega | exact hB _ _ | assumption | decide) only [e_MD_finds, st_MD_finds, e, mw_m75, mr_md E _, mm_pI_at, mm_pI_pI, mm_pI_2, mm_pL_1, mm_pL_at, mm_pL_pL, mm_pL_3, mm_pM_1, mm_pM_2, mm_pM_at, mm_pM_pM, mm_pI_pL, mm_pI_pM, mm_pL_pM, Bool.false_eq_true, n_10, true_and, and_true, false_and, and_false, Nat.not_lt_zero, true_or, or_true, eq_self, mm_z, mm_rs, sw_xc_ite, sw_xv_ite, n_m1, Nat.lt_irrefl, not_false_eq_true, not_true_eq_false, inS_0, inS_1, ite_not, sw_xv_some, sw_xm_some, sw_xc_some, sw_xc_void, if_true, if_false, reduceIte, bI_0, bI_01, bI_1, nt_or, Nat.reduceAdd, n_add, n_mul, n_addL, n_Ladd, n_mulL, n_Lmul, n_sub, n_subL, n_lt, n_eq, n_ltL, n_Llt, n_eqL, n_Leq, n_nneg, n_pos]
set_option maxRecDepth 100000 in
set_option maxHeartbeats 4000000 in
theorem md_finds3 : f_MD_finds E (.ref 71) (.int (-1000000004)) (mk S) = some (some (.int (-1000000004)), mk (mm_pM S 20 (upd (S.2.2 20) 3 (S.2.2 20 3 + 1)))) := by
  have e : (-1000000001 : Int32) - (-1000000004) = nI 3 := by decide
  simp (disch := first | omega | exact hB _ _ | assumption | decide) only [e_MD_finds, st_MD_finds, e, mw_m75, mr_md E _, mm_pI_at, mm_pI_pI, mm_pI_2, mm_pL_1, mm_pL_at, mm_pL_pL, mm_pL_3, mm_pM_1, mm_pM_2, mm_pM_at, mm_pM_pM, mm_pI_pL, mm_pI_pM, mm_pL_pM, Bool.false_eq_true, n_10, true_and, and_true, false_and, and_false, Nat.not_lt_zero, true_or, or_true, eq_self, mm_z, mm_rs, sw_xc_ite, sw_xv_ite, n_m1, Nat.lt_irrefl, not_false_eq_true, not_true_eq_false, inS_0, inS_1, ite_not, sw_xv_some, sw_xm_some, sw_xc_some, sw_xc_void, if_true, if_false, reduceIte, bI_0, bI_01, bI_1, nt_or, Nat.reduceAdd, n_add, n_mul, n_addL, n_Ladd, n_mulL, n_Lmul, n_sub, n_subL, n_lt, n_eq, n_ltL, n_Llt, n_eqL, n_Leq, n_nneg, n_pos]
set_option maxRecDepth 100000 in
set_option maxHeartbeats 4000000 in
theorem md_finds4 : f_MD_finds E (.ref 71) (.int (-1000000005)) (mk S) = some (some (.int (-1000000005)), mk (mm_pM S 20 (upd (S.2.2 20) 4 (S.2.2 20 4 + 1)))) := by
  have e : (-1000000001 : Int32) - (-1000000005) = nI 4 := by decide
  simp (disch := first | omega | exact hB _ _ | assumption | decide) only [e_MD_finds, st_MD_finds, e, mw_m75, mr_md E _, mm_pI_at, mm_pI_pI, mm_pI_2, mm_pL_1, mm_pL_at, mm_pL_pL, mm_pL_3, mm_pM_1, mm_pM_2, mm_pM_at, mm_pM_pM, mm_pI_pL, mm_pI_pM, mm_pL_pM, Bool.false_eq_true, n_10, true_and, and_true, false_and, and_false, Nat.not_lt_zero, true_or, or_true, eq_self, mm_z, mm_rs, sw_xc_ite, sw_xv_ite, n_m1, Nat.lt_irrefl, not_false_eq_true, not_true_eq_false, inS_0, inS_1, ite_not, sw_xv_some, sw_xm_some, sw_xc_some, sw_xc_void, if_true, if_false, reduceIte, bI_0, bI_01, bI_1, nt_or, Nat.reduceAdd, n_add, n_mul, n_addL, n_Ladd, n_mulL, n_Lmul, n_sub, n_subL, n_lt, n_eq, n_ltL, n_Llt, n_eqL, n_Leq, n_nneg, n_pos]
set_option maxRecDepth 100000 in
set_option maxHeartbeats 4000000 in
theorem md_finds5 : f_MD_finds E (.ref 71) (.int (-1000000006)) (mk S) = some (some (.int (-1000000006)), mk (mm_pM S 20 (upd (S.2.2 20) 5 (S.2.2 20 5 + 1)))) := by
  have e : (-1000000001 : Int32) - (-1000000006) = nI 5 := by decide
  simp (disch := first | omega | exact hB _ _ | assumption | decide) only [e_MD_finds, st_MD_finds, e, mw_m75, mr_md E _, mm_pI_at, mm_pI_pI, mm_pI_2, mm_pL_1, mm_pL_at, mm_pL_pL, mm_pL_3, mm_pM_1, mm_pM_2, mm_pM_at, mm_pM_pM, mm_pI_pL, mm_pI_pM, mm_pL_pM, Bool.false_eq_true, n_10, true_and, and_true, false_and, and_false, Nat.not_lt_zero, true_or, or_true, eq_self, mm_z, mm_rs, sw_xc_ite, sw_xv_ite, n_m1, Nat.lt_irrefl, not_false_eq_true, not_true_eq_false, inS_0, inS_1, ite_not, sw_xv_some, sw_xm_some, sw_xc_some, sw_xc_void, if_true, if_false, reduceIte, bI_0, bI_01, bI_1, nt_or, Nat.reduceAdd, n_add, n_mul, n_addL, n_Ladd, n_mulL, n_Lmul, n_sub, n_subL, n_lt, n_eq, n_ltL, n_Llt, n_eqL, n_Leq, n_nneg, n_pos]
set_option maxRecDepth 100000 in
set_option maxHeartbeats 4000000 in
theorem md_finds6 : f_MD_finds E (.ref 71) (.int (-1000000007)) (mk S) = some (some (.int (-1000000007)), mk (mm_pM S 20 (upd (S.2.2 20) 6 (S.2.2 20 6 + 1)))) := by
  have e : (-1000000001 : Int32) - (-1000000007) = nI 6 := by decide
  simp (disch := first | omega | exact hB _ _ | assumption | decide) only [e_MD_finds, st_MD_finds, e, mw_m75, mr_md E _, mm_pI_at, mm_pI_pI, mm_pI_2, mm_pL_1, mm_pL_at, mm_pL_pL, mm_pL_3, mm_pM_1, mm_pM_2, mm_pM_at, mm_pM_pM, mm_pI_pL, mm_pI_pM, mm_pL_pM, Bool.false_eq_true, n_10, true_and, and_true, false_and, and_false, Nat.not_lt_zero, true_or, or_true, eq_self, mm_z, mm_rs, sw_xc_ite, sw_xv_ite, n_m1, Nat.lt_irrefl, not_false_eq_true, not_true_eq_false, inS_0, inS_1, ite_not, sw_xv_some, sw_xm_some, sw_xc_some, sw_xc_void, if_true, if_false, reduceIte, bI_0, bI_01, bI_1, nt_or, Nat.reduceAdd, n_add, n_mul, n_addL, n_Ladd, n_mulL, n_Lmul, n_sub, n_subL, n_lt, n_eq, n_ltL, n_Llt, n_eqL, n_Leq, n_nneg, n_pos]
set_option maxRecDepth 100000 in
set_option maxHeartbeats 4000000 in
theorem c_tell0 : f_SW_tell E (.ref 0) (.int (-1000000001)) (mk S) = some (some (.int (-1000000001)), mk (mm_pM S 8 (upd (S.2.2 8) 0 (S.2.2 8 0 + 1)))) := by
  have e : (-1000000001 : Int32) - (-1000000001) = nI 0 := by decide
  simp (disch := first | omega | exact hB _ _ | assumption | decide) only [e_SW_tell, st_SW_tell, e, mw_m70, mr_cl E _, mm_pI_at, mm_pI_pI, mm_pI_2, mm_pL_1, mm_pL_at, mm_pL_pL, mm_pL_3, mm_pM_1, mm_pM_2, mm_pM_at, mm_pM_pM, mm_pI_pL, mm_pI_pM, mm_pL_pM, Bool.false_eq_true, n_10, true_and, and_true, false_and, and_false, Nat.not_lt_zero, true_or, or_true, eq_self, mm_z, mm_rs, sw_xc_ite, sw_xv_ite, n_m1, Nat.lt_irrefl, not_false_eq_true, not_true_eq_false, inS_0, inS_1, ite_not, sw_xv_some, sw_xm_some, sw_xc_some, sw_xc_void, if_true, if_false, reduceIte, bI_0, bI_01, bI_1, nt_or, Nat.reduceAdd, n_add, n_mul, n_addL, n_Ladd, n_mulL, n_Lmul, n_sub, n_subL, n_lt, n_eq, n_ltL, n_Llt, n_eqL, n_Leq, n_nneg, n_pos]
  rfl
set_option maxRecDepth 100000 in
set_option maxHeartbeats 4000000 in
theorem c_tell1 : f_SW_tell E (.ref 0) (.int (-1000000002)) (mk S) = some (some (.int (-1000000002)), mk (mm_pM S 8 (upd (S.2.2 8) 1 (S.2.2 8 1 + 1)))) := by
  have e : (-1000000001 : Int32) - (-1000000002) = nI 1 := by decide
  simp (disch := first | omega | exact hB _ _ | assumption | decide) only [e_SW_tell, st_SW_tell, e, mw_m70, mr_cl E _, mm_pI_at, mm_pI_pI, mm_pI_2, mm_pL_1, mm_pL_at, mm_pL_pL, mm_pL_3, mm_pM_1, mm_pM_2, mm_pM_at, mm_pM_pM, mm_pI_pL, mm_pI_pM, mm_pL_pM, Bool.false_eq_true, n_10, true_and, and_true, false_and, and_false, Nat.not_lt_zero, true_or, or_true, eq_self, mm_z, mm_rs, sw_xc_ite, sw_xv_ite, n_m1, Nat.lt_irrefl, not_false_eq_true, not_true_eq_false, inS_0, inS_1, ite_not, sw_xv_some, sw_xm_some, sw_xc_some, sw_xc_void, if_true, if_false, reduceIte, bI_0, bI_01, bI_1, nt_or, Nat.reduceAdd, n_add, n_mul, n_addL, n_Ladd, n_mulL, n_Lmul, n_sub, n_subL, n_lt, n_eq, n_ltL, n_Llt, n_eqL, n_Leq, n_nneg, n_pos]
  rfl
set_option maxRecDepth 100000 in
set_option maxHeartbeats 4000000 in
theorem c_tell2 : f_SW_tell E (.ref 0) (.int (-1000000003)) (mk S) = some (some (.int (-1000000003)), mk (mm_pM S 8 (upd (S.2.2 8) 2 (S.2.2 8 2 + 1)))) := by
  have e : (-1000000001 : Int32) - (-1000000003) = nI 2 := by decide
  simp (disch := first | omega | exact hB _ _ | assumption | decide) only [e_SW_tell, st_SW_tell, e, mw_m70, mr_cl E _, mm_pI_at, mm_pI_pI, mm_pI_2, mm_pL_1, mm_pL_at, mm_pL_pL, mm_pL_3, mm_pM_1, mm_pM_2, mm_pM_at, mm_pM_pM, mm_pI_pL, mm_pI_pM, mm_pL_pM, Bool.false_eq_true, n_10, true_and, and_true, false_and, and_false, Nat.not_lt_zero, true_or, or_true, eq_self, mm_z, mm_rs, sw_xc_ite, sw_xv_ite, n_m1, Nat.lt_irrefl, not_false_eq_true, not_true_eq_false, inS_0, inS_1, ite_not, sw_xv_some, sw_xm_some, sw_xc_some, sw_xc_void, if_true, if_false, reduceIte, bI_0, bI_01, bI_1, nt_or, Nat.reduceAdd, n_add, n_mul, n_addL, n_Ladd, n_mulL, n_Lmul, n_sub, n_subL, n_lt, n_eq, n_ltL, n_Llt, n_eqL, n_Leq, n_nneg, n_pos]
  rfl
set_option maxRecDepth 100000 in
set_option maxHeartbeats 4000000 in
theorem c_tell3 : f_SW_tell E (.ref 0) (.int (-1000000004)) (mk S) = some (some (.int (-1000000004)), mk (mm_pM S 8 (upd (S.2.2 8) 3 (S.2.2 8 3 + 1)))) := by
  have e : (-1000000001 : Int32) - (-1000000004) = nI 3 := by decide
  simp (disch := first | omega | exact hB _ _ | assumption | decide) only [e_SW_tell, st_SW_tell, e, mw_m70, mr_cl E _, mm_pI_at, mm_pI_pI, mm_pI_2, mm_pL_1, mm_pL_at, mm_pL_pL, mm_pL_3, mm_pM_1, mm_pM_2, mm_pM_at, mm_pM_pM, mm_pI_pL, mm_pI_pM, mm_pL_pM, Bool.false_eq_true, n_10, true_and, and_true, false_and, and_false, Nat.not_lt_zero, true_or, or_true, eq_self, mm_z, mm_rs, sw_xc_ite, sw_xv_ite, n_m1, Nat.lt_irrefl, not_false_eq_true, not_true_eq_false, inS_0, inS_1, ite_not, sw_xv_some, sw_xm_some, sw_xc_some, sw_xc_void, if_true, if_false, reduceIte, bI_0, bI_01, bI_1, nt_or, Nat.reduceAdd, n_add, n_mul, n_addL, n_Ladd, n_mulL, n_Lmul, n_sub, n_subL, n_lt, n_eq, n_ltL, n_Llt, n_eqL, n_Leq, n_nneg, n_pos]
  rfl
set_option maxRecDepth 100000 in
set_option maxHeartbeats 4000000 in
theorem c_tell4 : f_SW_tell E (.ref 0) (.int (-1000000005)) (mk S) = some (some (.int (-1000000005)), mk (mm_pM S 8 (upd (S.2.2 8) 4 (S.2.2 8 4 + 1)))) := by
  have e : (-1000000001 : Int32) - (-1000000005) = nI 4 := by decide
  simp (disch := first | omega | exact hB _ _ | assumption | decide) only [e_SW_tell, st_SW_tell, e, mw_m70, mr_cl E _, mm_pI_at, mm_pI_pI, mm_pI_2, mm_pL_1, mm_pL_at, mm_pL_pL, mm_pL_3, mm_pM_1, mm_pM_2, mm_pM_at, mm_pM_pM, mm_pI_pL, mm_pI_pM, mm_pL_pM, Bool.false_eq_true, n_10, true_and, and_true, false_and, and_false, Nat.not_lt_zero, true_or, or_true, eq_self, mm_z, mm_rs, sw_xc_ite, sw_xv_ite, n_m1, Nat.lt_irrefl, not_false_eq_true, not_true_eq_false, inS_0, inS_1, ite_not, sw_xv_some, sw_xm_some, sw_xc_some, sw_xc_void, if_true, if_false, reduceIte, bI_0, bI_01, bI_1, nt_or, Nat.reduceAdd, n_add, n_mul, n_addL, n_Ladd, n_mulL, n_Lmul, n_sub, n_subL, n_lt, n_eq, n_ltL, n_Llt, n_eqL, n_Leq, n_nneg, n_pos]
  rfl
set_option maxRecDepth 100000 in
set_option maxHeartbeats 4000000 in
theorem c_tell5 : f_SW_tell E (.ref 0) (.int (-1000000006)) (mk S) = some (some (.int (-1000000006)), mk (mm_pM S 8 (upd (S.2.2 8) 5 (S.2.2 8 5 + 1)))) := by
  have e : (-1000000001 : Int32) - (-1000000006) = nI 5 := by decide
  simp (disch := first | omega | exact hB _ _ | assumption | decide) only [e_SW_tell, st_SW_tell, e, mw_m70, mr_cl E _, mm_pI_at, mm_pI_pI, mm_pI_2, mm_pL_1, mm_pL_at, mm_pL_pL, mm_pL_3, mm_pM_1, mm_pM_2, mm_pM_at, mm_pM_pM, mm_pI_pL, mm_pI_pM, mm_pL_pM, Bool.false_eq_true, n_10, true_and, and_true, false_and, and_false, Nat.not_lt_zero, true_or, or_true, eq_self, mm_z, mm_rs, sw_xc_ite, sw_xv_ite, n_m1, Nat.lt_irrefl, not_false_eq_true, not_true_eq_false, inS_0, inS_1, ite_not, sw_xv_some, sw_xm_some, sw_xc_some, sw_xc_void, if_true, if_false, reduceIte, bI_0, bI_01, bI_1, nt_or, Nat.reduceAdd, n_add, n_mul, n_addL, n_Ladd, n_mulL, n_Lmul, n_sub, n_subL, n_lt, n_eq, n_ltL, n_Llt, n_eqL, n_Leq, n_nneg, n_pos]
  rfl
set_option maxRecDepth 100000 in
set_option maxHeartbeats 4000000 in
theorem c_tell6 : f_SW_tell E (.ref 0) (.int (-1000000007)) (mk S) = some (some (.int (-1000000007)), mk (mm_pM S 8 (upd (S.2.2 8) 6 (S.2.2 8 6 + 1)))) := by
  have e : (-1000000001 : Int32) - (-1000000007) = nI 6 := by decide
  simp (disch := first | omega | exact hB _ _ | assumption | decide) only [e_SW_tell, st_SW_tell, e, mw_m70, mr_cl E _, mm_pI_at, mm_pI_pI, mm_pI_2, mm_pL_1, mm_pL_at, mm_pL_pL, mm_pL_3, mm_pM_1, mm_pM_2, mm_pM_at, mm_pM_pM, mm_pI_pL, mm_pI_pM, mm_pL_pM, Bool.false_eq_true, n_10, true_and, and_true, false_and, and_false, Nat.not_lt_zero, true_or, or_true, eq_self, mm_z, mm_rs, sw_xc_ite, sw_xv_ite, n_m1, Nat.lt_irrefl, not_false_eq_true, not_true_eq_false, inS_0, inS_1, ite_not, sw_xv_some, sw_xm_some, sw_xc_some, sw_xc_void, if_true, if_false, reduceIte, bI_0, bI_01, bI_1, nt_or, Nat.reduceAdd, n_add, n_mul, n_addL, n_Ladd, n_mulL, n_Lmul, n_sub, n_subL, n_lt, n_eq, n_ltL, n_Llt, n_eqL, n_Leq, n_nneg, n_pos]
  rfl
end CPY
section MDC
variable (E : sw_E) (S : sw_S)
set_option maxRecDepth 100000 in
set_option maxHeartbeats 4000000 in
theorem md_newPerson (hI : IT (S.1 3)) (hf : S.1 3 0 0 < 10) {v : Nat} : f_MD_newPerson E (.ref 71) (.int (nI v)) (mk S) = some (some (.int (nI (S.1 3 0 0))), mk (mm_pL (mm_pI S 3 (tw_newP (S.1 3) v)) 3 (vp_updL (S.2.1 3) (S.1 3 0 0) 0))) := by
  simp (disch := first | omega | exact hB _ _ | assumption | decide) only [e_MD_newPerson, st_MD_newPerson, rs_L, ws_1, ws_L, mw_l76, mm_u_f, mm_u_at, Nat.add_sub_cancel, mr_md E _, mm_pI_at, mm_pI_pI, mm_pI_2, mm_pL_1, mm_pL_at, mm_pL_pL, mm_pL_3, mm_pM_1, mm_pM_2, mm_pM_at, mm_pM_pM, mm_pI_pL, mm_pI_pM, mm_pL_pM, Bool.false_eq_true, n_10, true_and, and_true, false_and, and_false, Nat.not_lt_zero, true_or, or_true, eq_self, mm_z, mm_rs, sw_xc_ite, sw_xv_ite, n_m1, Nat.lt_irrefl, not_false_eq_true, not_true_eq_false, inS_0, inS_1, ite_not, sw_xv_some, sw_xm_some, sw_xc_some, sw_xc_void, if_true, if_false, reduceIte, bI_0, bI_01, bI_1, nt_or, Nat.reduceAdd, n_add, n_mul, n_addL, n_Ladd, n_mulL, n_Lmul, n_sub, n_subL, n_lt, n_eq, n_ltL, n_Llt, n_eqL, n_Leq, n_nneg, n_pos]
  rfl
set_option maxRecDepth 100000 in
set_option maxHeartbeats 4000000 in
theorem md_newThing (hI : IT (S.1 3)) (hf : S.1 3 0 1 < 16) {o b r : Nat} : f_MD_newThing E (.ref 71) (.int (nI o)) (.int (nI b)) (.int (nI r)) (mk S) = some (some (.int (nI (S.1 3 0 1))), mk (mm_pI S 3 (tw_newT (S.1 3) o b r))) := by
  simp (disch := first | omega | exact hB _ _ | assumption | decide) only [e_MD_newThing, st_MD_newThing, rs_L, ws_t, ws_tL, ws_L, mm_u_f, mm_u_at, Nat.add_sub_cancel, mr_md E _, mm_pI_at, mm_pI_pI, mm_pI_2, mm_pL_1, mm_pL_at, mm_pL_pL, mm_pL_3, mm_pM_1, mm_pM_2, mm_pM_at, mm_pM_pM, mm_pI_pL, mm_pI_pM, mm_pL_pM, Bool.false_eq_true, n_10, true_and, and_true, false_and, and_false, Nat.not_lt_zero, true_or, or_true, eq_self, mm_z, mm_rs, sw_xc_ite, sw_xv_ite, n_m1, Nat.lt_irrefl, not_false_eq_true, not_true_eq_false, inS_0, inS_1, ite_not, sw_xv_some, sw_xm_some, sw_xc_some, sw_xc_void, if_true, if_false, reduceIte, bI_0, bI_01, bI_1, nt_or, Nat.reduceAdd, n_add, n_mul, n_addL, n_Ladd, n_mulL, n_Lmul, n_sub, n_subL, n_lt, n_eq, n_ltL, n_Llt, n_eqL, n_Leq, n_nneg, n_pos]
  rfl
set_option maxRecDepth 100000 in
set_option maxHeartbeats 4000000 in
theorem md_keeping1 (hI : IT (S.1 3)) {k i c : Nat} (hk : k < S.1 3 0 2) (hi : i < S.1 3 0 1) : h_MD_keeping_0 E [.ref 71, .int (nI k), .int (nI c), .int (nI i)] (mk S) = h_MD_keeping_0 E [.ref 71, .int (nI k), .int (nI (kp1 k i (c, S.1 3)).1), .int (nI (i + 1))] (mk (mm_pI S 3 (kp1 k i (c, S.1 3)).2)) := by
  have hB := hI.b
  have hn := hI.n
  have hk2 := hI.k
  have hk24 : k < 24 := by omega
  have hi16 : i < 16 := by omega
  have hl := hI.len hi
  rw [u_MD_keeping_0]
  unfold kp1
  by_cases hq : tw_in (S.1 3) i k = true
  · have hq1 := tw_in_lt hq
    simp (disch := first | omega | exact hB _ _ | assumption | decide) only [st_MD_keeping, rs_L, hi, md_pl_y E S hI hi (k := k) (by omega) hq, hq, rs_t, ws_t, md_of0 E _ hk24, mm_u_f, mr_md E _, mm_pI_at, mm_pI_pI, mm_pI_2, mm_pL_1, mm_pL_at, mm_pL_pL, mm_pL_3, mm_pM_1, mm_pM_2, mm_pM_at, mm_pM_pM, mm_pI_pL, mm_pI_pM, mm_pL_pM, Bool.false_eq_true, n_10, true_and, and_true, false_and, and_false, Nat.not_lt_zero, true_or, or_true, eq_self, mm_z, mm_rs, sw_xc_ite, sw_xv_ite, n_m1, Nat.lt_irrefl, not_false_eq_true, not_true_eq_false, inS_0, inS_1, ite_not, sw_xv_some, sw_xm_some, sw_xc_some, sw_xc_void, if_true, if_false, reduceIte, bI_0, bI_01, bI_1, nt_or, Nat.reduceAdd, n_add, n_mul, n_addL, n_Ladd, n_mulL, n_Lmul, n_sub, n_subL, n_lt, n_eq, n_ltL, n_Llt, n_eqL, n_Leq, n_nneg, n_pos]
  · simp (disch := first | omega | exact hB _ _ | assumption | decide) only [st_MD_keeping, rs_L, hi, md_pl_n E S hI hi (k := k) (by omega) hq, hq, mr_md E _, mm_pI_at, mm_pI_pI, mm_pI_2, mm_pL_1, mm_pL_at, mm_pL_pL, mm_pL_3, mm_pM_1, mm_pM_2, mm_pM_at, mm_pM_pM, mm_pI_pL, mm_pI_pM, mm_pL_pM, Bool.false_eq_true, n_10, true_and, and_true, false_and, and_false, Nat.not_lt_zero, true_or, or_true, eq_self, mm_z, mm_rs, sw_xc_ite, sw_xv_ite, n_m1, Nat.lt_irrefl, not_false_eq_true, not_true_eq_false, inS_0, inS_1, ite_not, sw_xv_some, sw_xm_some, sw_xc_some, sw_xc_void, if_true, if_false, reduceIte, bI_0, bI_01, bI_1, nt_or, Nat.reduceAdd, n_add, n_mul, n_addL, n_Ladd, n_mulL, n_Lmul, n_sub, n_subL, n_lt, n_eq, n_ltL, n_Llt, n_eqL, n_Leq, n_nneg, n_pos]
    simp [hq, mm_pI_id]
set_option maxRecDepth 100000 in
set_option maxHeartbeats 4000000 in
theorem md_keeping (hI : IT (S.1 3)) {k : Nat} (hk : k < S.1 3 0 2) : f_MD_keeping E (.ref 71) (.int (nI k)) (mk S) = some (some (.int (nI (tw_kp (S.1 3) k).1)), mk (mm_pI S 3 (tw_kp (S.1 3) k).2)) := by
  have hk2 := hI.k
  have hn := hI.n
  have hk24 : k < 24 := by omega
  have key := lp_up (G := fun i a => h_MD_keeping_0 E [.ref 71, .int (nI k), .int (nI a.1), .int (nI i)] (mk (mm_pI S 3 a.2))) (P := fun _ a => IT a.2 ∧ a.2 0 = S.1 3 0) (f := kp1 k) (fin := fun a => some (some (.int (nI a.1)), mk (mm_pI S 3 (mm_u a.2 13 k 1)))) (n := S.1 3 0 1) (a0 := (0, S.1 3)) ⟨hI, rfl⟩ (fun i a hi hP => ?_) (fun a hP => ?_)
  · simp only [e_MD_keeping, st_MD_keeping]
    simp only [mm_pI_id] at key
    exact key
  · obtain ⟨h1, h2⟩ := hP
    obtain ⟨g1, g2⟩ := kp1_IT (x := i) h1 (by rw [h2]; exact hk)
    refine ⟨?_, g1, g2.trans h2⟩
    have := md_keeping1 E (mm_pI S 3 a.2) (by rw [mm_pI_at]; exact h1) (k := k) (i := i) (c := a.1) (by rw [mm_pI_at, h2]; exact hk) (by rw [mm_pI_at, h2]; exact hi)
    rw [this, mm_pI_at, mm_pI_pI]
  · obtain ⟨h1, h2⟩ := hP
    have hB := h1.b
    rw [u_MD_keeping_0]
    simp (disch := first | omega | exact hB _ _ | assumption | decide) only [st_MD_keeping, rs_L, h2, ws_pL, mr_md E _, mm_pI_at, mm_pI_pI, mm_pI_2, mm_pL_1, mm_pL_at, mm_pL_pL, mm_pL_3, mm_pM_1, mm_pM_2, mm_pM_at, mm_pM_pM, mm_pI_pL, mm_pI_pM, mm_pL_pM, Bool.false_eq_true, n_10, true_and, and_true, false_and, and_false, Nat.not_lt_zero, true_or, or_true, eq_self, mm_z, mm_rs, sw_xc_ite, sw_xv_ite, n_m1, Nat.lt_irrefl, not_false_eq_true, not_true_eq_false, inS_0, inS_1, ite_not, sw_xv_some, sw_xm_some, sw_xc_some, sw_xc_void, if_true, if_false, reduceIte, bI_0, bI_01, bI_1, nt_or, Nat.reduceAdd, n_add, n_mul, n_addL, n_Ladd, n_mulL, n_Lmul, n_sub, n_subL, n_lt, n_eq, n_ltL, n_Llt, n_eqL, n_Leq, n_nneg, n_pos]
set_option maxRecDepth 100000 in
set_option maxHeartbeats 4000000 in
/-- the chain moves up, in the reference -/
theorem md_drop (hB : ∀ f i, S.1 3 f i < 2147483648) {x p : Nat} {a1 a2 : Value} (hx : x < 16) (hl : S.1 3 7 x ≤ 6) (hp : p + 1 ≤ S.1 3 7 x) : h_MD_breaking_1 E [.ref 71, a1, a2, .int (nI x), .int (nI p), .int (nI (16 + 12 * x)), .int (nI (S.1 3 7 x - p - 1)), .int (nI 0)] (mk S) = sw_ex E 171 178 [.ref 71, a1, a2, .int (nI x), .int (nI p), .int (nI (16 + 12 * x)), .int (nI (S.1 3 7 x - p - 1)), .int (nI (S.1 3 7 x - p - 1))] [] (mk (mm_pI S 3 (tw_drop (S.1 3) x (p + 1)))) := by
  have e1 : S.1 3 7 x - p - 1 = S.1 3 7 x - (p + 1) := by omega
  have key := lp_up (G := fun i a => h_MD_breaking_1 E [.ref 71, a1, a2, .int (nI x), .int (nI p), .int (nI (16 + 12 * x)), .int (nI (S.1 3 7 x - p - 1)), .int (nI i)] (mk (mm_pI S 3 a))) (P := fun _ a => (∀ j, a 7 j = S.1 3 7 j) ∧ ∀ f i, a f i < 2147483648) (f := fun i a => mm_u a 8 (6 * x + i) (a 8 (6 * x + (p + 1) + i))) (fin := fun a => sw_ex E 171 178 [.ref 71, a1, a2, .int (nI x), .int (nI p), .int (nI (16 + 12 * x)), .int (nI (S.1 3 7 x - p - 1)), .int (nI (S.1 3 7 x - p - 1))] [] (mk (mm_pI S 3 (mm_u a 7 x (S.1 3 7 x - (p + 1)))))) (n := S.1 3 7 x - p - 1) (a0 := S.1 3) ⟨fun _ => rfl, hB⟩ (fun i a hi hP => ?_) (fun a hP => ?_)
  · rw [mm_pI_id] at key
    refine key.trans ?_
    unfold tw_drop
    rw [e1]
  · obtain ⟨h1, hB⟩ := hP
    refine ⟨?_, ?_, ?_⟩
    · have e2 : 16 + 12 * x + 6 + p + 1 + i = 16 + 12 * x + 6 + (p + 1 + i) := by omega
      have e3 : 6 * x + (p + 1) + i = 6 * x + (p + 1 + i) := by omega
      have h6 : p + 1 + i < 6 := by omega
      have h66 : i < 6 := by omega
      rw [u_MD_breaking_1]
      simp (disch := first | omega | exact hB _ _ | assumption | decide) only [st_MD_breaking, hi, e2, e3, rs_c E _ hx h6, ws_c _ hx h66, mr_md E _, mm_pI_at, mm_pI_pI, mm_pI_2, mm_pL_1, mm_pL_at, mm_pL_pL, mm_pL_3, mm_pM_1, mm_pM_2, mm_pM_at, mm_pM_pM, mm_pI_pL, mm_pI_pM, mm_pL_pM, Bool.false_eq_true, n_10, true_and, and_true, false_and, and_false, Nat.not_lt_zero, true_or, or_true, eq_self, mm_z, mm_rs, sw_xc_ite, sw_xv_ite, n_m1, Nat.lt_irrefl, not_false_eq_true, not_true_eq_false, inS_0, inS_1, ite_not, sw_xv_some, sw_xm_some, sw_xc_some, sw_xc_void, if_true, if_false, reduceIte, bI_0, bI_01, bI_1, nt_or, Nat.reduceAdd, n_add, n_mul, n_addL, n_Ladd, n_mulL, n_Lmul, n_sub, n_subL, n_lt, n_eq, n_ltL, n_Llt, n_eqL, n_Leq, n_nneg, n_pos]
    · intro j
      rw [mm_u_ne _ (by omega)]; exact h1 j
    · intro f j
      unfold mm_u
      split
      · exact hB 8 _
      · exact hB f j
  · obtain ⟨h1, hB⟩ := hP
    rw [u_MD_breaking_1]
    simp (disch := first | omega | exact hB _ _ | assumption | decide) only [st_MD_breaking, ws_t, mr_md E _, mm_pI_at, mm_pI_pI, mm_pI_2, mm_pL_1, mm_pL_at, mm_pL_pL, mm_pL_3, mm_pM_1, mm_pM_2, mm_pM_at, mm_pM_pM, mm_pI_pL, mm_pI_pM, mm_pL_pM, Bool.false_eq_true, n_10, true_and, and_true, false_and, and_false, Nat.not_lt_zero, true_or, or_true, eq_self, mm_z, mm_rs, sw_xc_ite, sw_xv_ite, n_m1, Nat.lt_irrefl, not_false_eq_true, not_true_eq_false, inS_0, inS_1, ite_not, sw_xv_some, sw_xm_some, sw_xc_some, sw_xc_void, if_true, if_false, reduceIte, bI_0, bI_01, bI_1, nt_or, Nat.reduceAdd, n_add, n_mul, n_addL, n_Ladd, n_mulL, n_Lmul, n_sub, n_subL, n_lt, n_eq, n_ltL, n_Llt, n_eqL, n_Leq, n_nneg, n_pos]
    rw [← e1]
set_option maxRecDepth 100000 in
set_option maxHeartbeats 4000000 in
theorem md_break1 (hI : IT (S.1 3)) {k i c : Nat} (d4 d5 d6 d7 : Value) (hk : k < S.1 3 0 2) (hi : i < S.1 3 0 1) : ∃ d4' d5' d6' d7', h_MD_breaking_0 E [.ref 71, .int (nI k), .int (nI c), .int (nI i), d4, d5, d6, d7] (mk S) = h_MD_breaking_0 E [.ref 71, .int (nI k), .int (nI (fl1 k i (c, S.1 3, S.2.1 3)).1), .int (nI (i + 1)), d4', d5', d6', d7'] (mk (mm_pL (mm_pI S 3 (fl1 k i (c, S.1 3, S.2.1 3)).2.1) 3 (fl1 k i (c, S.1 3, S.2.1 3)).2.2)) := by
  have hB := hI.b
  have hn := hI.n
  have hp := hI.p
  have hk2 := hI.k
  have hl := hI.len hi
  have ho := (hI.th i hi).1
  have hk24 : k < 24 := by omega
  have hi16 : i < 16 := by omega
  rw [u_MD_breaking_0]
  unfold fl1
  by_cases hq : tw_in (S.1 3) i k = true
  · have hq1 := tw_in_lt hq
    have e7 : mm_u (S.1 3) 2 i (S.1 3 10 k) 7 i = S.1 3 7 i := by rw [mm_u_fn (by omega)]
    have hd : ∀ (a1 a2 : Value) H, h_MD_breaking_1 E [.ref 71, a1, a2, .int (nI i), .int (nI (tw_pl (S.1 3) i k)), .int (nI (16 + 12 * i)), .int (nI (S.1 3 7 i - tw_pl (S.1 3) i k - 1)), .int (nI 0)] (mk (mm_pL (mm_pI S 3 (mm_u (S.1 3) 2 i (S.1 3 10 k))) 3 H)) = sw_ex E 171 178 [.ref 71, a1, a2, .int (nI i), .int (nI (tw_pl (S.1 3) i k)), .int (nI (16 + 12 * i)), .int (nI (S.1 3 7 i - tw_pl (S.1 3) i k - 1)), .int (nI (S.1 3 7 i - tw_pl (S.1 3) i k - 1))] [] (mk (mm_pI (mm_pL (mm_pI S 3 (mm_u (S.1 3) 2 i (S.1 3 10 k))) 3 H) 3 (tw_drop (mm_u (S.1 3) 2 i (S.1 3 10 k)) i (tw_pl (S.1 3) i k + 1)))) := fun a1 a2 H => by
      have := md_drop E (mm_pL (mm_pI S 3 (mm_u (S.1 3) 2 i (S.1 3 10 k))) 3 H) (by rw [mm_pL_1, mm_pI_at]; exact mm_u_b hB (hB _ _)) (x := i) (p := tw_pl (S.1 3) i k) (a1 := a1) (a2 := a2) hi16 (by rw [mm_pL_1, mm_pI_at, e7]; omega) (by rw [mm_pL_1, mm_pI_at, e7]; omega)
      rw [mm_pL_1, mm_pI_at, e7] at this
      exact this
    refine ⟨.int (nI (tw_pl (S.1 3) i k)), .int (nI (16 + 12 * i)), .int (nI (S.1 3 7 i - tw_pl (S.1 3) i k - 1)), .int (nI (S.1 3 7 i - tw_pl (S.1 3) i k - 1)), ?_⟩
    simp (disch := first | omega | exact hB _ _ | assumption | decide) only [st_MD_breaking, rs_L, hi, md_pl_y E S hI hi (k := k) (by omega) hq, hq, rs_t, ws_t, md_of1 E _ hk24, mw_l76, mm_u_f, show (0 : Int32) = nI 0 from rfl, hd, mr_md E _, mm_pI_at, mm_pI_pI, mm_pI_2, mm_pL_1, mm_pL_at, mm_pL_pL, mm_pL_3, mm_pM_1, mm_pM_2, mm_pM_at, mm_pM_pM, mm_pI_pL, mm_pI_pM, mm_pL_pM, Bool.false_eq_true, n_10, true_and, and_true, false_and, and_false, Nat.not_lt_zero, true_or, or_true, eq_self, mm_z, mm_rs, sw_xc_ite, sw_xv_ite, n_m1, Nat.lt_irrefl, not_false_eq_true, not_true_eq_false, inS_0, inS_1, ite_not, sw_xv_some, sw_xm_some, sw_xc_some, sw_xc_void, if_true, if_false, reduceIte, bI_0, bI_01, bI_1, nt_or, Nat.reduceAdd, n_add, n_mul, n_addL, n_Ladd, n_mulL, n_Lmul, n_sub, n_subL, n_lt, n_eq, n_ltL, n_Llt, n_eqL, n_Leq, n_nneg, n_pos]
    by_cases h1 : S.1 3 2 i = S.1 3 10 k <;> simp [h1]
  · refine ⟨.int (-1), d5, d6, d7, ?_⟩
    simp (disch := first | omega | exact hB _ _ | assumption | decide) only [st_MD_breaking, rs_L, hi, md_pl_n E S hI hi (k := k) (by omega) hq, hq, mr_md E _, mm_pI_at, mm_pI_pI, mm_pI_2, mm_pL_1, mm_pL_at, mm_pL_pL, mm_pL_3, mm_pM_1, mm_pM_2, mm_pM_at, mm_pM_pM, mm_pI_pL, mm_pI_pM, mm_pL_pM, Bool.false_eq_true, n_10, true_and, and_true, false_and, and_false, Nat.not_lt_zero, true_or, or_true, eq_self, mm_z, mm_rs, sw_xc_ite, sw_xv_ite, n_m1, Nat.lt_irrefl, not_false_eq_true, not_true_eq_false, inS_0, inS_1, ite_not, sw_xv_some, sw_xm_some, sw_xc_some, sw_xc_void, if_true, if_false, reduceIte, bI_0, bI_01, bI_1, nt_or, Nat.reduceAdd, n_add, n_mul, n_addL, n_Ladd, n_mulL, n_Lmul, n_sub, n_subL, n_lt, n_eq, n_ltL, n_Llt, n_eqL, n_Leq, n_nneg, n_pos]
    simp [hq, mm_pI_id, mm_pL_id]
set_option maxRecDepth 100000 in
set_option maxHeartbeats 4000000 in
theorem md_breaking (hI : IT (S.1 3)) {k : Nat} (hk : k < S.1 3 0 2) : f_MD_breaking E (.ref 71) (.int (nI k)) (mk S) = some (some (.int (nI (tw_fl (S.1 3) (S.2.1 3) k).1)), mk (mm_pL (mm_pI S 3 (tw_fl (S.1 3) (S.2.1 3) k).2.1) 3 (tw_fl (S.1 3) (S.2.1 3) k).2.2)) := by
  have hk2 := hI.k
  have hn := hI.n
  have hB := hI.b
  have hk24 : k < 24 := by omega
  have key := lp_upD (δ := Value × Value × Value × Value) (G := fun i d a => h_MD_breaking_0 E [.ref 71, .int (nI k), .int (nI a.1), .int (nI i), d.1, d.2.1, d.2.2.1, d.2.2.2] (mk (mm_pL (mm_pI S 3 a.2.1) 3 a.2.2))) (P := fun _ a => IT a.2.1 ∧ a.2.1 0 = S.1 3 0) (f := fl1 k) (fin := fun a => some (some (.int (nI a.1)), mk (mm_pL (mm_pI S 3 (mm_u a.2.1 13 k 2)) 3 a.2.2))) (n := S.1 3 0 1) (a0 := (0, S.1 3, S.2.1 3)) ⟨hI, rfl⟩ (fun i d a hi hP => ?_) (fun d a hP => ?_) (sw_J, sw_J, sw_J, sw_J)
  · simp only [mm_pI_id, mm_pL_id] at key
    simp only [e_MD_breaking, st_MD_breaking]
    exact key
  · obtain ⟨h1, h2⟩ := hP
    obtain ⟨g1, g2⟩ := fl1_IT (x := i) (k := k) h1 (by rw [h2]; exact hk) (by rw [h2]; exact hi)
    refine ⟨?_, g1, g2.trans h2⟩
    have := md_break1 E (mm_pL (mm_pI S 3 a.2.1) 3 a.2.2) (by rw [mm_pL_1, mm_pI_at]; exact h1) (k := k) (i := i) (c := a.1) d.1 d.2.1 d.2.2.1 d.2.2.2 (by rw [mm_pL_1, mm_pI_at, h2]; exact hk) (by rw [mm_pL_1, mm_pI_at, h2]; exact hi)
    obtain ⟨d4, d5, d6, d7, e⟩ := this
    refine ⟨(d4, d5, d6, d7), ?_⟩
    rw [mm_pL_at, mm_pL_1, mm_pI_at, mm_pI_pL, mm_pL_pL, mm_pI_pI] at e
    exact e
  · obtain ⟨h1, h2⟩ := hP
    have hB := h1.b
    rw [u_MD_breaking_0]
    simp (disch := first | omega | exact hB _ _ | assumption | decide) only [st_MD_breaking, rs_L, h2, ws_pL, mr_md E _, mm_pI_at, mm_pI_pI, mm_pI_2, mm_pL_1, mm_pL_at, mm_pL_pL, mm_pL_3, mm_pM_1, mm_pM_2, mm_pM_at, mm_pM_pM, mm_pI_pL, mm_pI_pM, mm_pL_pM, Bool.false_eq_true, n_10, true_and, and_true, false_and, and_false, Nat.not_lt_zero, true_or, or_true, eq_self, mm_z, mm_rs, sw_xc_ite, sw_xv_ite, n_m1, Nat.lt_irrefl, not_false_eq_true, not_true_eq_false, inS_0, inS_1, ite_not, sw_xv_some, sw_xm_some, sw_xc_some, sw_xc_void, if_true, if_false, reduceIte, bI_0, bI_01, bI_1, nt_or, Nat.reduceAdd, n_add, n_mul, n_addL, n_Ladd, n_mulL, n_Lmul, n_sub, n_subL, n_lt, n_eq, n_ltL, n_Llt, n_eqL, n_Leq, n_nneg, n_pos]
theorem n_neg {b r : Nat} (hb : b < 2147483648) (hr : r < 2147483648) : (nI b - nI r < 0) ↔ b < r := by
  rw [Int32.lt_iff_toInt_lt, fb_subI (by rw [nI_toInt hb, nI_toInt hr]; omega) (by rw [nI_toInt hb, nI_toInt hr]; omega), nI_toInt hb, nI_toInt hr]
  show (b : Int) - r < 0 ↔ _
  omega
set_option maxRecDepth 100000 in
set_option maxHeartbeats 4000000 in
theorem md_rot (hI : IT (S.1 3)) (d2 d3 : Value) : h_MD_dayGoes_0 E [.ref 71, .int (nI 0), d2, d3] (mk S) = h_MD_dayGoes_1 E [.ref 71, .int 0, .int 0, d3] (mk (mm_pI S 3 (tw_rot (S.1 3)))) := by
  have hn := hI.n
  have key := lp_upD (δ := Value) (G := fun i d a => h_MD_dayGoes_0 E [.ref 71, .int (nI i), d, d3] (mk (mm_pI S 3 a))) (P := fun _ a => a 0 1 = S.1 3 0 1 ∧ ∀ f i, a f i < 2147483648) (f := fun i a => mm_u a 4 i (a 4 i - a 5 i)) (fin := fun a => h_MD_dayGoes_1 E [.ref 71, .int 0, .int 0, d3] (mk (mm_pI S 3 a))) (n := S.1 3 0 1) (a0 := S.1 3) ⟨rfl, hI.b⟩ (fun i d a hi hP => ?_) (fun d a hP => ?_) d2
  · rw [mm_pI_id] at key
    exact key
  · obtain ⟨h1, hB⟩ := hP
    refine ⟨?_, ?_, ?_⟩
    · have hi16 : i < 16 := by omega
      rw [u_MD_dayGoes_0]
      by_cases hlt : a 4 i < a 5 i
      · refine ⟨.int (nI (a 4 i) - nI (a 5 i)), ?_⟩
        have e0 : a 4 i - a 5 i = 0 := by omega
        have e1 : (nI (a 4 i) - nI (a 5 i) < 0) ↔ True := by rw [n_neg (hB _ _) (hB _ _)]; simp [hlt]
        simp (disch := first | omega | exact hB _ _ | assumption | decide) only [st_MD_dayGoes, rs_L, h1, hi, md_has2 E _ hi16, md_has3 E _ hi16, e1, ws_tL, e0, mr_md E _, mm_pI_at, mm_pI_pI, mm_pI_2, mm_pL_1, mm_pL_at, mm_pL_pL, mm_pL_3, mm_pM_1, mm_pM_2, mm_pM_at, mm_pM_pM, mm_pI_pL, mm_pI_pM, mm_pL_pM, Bool.false_eq_true, n_10, true_and, and_true, false_and, and_false, Nat.not_lt_zero, true_or, or_true, eq_self, mm_z, mm_rs, sw_xc_ite, sw_xv_ite, n_m1, Nat.lt_irrefl, not_false_eq_true, not_true_eq_false, inS_0, inS_1, ite_not, sw_xv_some, sw_xm_some, sw_xc_some, sw_xc_void, if_true, if_false, reduceIte, bI_0, bI_01, bI_1, nt_or, Nat.reduceAdd, n_add, n_mul, n_addL, n_Ladd, n_mulL, n_Lmul, n_sub, n_subL, n_lt, n_eq, n_ltL, n_Llt, n_eqL, n_Leq, n_nneg, n_pos]
      · have hle : a 5 i ≤ a 4 i := by omega
        have hb2 : a 4 i - a 5 i < 2147483648 := by have := hB 4 i; omega
        refine ⟨.int (nI (a 4 i - a 5 i)), ?_⟩
        simp (disch := first | omega | exact hB _ _ | assumption | decide) only [st_MD_dayGoes, rs_L, h1, hi, md_has2 E _ hi16, md_has3 E _ hi16, ws_t, mr_md E _, mm_pI_at, mm_pI_pI, mm_pI_2, mm_pL_1, mm_pL_at, mm_pL_pL, mm_pL_3, mm_pM_1, mm_pM_2, mm_pM_at, mm_pM_pM, mm_pI_pL, mm_pI_pM, mm_pL_pM, Bool.false_eq_true, n_10, true_and, and_true, false_and, and_false, Nat.not_lt_zero, true_or, or_true, eq_self, mm_z, mm_rs, sw_xc_ite, sw_xv_ite, n_m1, Nat.lt_irrefl, not_false_eq_true, not_true_eq_false, inS_0, inS_1, ite_not, sw_xv_some, sw_xm_some, sw_xc_some, sw_xc_void, if_true, if_false, reduceIte, bI_0, bI_01, bI_1, nt_or, Nat.reduceAdd, n_add, n_mul, n_addL, n_Ladd, n_mulL, n_Lmul, n_sub, n_subL, n_lt, n_eq, n_ltL, n_Llt, n_eqL, n_Leq, n_nneg, n_pos]
    · rw [mm_u_ne _ (by omega)]; exact h1
    · intro f j
      unfold mm_u
      split
      · have := hB 4 i; omega
      · exact hB f j
  · obtain ⟨h1, hB⟩ := hP
    rw [u_MD_dayGoes_0]
    simp (disch := first | omega | exact hB _ _ | assumption | decide) only [st_MD_dayGoes, rs_L, h1, mr_md E _, mm_pI_at, mm_pI_pI, mm_pI_2, mm_pL_1, mm_pL_at, mm_pL_pL, mm_pL_3, mm_pM_1, mm_pM_2, mm_pM_at, mm_pM_pM, mm_pI_pL, mm_pI_pM, mm_pL_pM, Bool.false_eq_true, n_10, true_and, and_true, false_and, and_false, Nat.not_lt_zero, true_or, or_true, eq_self, mm_z, mm_rs, sw_xc_ite, sw_xv_ite, n_m1, Nat.lt_irrefl, not_false_eq_true, not_true_eq_false, inS_0, inS_1, ite_not, sw_xv_some, sw_xm_some, sw_xc_some, sw_xc_void, if_true, if_false, reduceIte, bI_0, bI_01, bI_1, nt_or, Nat.reduceAdd, n_add, n_mul, n_addL, n_Ladd, n_mulL, n_Lmul, n_sub, n_subL, n_lt, n_eq, n_ltL, n_Llt, n_eqL, n_Leq, n_nneg, n_pos]
set_option maxRecDepth 100000 in
set_option maxHeartbeats 4000000 in
theorem md_dayGoes (hI : IT (S.1 3)) (hd : S.1 3 0 3 < 999) : f_MD_dayGoes E (.ref 71) (mk S) = some (some (.int (nI (tw_pd (S.1 3) (S.2.1 3)).1)), mk (mm_pL (mm_pI S 3 (tw_pd (S.1 3) (S.2.1 3)).2.1) 3 (tw_pd (S.1 3) (S.2.1 3)).2.2)) := by
  have hk2 := hI.k
  have hB := hI.b
  have hI0 := IT_u03 hI (v := S.1 3 0 3 + 1) (by omega)
  have hI1 := IT_rot hI0
  have hz : ∀ j, mm_u (S.1 3) 0 3 (S.1 3 0 3 + 1) 0 j = if j = 3 then S.1 3 0 3 + 1 else S.1 3 0 j := fun j => by simp [mm_u]
  have key := lp_upD (δ := Value) (G := fun i d a => h_MD_dayGoes_1 E [.ref 71, .int (nI a.1), .int (nI i), d] (mk (mm_pL (mm_pI S 3 a.2.1) 3 a.2.2))) (P := fun _ a => IT a.2.1 ∧ a.2.1 0 = mm_u (S.1 3) 0 3 (S.1 3 0 3 + 1) 0) (f := pd1) (fin := fun a => some (some (.int (nI a.1)), mk (mm_pL (mm_pI S 3 a.2.1) 3 a.2.2))) (n := S.1 3 0 2) (a0 := (0, tw_rot (mm_u (S.1 3) 0 3 (S.1 3 0 3 + 1)), S.2.1 3)) ⟨hI1.1, hI1.2⟩ (fun i d a hi hP => ?_) (fun d a hP => ?_) sw_J
  · have hr := md_rot E (mm_pI S 3 (mm_u (S.1 3) 0 3 (S.1 3 0 3 + 1))) (by rw [mm_pI_at]; exact hI0) sw_J sw_J
    rw [mm_pI_at, mm_pI_pI] at hr
    simp (disch := first | omega | exact hB _ _ | assumption | decide) only [e_MD_dayGoes, st_MD_dayGoes, rs_L, ws_L, show (0 : Int32) = nI 0 from rfl, mr_md E _, mm_pI_at, mm_pI_pI, mm_pI_2, mm_pL_1, mm_pL_at, mm_pL_pL, mm_pL_3, mm_pM_1, mm_pM_2, mm_pM_at, mm_pM_pM, mm_pI_pL, mm_pI_pM, mm_pL_pM, Bool.false_eq_true, n_10, true_and, and_true, false_and, and_false, Nat.not_lt_zero, true_or, or_true, eq_self, mm_z, mm_rs, sw_xc_ite, sw_xv_ite, n_m1, Nat.lt_irrefl, not_false_eq_true, not_true_eq_false, inS_0, inS_1, ite_not, sw_xv_some, sw_xm_some, sw_xc_some, sw_xc_void, if_true, if_false, reduceIte, bI_0, bI_01, bI_1, nt_or, Nat.reduceAdd, n_add, n_mul, n_addL, n_Ladd, n_mulL, n_Lmul, n_sub, n_subL, n_lt, n_eq, n_ltL, n_Llt, n_eqL, n_Leq, n_nneg, n_pos]
    have e : ∀ T, mm_pL (mm_pI S 3 T) 3 (S.2.1 3) = mm_pI S 3 T := fun T => mm_pL_id (mm_pI S 3 T) 3
    simp only [e] at key
    exact hr.trans key
  · obtain ⟨h1, h2⟩ := hP
    have h02 : a.2.1 0 2 = S.1 3 0 2 := by rw [h2, hz]; simp
    obtain ⟨g1, g2⟩ := pd1_IT (k := i) h1 (by rw [h02]; exact hi)
    refine ⟨?_, g1, g2.trans h2⟩
    have hB := h1.b
    have hi24 : i < 24 := by omega
    rw [u_MD_dayGoes_1]
    have hB' : ∀ f i, (mm_pL (mm_pI S 3 a.2.1) 3 a.2.2).1 3 f i < 2147483648 := by rw [mm_pL_1, mm_pI_at]; exact hB
    have hI' : IT ((mm_pL (mm_pI S 3 a.2.1) 3 a.2.2).1 3) := by rw [mm_pL_1, mm_pI_at]; exact h1
    have hi' : i < (mm_pL (mm_pI S 3 a.2.1) 3 a.2.2).1 3 0 2 := by rw [mm_pL_1, mm_pI_at, h02]; exact hi
    unfold pd1
    by_cases h3 : a.2.1 13 i = 0
    · by_cases h4 : a.2.1 12 i < a.2.1 0 3
      · refine ⟨.int (nI (tw_fl a.2.1 a.2.2 i).1), ?_⟩
        simp (disch := first | omega | exact hB _ _ | assumption | decide) only [st_MD_dayGoes, rs_L, h02, hi, md_isOpen E _ hB' hi24, md_of3 E _ hi24, md_breaking E _ hI' hi', h3, h4, mr_md E _, mm_pI_at, mm_pI_pI, mm_pI_2, mm_pL_1, mm_pL_at, mm_pL_pL, mm_pL_3, mm_pM_1, mm_pM_2, mm_pM_at, mm_pM_pM, mm_pI_pL, mm_pI_pM, mm_pL_pM, Bool.false_eq_true, n_10, true_and, and_true, false_and, and_false, Nat.not_lt_zero, true_or, or_true, eq_self, mm_z, mm_rs, sw_xc_ite, sw_xv_ite, n_m1, Nat.lt_irrefl, not_false_eq_true, not_true_eq_false, inS_0, inS_1, ite_not, sw_xv_some, sw_xm_some, sw_xc_some, sw_xc_void, if_true, if_false, reduceIte, bI_0, bI_01, bI_1, nt_or, Nat.reduceAdd, n_add, n_mul, n_addL, n_Ladd, n_mulL, n_Lmul, n_sub, n_subL, n_lt, n_eq, n_ltL, n_Llt, n_eqL, n_Leq, n_nneg, n_pos]
        simp [h3, h4]
      · refine ⟨d, ?_⟩
        simp (disch := first | omega | exact hB _ _ | assumption | decide) only [st_MD_dayGoes, rs_L, h02, hi, md_isOpen E _ hB' hi24, md_of3 E _ hi24, h3, h4, mr_md E _, mm_pI_at, mm_pI_pI, mm_pI_2, mm_pL_1, mm_pL_at, mm_pL_pL, mm_pL_3, mm_pM_1, mm_pM_2, mm_pM_at, mm_pM_pM, mm_pI_pL, mm_pI_pM, mm_pL_pM, Bool.false_eq_true, n_10, true_and, and_true, false_and, and_false, Nat.not_lt_zero, true_or, or_true, eq_self, mm_z, mm_rs, sw_xc_ite, sw_xv_ite, n_m1, Nat.lt_irrefl, not_false_eq_true, not_true_eq_false, inS_0, inS_1, ite_not, sw_xv_some, sw_xm_some, sw_xc_some, sw_xc_void, if_true, if_false, reduceIte, bI_0, bI_01, bI_1, nt_or, Nat.reduceAdd, n_add, n_mul, n_addL, n_Ladd, n_mulL, n_Lmul, n_sub, n_subL, n_lt, n_eq, n_ltL, n_Llt, n_eqL, n_Leq, n_nneg, n_pos]
        simp [h3, h4]
    · refine ⟨d, ?_⟩
      simp (disch := first | omega | exact hB _ _ | assumption | decide) only [st_MD_dayGoes, rs_L, h02, hi, md_isOpen E _ hB' hi24, h3, mr_md E _, mm_pI_at, mm_pI_pI, mm_pI_2, mm_pL_1, mm_pL_at, mm_pL_pL, mm_pL_3, mm_pM_1, mm_pM_2, mm_pM_at, mm_pM_pM, mm_pI_pL, mm_pI_pM, mm_pL_pM, Bool.false_eq_true, n_10, true_and, and_true, false_and, and_false, Nat.not_lt_zero, true_or, or_true, eq_self, mm_z, mm_rs, sw_xc_ite, sw_xv_ite, n_m1, Nat.lt_irrefl, not_false_eq_true, not_true_eq_false, inS_0, inS_1, ite_not, sw_xv_some, sw_xm_some, sw_xc_some, sw_xc_void, if_true, if_false, reduceIte, bI_0, bI_01, bI_1, nt_or, Nat.reduceAdd, n_add, n_mul, n_addL, n_Ladd, n_mulL, n_Lmul, n_sub, n_subL, n_lt, n_eq, n_ltL, n_Llt, n_eqL, n_Leq, n_nneg, n_pos]
      simp [h3]
  · obtain ⟨h1, h2⟩ := hP
    have h02 : a.2.1 0 2 = S.1 3 0 2 := by rw [h2, hz]; simp
    have hB := h1.b
    rw [u_MD_dayGoes_1]
    simp (disch := first | omega | exact hB _ _ | assumption | decide) only [st_MD_dayGoes, rs_L, h02, mr_md E _, mm_pI_at, mm_pI_pI, mm_pI_2, mm_pL_1, mm_pL_at, mm_pL_pL, mm_pL_3, mm_pM_1, mm_pM_2, mm_pM_at, mm_pM_pM, mm_pI_pL, mm_pI_pM, mm_pL_pM, Bool.false_eq_true, n_10, true_and, and_true, false_and, and_false, Nat.not_lt_zero, true_or, or_true, eq_self, mm_z, mm_rs, sw_xc_ite, sw_xv_ite, n_m1, Nat.lt_irrefl, not_false_eq_true, not_true_eq_false, inS_0, inS_1, ite_not, sw_xv_some, sw_xm_some, sw_xc_some, sw_xc_void, if_true, if_false, reduceIte, bI_0, bI_01, bI_1, nt_or, Nat.reduceAdd, n_add, n_mul, n_addL, n_Ladd, n_mulL, n_Lmul, n_sub, n_subL, n_lt, n_eq, n_ltL, n_Llt, n_eqL, n_Leq, n_nneg, n_pos]
set_option maxRecDepth 100000 in
set_option maxHeartbeats 4000000 in
theorem md_takesOff1 (hI : IT (S.1 3)) {p q k l : Nat} {a3 : Value} (d6 d7 : Value) (hp : p < 2147483648) (hq : q < 2147483648) (hl2 : l < 2147483648) (hk : k < S.1 3 0 2) : ∃ d6' d7', h_MD_takesOff_0 E [.ref 71, .int (nI p), .int (nI q), a3, .int (nI l), .int (nI k), d6, d7] (mk S) = h_MD_takesOff_0 E [.ref 71, .int (nI p), .int (nI q), a3, .int (nI (to1 p q k (l, S.1 3)).1), .int (nI (k + 1)), d6', d7'] (mk (mm_pI S 3 (to1 p q k (l, S.1 3)).2)) := by
  have hB := hI.b
  have hk2 := hI.k
  have hk24 : k < 24 := by omega
  have hs := (hI.pr k hk).2.2.2.1
  rw [u_MD_takesOff_0]
  by_cases hl : 0 < l
  · by_cases h1 : S.1 3 13 k = 0 ∧ S.1 3 9 k = p ∧ S.1 3 10 k = q
    · obtain ⟨h1, h2, h3⟩ := h1
      by_cases h4 : 0 < S.1 3 11 k
      · by_cases h5 : l < S.1 3 11 k
        · have et : to1 p q k (l, S.1 3) = (0, mm_u (S.1 3) 11 k (S.1 3 11 k - l)) := by
            unfold to1
            rw [if_pos ⟨hl, ⟨h1, h2, h3⟩, h4⟩, if_neg (fun g => absurd g.1 (by simp only; omega))]
            simp only [Prod.mk.injEq, and_true]; omega
          have h6 : ¬ S.1 3 11 k - l = 0 := by omega
          have h7 : ¬ S.1 3 11 k < l := by omega
          rw [et]
          refine ⟨.int (nI l), d7, ?_⟩
          simp (disch := first | omega | exact hB _ _ | assumption | decide) only [st_MD_takesOff, rs_L, hk, md_isOpen E _ hB hk24, md_of0 E _ hk24, md_of1 E _ hk24, md_of2 E _ hk24, h1, h2, h3, h4, h7, hl, rs_p, ws_p, mm_u_at, h6, Nat.sub_self, mr_md E _, mm_pI_at, mm_pI_pI, mm_pI_2, mm_pL_1, mm_pL_at, mm_pL_pL, mm_pL_3, mm_pM_1, mm_pM_2, mm_pM_at, mm_pM_pM, mm_pI_pL, mm_pI_pM, mm_pL_pM, Bool.false_eq_true, n_10, true_and, and_true, false_and, and_false, Nat.not_lt_zero, true_or, or_true, eq_self, mm_z, mm_rs, sw_xc_ite, sw_xv_ite, n_m1, Nat.lt_irrefl, not_false_eq_true, not_true_eq_false, inS_0, inS_1, ite_not, sw_xv_some, sw_xm_some, sw_xc_some, sw_xc_void, if_true, if_false, reduceIte, bI_0, bI_01, bI_1, nt_or, Nat.reduceAdd, n_add, n_mul, n_addL, n_Ladd, n_mulL, n_Lmul, n_sub, n_subL, n_lt, n_eq, n_ltL, n_Llt, n_eqL, n_Leq, n_nneg, n_pos]
        · have h6 : S.1 3 11 k - l = 0 := by omega
          have h7 : S.1 3 11 k ≤ l := by omega
          have et : to1 p q k (l, S.1 3) = (l - S.1 3 11 k, if tw_last (mm_u (S.1 3) 11 k 0) k = true then (tw_kp (mm_u (S.1 3) 11 k 0) k).2 else mm_u (S.1 3) 11 k 0) := by
            unfold to1
            rw [if_pos ⟨hl, ⟨h1, h2, h3⟩, h4⟩]
            simp only [h6, h7, true_and]
          have hI1 : IT (mm_u (S.1 3) 11 k 0) := IT_u11 hI (by omega)
          have hI' : IT ((mm_pI S 3 (mm_u (S.1 3) 11 k 0)).1 3) := by rw [mm_pI_at]; exact hI1
          have hk' : k < (mm_pI S 3 (mm_u (S.1 3) 11 k 0)).1 3 0 2 := by rw [mm_pI_at]; exact hk
          by_cases h8 : tw_last (mm_u (S.1 3) 11 k 0) k = true
          · rw [et, if_pos h8]
            refine ⟨.int (nI (S.1 3 11 k)), .int (nI (tw_kp (mm_u (S.1 3) 11 k 0) k).1), ?_⟩
            by_cases h9 : S.1 3 11 k < l
            · simp (disch := first | omega | exact hB _ _ | assumption | decide) only [st_MD_takesOff, rs_L, hk, md_isOpen E _ hB hk24, md_of0 E _ hk24, md_of1 E _ hk24, md_of2 E _ hk24, h1, h2, h3, h4, h9, hl, rs_p, ws_p, mm_u_at, Nat.sub_self, md_isLast E _ hI' (k := k) (by omega), md_keeping E _ hI' hk', h8, mr_md E _, mm_pI_at, mm_pI_pI, mm_pI_2, mm_pL_1, mm_pL_at, mm_pL_pL, mm_pL_3, mm_pM_1, mm_pM_2, mm_pM_at, mm_pM_pM, mm_pI_pL, mm_pI_pM, mm_pL_pM, Bool.false_eq_true, n_10, true_and, and_true, false_and, and_false, Nat.not_lt_zero, true_or, or_true, eq_self, mm_z, mm_rs, sw_xc_ite, sw_xv_ite, n_m1, Nat.lt_irrefl, not_false_eq_true, not_true_eq_false, inS_0, inS_1, ite_not, sw_xv_some, sw_xm_some, sw_xc_some, sw_xc_void, if_true, if_false, reduceIte, bI_0, bI_01, bI_1, nt_or, Nat.reduceAdd, n_add, n_mul, n_addL, n_Ladd, n_mulL, n_Lmul, n_sub, n_subL, n_lt, n_eq, n_ltL, n_Llt, n_eqL, n_Leq, n_nneg, n_pos]
            · have e9 : S.1 3 11 k = l := by omega
              subst e9
              simp (disch := first | omega | exact hB _ _ | assumption | decide) only [st_MD_takesOff, rs_L, hk, md_isOpen E _ hB hk24, md_of0 E _ hk24, md_of1 E _ hk24, md_of2 E _ hk24, h1, h2, h3, h4, hl, rs_p, ws_p, mm_u_at, Nat.sub_self, md_isLast E _ hI' (k := k) (by omega), md_keeping E _ hI' hk', h8, mr_md E _, mm_pI_at, mm_pI_pI, mm_pI_2, mm_pL_1, mm_pL_at, mm_pL_pL, mm_pL_3, mm_pM_1, mm_pM_2, mm_pM_at, mm_pM_pM, mm_pI_pL, mm_pI_pM, mm_pL_pM, Bool.false_eq_true, n_10, true_and, and_true, false_and, and_false, Nat.not_lt_zero, true_or, or_true, eq_self, mm_z, mm_rs, sw_xc_ite, sw_xv_ite, n_m1, Nat.lt_irrefl, not_false_eq_true, not_true_eq_false, inS_0, inS_1, ite_not, sw_xv_some, sw_xm_some, sw_xc_some, sw_xc_void, if_true, if_false, reduceIte, bI_0, bI_01, bI_1, nt_or, Nat.reduceAdd, n_add, n_mul, n_addL, n_Ladd, n_mulL, n_Lmul, n_sub, n_subL, n_lt, n_eq, n_ltL, n_Llt, n_eqL, n_Leq, n_nneg, n_pos]
          · rw [et, if_neg h8]
            refine ⟨.int (nI (S.1 3 11 k)), d7, ?_⟩
            by_cases h9 : S.1 3 11 k < l
            · simp (disch := first | omega | exact hB _ _ | assumption | decide) only [st_MD_takesOff, rs_L, hk, md_isOpen E _ hB hk24, md_of0 E _ hk24, md_of1 E _ hk24, md_of2 E _ hk24, h1, h2, h3, h4, h9, hl, rs_p, ws_p, mm_u_at, Nat.sub_self, md_isLast E _ hI' (k := k) (by omega), h8, mr_md E _, mm_pI_at, mm_pI_pI, mm_pI_2, mm_pL_1, mm_pL_at, mm_pL_pL, mm_pL_3, mm_pM_1, mm_pM_2, mm_pM_at, mm_pM_pM, mm_pI_pL, mm_pI_pM, mm_pL_pM, Bool.false_eq_true, n_10, true_and, and_true, false_and, and_false, Nat.not_lt_zero, true_or, or_true, eq_self, mm_z, mm_rs, sw_xc_ite, sw_xv_ite, n_m1, Nat.lt_irrefl, not_false_eq_true, not_true_eq_false, inS_0, inS_1, ite_not, sw_xv_some, sw_xm_some, sw_xc_some, sw_xc_void, if_true, if_false, reduceIte, bI_0, bI_01, bI_1, nt_or, Nat.reduceAdd, n_add, n_mul, n_addL, n_Ladd, n_mulL, n_Lmul, n_sub, n_subL, n_lt, n_eq, n_ltL, n_Llt, n_eqL, n_Leq, n_nneg, n_pos]
            · have e9 : S.1 3 11 k = l := by omega
              subst e9
              simp (disch := first | omega | exact hB _ _ | assumption | decide) only [st_MD_takesOff, rs_L, hk, md_isOpen E _ hB hk24, md_of0 E _ hk24, md_of1 E _ hk24, md_of2 E _ hk24, h1, h2, h3, h4, hl, rs_p, ws_p, mm_u_at, Nat.sub_self, md_isLast E _ hI' (k := k) (by omega), h8, mr_md E _, mm_pI_at, mm_pI_pI, mm_pI_2, mm_pL_1, mm_pL_at, mm_pL_pL, mm_pL_3, mm_pM_1, mm_pM_2, mm_pM_at, mm_pM_pM, mm_pI_pL, mm_pI_pM, mm_pL_pM, Bool.false_eq_true, n_10, true_and, and_true, false_and, and_false, Nat.not_lt_zero, true_or, or_true, eq_self, mm_z, mm_rs, sw_xc_ite, sw_xv_ite, n_m1, Nat.lt_irrefl, not_false_eq_true, not_true_eq_false, inS_0, inS_1, ite_not, sw_xv_some, sw_xm_some, sw_xc_some, sw_xc_void, if_true, if_false, reduceIte, bI_0, bI_01, bI_1, nt_or, Nat.reduceAdd, n_add, n_mul, n_addL, n_Ladd, n_mulL, n_Lmul, n_sub, n_subL, n_lt, n_eq, n_ltL, n_Llt, n_eqL, n_Leq, n_nneg, n_pos]
      · refine ⟨d6, d7, ?_⟩
        have et : to1 p q k (l, S.1 3) = (l, S.1 3) := by
          unfold to1
          rw [if_neg (fun g => h4 g.2.2)]
        rw [et, mm_pI_id]
        simp (disch := first | omega | exact hB _ _ | assumption | decide) only [st_MD_takesOff, rs_L, hk, md_isOpen E _ hB hk24, md_of0 E _ hk24, md_of1 E _ hk24, md_of2 E _ hk24, h1, h2, h3, h4, hl, mr_md E _, mm_pI_at, mm_pI_pI, mm_pI_2, mm_pL_1, mm_pL_at, mm_pL_pL, mm_pL_3, mm_pM_1, mm_pM_2, mm_pM_at, mm_pM_pM, mm_pI_pL, mm_pI_pM, mm_pL_pM, Bool.false_eq_true, n_10, true_and, and_true, false_and, and_false, Nat.not_lt_zero, true_or, or_true, eq_self, mm_z, mm_rs, sw_xc_ite, sw_xv_ite, n_m1, Nat.lt_irrefl, not_false_eq_true, not_true_eq_false, inS_0, inS_1, ite_not, sw_xv_some, sw_xm_some, sw_xc_some, sw_xc_void, if_true, if_false, reduceIte, bI_0, bI_01, bI_1, nt_or, Nat.reduceAdd, n_add, n_mul, n_addL, n_Ladd, n_mulL, n_Lmul, n_sub, n_subL, n_lt, n_eq, n_ltL, n_Llt, n_eqL, n_Leq, n_nneg, n_pos]
    · refine ⟨d6, d7, ?_⟩
      have et : to1 p q k (l, S.1 3) = (l, S.1 3) := by
        unfold to1
        rw [if_neg (fun g => h1 g.2.1)]
      rw [et, mm_pI_id]
      by_cases g1 : S.1 3 13 k = 0
      · by_cases g2 : S.1 3 9 k = p
        · have g3 : ¬ S.1 3 10 k = q := fun e => h1 ⟨g1, g2, e⟩
          simp (disch := first | omega | exact hB _ _ | assumption | decide) only [st_MD_takesOff, rs_L, hk, md_isOpen E _ hB hk24, md_of0 E _ hk24, md_of1 E _ hk24, hl, g1, g2, g3, mr_md E _, mm_pI_at, mm_pI_pI, mm_pI_2, mm_pL_1, mm_pL_at, mm_pL_pL, mm_pL_3, mm_pM_1, mm_pM_2, mm_pM_at, mm_pM_pM, mm_pI_pL, mm_pI_pM, mm_pL_pM, Bool.false_eq_true, n_10, true_and, and_true, false_and, and_false, Nat.not_lt_zero, true_or, or_true, eq_self, mm_z, mm_rs, sw_xc_ite, sw_xv_ite, n_m1, Nat.lt_irrefl, not_false_eq_true, not_true_eq_false, inS_0, inS_1, ite_not, sw_xv_some, sw_xm_some, sw_xc_some, sw_xc_void, if_true, if_false, reduceIte, bI_0, bI_01, bI_1, nt_or, Nat.reduceAdd, n_add, n_mul, n_addL, n_Ladd, n_mulL, n_Lmul, n_sub, n_subL, n_lt, n_eq, n_ltL, n_Llt, n_eqL, n_Leq, n_nneg, n_pos]
        · simp (disch := first | omega | exact hB _ _ | assumption | decide) only [st_MD_takesOff, rs_L, hk, md_isOpen E _ hB hk24, md_of0 E _ hk24, hl, g1, g2, mr_md E _, mm_pI_at, mm_pI_pI, mm_pI_2, mm_pL_1, mm_pL_at, mm_pL_pL, mm_pL_3, mm_pM_1, mm_pM_2, mm_pM_at, mm_pM_pM, mm_pI_pL, mm_pI_pM, mm_pL_pM, Bool.false_eq_true, n_10, true_and, and_true, false_and, and_false, Nat.not_lt_zero, true_or, or_true, eq_self, mm_z, mm_rs, sw_xc_ite, sw_xv_ite, n_m1, Nat.lt_irrefl, not_false_eq_true, not_true_eq_false, inS_0, inS_1, ite_not, sw_xv_some, sw_xm_some, sw_xc_some, sw_xc_void, if_true, if_false, reduceIte, bI_0, bI_01, bI_1, nt_or, Nat.reduceAdd, n_add, n_mul, n_addL, n_Ladd, n_mulL, n_Lmul, n_sub, n_subL, n_lt, n_eq, n_ltL, n_Llt, n_eqL, n_Leq, n_nneg, n_pos]
      · simp (disch := first | omega | exact hB _ _ | assumption | decide) only [st_MD_takesOff, rs_L, hk, md_isOpen E _ hB hk24, hl, g1, mr_md E _, mm_pI_at, mm_pI_pI, mm_pI_2, mm_pL_1, mm_pL_at, mm_pL_pL, mm_pL_3, mm_pM_1, mm_pM_2, mm_pM_at, mm_pM_pM, mm_pI_pL, mm_pI_pM, mm_pL_pM, Bool.false_eq_true, n_10, true_and, and_true, false_and, and_false, Nat.not_lt_zero, true_or, or_true, eq_self, mm_z, mm_rs, sw_xc_ite, sw_xv_ite, n_m1, Nat.lt_irrefl, not_false_eq_true, not_true_eq_false, inS_0, inS_1, ite_not, sw_xv_some, sw_xm_some, sw_xc_some, sw_xc_void, if_true, if_false, reduceIte, bI_0, bI_01, bI_1, nt_or, Nat.reduceAdd, n_add, n_mul, n_addL, n_Ladd, n_mulL, n_Lmul, n_sub, n_subL, n_lt, n_eq, n_ltL, n_Llt, n_eqL, n_Leq, n_nneg, n_pos]
  · refine ⟨d6, d7, ?_⟩
    have et : to1 p q k (l, S.1 3) = (l, S.1 3) := by
      unfold to1
      rw [if_neg (fun g => hl g.1)]
    rw [et, mm_pI_id]
    simp (disch := first | omega | exact hB _ _ | assumption | decide) only [st_MD_takesOff, rs_L, hk, hl, mr_md E _, mm_pI_at, mm_pI_pI, mm_pI_2, mm_pL_1, mm_pL_at, mm_pL_pL, mm_pL_3, mm_pM_1, mm_pM_2, mm_pM_at, mm_pM_pM, mm_pI_pL, mm_pI_pM, mm_pL_pM, Bool.false_eq_true, n_10, true_and, and_true, false_and, and_false, Nat.not_lt_zero, true_or, or_true, eq_self, mm_z, mm_rs, sw_xc_ite, sw_xv_ite, n_m1, Nat.lt_irrefl, not_false_eq_true, not_true_eq_false, inS_0, inS_1, ite_not, sw_xv_some, sw_xm_some, sw_xc_some, sw_xc_void, if_true, if_false, reduceIte, bI_0, bI_01, bI_1, nt_or, Nat.reduceAdd, n_add, n_mul, n_addL, n_Ladd, n_mulL, n_Lmul, n_sub, n_subL, n_lt, n_eq, n_ltL, n_Llt, n_eqL, n_Leq, n_nneg, n_pos]
set_option maxRecDepth 100000 in
set_option maxHeartbeats 4000000 in
theorem md_takesOff (hI : IT (S.1 3)) {p q l : Nat} (hp : p < 2147483648) (hq : q < 2147483648) (hl2 : l < 2147483648) : f_MD_takesOff E (.ref 71) (.int (nI p)) (.int (nI q)) (.int (nI l)) (mk S) = some (none, mk (mm_pI S 3 (tw_to (S.1 3) p q l))) := by
  have hk2 := hI.k
  have key := lp_upD (δ := Value × Value) (G := fun i d a => h_MD_takesOff_0 E [.ref 71, .int (nI p), .int (nI q), .int (nI l), .int (nI a.1), .int (nI i), d.1, d.2] (mk (mm_pI S 3 a.2))) (P := fun _ a => IT a.2 ∧ a.2 0 = S.1 3 0 ∧ a.1 < 2147483648) (f := to1 p q) (fin := fun a => some (none, mk (mm_pI S 3 a.2))) (n := S.1 3 0 2) (a0 := (l, S.1 3)) ⟨hI, rfl, hl2⟩ (fun i d a hi hP => ?_) (fun d a hP => ?_) (sw_J, sw_J)
  · simp only [e_MD_takesOff, st_MD_takesOff]
    simp only [mm_pI_id] at key
    exact key
  · obtain ⟨h1, h2, h3⟩ := hP
    obtain ⟨g1, g2, g3⟩ := to1_IT (p := p) (q := q) (k := i) h1 (by rw [h2]; exact hi)
    refine ⟨?_, g1, g2.trans h2, Nat.lt_of_le_of_lt g3 h3⟩
    have := md_takesOff1 E (mm_pI S 3 a.2) (by rw [mm_pI_at]; exact h1) (k := i) (l := a.1) (a3 := .int (nI l)) d.1 d.2 hp hq h3 (by rw [mm_pI_at, h2]; exact hi)
    rw [mm_pI_at, mm_pI_pI] at this
    obtain ⟨d6, d7, e⟩ := this
    exact ⟨(d6, d7), e⟩
  · obtain ⟨h1, h2, h3⟩ := hP
    have hB := h1.b
    rw [u_MD_takesOff_0]
    simp (disch := first | omega | exact hB _ _ | assumption | decide) only [st_MD_takesOff, rs_L, h2, mr_md E _, mm_pI_at, mm_pI_pI, mm_pI_2, mm_pL_1, mm_pL_at, mm_pL_pL, mm_pL_3, mm_pM_1, mm_pM_2, mm_pM_at, mm_pM_pM, mm_pI_pL, mm_pI_pM, mm_pL_pM, Bool.false_eq_true, n_10, true_and, and_true, false_and, and_false, Nat.not_lt_zero, true_or, or_true, eq_self, mm_z, mm_rs, sw_xc_ite, sw_xv_ite, n_m1, Nat.lt_irrefl, not_false_eq_true, not_true_eq_false, inS_0, inS_1, ite_not, sw_xv_some, sw_xm_some, sw_xc_some, sw_xc_void, if_true, if_false, reduceIte, bI_0, bI_01, bI_1, nt_or, Nat.reduceAdd, n_add, n_mul, n_addL, n_Ladd, n_mulL, n_Lmul, n_sub, n_subL, n_lt, n_eq, n_ltL, n_Llt, n_eqL, n_Leq, n_nneg, n_pos]
end MDC
