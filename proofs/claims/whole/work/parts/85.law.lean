/-! ===== the law: call by call ===== -/
section LW
variable (E : sw_E) (S : sw_S)
theorem lw_0 : sw_isC E (mkL S) 0 7 = true := (mr_cl E S).1
theorem lw_71 : sw_isC E (mkL S) 71 8 = true := (mr_md E S).1
theorem lw_at {j : Nat} (hj : j < E.1) (hE1 : E.1 < 2147483648) : sw_aI E (mkL S) 1000 (nI j) = some (.int (E.2.1 j)) := by
  have h1 : (nI j).toNatClampNeg = j := nI_clamp (by omega)
  have h2 : ¬ nI j < 0 := nI_pos (by omega)
  unfold sw_aI sw_rd
  rw [if_neg (show ¬ 1000 < (mkL S).2.2.1 from by show ¬ 1000 < 86; decide)]
  unfold sw_fr
  rw [if_pos rfl]
  simp only [h1]
  rw [if_neg (fun q => q.elim h2 (fun b => by omega))]
theorem lw_ln : sw_ln E (mkL S) 1000 = some (.int (nI E.1)) := rfl
theorem lg_same (x : Int64) : lg_cmp x x = 0 := by
  unfold lg_cmp
  simp
end LW
section LC
variable (E : sw_E) {S : sw_S}
set_option maxRecDepth 100000 in
set_option maxHeartbeats 4000000 in
theorem lc_0 (hI : Inv S) (hE1 : E.1 < 2147483648) {i : Nat} (hi : i + 6 ≤ E.1) : ∃ S', Inv S' ∧ sw_ex E 229 208 [.ref 1000, .ref 0, .ref 71, .int (nI i)] [] (mkL S) = sw_ex E 229 1391 [.ref 1000, .ref 0, .ref 71, .int (nI i)] [] (mkL S') := by
  obtain ⟨v, S1, S2, h1, h2, hI2⟩ := p_person E  hI (E.2.1 (i + 1))
  refine ⟨S2, hI2, ?_⟩
  have a1 : ∀ S : sw_S, sw_aI E (mkL S) 1000 (nI (i + 1)) = some (.int (E.2.1 (i + 1))) := fun S => lw_at E S (by omega) hE1
  simp only [st_law_c0, n_addL, mm_zL, mm_rsL, lw_0, lw_71, a1, sw_xv_some, sw_xc_some, h1, h2, lg_same, eq_self, if_true, reduceIte]
set_option maxRecDepth 100000 in
set_option maxHeartbeats 4000000 in
theorem lc_1 (hI : Inv S) (hE1 : E.1 < 2147483648) {i : Nat} (hi : i + 6 ≤ E.1) : ∃ S', Inv S' ∧ sw_ex E 229 231 [.ref 1000, .ref 0, .ref 71, .int (nI i)] [] (mkL S) = sw_ex E 229 1391 [.ref 1000, .ref 0, .ref 71, .int (nI i)] [] (mkL S') := by
  obtain ⟨v, S1, S2, h1, h2, hI2⟩ := p_thing E  hI (E.2.1 (i + 1)) (E.2.1 (i + 2)) (E.2.1 (i + 3))
  refine ⟨S2, hI2, ?_⟩
  have a1 : ∀ S : sw_S, sw_aI E (mkL S) 1000 (nI (i + 1)) = some (.int (E.2.1 (i + 1))) := fun S => lw_at E S (by omega) hE1
  have a2 : ∀ S : sw_S, sw_aI E (mkL S) 1000 (nI (i + 2)) = some (.int (E.2.1 (i + 2))) := fun S => lw_at E S (by omega) hE1
  have a3 : ∀ S : sw_S, sw_aI E (mkL S) 1000 (nI (i + 3)) = some (.int (E.2.1 (i + 3))) := fun S => lw_at E S (by omega) hE1
  simp only [st_law_c1, n_addL, mm_zL, mm_rsL, lw_0, lw_71, a1, a2, a3, sw_xv_some, sw_xc_some, h1, h2, lg_same, eq_self, if_true, reduceIte]
set_option maxRecDepth 100000 in
set_option maxHeartbeats 4000000 in
theorem lc_2 (hI : Inv S) (hE1 : E.1 < 2147483648) {i : Nat} (hi : i + 6 ≤ E.1) : ∃ S', Inv S' ∧ sw_ex E 229 274 [.ref 1000, .ref 0, .ref 71, .int (nI i)] [] (mkL S) = sw_ex E 229 1391 [.ref 1000, .ref 0, .ref 71, .int (nI i)] [] (mkL S') := by
  obtain ⟨v, S1, S2, h1, h2, hI2⟩ := p_personOf E  hI (E.2.1 (i + 1)) (E.2.1 (i + 2))
  refine ⟨S2, hI2, ?_⟩
  have a1 : ∀ S : sw_S, sw_aI E (mkL S) 1000 (nI (i + 1)) = some (.int (E.2.1 (i + 1))) := fun S => lw_at E S (by omega) hE1
  have a2 : ∀ S : sw_S, sw_aI E (mkL S) 1000 (nI (i + 2)) = some (.int (E.2.1 (i + 2))) := fun S => lw_at E S (by omega) hE1
  simp only [st_law_c2, n_addL, mm_zL, mm_rsL, lw_0, lw_71, a1, a2, sw_xv_some, sw_xc_some, h1, h2, lg_same, eq_self, if_true, reduceIte]
set_option maxRecDepth 100000 in
set_option maxHeartbeats 4000000 in
theorem lc_3 (hI : Inv S) (hE1 : E.1 < 2147483648) {i : Nat} (hi : i + 6 ≤ E.1) : ∃ S', Inv S' ∧ sw_ex E 229 308 [.ref 1000, .ref 0, .ref 71, .int (nI i)] [] (mkL S) = sw_ex E 229 1391 [.ref 1000, .ref 0, .ref 71, .int (nI i)] [] (mkL S') := by
  obtain ⟨v, S1, S2, h1, h2, hI2⟩ := p_thingOf E  hI (E.2.1 (i + 1)) (E.2.1 (i + 2))
  refine ⟨S2, hI2, ?_⟩
  have a1 : ∀ S : sw_S, sw_aI E (mkL S) 1000 (nI (i + 1)) = some (.int (E.2.1 (i + 1))) := fun S => lw_at E S (by omega) hE1
  have a2 : ∀ S : sw_S, sw_aI E (mkL S) 1000 (nI (i + 2)) = some (.int (E.2.1 (i + 2))) := fun S => lw_at E S (by omega) hE1
  simp only [st_law_c3, n_addL, mm_zL, mm_rsL, lw_0, lw_71, a1, a2, sw_xv_some, sw_xc_some, h1, h2, lg_same, eq_self, if_true, reduceIte]
set_option maxRecDepth 100000 in
set_option maxHeartbeats 4000000 in
theorem lc_4 (hI : Inv S) (hE1 : E.1 < 2147483648) {i : Nat} (hi : i + 6 ≤ E.1) : ∃ S', Inv S' ∧ sw_ex E 229 341 [.ref 1000, .ref 0, .ref 71, .int (nI i)] [] (mkL S) = sw_ex E 229 1391 [.ref 1000, .ref 0, .ref 71, .int (nI i)] [] (mkL S') := by
  obtain ⟨v, S1, S2, h1, h2, hI2⟩ := p_chain E  hI (E.2.1 (i + 1)) (E.2.1 (i + 2))
  refine ⟨S2, hI2, ?_⟩
  have a1 : ∀ S : sw_S, sw_aI E (mkL S) 1000 (nI (i + 1)) = some (.int (E.2.1 (i + 1))) := fun S => lw_at E S (by omega) hE1
  have a2 : ∀ S : sw_S, sw_aI E (mkL S) 1000 (nI (i + 2)) = some (.int (E.2.1 (i + 2))) := fun S => lw_at E S (by omega) hE1
  simp only [st_law_c4, n_addL, mm_zL, mm_rsL, lw_0, lw_71, a1, a2, sw_xv_some, sw_xc_some, h1, h2, lg_same, eq_self, if_true, reduceIte]
set_option maxRecDepth 100000 in
set_option maxHeartbeats 4000000 in
theorem lc_5 (hI : Inv S) (hE1 : E.1 < 2147483648) {i : Nat} (hi : i + 6 ≤ E.1) : ∃ S', Inv S' ∧ sw_ex E 229 374 [.ref 1000, .ref 0, .ref 71, .int (nI i)] [] (mkL S) = sw_ex E 229 1391 [.ref 1000, .ref 0, .ref 71, .int (nI i)] [] (mkL S') := by
  obtain ⟨v, S1, S2, h1, h2, hI2⟩ := p_counts E  hI (E.2.1 (i + 1)) (E.2.1 (i + 2))
  refine ⟨S2, hI2, ?_⟩
  have a1 : ∀ S : sw_S, sw_aI E (mkL S) 1000 (nI (i + 1)) = some (.int (E.2.1 (i + 1))) := fun S => lw_at E S (by omega) hE1
  have a2 : ∀ S : sw_S, sw_aI E (mkL S) 1000 (nI (i + 2)) = some (.int (E.2.1 (i + 2))) := fun S => lw_at E S (by omega) hE1
  simp only [st_law_c5, n_addL, mm_zL, mm_rsL, lw_0, lw_71, a1, a2, sw_xv_some, sw_xc_some, h1, h2, lg_same, eq_self, if_true, reduceIte]
set_option maxRecDepth 100000 in
set_option maxHeartbeats 4000000 in
theorem lc_6 (hI : Inv S) (hE1 : E.1 < 2147483648) {i : Nat} (hi : i + 6 ≤ E.1) : ∃ S', Inv S' ∧ sw_ex E 229 407 [.ref 1000, .ref 0, .ref 71, .int (nI i)] [] (mkL S) = sw_ex E 229 1391 [.ref 1000, .ref 0, .ref 71, .int (nI i)] [] (mkL S') := by
  obtain ⟨v, S1, S2, h1, h2, hI2⟩ := p_as E  hI (E.2.1 (i + 1)) (E.2.1 (i + 2))
  refine ⟨S2, hI2, ?_⟩
  have a1 : ∀ S : sw_S, sw_aI E (mkL S) 1000 (nI (i + 1)) = some (.int (E.2.1 (i + 1))) := fun S => lw_at E S (by omega) hE1
  have a2 : ∀ S : sw_S, sw_aI E (mkL S) 1000 (nI (i + 2)) = some (.int (E.2.1 (i + 2))) := fun S => lw_at E S (by omega) hE1
  simp only [st_law_c6, n_addL, mm_zL, mm_rsL, lw_0, lw_71, a1, a2, sw_xv_some, sw_xc_some, h1, h2, lg_same, eq_self, if_true, reduceIte]
set_option maxRecDepth 100000 in
set_option maxHeartbeats 4000000 in
theorem lc_7 (hI : Inv S) (hE1 : E.1 < 2147483648) {i : Nat} (hi : i + 6 ≤ E.1) : ∃ S', Inv S' ∧ sw_ex E 229 440 [.ref 1000, .ref 0, .ref 71, .int (nI i)] [] (mkL S) = sw_ex E 229 1391 [.ref 1000, .ref 0, .ref 71, .int (nI i)] [] (mkL S') := by
  obtain ⟨v, S1, S2, h1, h2, hI2⟩ := p_rule E  hI (E.2.1 (i + 1)) (E.2.1 (i + 2))
  refine ⟨S2, hI2, ?_⟩
  have a1 : ∀ S : sw_S, sw_aI E (mkL S) 1000 (nI (i + 1)) = some (.int (E.2.1 (i + 1))) := fun S => lw_at E S (by omega) hE1
  have a2 : ∀ S : sw_S, sw_aI E (mkL S) 1000 (nI (i + 2)) = some (.int (E.2.1 (i + 2))) := fun S => lw_at E S (by omega) hE1
  simp only [st_law_c7, n_addL, mm_zL, mm_rsL, lw_0, lw_71, a1, a2, sw_xv_some, sw_xc_some, h1, h2, lg_same, eq_self, if_true, reduceIte]
set_option maxRecDepth 100000 in
set_option maxHeartbeats 4000000 in
theorem lc_8 (hI : Inv S) (hE1 : E.1 < 2147483648) {i : Nat} (hi : i + 6 ≤ E.1) : ∃ S', Inv S' ∧ sw_ex E 229 473 [.ref 1000, .ref 0, .ref 71, .int (nI i)] [] (mkL S) = sw_ex E 229 1391 [.ref 1000, .ref 0, .ref 71, .int (nI i)] [] (mkL S') := by
  obtain ⟨v, S1, S2, h1, h2, hI2⟩ := p_base E  hI (E.2.1 (i + 1)) (E.2.1 (i + 2))
  refine ⟨S2, hI2, ?_⟩
  have a1 : ∀ S : sw_S, sw_aI E (mkL S) 1000 (nI (i + 1)) = some (.int (E.2.1 (i + 1))) := fun S => lw_at E S (by omega) hE1
  have a2 : ∀ S : sw_S, sw_aI E (mkL S) 1000 (nI (i + 2)) = some (.int (E.2.1 (i + 2))) := fun S => lw_at E S (by omega) hE1
  simp only [st_law_c8, n_addL, mm_zL, mm_rsL, lw_0, lw_71, a1, a2, sw_xv_some, sw_xc_some, h1, h2, lg_same, eq_self, if_true, reduceIte]
set_option maxRecDepth 100000 in
set_option maxHeartbeats 4000000 in
theorem lc_9 (hI : Inv S) (hE1 : E.1 < 2147483648) {i : Nat} (hi : i + 6 ≤ E.1) : ∃ S', Inv S' ∧ sw_ex E 229 506 [.ref 1000, .ref 0, .ref 71, .int (nI i)] [] (mkL S) = sw_ex E 229 1391 [.ref 1000, .ref 0, .ref 71, .int (nI i)] [] (mkL S') := by
  obtain ⟨v, S1, S2, h1, h2, hI2⟩ := p_steal E  hI (E.2.1 (i + 1))
  refine ⟨S2, hI2, ?_⟩
  have a1 : ∀ S : sw_S, sw_aI E (mkL S) 1000 (nI (i + 1)) = some (.int (E.2.1 (i + 1))) := fun S => lw_at E S (by omega) hE1
  simp only [st_law_c9, n_addL, mm_zL, mm_rsL, lw_0, lw_71, a1, sw_xv_some, sw_xc_some, h1, h2, lg_same, eq_self, if_true, reduceIte]
set_option maxRecDepth 100000 in
set_option maxHeartbeats 4000000 in
theorem lc_10 (hI : Inv S) (hE1 : E.1 < 2147483648) {i : Nat} (hi : i + 6 ≤ E.1) : ∃ S', Inv S' ∧ sw_ex E 229 529 [.ref 1000, .ref 0, .ref 71, .int (nI i)] [] (mkL S) = sw_ex E 229 1391 [.ref 1000, .ref 0, .ref 71, .int (nI i)] [] (mkL S') := by
  obtain ⟨v, S1, S2, h1, h2, hI2⟩ := p_promise E  hI (E.2.1 (i + 1)) (E.2.1 (i + 2)) (E.2.1 (i + 3)) (E.2.1 (i + 4)) (E.2.1 (i + 5))
  refine ⟨S2, hI2, ?_⟩
  have a1 : ∀ S : sw_S, sw_aI E (mkL S) 1000 (nI (i + 1)) = some (.int (E.2.1 (i + 1))) := fun S => lw_at E S (by omega) hE1
  have a2 : ∀ S : sw_S, sw_aI E (mkL S) 1000 (nI (i + 2)) = some (.int (E.2.1 (i + 2))) := fun S => lw_at E S (by omega) hE1
  have a3 : ∀ S : sw_S, sw_aI E (mkL S) 1000 (nI (i + 3)) = some (.int (E.2.1 (i + 3))) := fun S => lw_at E S (by omega) hE1
  have a4 : ∀ S : sw_S, sw_aI E (mkL S) 1000 (nI (i + 4)) = some (.int (E.2.1 (i + 4))) := fun S => lw_at E S (by omega) hE1
  have a5 : ∀ S : sw_S, sw_aI E (mkL S) 1000 (nI (i + 5)) = some (.int (E.2.1 (i + 5))) := fun S => lw_at E S (by omega) hE1
  simp only [st_law_c10, n_addL, mm_zL, mm_rsL, lw_0, lw_71, a1, a2, a3, a4, a5, sw_xv_some, sw_xc_some, h1, h2, lg_same, eq_self, if_true, reduceIte]
set_option maxRecDepth 100000 in
set_option maxHeartbeats 4000000 in
theorem lc_11 (hI : Inv S) (hE1 : E.1 < 2147483648) {i : Nat} (hi : i + 6 ≤ E.1) : ∃ S', Inv S' ∧ sw_ex E 229 592 [.ref 1000, .ref 0, .ref 71, .int (nI i)] [] (mkL S) = sw_ex E 229 1391 [.ref 1000, .ref 0, .ref 71, .int (nI i)] [] (mkL S') := by
  obtain ⟨v, S1, S2, h1, h2, hI2⟩ := p_promiseOf E  hI (E.2.1 (i + 1)) (E.2.1 (i + 2))
  refine ⟨S2, hI2, ?_⟩
  have a1 : ∀ S : sw_S, sw_aI E (mkL S) 1000 (nI (i + 1)) = some (.int (E.2.1 (i + 1))) := fun S => lw_at E S (by omega) hE1
  have a2 : ∀ S : sw_S, sw_aI E (mkL S) 1000 (nI (i + 2)) = some (.int (E.2.1 (i + 2))) := fun S => lw_at E S (by omega) hE1
  simp only [st_law_c11, n_addL, mm_zL, mm_rsL, lw_0, lw_71, a1, a2, sw_xv_some, sw_xc_some, h1, h2, lg_same, eq_self, if_true, reduceIte]
set_option maxRecDepth 100000 in
set_option maxHeartbeats 4000000 in
theorem lc_12 (hI : Inv S) (hE1 : E.1 < 2147483648) {i : Nat} (hi : i + 6 ≤ E.1) : ∃ S', Inv S' ∧ sw_ex E 229 625 [.ref 1000, .ref 0, .ref 71, .int (nI i)] [] (mkL S) = sw_ex E 229 1391 [.ref 1000, .ref 0, .ref 71, .int (nI i)] [] (mkL S') := by
  obtain ⟨v, S1, S2, h1, h2, hI2⟩ := p_keep E  hI (E.2.1 (i + 1))
  refine ⟨S2, hI2, ?_⟩
  have a1 : ∀ S : sw_S, sw_aI E (mkL S) 1000 (nI (i + 1)) = some (.int (E.2.1 (i + 1))) := fun S => lw_at E S (by omega) hE1
  simp only [st_law_c12, n_addL, mm_zL, mm_rsL, lw_0, lw_71, a1, sw_xv_some, sw_xc_some, h1, h2, lg_same, eq_self, if_true, reduceIte]
set_option maxRecDepth 100000 in
set_option maxHeartbeats 4000000 in
theorem lc_13 (hI : Inv S) (hE1 : E.1 < 2147483648) {i : Nat} (hi : i + 6 ≤ E.1) : ∃ S', Inv S' ∧ sw_ex E 229 648 [.ref 1000, .ref 0, .ref 71, .int (nI i)] [] (mkL S) = sw_ex E 229 1391 [.ref 1000, .ref 0, .ref 71, .int (nI i)] [] (mkL S') := by
  obtain ⟨v, S1, S2, h1, h2, hI2⟩ := p_breaks E  hI (E.2.1 (i + 1))
  refine ⟨S2, hI2, ?_⟩
  have a1 : ∀ S : sw_S, sw_aI E (mkL S) 1000 (nI (i + 1)) = some (.int (E.2.1 (i + 1))) := fun S => lw_at E S (by omega) hE1
  simp only [st_law_c13, n_addL, mm_zL, mm_rsL, lw_0, lw_71, a1, sw_xv_some, sw_xc_some, h1, h2, lg_same, eq_self, if_true, reduceIte]
set_option maxRecDepth 100000 in
set_option maxHeartbeats 4000000 in
theorem lc_14 (hI : Inv S) (hE1 : E.1 < 2147483648) {i : Nat} (hi : i + 6 ≤ E.1) : ∃ S', Inv S' ∧ sw_ex E 229 671 [.ref 1000, .ref 0, .ref 71, .int (nI i)] [] (mkL S) = sw_ex E 229 1391 [.ref 1000, .ref 0, .ref 71, .int (nI i)] [] (mkL S') := by
  obtain ⟨v, S1, S2, h1, h2, hI2⟩ := p_days E  hI (E.2.1 (i + 1))
  refine ⟨S2, hI2, ?_⟩
  have a1 : ∀ S : sw_S, sw_aI E (mkL S) 1000 (nI (i + 1)) = some (.int (E.2.1 (i + 1))) := fun S => lw_at E S (by omega) hE1
  simp only [st_law_c14, n_addL, mm_zL, mm_rsL, lw_0, lw_71, a1, sw_xv_some, sw_xc_some, h1, h2, lg_same, eq_self, if_true, reduceIte]
set_option maxRecDepth 100000 in
set_option maxHeartbeats 4000000 in
theorem lc_15 (hI : Inv S) (hE1 : E.1 < 2147483648) {i : Nat} (hi : i + 6 ≤ E.1) : ∃ S', Inv S' ∧ sw_ex E 229 694 [.ref 1000, .ref 0, .ref 71, .int (nI i)] [] (mkL S) = sw_ex E 229 1391 [.ref 1000, .ref 0, .ref 71, .int (nI i)] [] (mkL S') := by
  obtain ⟨v, S1, S2, h1, h2, hI2⟩ := p_can E  hI 
  refine ⟨S2, hI2, ?_⟩
  simp only [st_law_c15, n_addL, mm_zL, mm_rsL, lw_0, lw_71, sw_xv_some, sw_xc_some, h1, h2, lg_same, eq_self, if_true, reduceIte]
set_option maxRecDepth 100000 in
set_option maxHeartbeats 4000000 in
theorem lc_16 (hI : Inv S) (hE1 : E.1 < 2147483648) {i : Nat} (hi : i + 6 ≤ E.1) : ∃ S', Inv S' ∧ sw_ex E 229 707 [.ref 1000, .ref 0, .ref 71, .int (nI i)] [] (mkL S) = sw_ex E 229 1391 [.ref 1000, .ref 0, .ref 71, .int (nI i)] [] (mkL S') := by
  obtain ⟨v, S1, S2, h1, h2, hI2⟩ := p_owed E  hI (E.2.1 (i + 1)) (E.2.1 (i + 2))
  refine ⟨S2, hI2, ?_⟩
  have a1 : ∀ S : sw_S, sw_aI E (mkL S) 1000 (nI (i + 1)) = some (.int (E.2.1 (i + 1))) := fun S => lw_at E S (by omega) hE1
  have a2 : ∀ S : sw_S, sw_aI E (mkL S) 1000 (nI (i + 2)) = some (.int (E.2.1 (i + 2))) := fun S => lw_at E S (by omega) hE1
  simp only [st_law_c16, n_addL, mm_zL, mm_rsL, lw_0, lw_71, a1, a2, sw_xv_some, sw_xc_some, h1, h2, lg_same, eq_self, if_true, reduceIte]
set_option maxRecDepth 100000 in
set_option maxHeartbeats 4000000 in
theorem lc_17 (hI : Inv S) (hE1 : E.1 < 2147483648) {i : Nat} (hi : i + 6 ≤ E.1) : ∃ S', Inv S' ∧ sw_ex E 229 740 [.ref 1000, .ref 0, .ref 71, .int (nI i)] [] (mkL S) = sw_ex E 229 1391 [.ref 1000, .ref 0, .ref 71, .int (nI i)] [] (mkL S') := by
  obtain ⟨v, S1, S2, h1, h2, hI2⟩ := p_ring E  hI (E.2.1 (i + 1)) (E.2.1 (i + 2))
  refine ⟨S2, hI2, ?_⟩
  have a1 : ∀ S : sw_S, sw_aI E (mkL S) 1000 (nI (i + 1)) = some (.int (E.2.1 (i + 1))) := fun S => lw_at E S (by omega) hE1
  have a2 : ∀ S : sw_S, sw_aI E (mkL S) 1000 (nI (i + 2)) = some (.int (E.2.1 (i + 2))) := fun S => lw_at E S (by omega) hE1
  simp only [st_law_c17, n_addL, mm_zL, mm_rsL, lw_0, lw_71, a1, a2, sw_xv_some, sw_xc_some, h1, h2, lg_same, eq_self, if_true, reduceIte]
set_option maxRecDepth 100000 in
set_option maxHeartbeats 4000000 in
theorem lc_18 (hI : Inv S) (hE1 : E.1 < 2147483648) {i : Nat} (hi : i + 6 ≤ E.1) : ∃ S', Inv S' ∧ sw_ex E 229 773 [.ref 1000, .ref 0, .ref 71, .int (nI i)] [] (mkL S) = sw_ex E 229 1391 [.ref 1000, .ref 0, .ref 71, .int (nI i)] [] (mkL S') := by
  obtain ⟨v, S1, S2, h1, h2, hI2⟩ := p_cancel E  hI (E.2.1 (i + 1))
  refine ⟨S2, hI2, ?_⟩
  have a1 : ∀ S : sw_S, sw_aI E (mkL S) 1000 (nI (i + 1)) = some (.int (E.2.1 (i + 1))) := fun S => lw_at E S (by omega) hE1
  simp only [st_law_c18, n_addL, mm_zL, mm_rsL, lw_0, lw_71, a1, sw_xv_some, sw_xc_some, h1, h2, lg_same, eq_self, if_true, reduceIte]
set_option maxRecDepth 100000 in
set_option maxHeartbeats 4000000 in
theorem lc_19 (hI : Inv S) (hE1 : E.1 < 2147483648) {i : Nat} (hi : i + 6 ≤ E.1) : ∃ S', Inv S' ∧ sw_ex E 229 796 [.ref 1000, .ref 0, .ref 71, .int (nI i)] [] (mkL S) = sw_ex E 229 1391 [.ref 1000, .ref 0, .ref 71, .int (nI i)] [] (mkL S') := by
  obtain ⟨v, S1, S2, h1, h2, hI2⟩ := p_fewest E  hI (E.2.1 (i + 1)) (E.2.1 (i + 2)) (E.2.1 (i + 3))
  refine ⟨S2, hI2, ?_⟩
  have a1 : ∀ S : sw_S, sw_aI E (mkL S) 1000 (nI (i + 1)) = some (.int (E.2.1 (i + 1))) := fun S => lw_at E S (by omega) hE1
  have a2 : ∀ S : sw_S, sw_aI E (mkL S) 1000 (nI (i + 2)) = some (.int (E.2.1 (i + 2))) := fun S => lw_at E S (by omega) hE1
  have a3 : ∀ S : sw_S, sw_aI E (mkL S) 1000 (nI (i + 3)) = some (.int (E.2.1 (i + 3))) := fun S => lw_at E S (by omega) hE1
  simp only [st_law_c19, n_addL, mm_zL, mm_rsL, lw_0, lw_71, a1, a2, a3, sw_xv_some, sw_xc_some, h1, h2, lg_same, eq_self, if_true, reduceIte]
set_option maxRecDepth 100000 in
set_option maxHeartbeats 4000000 in
theorem lc_20 (hI : Inv S) (hE1 : E.1 < 2147483648) {i : Nat} (hi : i + 6 ≤ E.1) : ∃ S', Inv S' ∧ sw_ex E 229 839 [.ref 1000, .ref 0, .ref 71, .int (nI i)] [] (mkL S) = sw_ex E 229 1391 [.ref 1000, .ref 0, .ref 71, .int (nI i)] [] (mkL S') := by
  obtain ⟨v, S1, S2, h1, h2, hI2⟩ := p_most E  hI (E.2.1 (i + 1)) (E.2.1 (i + 2))
  refine ⟨S2, hI2, ?_⟩
  have a1 : ∀ S : sw_S, sw_aI E (mkL S) 1000 (nI (i + 1)) = some (.int (E.2.1 (i + 1))) := fun S => lw_at E S (by omega) hE1
  have a2 : ∀ S : sw_S, sw_aI E (mkL S) 1000 (nI (i + 2)) = some (.int (E.2.1 (i + 2))) := fun S => lw_at E S (by omega) hE1
  simp only [st_law_c20, n_addL, mm_zL, mm_rsL, lw_0, lw_71, a1, a2, sw_xv_some, sw_xc_some, h1, h2, lg_same, eq_self, if_true, reduceIte]
set_option maxRecDepth 100000 in
set_option maxHeartbeats 4000000 in
theorem lc_21 (hI : Inv S) (hE1 : E.1 < 2147483648) {i : Nat} (hi : i + 6 ≤ E.1) : ∃ S', Inv S' ∧ sw_ex E 229 872 [.ref 1000, .ref 0, .ref 71, .int (nI i)] [] (mkL S) = sw_ex E 229 1391 [.ref 1000, .ref 0, .ref 71, .int (nI i)] [] (mkL S') := by
  obtain ⟨v, S1, S2, h1, h2, hI2⟩ := p_look E  hI (E.2.1 (i + 1)) (E.2.1 (i + 2))
  refine ⟨S2, hI2, ?_⟩
  have a1 : ∀ S : sw_S, sw_aI E (mkL S) 1000 (nI (i + 1)) = some (.int (E.2.1 (i + 1))) := fun S => lw_at E S (by omega) hE1
  have a2 : ∀ S : sw_S, sw_aI E (mkL S) 1000 (nI (i + 2)) = some (.int (E.2.1 (i + 2))) := fun S => lw_at E S (by omega) hE1
  simp only [st_law_c21, n_addL, mm_zL, mm_rsL, lw_0, lw_71, a1, a2, sw_xv_some, sw_xc_some, h1, h2, lg_same, eq_self, if_true, reduceIte]
set_option maxRecDepth 100000 in
set_option maxHeartbeats 4000000 in
theorem lc_22 (hI : Inv S) (hE1 : E.1 < 2147483648) {i : Nat} (hi : i + 6 ≤ E.1) : ∃ S', Inv S' ∧ sw_ex E 229 906 [.ref 1000, .ref 0, .ref 71, .int (nI i)] [] (mkL S) = sw_ex E 229 1391 [.ref 1000, .ref 0, .ref 71, .int (nI i)] [] (mkL S') := by
  obtain ⟨v, S1, S2, h1, h2, hI2⟩ := p_worst E  hI 
  refine ⟨S2, hI2, ?_⟩
  simp only [st_law_c22, n_addL, mm_zL, mm_rsL, lw_0, lw_71, sw_xv_some, sw_xc_some, h1, h2, lg_same, eq_self, if_true, reduceIte]
set_option maxRecDepth 100000 in
set_option maxHeartbeats 4000000 in
theorem lc_23 (hI : Inv S) (hE1 : E.1 < 2147483648) {i : Nat} (hi : i + 6 ≤ E.1) : ∃ S', Inv S' ∧ sw_ex E 229 919 [.ref 1000, .ref 0, .ref 71, .int (nI i)] [] (mkL S) = sw_ex E 229 1391 [.ref 1000, .ref 0, .ref 71, .int (nI i)] [] (mkL S') := by
  obtain ⟨v, S1, S2, h1, h2, hI2⟩ := p_night E  hI (E.2.1 (i + 1))
  refine ⟨S2, hI2, ?_⟩
  have a1 : ∀ S : sw_S, sw_aI E (mkL S) 1000 (nI (i + 1)) = some (.int (E.2.1 (i + 1))) := fun S => lw_at E S (by omega) hE1
  simp only [st_law_c23, n_addL, mm_zL, mm_rsL, lw_0, lw_71, a1, sw_xv_some, sw_xc_some, h1, h2, lg_same, eq_self, if_true, reduceIte]
set_option maxRecDepth 100000 in
set_option maxHeartbeats 4000000 in
theorem lc_24 (hI : Inv S) (hE1 : E.1 < 2147483648) {i : Nat} (hi : i + 6 ≤ E.1) : ∃ S', Inv S' ∧ sw_ex E 229 942 [.ref 1000, .ref 0, .ref 71, .int (nI i)] [] (mkL S) = sw_ex E 229 1391 [.ref 1000, .ref 0, .ref 71, .int (nI i)] [] (mkL S') := by
  obtain ⟨v, S1, S2, h1, h2, hI2⟩ := p_least E  hI (E.2.1 (i + 1)) (E.2.1 (i + 2)) (E.2.1 (i + 3))
  refine ⟨S2, hI2, ?_⟩
  have a1 : ∀ S : sw_S, sw_aI E (mkL S) 1000 (nI (i + 1)) = some (.int (E.2.1 (i + 1))) := fun S => lw_at E S (by omega) hE1
  have a2 : ∀ S : sw_S, sw_aI E (mkL S) 1000 (nI (i + 2)) = some (.int (E.2.1 (i + 2))) := fun S => lw_at E S (by omega) hE1
  have a3 : ∀ S : sw_S, sw_aI E (mkL S) 1000 (nI (i + 3)) = some (.int (E.2.1 (i + 3))) := fun S => lw_at E S (by omega) hE1
  simp only [st_law_c24, n_addL, mm_zL, mm_rsL, lw_0, lw_71, a1, a2, a3, sw_xv_some, sw_xc_some, h1, h2, lg_same, eq_self, if_true, reduceIte]
set_option maxRecDepth 100000 in
set_option maxHeartbeats 4000000 in
theorem lc_25 (hI : Inv S) (hE1 : E.1 < 2147483648) {i : Nat} (hi : i + 6 ≤ E.1) : ∃ S', Inv S' ∧ sw_ex E 229 985 [.ref 1000, .ref 0, .ref 71, .int (nI i)] [] (mkL S) = sw_ex E 229 1391 [.ref 1000, .ref 0, .ref 71, .int (nI i)] [] (mkL S') := by
  obtain ⟨v, S1, S2, h1, h2, hI2⟩ := p_bare E  hI 
  refine ⟨S2, hI2, ?_⟩
  simp only [st_law_c25, n_addL, mm_zL, mm_rsL, lw_0, lw_71, sw_xv_some, sw_xc_some, h1, h2, lg_same, eq_self, if_true, reduceIte]
set_option maxRecDepth 100000 in
set_option maxHeartbeats 4000000 in
theorem lc_26 (hI : Inv S) (hE1 : E.1 < 2147483648) {i : Nat} (hi : i + 6 ≤ E.1) : ∃ S', Inv S' ∧ sw_ex E 229 998 [.ref 1000, .ref 0, .ref 71, .int (nI i)] [] (mkL S) = sw_ex E 229 1391 [.ref 1000, .ref 0, .ref 71, .int (nI i)] [] (mkL S') := by
  obtain ⟨v, S1, S2, h1, h2, hI2⟩ := p_feed E  hI (E.2.1 (i + 1)) (E.2.1 (i + 2))
  refine ⟨S2, hI2, ?_⟩
  have a1 : ∀ S : sw_S, sw_aI E (mkL S) 1000 (nI (i + 1)) = some (.int (E.2.1 (i + 1))) := fun S => lw_at E S (by omega) hE1
  have a2 : ∀ S : sw_S, sw_aI E (mkL S) 1000 (nI (i + 2)) = some (.int (E.2.1 (i + 2))) := fun S => lw_at E S (by omega) hE1
  simp only [st_law_c26, n_addL, mm_zL, mm_rsL, lw_0, lw_71, a1, a2, sw_xv_some, sw_xc_some, h1, h2, lg_same, eq_self, if_true, reduceIte]
set_option maxRecDepth 100000 in
set_option maxHeartbeats 4000000 in
theorem lc_27 (hI : Inv S) (hE1 : E.1 < 2147483648) {i : Nat} (hi : i + 6 ≤ E.1) : ∃ S', Inv S' ∧ sw_ex E 229 1031 [.ref 1000, .ref 0, .ref 71, .int (nI i)] [] (mkL S) = sw_ex E 229 1391 [.ref 1000, .ref 0, .ref 71, .int (nI i)] [] (mkL S') := by
  obtain ⟨v, S1, S2, h1, h2, hI2⟩ := p_wipe E  hI 
  refine ⟨S2, hI2, ?_⟩
  simp only [st_law_c27, n_addL, mm_zL, mm_rsL, lw_0, lw_71, sw_xv_some, sw_xc_some, h1, h2, lg_same, eq_self, if_true, reduceIte]
set_option maxRecDepth 100000 in
set_option maxHeartbeats 4000000 in
theorem lc_28 (hE : E.2.2 = .null ∨ ∃ a, E.2.2 = .ref a) (hI : Inv S) (hE1 : E.1 < 2147483648) {i : Nat} (hi : i + 6 ≤ E.1) : ∃ S', Inv S' ∧ sw_ex E 229 1044 [.ref 1000, .ref 0, .ref 71, .int (nI i)] [] (mkL S) = sw_ex E 229 1391 [.ref 1000, .ref 0, .ref 71, .int (nI i)] [] (mkL S') := by
  obtain ⟨v, S1, S2, h1, h2, hI2⟩ := p_town E hE hI 
  refine ⟨S2, hI2, ?_⟩
  simp only [st_law_c28, n_addL, mm_zL, mm_rsL, lw_0, lw_71, sw_xv_some, sw_xc_some, h1, h2, lg_same, eq_self, if_true, reduceIte]
set_option maxRecDepth 100000 in
set_option maxHeartbeats 4000000 in
theorem lc_29 (hI : Inv S) (hE1 : E.1 < 2147483648) {i : Nat} (hi : i + 6 ≤ E.1) : ∃ S', Inv S' ∧ sw_ex E 229 1057 [.ref 1000, .ref 0, .ref 71, .int (nI i)] [] (mkL S) = sw_ex E 229 1391 [.ref 1000, .ref 0, .ref 71, .int (nI i)] [] (mkL S') := by
  obtain ⟨v, S1, S2, h1, h2, hI2⟩ := p_sheet E  hI (E.2.1 (i + 1)) (E.2.1 (i + 2)) (E.2.1 (i + 3))
  refine ⟨S2, hI2, ?_⟩
  have a1 : ∀ S : sw_S, sw_aI E (mkL S) 1000 (nI (i + 1)) = some (.int (E.2.1 (i + 1))) := fun S => lw_at E S (by omega) hE1
  have a2 : ∀ S : sw_S, sw_aI E (mkL S) 1000 (nI (i + 2)) = some (.int (E.2.1 (i + 2))) := fun S => lw_at E S (by omega) hE1
  have a3 : ∀ S : sw_S, sw_aI E (mkL S) 1000 (nI (i + 3)) = some (.int (E.2.1 (i + 3))) := fun S => lw_at E S (by omega) hE1
  simp only [st_law_c29, n_addL, mm_zL, mm_rsL, lw_0, lw_71, a1, a2, a3, sw_xv_some, sw_xc_some, h1, h2, lg_same, eq_self, if_true, reduceIte]
set_option maxRecDepth 100000 in
set_option maxHeartbeats 4000000 in
theorem lc_30 (hI : Inv S) (hE1 : E.1 < 2147483648) {i : Nat} (hi : i + 6 ≤ E.1) : ∃ S', Inv S' ∧ sw_ex E 229 1100 [.ref 1000, .ref 0, .ref 71, .int (nI i)] [] (mkL S) = sw_ex E 229 1391 [.ref 1000, .ref 0, .ref 71, .int (nI i)] [] (mkL S') := by
  obtain ⟨v, S1, S2, h1, h2, hI2⟩ := p_write E  hI (E.2.1 (i + 1)) (E.2.1 (i + 2)) ((E.2.1 (i + 3)).toInt64 <<< (Int32.toInt64 32 &&& 63) ||| (E.2.1 (i + 4)).toInt64 &&& 4294967295)
  refine ⟨S2, hI2, ?_⟩
  have a1 : ∀ S : sw_S, sw_aI E (mkL S) 1000 (nI (i + 1)) = some (.int (E.2.1 (i + 1))) := fun S => lw_at E S (by omega) hE1
  have a2 : ∀ S : sw_S, sw_aI E (mkL S) 1000 (nI (i + 2)) = some (.int (E.2.1 (i + 2))) := fun S => lw_at E S (by omega) hE1
  have a3 : ∀ S : sw_S, sw_aI E (mkL S) 1000 (nI (i + 3)) = some (.int (E.2.1 (i + 3))) := fun S => lw_at E S (by omega) hE1
  have a4 : ∀ S : sw_S, sw_aI E (mkL S) 1000 (nI (i + 4)) = some (.int (E.2.1 (i + 4))) := fun S => lw_at E S (by omega) hE1
  simp only [st_law_c30, n_addL, mm_zL, mm_rsL, lw_0, lw_71, a1, a2, a3, a4, sw_xv_some, sw_xc_some, h1, h2, lg_same, eq_self, if_true, reduceIte]
set_option maxRecDepth 100000 in
set_option maxHeartbeats 4000000 in
theorem lc_31 (hI : Inv S) (hE1 : E.1 < 2147483648) {i : Nat} (hi : i + 6 ≤ E.1) : ∃ S', Inv S' ∧ sw_ex E 229 1174 [.ref 1000, .ref 0, .ref 71, .int (nI i)] [] (mkL S) = sw_ex E 229 1391 [.ref 1000, .ref 0, .ref 71, .int (nI i)] [] (mkL S') := by
  obtain ⟨v, S1, S2, h1, h2, hI2⟩ := p_copy E  hI (E.2.1 (i + 1)) (E.2.1 (i + 2)) (E.2.1 (i + 3)) (E.2.1 (i + 4)) (E.2.1 (i + 5))
  refine ⟨S2, hI2, ?_⟩
  have a1 : ∀ S : sw_S, sw_aI E (mkL S) 1000 (nI (i + 1)) = some (.int (E.2.1 (i + 1))) := fun S => lw_at E S (by omega) hE1
  have a2 : ∀ S : sw_S, sw_aI E (mkL S) 1000 (nI (i + 2)) = some (.int (E.2.1 (i + 2))) := fun S => lw_at E S (by omega) hE1
  have a3 : ∀ S : sw_S, sw_aI E (mkL S) 1000 (nI (i + 3)) = some (.int (E.2.1 (i + 3))) := fun S => lw_at E S (by omega) hE1
  have a4 : ∀ S : sw_S, sw_aI E (mkL S) 1000 (nI (i + 4)) = some (.int (E.2.1 (i + 4))) := fun S => lw_at E S (by omega) hE1
  have a5 : ∀ S : sw_S, sw_aI E (mkL S) 1000 (nI (i + 5)) = some (.int (E.2.1 (i + 5))) := fun S => lw_at E S (by omega) hE1
  simp only [st_law_c31, n_addL, mm_zL, mm_rsL, lw_0, lw_71, a1, a2, a3, a4, a5, sw_xv_some, sw_xc_some, h1, h2, lg_same, eq_self, if_true, reduceIte]
set_option maxRecDepth 100000 in
set_option maxHeartbeats 4000000 in
theorem lc_32 (hI : Inv S) (hE1 : E.1 < 2147483648) {i : Nat} (hi : i + 6 ≤ E.1) : ∃ S', Inv S' ∧ sw_ex E 229 1237 [.ref 1000, .ref 0, .ref 71, .int (nI i)] [] (mkL S) = sw_ex E 229 1391 [.ref 1000, .ref 0, .ref 71, .int (nI i)] [] (mkL S') := by
  obtain ⟨v, S1, S2, h1, h2, hI2⟩ := p_lays E  hI (E.2.1 (i + 1))
  refine ⟨S2, hI2, ?_⟩
  have a1 : ∀ S : sw_S, sw_aI E (mkL S) 1000 (nI (i + 1)) = some (.int (E.2.1 (i + 1))) := fun S => lw_at E S (by omega) hE1
  simp only [st_law_c32, n_addL, mm_zL, mm_rsL, lw_0, lw_71, a1, sw_xv_some, sw_xc_some, h1, h2, lg_same, eq_self, if_true, reduceIte]
set_option maxRecDepth 100000 in
set_option maxHeartbeats 4000000 in
theorem lc_33 (hI : Inv S) (hE1 : E.1 < 2147483648) {i : Nat} (hi : i + 6 ≤ E.1) : ∃ S', Inv S' ∧ sw_ex E 229 1260 [.ref 1000, .ref 0, .ref 71, .int (nI i)] [] (mkL S) = sw_ex E 229 1391 [.ref 1000, .ref 0, .ref 71, .int (nI i)] [] (mkL S') := by
  obtain ⟨v, S1, S2, h1, h2, hI2⟩ := p_keeps E  hI (E.2.1 (i + 1))
  refine ⟨S2, hI2, ?_⟩
  have a1 : ∀ S : sw_S, sw_aI E (mkL S) 1000 (nI (i + 1)) = some (.int (E.2.1 (i + 1))) := fun S => lw_at E S (by omega) hE1
  simp only [st_law_c33, n_addL, mm_zL, mm_rsL, lw_0, lw_71, a1, sw_xv_some, sw_xc_some, h1, h2, lg_same, eq_self, if_true, reduceIte]
set_option maxRecDepth 100000 in
set_option maxHeartbeats 4000000 in
theorem lc_34 (hI : Inv S) (hE1 : E.1 < 2147483648) {i : Nat} (hi : i + 6 ≤ E.1) : ∃ S', Inv S' ∧ sw_ex E 229 1283 [.ref 1000, .ref 0, .ref 71, .int (nI i)] [] (mkL S) = sw_ex E 229 1391 [.ref 1000, .ref 0, .ref 71, .int (nI i)] [] (mkL S') := by
  obtain ⟨v, S1, S2, h1, h2, hI2⟩ := p_read E  hI (E.2.1 (i + 1))
  refine ⟨S2, hI2, ?_⟩
  have a1 : ∀ S : sw_S, sw_aI E (mkL S) 1000 (nI (i + 1)) = some (.int (E.2.1 (i + 1))) := fun S => lw_at E S (by omega) hE1
  simp only [st_law_c34, n_addL, mm_zL, mm_rsL, lw_0, lw_71, a1, sw_xv_some, sw_xc_some, h1, h2, lg_same, eq_self, if_true, reduceIte]
set_option maxRecDepth 100000 in
set_option maxHeartbeats 4000000 in
theorem lc_35 (hI : Inv S) (hE1 : E.1 < 2147483648) {i : Nat} (hi : i + 6 ≤ E.1) : ∃ S', Inv S' ∧ sw_ex E 229 1306 [.ref 1000, .ref 0, .ref 71, .int (nI i)] [] (mkL S) = sw_ex E 229 1391 [.ref 1000, .ref 0, .ref 71, .int (nI i)] [] (mkL S') := by
  obtain ⟨v, S1, S2, h1, h2, hI2⟩ := p_image E  hI 
  refine ⟨S2, hI2, ?_⟩
  simp only [st_law_c35, n_addL, mm_zL, mm_rsL, lw_0, lw_71, sw_xv_some, sw_xc_some, h1, h2, lg_same, eq_self, if_true, reduceIte]
set_option maxRecDepth 100000 in
set_option maxHeartbeats 4000000 in
theorem lc_36 (hI : Inv S) (hE1 : E.1 < 2147483648) {i : Nat} (hi : i + 6 ≤ E.1) : ∃ S', Inv S' ∧ sw_ex E 229 1319 [.ref 1000, .ref 0, .ref 71, .int (nI i)] [] (mkL S) = sw_ex E 229 1391 [.ref 1000, .ref 0, .ref 71, .int (nI i)] [] (mkL S') := by
  obtain ⟨v, S1, S2, h1, h2, hI2⟩ := p_undo E  hI 
  refine ⟨S2, hI2, ?_⟩
  simp only [st_law_c36, n_addL, mm_zL, mm_rsL, lw_0, lw_71, sw_xv_some, sw_xc_some, h1, h2, lg_same, eq_self, if_true, reduceIte]
set_option maxRecDepth 100000 in
set_option maxHeartbeats 4000000 in
theorem lc_37 (hI : Inv S) (hE1 : E.1 < 2147483648) {i : Nat} (hi : i + 6 ≤ E.1) : ∃ S', Inv S' ∧ sw_ex E 229 1332 [.ref 1000, .ref 0, .ref 71, .int (nI i)] [] (mkL S) = sw_ex E 229 1391 [.ref 1000, .ref 0, .ref 71, .int (nI i)] [] (mkL S') := by
  obtain ⟨v, S1, S2, h1, h2, hI2⟩ := p_tear E  hI 
  refine ⟨S2, hI2, ?_⟩
  simp only [st_law_c37, n_addL, mm_zL, mm_rsL, lw_0, lw_71, sw_xv_some, sw_xc_some, h1, h2, lg_same, eq_self, if_true, reduceIte]
set_option maxRecDepth 100000 in
set_option maxHeartbeats 4000000 in
theorem lc_38 (hI : Inv S) (hE1 : E.1 < 2147483648) {i : Nat} (hi : i + 6 ≤ E.1) : ∃ S', Inv S' ∧ sw_ex E 229 1345 [.ref 1000, .ref 0, .ref 71, .int (nI i)] [] (mkL S) = sw_ex E 229 1391 [.ref 1000, .ref 0, .ref 71, .int (nI i)] [] (mkL S') := by
  obtain ⟨v, S1, S2, h1, h2, hI2⟩ := p_count E  hI (E.2.1 (i + 1))
  refine ⟨S2, hI2, ?_⟩
  have a1 : ∀ S : sw_S, sw_aI E (mkL S) 1000 (nI (i + 1)) = some (.int (E.2.1 (i + 1))) := fun S => lw_at E S (by omega) hE1
  simp only [st_law_c38, n_addL, mm_zL, mm_rsL, lw_0, lw_71, a1, sw_xv_some, sw_xc_some, h1, h2, lg_same, eq_self, if_true, reduceIte]
set_option maxRecDepth 100000 in
set_option maxHeartbeats 4000000 in
theorem lc_39 (hI : Inv S) (hE1 : E.1 < 2147483648) {i : Nat} (hi : i + 6 ≤ E.1) : ∃ S', Inv S' ∧ sw_ex E 229 1368 [.ref 1000, .ref 0, .ref 71, .int (nI i)] [] (mkL S) = sw_ex E 229 1391 [.ref 1000, .ref 0, .ref 71, .int (nI i)] [] (mkL S') := by
  obtain ⟨v, S1, S2, h1, h2, hI2⟩ := p_status E  hI (E.2.1 (i + 1))
  refine ⟨S2, hI2, ?_⟩
  have a1 : ∀ S : sw_S, sw_aI E (mkL S) 1000 (nI (i + 1)) = some (.int (E.2.1 (i + 1))) := fun S => lw_at E S (by omega) hE1
  simp only [st_law_c39, n_addL, mm_zL, mm_rsL, lw_0, lw_71, a1, sw_xv_some, sw_xc_some, h1, h2, lg_same, eq_self, if_true, reduceIte]
set_option maxRecDepth 100000 in
set_option maxHeartbeats 4000000 in
theorem lw_step (hE : E.2.2 = .null ∨ ∃ a, E.2.2 = .ref a) (hI : Inv S) (hE1 : E.1 < 2147483648) {i : Nat} (hi : i + 6 ≤ E.1) : ∃ S', Inv S' ∧ h_law_0 E [.ref 1000, .ref 0, .ref 71, .int (nI i)] (mkL S) = h_law_0 E [.ref 1000, .ref 0, .ref 71, .int (nI (i + 6))] (mkL S') := by
  have t6 : (6 : Int32).toInt = 6 := by decide
  have e0 : ¬ (nI E.1 - 6 < nI i) := by
    rw [Int32.lt_iff_toInt_lt, fb_subI (by rw [nI_toInt hE1, t6]; omega) (by rw [nI_toInt hE1, t6]; omega), nI_toInt hE1, nI_toInt (show i < 2147483648 by omega), t6]
    omega
  have a0 := lw_at E S (j := i) (by omega) hE1
  have key : ∃ S', Inv S' ∧ h_law_0 E [.ref 1000, .ref 0, .ref 71, .int (nI i)] (mkL S) = sw_ex E 229 1391 [.ref 1000, .ref 0, .ref 71, .int (nI i)] [] (mkL S') := by
    rw [u_law_0]
    simp only [st_law_a, lw_ln, sw_xv_some, e0, if_false, reduceIte, a0]
    generalize E.2.1 i &&& 63 = x
    by_cases c0 : x = 0
    case pos =>
      rw [if_pos c0]
      exact lc_0 E hI hE1 hi
    rw [if_neg c0]
    by_cases c1 : x = 1
    case pos =>
      rw [if_pos c1]
      exact lc_1 E hI hE1 hi
    rw [if_neg c1]
    by_cases c2 : x = 2
    case pos =>
      rw [if_pos c2]
      exact lc_2 E hI hE1 hi
    rw [if_neg c2]
    by_cases c3 : x = 3
    case pos =>
      rw [if_pos c3]
      exact lc_3 E hI hE1 hi
    rw [if_neg c3]
    by_cases c4 : x = 4
    case pos =>
      rw [if_pos c4]
      exact lc_4 E hI hE1 hi
    rw [if_neg c4]
    by_cases c5 : x = 5
    case pos =>
      rw [if_pos c5]
      exact lc_5 E hI hE1 hi
    rw [if_neg c5]
    by_cases c6 : x = 6
    case pos =>
      rw [if_pos c6]
      exact lc_6 E hI hE1 hi
    rw [if_neg c6]
    by_cases c7 : x = 7
    case pos =>
      rw [if_pos c7]
      exact lc_7 E hI hE1 hi
    rw [if_neg c7]
    by_cases c8 : x = 8
    case pos =>
      rw [if_pos c8]
      exact lc_8 E hI hE1 hi
    rw [if_neg c8]
    by_cases c9 : x = 9
    case pos =>
      rw [if_pos c9]
      exact lc_9 E hI hE1 hi
    rw [if_neg c9]
    by_cases c10 : x = 10
    case pos =>
      rw [if_pos c10]
      exact lc_10 E hI hE1 hi
    rw [if_neg c10]
    by_cases c11 : x = 11
    case pos =>
      rw [if_pos c11]
      exact lc_11 E hI hE1 hi
    rw [if_neg c11]
    by_cases c12 : x = 12
    case pos =>
      rw [if_pos c12]
      exact lc_12 E hI hE1 hi
    rw [if_neg c12]
    by_cases c13 : x = 13
    case pos =>
      rw [if_pos c13]
      exact lc_13 E hI hE1 hi
    rw [if_neg c13]
    by_cases c14 : x = 14
    case pos =>
      rw [if_pos c14]
      exact lc_14 E hI hE1 hi
    rw [if_neg c14]
    by_cases c15 : x = 15
    case pos =>
      rw [if_pos c15]
      exact lc_15 E hI hE1 hi
    rw [if_neg c15]
    by_cases c16 : x = 16
    case pos =>
      rw [if_pos c16]
      exact lc_16 E hI hE1 hi
    rw [if_neg c16]
    by_cases c17 : x = 17
    case pos =>
      rw [if_pos c17]
      exact lc_17 E hI hE1 hi
    rw [if_neg c17]
    by_cases c18 : x = 18
    case pos =>
      rw [if_pos c18]
      exact lc_18 E hI hE1 hi
    rw [if_neg c18]
    by_cases c19 : x = 19
    case pos =>
      rw [if_pos c19]
      exact lc_19 E hI hE1 hi
    rw [if_neg c19]
    by_cases c20 : x = 20
    case pos =>
      rw [if_pos c20]
      exact lc_20 E hI hE1 hi
    rw [if_neg c20]
    by_cases c21 : x = 21
    case pos =>
      rw [if_pos c21]
      exact lc_21 E hI hE1 hi
    rw [if_neg c21]
    by_cases c22 : x = 22
    case pos =>
      rw [if_pos c22]
      exact lc_22 E hI hE1 hi
    rw [if_neg c22]
    by_cases c23 : x = 23
    case pos =>
      rw [if_pos c23]
      exact lc_23 E hI hE1 hi
    rw [if_neg c23]
    by_cases c24 : x = 24
    case pos =>
      rw [if_pos c24]
      exact lc_24 E hI hE1 hi
    rw [if_neg c24]
    by_cases c25 : x = 25
    case pos =>
      rw [if_pos c25]
      exact lc_25 E hI hE1 hi
    rw [if_neg c25]
    by_cases c26 : x = 26
    case pos =>
      rw [if_pos c26]
      exact lc_26 E hI hE1 hi
    rw [if_neg c26]
    by_cases c27 : x = 27
    case pos =>
      rw [if_pos c27]
      exact lc_27 E hI hE1 hi
    rw [if_neg c27]
    by_cases c28 : x = 28
    case pos =>
      rw [if_pos c28]
      exact lc_28 E hE hI hE1 hi
    rw [if_neg c28]
    by_cases c29 : x = 29
    case pos =>
      rw [if_pos c29]
      exact lc_29 E hI hE1 hi
    rw [if_neg c29]
    by_cases c30 : x = 30
    case pos =>
      rw [if_pos c30]
      exact lc_30 E hI hE1 hi
    rw [if_neg c30]
    by_cases c31 : x = 31
    case pos =>
      rw [if_pos c31]
      exact lc_31 E hI hE1 hi
    rw [if_neg c31]
    by_cases c32 : x = 32
    case pos =>
      rw [if_pos c32]
      exact lc_32 E hI hE1 hi
    rw [if_neg c32]
    by_cases c33 : x = 33
    case pos =>
      rw [if_pos c33]
      exact lc_33 E hI hE1 hi
    rw [if_neg c33]
    by_cases c34 : x = 34
    case pos =>
      rw [if_pos c34]
      exact lc_34 E hI hE1 hi
    rw [if_neg c34]
    by_cases c35 : x = 35
    case pos =>
      rw [if_pos c35]
      exact lc_35 E hI hE1 hi
    rw [if_neg c35]
    by_cases c36 : x = 36
    case pos =>
      rw [if_pos c36]
      exact lc_36 E hI hE1 hi
    rw [if_neg c36]
    by_cases c37 : x = 37
    case pos =>
      rw [if_pos c37]
      exact lc_37 E hI hE1 hi
    rw [if_neg c37]
    by_cases c38 : x = 38
    case pos =>
      rw [if_pos c38]
      exact lc_38 E hI hE1 hi
    rw [if_neg c38]
    by_cases c39 : x = 39
    case pos =>
      rw [if_pos c39]
      exact lc_39 E hI hE1 hi
    rw [if_neg c39]
    exact ⟨S, hI, rfl⟩
  obtain ⟨S', hI', h⟩ := key
  refine ⟨S', hI', ?_⟩
  rw [h]
  simp only [st_law_z, n_addL]
theorem lw_end (hE1 : E.1 < 2147483648) {i : Nat} (hi : ¬ i + 6 ≤ E.1) (hi2 : i < 2147483648) : h_law_0 E [.ref 1000, .ref 0, .ref 71, .int (nI i)] (mkL S) = some (some (.int 1), mkL S) := by
  have t6 : (6 : Int32).toInt = 6 := by decide
  have e0 : nI E.1 - 6 < nI i := by
    rw [Int32.lt_iff_toInt_lt, fb_subI (by rw [nI_toInt hE1, t6]; omega) (by rw [nI_toInt hE1, t6]; omega), nI_toInt hE1, nI_toInt hi2, t6]
    omega
  rw [u_law_0]
  simp only [st_law_a, st_law_z, lw_ln, sw_xv_some, e0, if_true, reduceIte, i_ne, eq_self, or_true]
theorem lw_all (hE : E.2.2 = .null ∨ ∃ a, E.2.2 = .ref a) (hE1 : E.1 < 2147483648) : ∀ (m i : Nat) (S : sw_S), E.1 - i ≤ m → i ≤ E.1 → Inv S → ∃ S', h_law_0 E [.ref 1000, .ref 0, .ref 71, .int (nI i)] (mkL S) = some (some (.int 1), mkL S')
  | m, i, S, hm, hi, hI => by
    by_cases h : i + 6 ≤ E.1
    · cases m with
      | zero => omega
      | succ m =>
        obtain ⟨S', hI', e⟩ := lw_step E hE hI hE1 h
        rw [e]
        exact lw_all hE hE1 m (i + 6) S' (by omega) h hI'
    · exact ⟨S, lw_end E hE1 h (by omega)⟩
end LC
