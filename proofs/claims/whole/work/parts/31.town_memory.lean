theorem mr_town (E : sw_E) (S : sw_S) (t : Nat) (h : t < 3) : sw_isC E (mk S) (mm_tn t 0) 6 = true ∧ sw_gF E (mk S) (mm_tn t 0) 6 0 = some (.ref (mm_tn t 1)) ∧ sw_gF E (mk S) (mm_tn t 0) 6 1 = some (.ref (mm_tn t 4)) ∧ sw_gF E (mk S) (mm_tn t 0) 6 2 = some (.ref (mm_tn t 12)) ∧ sw_gF E (mk S) (mm_tn t 0) 6 3 = some (.int (nI (S.1 t 0 4))) ∧ sw_gF E (mk S) (mm_tn t 0) 6 4 = some (.int (nI (S.1 t 0 5))) ∧ sw_gF E (mk S) (mm_tn t 0) 6 5 = some (.int (nI (S.1 t 0 3))) ∧ sw_isC E (mk S) (mm_tn t 1) 0 = true ∧ sw_gF E (mk S) (mm_tn t 1) 0 0 = some (.ref (mm_tn t 2)) ∧ sw_gF E (mk S) (mm_tn t 1) 0 1 = some (.ref (mm_tn t 3)) ∧ sw_gF E (mk S) (mm_tn t 1) 0 2 = some (.int (nI (S.1 t 0 0))) ∧ sw_isC E (mk S) (mm_tn t 4) 5 = true ∧ sw_gF E (mk S) (mm_tn t 4) 5 0 = some (.ref (mm_tn t 5)) ∧ sw_gF E (mk S) (mm_tn t 4) 5 1 = some (.ref (mm_tn t 6)) ∧ sw_gF E (mk S) (mm_tn t 4) 5 2 = some (.ref (mm_tn t 7)) ∧ sw_gF E (mk S) (mm_tn t 4) 5 3 = some (.ref (mm_tn t 8)) ∧ sw_gF E (mk S) (mm_tn t 4) 5 4 = some (.ref (mm_tn t 9)) ∧ sw_gF E (mk S) (mm_tn t 4) 5 5 = some (.ref (mm_tn t 10)) ∧ sw_gF E (mk S) (mm_tn t 4) 5 6 = some (.ref (mm_tn t 11)) ∧ sw_gF E (mk S) (mm_tn t 4) 5 7 = some (.int (nI (S.1 t 0 1))) ∧ sw_isC E (mk S) (mm_tn t 12) 1 = true ∧ sw_gF E (mk S) (mm_tn t 12) 1 0 = some (.ref (mm_tn t 13)) ∧ sw_gF E (mk S) (mm_tn t 12) 1 1 = some (.ref (mm_tn t 14)) ∧ sw_gF E (mk S) (mm_tn t 12) 1 2 = some (.ref (mm_tn t 15)) ∧ sw_gF E (mk S) (mm_tn t 12) 1 3 = some (.ref (mm_tn t 16)) ∧ sw_gF E (mk S) (mm_tn t 12) 1 4 = some (.ref (mm_tn t 17)) ∧ sw_gF E (mk S) (mm_tn t 12) 1 5 = some (.int (nI (S.1 t 0 2))) ∧ (∀ i, i < 10 → sw_aI E (mk S) (mm_tn t 2) (nI i) = some (.int (nI (S.1 t 1 i)))) ∧ (∀ i, i < 16 → sw_aI E (mk S) (mm_tn t 5) (nI i) = some (.int (nI (S.1 t 2 i)))) ∧ (∀ i, i < 16 → sw_aI E (mk S) (mm_tn t 6) (nI i) = some (.int (nI (S.1 t 3 i)))) ∧ (∀ i, i < 16 → sw_aI E (mk S) (mm_tn t 7) (nI i) = some (.int (nI (S.1 t 4 i)))) ∧ (∀ i, i < 16 → sw_aI E (mk S) (mm_tn t 8) (nI i) = some (.int (nI (S.1 t 5 i)))) ∧ (∀ i, i < 16 → sw_aI E (mk S) (mm_tn t 10) (nI i) = some (.int (nI (S.1 t 7 i)))) ∧ (∀ i, i < 96 → sw_aI E (mk S) (mm_tn t 11) (nI i) = some (.int (nI (S.1 t 8 i)))) ∧ (∀ i, i < 24 → sw_aI E (mk S) (mm_tn t 13) (nI i) = some (.int (nI (S.1 t 9 i)))) ∧ (∀ i, i < 24 → sw_aI E (mk S) (mm_tn t 14) (nI i) = some (.int (nI (S.1 t 10 i)))) ∧ (∀ i, i < 24 → sw_aI E (mk S) (mm_tn t 15) (nI i) = some (.int (nI (S.1 t 11 i)))) ∧ (∀ i, i < 24 → sw_aI E (mk S) (mm_tn t 16) (nI i) = some (.int (nI (S.1 t 12 i)))) ∧ (∀ i, i < 24 → sw_aI E (mk S) (mm_tn t 17) (nI i) = some (.int (nI (S.1 t 13 i)))) ∧ (∀ i, i < 16 → sw_aB E (mk S) (mm_tn t 9) (nI i) = some (.int (nI (S.1 t 6 i)))) ∧ (∀ i, i < 10 → sw_aL (mk S) (mm_tn t 3) (nI i) = some (.long (S.2.1 t i))) := ⟨mm_isC (mm_tn_lt (j := 0) h (by decide)) (mm_at (j := 0) h (by decide)), mm_gF (mm_tn_lt (j := 0) h (by decide)) (mm_at (j := 0) h (by decide)) rfl, mm_gF (mm_tn_lt (j := 0) h (by decide)) (mm_at (j := 0) h (by decide)) rfl, mm_gF (mm_tn_lt (j := 0) h (by decide)) (mm_at (j := 0) h (by decide)) rfl, mm_gF (mm_tn_lt (j := 0) h (by decide)) (mm_at (j := 0) h (by decide)) rfl, mm_gF (mm_tn_lt (j := 0) h (by decide)) (mm_at (j := 0) h (by decide)) rfl, mm_gF (mm_tn_lt (j := 0) h (by decide)) (mm_at (j := 0) h (by decide)) rfl, mm_isC (mm_tn_lt (j := 1) h (by decide)) (mm_at (j := 1) h (by decide)), mm_gF (mm_tn_lt (j := 1) h (by decide)) (mm_at (j := 1) h (by decide)) rfl, mm_gF (mm_tn_lt (j := 1) h (by decide)) (mm_at (j := 1) h (by decide)) rfl, mm_gF (mm_tn_lt (j := 1) h (by decide)) (mm_at (j := 1) h (by decide)) rfl, mm_isC (mm_tn_lt (j := 4) h (by decide)) (mm_at (j := 4) h (by decide)), mm_gF (mm_tn_lt (j := 4) h (by decide)) (mm_at (j := 4) h (by decide)) rfl, mm_gF (mm_tn_lt (j := 4) h (by decide)) (mm_at (j := 4) h (by decide)) rfl, mm_gF (mm_tn_lt (j := 4) h (by decide)) (mm_at (j := 4) h (by decide)) rfl, mm_gF (mm_tn_lt (j := 4) h (by decide)) (mm_at (j := 4) h (by decide)) rfl, mm_gF (mm_tn_lt (j := 4) h (by decide)) (mm_at (j := 4) h (by decide)) rfl, mm_gF (mm_tn_lt (j := 4) h (by decide)) (mm_at (j := 4) h (by decide)) rfl, mm_gF (mm_tn_lt (j := 4) h (by decide)) (mm_at (j := 4) h (by decide)) rfl, mm_gF (mm_tn_lt (j := 4) h (by decide)) (mm_at (j := 4) h (by decide)) rfl, mm_isC (mm_tn_lt (j := 12) h (by decide)) (mm_at (j := 12) h (by decide)), mm_gF (mm_tn_lt (j := 12) h (by decide)) (mm_at (j := 12) h (by decide)) rfl, mm_gF (mm_tn_lt (j := 12) h (by decide)) (mm_at (j := 12) h (by decide)) rfl, mm_gF (mm_tn_lt (j := 12) h (by decide)) (mm_at (j := 12) h (by decide)) rfl, mm_gF (mm_tn_lt (j := 12) h (by decide)) (mm_at (j := 12) h (by decide)) rfl, mm_gF (mm_tn_lt (j := 12) h (by decide)) (mm_at (j := 12) h (by decide)) rfl, mm_gF (mm_tn_lt (j := 12) h (by decide)) (mm_at (j := 12) h (by decide)) rfl, fun _ hi => mm_aI (mm_tn_lt (j := 2) h (by decide)) (mm_at (j := 2) h (by decide)) hi (by decide), fun _ hi => mm_aI (mm_tn_lt (j := 5) h (by decide)) (mm_at (j := 5) h (by decide)) hi (by decide), fun _ hi => mm_aI (mm_tn_lt (j := 6) h (by decide)) (mm_at (j := 6) h (by decide)) hi (by decide), fun _ hi => mm_aI (mm_tn_lt (j := 7) h (by decide)) (mm_at (j := 7) h (by decide)) hi (by decide), fun _ hi => mm_aI (mm_tn_lt (j := 8) h (by decide)) (mm_at (j := 8) h (by decide)) hi (by decide), fun _ hi => mm_aI (mm_tn_lt (j := 10) h (by decide)) (mm_at (j := 10) h (by decide)) hi (by decide), fun _ hi => mm_aI (mm_tn_lt (j := 11) h (by decide)) (mm_at (j := 11) h (by decide)) hi (by decide), fun _ hi => mm_aI (mm_tn_lt (j := 13) h (by decide)) (mm_at (j := 13) h (by decide)) hi (by decide), fun _ hi => mm_aI (mm_tn_lt (j := 14) h (by decide)) (mm_at (j := 14) h (by decide)) hi (by decide), fun _ hi => mm_aI (mm_tn_lt (j := 15) h (by decide)) (mm_at (j := 15) h (by decide)) hi (by decide), fun _ hi => mm_aI (mm_tn_lt (j := 16) h (by decide)) (mm_at (j := 16) h (by decide)) hi (by decide), fun _ hi => mm_aI (mm_tn_lt (j := 17) h (by decide)) (mm_at (j := 17) h (by decide)) hi (by decide), fun _ hi => mm_aB (mm_tn_lt (j := 9) h (by decide)) (mm_at (j := 9) h (by decide)) hi (by decide), fun _ hi => mm_aL (mm_tn_lt (j := 3) h (by decide)) (mm_at (j := 3) h (by decide)) hi (by decide)⟩
theorem mm_cr_pI {S : sw_S} {t : Nat} {T : Nat → Nat → Nat} (h : t < 3) (r : Nat) : mm_cr (mm_pI S t T) r = mm_cr S r := by
  unfold mm_cr
  split <;> first | rfl | (simp only [mm_pI]; rw [if_neg (by omega)])
theorem mm_wT {S : sw_S} {t j : Nat} {T : Nat → Nat → Nat} (ht : t < 3) (hj : j < 18) (hs : ∀ j', j' < 18 → j' ≠ j → mm_ct (mm_pI S t T) t j' = mm_ct S t j') : sw_sC (mk S) (mm_tn t j) (mm_ct (mm_pI S t T) t j) = mk (mm_pI S t T) := by
  have key : ∀ q, q ≠ mm_tn t j → mm_cl (mm_pI S t T) q = mm_cl S q := by
    intro q hq
    unfold mm_cl
    split
    · next hr =>
      by_cases ht2 : (q - 1) / 18 = t
      · have hne : (q - 1) % 18 ≠ j := fun e => hq (by unfold mm_tn; omega)
        rw [ht2]
        exact hs _ (Nat.mod_lt _ (by decide)) hne
      · have e1 : (mm_pI S t T).1 ((q - 1) / 18) = S.1 ((q - 1) / 18) := mm_pI_ne S T ht2
        unfold mm_ct
        split <;> first | (simp only [e1]; done) | (rw [mm_pI_2]; done) | rfl
    · split
      · rfl
      · exact mm_cr_pI ht q
  refine mm_sCe (fun q _ => ?_) (mm_tn_lt ht hj)
  split
  · next e => rw [e, mm_at ht hj]
  · next e => exact key q e
theorem mm_18 {j : Nat} (h : j < 18) : j = 0 ∨ j = 1 ∨ j = 2 ∨ j = 3 ∨ j = 4 ∨ j = 5 ∨ j = 6 ∨ j = 7 ∨ j = 8 ∨ j = 9 ∨ j = 10 ∨ j = 11 ∨ j = 12 ∨ j = 13 ∨ j = 14 ∨ j = 15 ∨ j = 16 ∨ j = 17 := by omega
/-- of a town's cells one alone holds the field f at index i -/
theorem mm_ct_u {S : sw_S} {t f i v j : Nat} (hj : j < 18) (hf : ∀ i', (f = 0 → i' ≠ i) ∨ True) (h0 : f = 0 → (i = 4 ∨ i = 5 ∨ i = 3 → j ≠ 0) ∧ (i = 0 → j ≠ 1) ∧ (i = 1 → j ≠ 4) ∧ (i = 2 → j ≠ 12)) (h1 : f = 1 → j ≠ 2) (h2 : f = 2 → j ≠ 5) (h3 : f = 3 → j ≠ 6) (h4 : f = 4 → j ≠ 7) (h5 : f = 5 → j ≠ 8) (h6 : f = 6 → j ≠ 9) (h7 : f = 7 → j ≠ 10) (h8 : f = 8 → j ≠ 11) (h9 : f = 9 → j ≠ 13) (h10 : f = 10 → j ≠ 14) (h11 : f = 11 → j ≠ 15) (h12 : f = 12 → j ≠ 16) (h13 : f = 13 → j ≠ 17) : mm_ct (mm_pI S t (mm_u (S.1 t) f i v)) t j = mm_ct S t j := by
  have e1 : (mm_pI S t (mm_u (S.1 t) f i v)).1 t = mm_u (S.1 t) f i v := mm_pI_at _ _ _
  have nf : ∀ g, g ≠ f → mm_u (S.1 t) f i v g = S.1 t g := fun g hg => mm_u_f _ hg
  have n0 : ∀ i', ¬ (f = 0 ∧ i' = i) → mm_u (S.1 t) f i v 0 i' = S.1 t 0 i' := fun i' hh => mm_u_ne _ (fun q => hh ⟨q.1.symm, q.2⟩)
  rcases mm_18 hj with rfl | rfl | rfl | rfl | rfl | rfl | rfl | rfl | rfl | rfl | rfl | rfl | rfl | rfl | rfl | rfl | rfl | rfl
  · simp only [mm_ct, e1]; rw [n0 4 (fun q => (h0 q.1).1 (Or.inl q.2.symm) rfl), n0 5 (fun q => (h0 q.1).1 (Or.inr (Or.inl q.2.symm)) rfl), n0 3 (fun q => (h0 q.1).1 (Or.inr (Or.inr q.2.symm)) rfl)]
  · simp only [mm_ct, e1]; rw [n0 0 (fun q => (h0 q.1).2.1 q.2.symm rfl)]
  · simp only [mm_ct, e1]; rw [nf 1 (fun q => h1 q.symm rfl)]
  · rfl
  · simp only [mm_ct, e1]; rw [n0 1 (fun q => (h0 q.1).2.2.1 q.2.symm rfl)]
  · simp only [mm_ct, e1]; rw [nf 2 (fun q => h2 q.symm rfl)]
  · simp only [mm_ct, e1]; rw [nf 3 (fun q => h3 q.symm rfl)]
  · simp only [mm_ct, e1]; rw [nf 4 (fun q => h4 q.symm rfl)]
  · simp only [mm_ct, e1]; rw [nf 5 (fun q => h5 q.symm rfl)]
  · simp only [mm_ct, e1]; rw [nf 6 (fun q => h6 q.symm rfl)]
  · simp only [mm_ct, e1]; rw [nf 7 (fun q => h7 q.symm rfl)]
  · simp only [mm_ct, e1]; rw [nf 8 (fun q => h8 q.symm rfl)]
  · simp only [mm_ct, e1]; rw [n0 2 (fun q => (h0 q.1).2.2.2 q.2.symm rfl)]
  · simp only [mm_ct, e1]; rw [nf 9 (fun q => h9 q.symm rfl)]
  · simp only [mm_ct, e1]; rw [nf 10 (fun q => h10 q.symm rfl)]
  · simp only [mm_ct, e1]; rw [nf 11 (fun q => h11 q.symm rfl)]
  · simp only [mm_ct, e1]; rw [nf 12 (fun q => h12 q.symm rfl)]
  · simp only [mm_ct, e1]; rw [nf 13 (fun q => h13 q.symm rfl)]
theorem mm_nI_upd (T : Nat → Nat → Nat) (f i v : Nat) : (fun i' => nI (mm_u T f i v f i')) = upd (fun i' => nI (T f i')) i (nI v) := by
  funext i'
  by_cases h : i' = i
  · subst h; simp [mm_u, upd]
  · simp [mm_u, upd, h]
theorem mm_nar01 {v : Nat} (h : v ≤ 1) : vp_nar .boolean (nI v) = nI v := by
  rcases (show v = 0 ∨ v = 1 by omega) with rfl | rfl <;> decide +kernel
theorem mw_t2 (S : sw_S) {t i v : Nat} (h : t < 3) (hi : i < 10) : sw_sI (mk S) (mm_tn t 2) (nI i) (nI v) = some (mk (mm_pI S t (mm_u (S.1 t) 1 i v))) := by
  rw [mm_sI (mm_tn_lt h (by decide)) (mm_at h (by decide)) hi (by decide), ← mm_wT (j := 2) h (by decide) (fun j' hj' hne => (mm_ct_u hj' (fun _ => Or.inr trivial) (fun _ => by omega) (fun _ => by omega) (fun _ => by omega) (fun _ => by omega) (fun _ => by omega) (fun _ => by omega) (fun _ => by omega) (fun _ => by omega) (fun _ => by omega) (fun _ => by omega) (fun _ => by omega) (fun _ => by omega) (fun _ => by omega) (fun _ => by omega)))]
  simp only [mm_ct, mm_pI_at]
  rw [mm_nI_upd]
theorem mw_t5 (S : sw_S) {t i v : Nat} (h : t < 3) (hi : i < 16) : sw_sI (mk S) (mm_tn t 5) (nI i) (nI v) = some (mk (mm_pI S t (mm_u (S.1 t) 2 i v))) := by
  rw [mm_sI (mm_tn_lt h (by decide)) (mm_at h (by decide)) hi (by decide), ← mm_wT (j := 5) h (by decide) (fun j' hj' hne => (mm_ct_u hj' (fun _ => Or.inr trivial) (fun _ => by omega) (fun _ => by omega) (fun _ => by omega) (fun _ => by omega) (fun _ => by omega) (fun _ => by omega) (fun _ => by omega) (fun _ => by omega) (fun _ => by omega) (fun _ => by omega) (fun _ => by omega) (fun _ => by omega) (fun _ => by omega) (fun _ => by omega)))]
  simp only [mm_ct, mm_pI_at]
  rw [mm_nI_upd]
theorem mw_t6 (S : sw_S) {t i v : Nat} (h : t < 3) (hi : i < 16) : sw_sI (mk S) (mm_tn t 6) (nI i) (nI v) = some (mk (mm_pI S t (mm_u (S.1 t) 3 i v))) := by
  rw [mm_sI (mm_tn_lt h (by decide)) (mm_at h (by decide)) hi (by decide), ← mm_wT (j := 6) h (by decide) (fun j' hj' hne => (mm_ct_u hj' (fun _ => Or.inr trivial) (fun _ => by omega) (fun _ => by omega) (fun _ => by omega) (fun _ => by omega) (fun _ => by omega) (fun _ => by omega) (fun _ => by omega) (fun _ => by omega) (fun _ => by omega) (fun _ => by omega) (fun _ => by omega) (fun _ => by omega) (fun _ => by omega) (fun _ => by omega)))]
  simp only [mm_ct, mm_pI_at]
  rw [mm_nI_upd]
theorem mw_t7 (S : sw_S) {t i v : Nat} (h : t < 3) (hi : i < 16) : sw_sI (mk S) (mm_tn t 7) (nI i) (nI v) = some (mk (mm_pI S t (mm_u (S.1 t) 4 i v))) := by
  rw [mm_sI (mm_tn_lt h (by decide)) (mm_at h (by decide)) hi (by decide), ← mm_wT (j := 7) h (by decide) (fun j' hj' hne => (mm_ct_u hj' (fun _ => Or.inr trivial) (fun _ => by omega) (fun _ => by omega) (fun _ => by omega) (fun _ => by omega) (fun _ => by omega) (fun _ => by omega) (fun _ => by omega) (fun _ => by omega) (fun _ => by omega) (fun _ => by omega) (fun _ => by omega) (fun _ => by omega) (fun _ => by omega) (fun _ => by omega)))]
  simp only [mm_ct, mm_pI_at]
  rw [mm_nI_upd]
theorem mw_t8 (S : sw_S) {t i v : Nat} (h : t < 3) (hi : i < 16) : sw_sI (mk S) (mm_tn t 8) (nI i) (nI v) = some (mk (mm_pI S t (mm_u (S.1 t) 5 i v))) := by
  rw [mm_sI (mm_tn_lt h (by decide)) (mm_at h (by decide)) hi (by decide), ← mm_wT (j := 8) h (by decide) (fun j' hj' hne => (mm_ct_u hj' (fun _ => Or.inr trivial) (fun _ => by omega) (fun _ => by omega) (fun _ => by omega) (fun _ => by omega) (fun _ => by omega) (fun _ => by omega) (fun _ => by omega) (fun _ => by omega) (fun _ => by omega) (fun _ => by omega) (fun _ => by omega) (fun _ => by omega) (fun _ => by omega) (fun _ => by omega)))]
  simp only [mm_ct, mm_pI_at]
  rw [mm_nI_upd]
theorem mw_t10 (S : sw_S) {t i v : Nat} (h : t < 3) (hi : i < 16) : sw_sI (mk S) (mm_tn t 10) (nI i) (nI v) = some (mk (mm_pI S t (mm_u (S.1 t) 7 i v))) := by
  rw [mm_sI (mm_tn_lt h (by decide)) (mm_at h (by decide)) hi (by decide), ← mm_wT (j := 10) h (by decide) (fun j' hj' hne => (mm_ct_u hj' (fun _ => Or.inr trivial) (fun _ => by omega) (fun _ => by omega) (fun _ => by omega) (fun _ => by omega) (fun _ => by omega) (fun _ => by omega) (fun _ => by omega) (fun _ => by omega) (fun _ => by omega) (fun _ => by omega) (fun _ => by omega) (fun _ => by omega) (fun _ => by omega) (fun _ => by omega)))]
  simp only [mm_ct, mm_pI_at]
  rw [mm_nI_upd]
theorem mw_t11 (S : sw_S) {t i v : Nat} (h : t < 3) (hi : i < 96) : sw_sI (mk S) (mm_tn t 11) (nI i) (nI v) = some (mk (mm_pI S t (mm_u (S.1 t) 8 i v))) := by
  rw [mm_sI (mm_tn_lt h (by decide)) (mm_at h (by decide)) hi (by decide), ← mm_wT (j := 11) h (by decide) (fun j' hj' hne => (mm_ct_u hj' (fun _ => Or.inr trivial) (fun _ => by omega) (fun _ => by omega) (fun _ => by omega) (fun _ => by omega) (fun _ => by omega) (fun _ => by omega) (fun _ => by omega) (fun _ => by omega) (fun _ => by omega) (fun _ => by omega) (fun _ => by omega) (fun _ => by omega) (fun _ => by omega) (fun _ => by omega)))]
  simp only [mm_ct, mm_pI_at]
  rw [mm_nI_upd]
theorem mw_t13 (S : sw_S) {t i v : Nat} (h : t < 3) (hi : i < 24) : sw_sI (mk S) (mm_tn t 13) (nI i) (nI v) = some (mk (mm_pI S t (mm_u (S.1 t) 9 i v))) := by
  rw [mm_sI (mm_tn_lt h (by decide)) (mm_at h (by decide)) hi (by decide), ← mm_wT (j := 13) h (by decide) (fun j' hj' hne => (mm_ct_u hj' (fun _ => Or.inr trivial) (fun _ => by omega) (fun _ => by omega) (fun _ => by omega) (fun _ => by omega) (fun _ => by omega) (fun _ => by omega) (fun _ => by omega) (fun _ => by omega) (fun _ => by omega) (fun _ => by omega) (fun _ => by omega) (fun _ => by omega) (fun _ => by omega) (fun _ => by omega)))]
  simp only [mm_ct, mm_pI_at]
  rw [mm_nI_upd]
theorem mw_t14 (S : sw_S) {t i v : Nat} (h : t < 3) (hi : i < 24) : sw_sI (mk S) (mm_tn t 14) (nI i) (nI v) = some (mk (mm_pI S t (mm_u (S.1 t) 10 i v))) := by
  rw [mm_sI (mm_tn_lt h (by decide)) (mm_at h (by decide)) hi (by decide), ← mm_wT (j := 14) h (by decide) (fun j' hj' hne => (mm_ct_u hj' (fun _ => Or.inr trivial) (fun _ => by omega) (fun _ => by omega) (fun _ => by omega) (fun _ => by omega) (fun _ => by omega) (fun _ => by omega) (fun _ => by omega) (fun _ => by omega) (fun _ => by omega) (fun _ => by omega) (fun _ => by omega) (fun _ => by omega) (fun _ => by omega) (fun _ => by omega)))]
  simp only [mm_ct, mm_pI_at]
  rw [mm_nI_upd]
theorem mw_t15 (S : sw_S) {t i v : Nat} (h : t < 3) (hi : i < 24) : sw_sI (mk S) (mm_tn t 15) (nI i) (nI v) = some (mk (mm_pI S t (mm_u (S.1 t) 11 i v))) := by
  rw [mm_sI (mm_tn_lt h (by decide)) (mm_at h (by decide)) hi (by decide), ← mm_wT (j := 15) h (by decide) (fun j' hj' hne => (mm_ct_u hj' (fun _ => Or.inr trivial) (fun _ => by omega) (fun _ => by omega) (fun _ => by omega) (fun _ => by omega) (fun _ => by omega) (fun _ => by omega) (fun _ => by omega) (fun _ => by omega) (fun _ => by omega) (fun _ => by omega) (fun _ => by omega) (fun _ => by omega) (fun _ => by omega) (fun _ => by omega)))]
  simp only [mm_ct, mm_pI_at]
  rw [mm_nI_upd]
theorem mw_t16 (S : sw_S) {t i v : Nat} (h : t < 3) (hi : i < 24) : sw_sI (mk S) (mm_tn t 16) (nI i) (nI v) = some (mk (mm_pI S t (mm_u (S.1 t) 12 i v))) := by
  rw [mm_sI (mm_tn_lt h (by decide)) (mm_at h (by decide)) hi (by decide), ← mm_wT (j := 16) h (by decide) (fun j' hj' hne => (mm_ct_u hj' (fun _ => Or.inr trivial) (fun _ => by omega) (fun _ => by omega) (fun _ => by omega) (fun _ => by omega) (fun _ => by omega) (fun _ => by omega) (fun _ => by omega) (fun _ => by omega) (fun _ => by omega) (fun _ => by omega) (fun _ => by omega) (fun _ => by omega) (fun _ => by omega) (fun _ => by omega)))]
  simp only [mm_ct, mm_pI_at]
  rw [mm_nI_upd]
theorem mw_t17 (S : sw_S) {t i v : Nat} (h : t < 3) (hi : i < 24) : sw_sI (mk S) (mm_tn t 17) (nI i) (nI v) = some (mk (mm_pI S t (mm_u (S.1 t) 13 i v))) := by
  rw [mm_sI (mm_tn_lt h (by decide)) (mm_at h (by decide)) hi (by decide), ← mm_wT (j := 17) h (by decide) (fun j' hj' hne => (mm_ct_u hj' (fun _ => Or.inr trivial) (fun _ => by omega) (fun _ => by omega) (fun _ => by omega) (fun _ => by omega) (fun _ => by omega) (fun _ => by omega) (fun _ => by omega) (fun _ => by omega) (fun _ => by omega) (fun _ => by omega) (fun _ => by omega) (fun _ => by omega) (fun _ => by omega) (fun _ => by omega)))]
  simp only [mm_ct, mm_pI_at]
  rw [mm_nI_upd]
theorem mw_t9 (S : sw_S) {t i v : Nat} (h : t < 3) (hi : i < 16) (hv : v ≤ 1) : sw_sB (mk S) (mm_tn t 9) (nI i) (nI v) = some (mk (mm_pI S t (mm_u (S.1 t) 6 i v))) := by
  rw [mm_sB (mm_tn_lt h (by decide)) (mm_at h (by decide)) hi (by decide), ← mm_wT (j := 9) h (by decide) (fun j' hj' hne => (mm_ct_u hj' (fun _ => Or.inr trivial) (fun _ => by omega) (fun _ => by omega) (fun _ => by omega) (fun _ => by omega) (fun _ => by omega) (fun _ => by omega) (fun _ => by omega) (fun _ => by omega) (fun _ => by omega) (fun _ => by omega) (fun _ => by omega) (fun _ => by omega) (fun _ => by omega) (fun _ => by omega)))]
  simp only [mm_ct, mm_pI_at]
  rw [mm_nI_upd, mm_nar01 hv]
theorem mw_t0_3 (S : sw_S) {t v : Nat} (h : t < 3) : sw_pF (mk S) (mm_tn t 0) 6 3 (.int (nI v)) = some (mk (mm_pI S t (mm_u (S.1 t) 0 4 v))) := by
  rw [mm_pF (mm_tn_lt h (by decide)) (mm_at h (by decide)) (Nat.le_of_ble_eq_true rfl) rfl, ← mm_wT (j := 0) h (by decide) (fun j' hj' hne => (mm_ct_u hj' (fun _ => Or.inr trivial) (fun _ => by omega) (fun _ => by omega) (fun _ => by omega) (fun _ => by omega) (fun _ => by omega) (fun _ => by omega) (fun _ => by omega) (fun _ => by omega) (fun _ => by omega) (fun _ => by omega) (fun _ => by omega) (fun _ => by omega) (fun _ => by omega) (fun _ => by omega)))]
  simp [mm_ct, mm_pI_at, mm_u]
theorem mw_t0_4 (S : sw_S) {t v : Nat} (h : t < 3) : sw_pF (mk S) (mm_tn t 0) 6 4 (.int (nI v)) = some (mk (mm_pI S t (mm_u (S.1 t) 0 5 v))) := by
  rw [mm_pF (mm_tn_lt h (by decide)) (mm_at h (by decide)) (Nat.le_of_ble_eq_true rfl) rfl, ← mm_wT (j := 0) h (by decide) (fun j' hj' hne => (mm_ct_u hj' (fun _ => Or.inr trivial) (fun _ => by omega) (fun _ => by omega) (fun _ => by omega) (fun _ => by omega) (fun _ => by omega) (fun _ => by omega) (fun _ => by omega) (fun _ => by omega) (fun _ => by omega) (fun _ => by omega) (fun _ => by omega) (fun _ => by omega) (fun _ => by omega) (fun _ => by omega)))]
  simp [mm_ct, mm_pI_at, mm_u]
theorem mw_t0_5 (S : sw_S) {t v : Nat} (h : t < 3) : sw_pF (mk S) (mm_tn t 0) 6 5 (.int (nI v)) = some (mk (mm_pI S t (mm_u (S.1 t) 0 3 v))) := by
  rw [mm_pF (mm_tn_lt h (by decide)) (mm_at h (by decide)) (Nat.le_of_ble_eq_true rfl) rfl, ← mm_wT (j := 0) h (by decide) (fun j' hj' hne => (mm_ct_u hj' (fun _ => Or.inr trivial) (fun _ => by omega) (fun _ => by omega) (fun _ => by omega) (fun _ => by omega) (fun _ => by omega) (fun _ => by omega) (fun _ => by omega) (fun _ => by omega) (fun _ => by omega) (fun _ => by omega) (fun _ => by omega) (fun _ => by omega) (fun _ => by omega) (fun _ => by omega)))]
  simp [mm_ct, mm_pI_at, mm_u]
theorem mw_t1_2 (S : sw_S) {t v : Nat} (h : t < 3) : sw_pF (mk S) (mm_tn t 1) 0 2 (.int (nI v)) = some (mk (mm_pI S t (mm_u (S.1 t) 0 0 v))) := by
  rw [mm_pF (mm_tn_lt h (by decide)) (mm_at h (by decide)) (Nat.le_of_ble_eq_true rfl) rfl, ← mm_wT (j := 1) h (by decide) (fun j' hj' hne => (mm_ct_u hj' (fun _ => Or.inr trivial) (fun _ => by omega) (fun _ => by omega) (fun _ => by omega) (fun _ => by omega) (fun _ => by omega) (fun _ => by omega) (fun _ => by omega) (fun _ => by omega) (fun _ => by omega) (fun _ => by omega) (fun _ => by omega) (fun _ => by omega) (fun _ => by omega) (fun _ => by omega)))]
  simp [mm_ct, mm_pI_at, mm_u]
theorem mw_t4_7 (S : sw_S) {t v : Nat} (h : t < 3) : sw_pF (mk S) (mm_tn t 4) 5 7 (.int (nI v)) = some (mk (mm_pI S t (mm_u (S.1 t) 0 1 v))) := by
  rw [mm_pF (mm_tn_lt h (by decide)) (mm_at h (by decide)) (Nat.le_of_ble_eq_true rfl) rfl, ← mm_wT (j := 4) h (by decide) (fun j' hj' hne => (mm_ct_u hj' (fun _ => Or.inr trivial) (fun _ => by omega) (fun _ => by omega) (fun _ => by omega) (fun _ => by omega) (fun _ => by omega) (fun _ => by omega) (fun _ => by omega) (fun _ => by omega) (fun _ => by omega) (fun _ => by omega) (fun _ => by omega) (fun _ => by omega) (fun _ => by omega) (fun _ => by omega)))]
  simp [mm_ct, mm_pI_at, mm_u]
theorem mw_t12_5 (S : sw_S) {t v : Nat} (h : t < 3) : sw_pF (mk S) (mm_tn t 12) 1 5 (.int (nI v)) = some (mk (mm_pI S t (mm_u (S.1 t) 0 2 v))) := by
  rw [mm_pF (mm_tn_lt h (by decide)) (mm_at h (by decide)) (Nat.le_of_ble_eq_true rfl) rfl, ← mm_wT (j := 12) h (by decide) (fun j' hj' hne => (mm_ct_u hj' (fun _ => Or.inr trivial) (fun _ => by omega) (fun _ => by omega) (fun _ => by omega) (fun _ => by omega) (fun _ => by omega) (fun _ => by omega) (fun _ => by omega) (fun _ => by omega) (fun _ => by omega) (fun _ => by omega) (fun _ => by omega) (fun _ => by omega) (fun _ => by omega) (fun _ => by omega)))]
  simp [mm_ct, mm_pI_at, mm_u]
/-- a town's longs -/
theorem mw_t3 (S : sw_S) {t i : Nat} {x : Int64} (h : t < 3) (hi : i < 10) : sw_sL (mk S) (mm_tn t 3) (nI i) x = some (mk (mm_pL S t (vp_updL (S.2.1 t) i x))) := by
  rw [mm_sL (mm_tn_lt h (by decide)) (mm_at h (by decide)) hi (by decide)]
  congr 1
  have key : ∀ q, q ≠ mm_tn t 3 → mm_cl (mm_pL S t (vp_updL (S.2.1 t) i x)) q = mm_cl S q := by
    intro q hq
    unfold mm_cl
    split
    · next hr =>
      unfold mm_ct
      split <;> first | rfl | skip
      · next h3 =>
        have hne : (q - 1) / 18 ≠ t := fun e => hq (by unfold mm_tn; omega)
        rw [mm_pL_ne S _ hne]
    · split
      · next hr => 
        have h1 : (mm_pL S t (vp_updL (S.2.1 t) i x)).2.1 (6 + (q - 62) / 2) = S.2.1 (6 + (q - 62) / 2) := mm_pL_ne S _ (by omega)
        rw [h1]; rfl
      · unfold mm_cr
        split <;> first | rfl | (rw [mm_pL_ne S _ (by omega)]; done) | skip
        · simp only [mm_pL]; congr 1; funext j; rw [if_neg (by omega)]
  refine mm_sCe (fun q _ => ?_) (mm_tn_lt h (by decide))
  split
  · next e => rw [e, mm_at h (by decide)]; simp only [mm_ct, mm_pL_at]
  · next e => exact key q e
