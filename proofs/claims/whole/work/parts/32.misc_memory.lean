theorem mr_misc (E : sw_E) (S : sw_S) : sw_isC E (mk S) 0 7 = true ∧ sw_gF E (mk S) 0 7 0 = some (.ref (mm_tn 0 0)) ∧ sw_gF E (mk S) 0 7 1 = some (.ref (mm_tn 1 0)) ∧ sw_gF E (mk S) 0 7 2 = some (.ref (mm_tn 2 0)) ∧ sw_gF E (mk S) 0 7 3 = some (.ref 55) ∧ sw_gF E (mk S) 0 7 4 = some (.ref 59) ∧ sw_gF E (mk S) 0 7 5 = some (.ref 61) ∧ sw_gF E (mk S) 0 7 6 = some (.ref 70) ∧ sw_gF E (mk S) 0 7 7 = some (.int (S.2.2 9 0)) ∧ sw_isC E (mk S) 55 2 = true ∧ sw_gF E (mk S) 55 2 0 = some (.ref 56) ∧ sw_gF E (mk S) 55 2 1 = some (.ref 57) ∧ sw_gF E (mk S) 55 2 2 = some (.ref 58) ∧ sw_gF E (mk S) 55 2 3 = some (.int (S.2.2 3 0)) ∧ sw_isC E (mk S) 59 4 = true ∧ sw_gF E (mk S) 59 4 0 = some (.ref 60) ∧ sw_gF E (mk S) 59 4 1 = some (.int (S.2.2 5 0)) ∧ sw_gF E (mk S) 59 4 2 = some (.int (S.2.2 5 1)) ∧ sw_gF E (mk S) 59 4 3 = some (.int (S.2.2 5 2)) ∧ sw_gF E (mk S) 59 4 4 = some (.int (S.2.2 5 3)) ∧ sw_gF E (mk S) 59 4 5 = some (.int (S.2.2 5 4)) ∧ sw_isC E (mk S) 71 8 = true ∧ sw_gF E (mk S) 71 8 0 = some (.ref 72) ∧ sw_gF E (mk S) 71 8 1 = some (.ref 73) ∧ sw_gF E (mk S) 71 8 2 = some (.ref 74) ∧ sw_gF E (mk S) 71 8 3 = some (.ref 75) ∧ sw_gF E (mk S) 71 8 4 = some (.ref 76) ∧ sw_gF E (mk S) 71 8 5 = some (.ref 77) ∧ sw_gF E (mk S) 71 8 6 = some (.ref 78) ∧ sw_gF E (mk S) 71 8 7 = some (.int (S.2.2 21 0)) ∧ sw_gF E (mk S) 71 8 8 = some (.ref 79) ∧ sw_gF E (mk S) 71 8 9 = some (.ref 80) ∧ sw_gF E (mk S) 71 8 10 = some (.ref 81) ∧ sw_gF E (mk S) 71 8 11 = some (.int (S.2.2 25 0)) ∧ sw_gF E (mk S) 71 8 12 = some (.int (S.2.2 25 1)) ∧ sw_gF E (mk S) 71 8 13 = some (.int (S.2.2 25 2)) ∧ sw_gF E (mk S) 71 8 14 = some (.int (S.2.2 25 3)) ∧ sw_gF E (mk S) 71 8 15 = some (.int (S.2.2 25 4)) ∧ sw_gF E (mk S) 71 8 16 = some (.ref 82) ∧ sw_gF E (mk S) 71 8 17 = some (.ref 83) ∧ sw_gF E (mk S) 71 8 18 = some (.ref 84) ∧ sw_gF E (mk S) 71 8 19 = some (.ref 85) ∧ (∀ i, i < 10 → sw_aI E (mk S) 56 (nI i) = some (.int (S.2.2 0 i))) ∧ (∀ i, i < 10 → sw_aI E (mk S) 57 (nI i) = some (.int (S.2.2 1 i))) ∧ (∀ i, i < 10 → sw_aI E (mk S) 58 (nI i) = some (.int (S.2.2 2 i))) ∧ (∀ i, i < 100 → sw_aI E (mk S) 60 (nI i) = some (.int (S.2.2 4 i))) ∧ (∀ i, i < 7 → sw_aI E (mk S) 70 (nI i) = some (.int (S.2.2 8 i))) ∧ (∀ i, i < 7 → sw_aI E (mk S) 75 (nI i) = some (.int (S.2.2 20 i))) ∧ (∀ i, i < 10 → sw_aI E (mk S) 79 (nI i) = some (.int (S.2.2 22 i))) ∧ (∀ i, i < 10 → sw_aI E (mk S) 80 (nI i) = some (.int (S.2.2 23 i))) ∧ (∀ i, i < 100 → sw_aI E (mk S) 81 (nI i) = some (.int (S.2.2 24 i))) ∧ (∀ i, i < 4 → sw_aI E (mk S) 82 (nI i) = some (.int (S.2.2 26 i))) ∧ (∀ i, i < 4 → sw_aI E (mk S) 83 (nI i) = some (.int (S.2.2 27 i))) ∧ (∀ i, i < 10 → sw_aL (mk S) 76 (nI i) = some (.long (S.2.1 3 i))) ∧ (∀ i, i < 10 → sw_aL (mk S) 77 (nI i) = some (.long (S.2.1 4 i))) ∧ (∀ i, i < 10 → sw_aL (mk S) 78 (nI i) = some (.long (S.2.1 5 i))) ∧ (∀ i, i < 40 → sw_aL (mk S) 85 (nI i) = some (.long (S.2.1 14 i))) ∧ (∀ i, i < 160 → sw_aL (mk S) 84 (nI i) = some (.long (S.2.1 (10 + i / 40) (i % 40)))) ∧ (∀ i, i < 328 → sw_aI E (mk S) 72 (nI i) = some (.int (mm_fl (S.1 3) i))) ∧ (∀ i, i < 328 → sw_aI E (mk S) 73 (nI i) = some (.int (mm_fl (S.1 4) i))) ∧ (∀ i, i < 328 → sw_aI E (mk S) 74 (nI i) = some (.int (mm_fl (S.1 5) i))) := ⟨mm_isC (by decide) (show mm_cl S 0 = mm_cr S 0 from rfl), mm_gF (by decide) (show mm_cl S 0 = mm_cr S 0 from rfl) rfl, mm_gF (by decide) (show mm_cl S 0 = mm_cr S 0 from rfl) rfl, mm_gF (by decide) (show mm_cl S 0 = mm_cr S 0 from rfl) rfl, mm_gF (by decide) (show mm_cl S 0 = mm_cr S 0 from rfl) rfl, mm_gF (by decide) (show mm_cl S 0 = mm_cr S 0 from rfl) rfl, mm_gF (by decide) (show mm_cl S 0 = mm_cr S 0 from rfl) rfl, mm_gF (by decide) (show mm_cl S 0 = mm_cr S 0 from rfl) rfl, mm_gF (by decide) (show mm_cl S 0 = mm_cr S 0 from rfl) rfl, mm_isC (by decide) (show mm_cl S 55 = mm_cr S 55 from rfl), mm_gF (by decide) (show mm_cl S 55 = mm_cr S 55 from rfl) rfl, mm_gF (by decide) (show mm_cl S 55 = mm_cr S 55 from rfl) rfl, mm_gF (by decide) (show mm_cl S 55 = mm_cr S 55 from rfl) rfl, mm_gF (by decide) (show mm_cl S 55 = mm_cr S 55 from rfl) rfl, mm_isC (by decide) (show mm_cl S 59 = mm_cr S 59 from rfl), mm_gF (by decide) (show mm_cl S 59 = mm_cr S 59 from rfl) rfl, mm_gF (by decide) (show mm_cl S 59 = mm_cr S 59 from rfl) rfl, mm_gF (by decide) (show mm_cl S 59 = mm_cr S 59 from rfl) rfl, mm_gF (by decide) (show mm_cl S 59 = mm_cr S 59 from rfl) rfl, mm_gF (by decide) (show mm_cl S 59 = mm_cr S 59 from rfl) rfl, mm_gF (by decide) (show mm_cl S 59 = mm_cr S 59 from rfl) rfl, mm_isC (by decide) (show mm_cl S 71 = mm_cr S 71 from rfl), mm_gF (by decide) (show mm_cl S 71 = mm_cr S 71 from rfl) rfl, mm_gF (by decide) (show mm_cl S 71 = mm_cr S 71 from rfl) rfl, mm_gF (by decide) (show mm_cl S 71 = mm_cr S 71 from rfl) rfl, mm_gF (by decide) (show mm_cl S 71 = mm_cr S 71 from rfl) rfl, mm_gF (by decide) (show mm_cl S 71 = mm_cr S 71 from rfl) rfl, mm_gF (by decide) (show mm_cl S 71 = mm_cr S 71 from rfl) rfl, mm_gF (by decide) (show mm_cl S 71 = mm_cr S 71 from rfl) rfl, mm_gF (by decide) (show mm_cl S 71 = mm_cr S 71 from rfl) rfl, mm_gF (by decide) (show mm_cl S 71 = mm_cr S 71 from rfl) rfl, mm_gF (by decide) (show mm_cl S 71 = mm_cr S 71 from rfl) rfl, mm_gF (by decide) (show mm_cl S 71 = mm_cr S 71 from rfl) rfl, mm_gF (by decide) (show mm_cl S 71 = mm_cr S 71 from rfl) rfl, mm_gF (by decide) (show mm_cl S 71 = mm_cr S 71 from rfl) rfl, mm_gF (by decide) (show mm_cl S 71 = mm_cr S 71 from rfl) rfl, mm_gF (by decide) (show mm_cl S 71 = mm_cr S 71 from rfl) rfl, mm_gF (by decide) (show mm_cl S 71 = mm_cr S 71 from rfl) rfl, mm_gF (by decide) (show mm_cl S 71 = mm_cr S 71 from rfl) rfl, mm_gF (by decide) (show mm_cl S 71 = mm_cr S 71 from rfl) rfl, mm_gF (by decide) (show mm_cl S 71 = mm_cr S 71 from rfl) rfl, mm_gF (by decide) (show mm_cl S 71 = mm_cr S 71 from rfl) rfl, fun _ hi => mm_aI (by decide) (show mm_cl S 56 = mm_cr S 56 from rfl) hi (by decide), fun _ hi => mm_aI (by decide) (show mm_cl S 57 = mm_cr S 57 from rfl) hi (by decide), fun _ hi => mm_aI (by decide) (show mm_cl S 58 = mm_cr S 58 from rfl) hi (by decide), fun _ hi => mm_aI (by decide) (show mm_cl S 60 = mm_cr S 60 from rfl) hi (by decide), fun _ hi => mm_aI (by decide) (show mm_cl S 70 = mm_cr S 70 from rfl) hi (by decide), fun _ hi => mm_aI (by decide) (show mm_cl S 75 = mm_cr S 75 from rfl) hi (by decide), fun _ hi => mm_aI (by decide) (show mm_cl S 79 = mm_cr S 79 from rfl) hi (by decide), fun _ hi => mm_aI (by decide) (show mm_cl S 80 = mm_cr S 80 from rfl) hi (by decide), fun _ hi => mm_aI (by decide) (show mm_cl S 81 = mm_cr S 81 from rfl) hi (by decide), fun _ hi => mm_aI (by decide) (show mm_cl S 82 = mm_cr S 82 from rfl) hi (by decide), fun _ hi => mm_aI (by decide) (show mm_cl S 83 = mm_cr S 83 from rfl) hi (by decide), fun _ hi => mm_aL (by decide) (show mm_cl S 76 = mm_cr S 76 from rfl) hi (by decide), fun _ hi => mm_aL (by decide) (show mm_cl S 77 = mm_cr S 77 from rfl) hi (by decide), fun _ hi => mm_aL (by decide) (show mm_cl S 78 = mm_cr S 78 from rfl) hi (by decide), fun _ hi => mm_aL (by decide) (show mm_cl S 85 = mm_cr S 85 from rfl) hi (by decide), fun _ hi => mm_aL (by decide) (show mm_cl S 84 = mm_cr S 84 from rfl) hi (by decide), fun _ hi => mm_aI (by decide) (show mm_cl S 72 = mm_cr S 72 from rfl) hi (by decide), fun _ hi => mm_aI (by decide) (show mm_cl S 73 = mm_cr S 73 from rfl) hi (by decide), fun _ hi => mm_aI (by decide) (show mm_cl S 74 = mm_cr S 74 from rfl) hi (by decide)⟩
theorem mm_sh_lt {s : Nat} (h : s < 4) : mm_sh s < 86 := by unfold mm_sh; omega
theorem mm_sr_lt {s : Nat} (h : s < 4) : mm_sr s < 86 := by unfold mm_sr; omega
theorem mr_sheet (E : sw_E) (S : sw_S) (s : Nat) (h : s < 4) : sw_isC E (mk S) (mm_sh s) 3 = true ∧ sw_gF E (mk S) (mm_sh s) 3 0 = some (.ref (mm_sr s)) ∧ sw_gF E (mk S) (mm_sh s) 3 1 = some (.int (S.2.2 6 s)) ∧ sw_gF E (mk S) (mm_sh s) 3 2 = some (.int (S.2.2 7 s)) ∧ (∀ i, i < 40 → sw_aL (mk S) (mm_sr s) (nI i) = some (.long (S.2.1 (6 + s) i))) ∧ sw_aA (mk S) 61 (nI s) = some (.ref (mm_sh s)) := by
  refine ⟨mm_isC (mm_sh_lt h) (mm_at_sh h), mm_gF (mm_sh_lt h) (mm_at_sh h) rfl, mm_gF (mm_sh_lt h) (mm_at_sh h) rfl, mm_gF (mm_sh_lt h) (mm_at_sh h) rfl, fun i hi => mm_aL (mm_sr_lt h) (mm_at_sr h) hi (by decide), ?_⟩
  have h1 : (nI s).toNatClampNeg = s := nI_clamp (by omega)
  have h2 : ¬ nI s < 0 := nI_pos (by omega)
  unfold sw_aA
  rw [if_pos (show 61 < (mk S).2.2.1 from Nat.le_of_ble_eq_true rfl)]
  show (if RX3 = RX3 then (if nI s < 0 ∨ 4 ≤ (nI s).toNatClampNeg then none else some (va_rf (if (nI s).toNatClampNeg < 4 then some (mm_sh (nI s).toNatClampNeg) else none))) else none) = _
  rw [if_pos rfl, h1, if_neg (fun q => q.elim h2 (fun b => by omega)), if_pos h]
  rfl
theorem mm_pM_ct {S : sw_S} {f : Nat} {g : Nat → Int32} (t j : Nat) : mm_ct (mm_pM S f g) t j = mm_ct S t j := rfl
theorem mm_wM0 {S : sw_S} {g : Nat → Int32} {c : sw_AC} (hc : mm_cr (mm_pM S 0 g) 56 = c) : sw_sC (mk S) 56 c = mk (mm_pM S 0 g) := by
  have key : ∀ q, q ≠ 56 → mm_cl (mm_pM S 0 g) q = mm_cl S q := by
    intro q hq
    unfold mm_cl
    split
    · rfl
    · split
      · have e6 : (mm_pM S 0 g).2.2 6 = S.2.2 6 := mm_pM_ne S g (by decide)
        have e7 : (mm_pM S 0 g).2.2 7 = S.2.2 7 := mm_pM_ne S g (by decide)
        rw [e6, e7]; rfl
      · unfold mm_cr
        split <;> first | rfl | exact absurd rfl hq | (simp only [mm_pM]; (repeat rw [if_neg (by decide)]); done)
  refine mm_sCe (fun q _ => ?_) (by decide)
  split
  · next e => subst e; exact hc
  · next e => exact key q e
theorem mm_wM1 {S : sw_S} {g : Nat → Int32} {c : sw_AC} (hc : mm_cr (mm_pM S 1 g) 57 = c) : sw_sC (mk S) 57 c = mk (mm_pM S 1 g) := by
  have key : ∀ q, q ≠ 57 → mm_cl (mm_pM S 1 g) q = mm_cl S q := by
    intro q hq
    unfold mm_cl
    split
    · rfl
    · split
      · have e6 : (mm_pM S 1 g).2.2 6 = S.2.2 6 := mm_pM_ne S g (by decide)
        have e7 : (mm_pM S 1 g).2.2 7 = S.2.2 7 := mm_pM_ne S g (by decide)
        rw [e6, e7]; rfl
      · unfold mm_cr
        split <;> first | rfl | exact absurd rfl hq | (simp only [mm_pM]; (repeat rw [if_neg (by decide)]); done)
  refine mm_sCe (fun q _ => ?_) (by decide)
  split
  · next e => subst e; exact hc
  · next e => exact key q e
theorem mm_wM2 {S : sw_S} {g : Nat → Int32} {c : sw_AC} (hc : mm_cr (mm_pM S 2 g) 58 = c) : sw_sC (mk S) 58 c = mk (mm_pM S 2 g) := by
  have key : ∀ q, q ≠ 58 → mm_cl (mm_pM S 2 g) q = mm_cl S q := by
    intro q hq
    unfold mm_cl
    split
    · rfl
    · split
      · have e6 : (mm_pM S 2 g).2.2 6 = S.2.2 6 := mm_pM_ne S g (by decide)
        have e7 : (mm_pM S 2 g).2.2 7 = S.2.2 7 := mm_pM_ne S g (by decide)
        rw [e6, e7]; rfl
      · unfold mm_cr
        split <;> first | rfl | exact absurd rfl hq | (simp only [mm_pM]; (repeat rw [if_neg (by decide)]); done)
  refine mm_sCe (fun q _ => ?_) (by decide)
  split
  · next e => subst e; exact hc
  · next e => exact key q e
theorem mm_wM3 {S : sw_S} {g : Nat → Int32} {c : sw_AC} (hc : mm_cr (mm_pM S 3 g) 55 = c) : sw_sC (mk S) 55 c = mk (mm_pM S 3 g) := by
  have key : ∀ q, q ≠ 55 → mm_cl (mm_pM S 3 g) q = mm_cl S q := by
    intro q hq
    unfold mm_cl
    split
    · rfl
    · split
      · have e6 : (mm_pM S 3 g).2.2 6 = S.2.2 6 := mm_pM_ne S g (by decide)
        have e7 : (mm_pM S 3 g).2.2 7 = S.2.2 7 := mm_pM_ne S g (by decide)
        rw [e6, e7]; rfl
      · unfold mm_cr
        split <;> first | rfl | exact absurd rfl hq | (simp only [mm_pM]; (repeat rw [if_neg (by decide)]); done)
  refine mm_sCe (fun q _ => ?_) (by decide)
  split
  · next e => subst e; exact hc
  · next e => exact key q e
theorem mm_wM4 {S : sw_S} {g : Nat → Int32} {c : sw_AC} (hc : mm_cr (mm_pM S 4 g) 60 = c) : sw_sC (mk S) 60 c = mk (mm_pM S 4 g) := by
  have key : ∀ q, q ≠ 60 → mm_cl (mm_pM S 4 g) q = mm_cl S q := by
    intro q hq
    unfold mm_cl
    split
    · rfl
    · split
      · have e6 : (mm_pM S 4 g).2.2 6 = S.2.2 6 := mm_pM_ne S g (by decide)
        have e7 : (mm_pM S 4 g).2.2 7 = S.2.2 7 := mm_pM_ne S g (by decide)
        rw [e6, e7]; rfl
      · unfold mm_cr
        split <;> first | rfl | exact absurd rfl hq | (simp only [mm_pM]; (repeat rw [if_neg (by decide)]); done)
  refine mm_sCe (fun q _ => ?_) (by decide)
  split
  · next e => subst e; exact hc
  · next e => exact key q e
theorem mm_wM5 {S : sw_S} {g : Nat → Int32} {c : sw_AC} (hc : mm_cr (mm_pM S 5 g) 59 = c) : sw_sC (mk S) 59 c = mk (mm_pM S 5 g) := by
  have key : ∀ q, q ≠ 59 → mm_cl (mm_pM S 5 g) q = mm_cl S q := by
    intro q hq
    unfold mm_cl
    split
    · rfl
    · split
      · have e6 : (mm_pM S 5 g).2.2 6 = S.2.2 6 := mm_pM_ne S g (by decide)
        have e7 : (mm_pM S 5 g).2.2 7 = S.2.2 7 := mm_pM_ne S g (by decide)
        rw [e6, e7]; rfl
      · unfold mm_cr
        split <;> first | rfl | exact absurd rfl hq | (simp only [mm_pM]; (repeat rw [if_neg (by decide)]); done)
  refine mm_sCe (fun q _ => ?_) (by decide)
  split
  · next e => subst e; exact hc
  · next e => exact key q e
theorem mm_wM8 {S : sw_S} {g : Nat → Int32} {c : sw_AC} (hc : mm_cr (mm_pM S 8 g) 70 = c) : sw_sC (mk S) 70 c = mk (mm_pM S 8 g) := by
  have key : ∀ q, q ≠ 70 → mm_cl (mm_pM S 8 g) q = mm_cl S q := by
    intro q hq
    unfold mm_cl
    split
    · rfl
    · split
      · have e6 : (mm_pM S 8 g).2.2 6 = S.2.2 6 := mm_pM_ne S g (by decide)
        have e7 : (mm_pM S 8 g).2.2 7 = S.2.2 7 := mm_pM_ne S g (by decide)
        rw [e6, e7]; rfl
      · unfold mm_cr
        split <;> first | rfl | exact absurd rfl hq | (simp only [mm_pM]; (repeat rw [if_neg (by decide)]); done)
  refine mm_sCe (fun q _ => ?_) (by decide)
  split
  · next e => subst e; exact hc
  · next e => exact key q e
theorem mm_wM9 {S : sw_S} {g : Nat → Int32} {c : sw_AC} (hc : mm_cr (mm_pM S 9 g) 0 = c) : sw_sC (mk S) 0 c = mk (mm_pM S 9 g) := by
  have key : ∀ q, q ≠ 0 → mm_cl (mm_pM S 9 g) q = mm_cl S q := by
    intro q hq
    unfold mm_cl
    split
    · rfl
    · split
      · have e6 : (mm_pM S 9 g).2.2 6 = S.2.2 6 := mm_pM_ne S g (by decide)
        have e7 : (mm_pM S 9 g).2.2 7 = S.2.2 7 := mm_pM_ne S g (by decide)
        rw [e6, e7]; rfl
      · unfold mm_cr
        split <;> first | rfl | exact absurd rfl hq | (simp only [mm_pM]; (repeat rw [if_neg (by decide)]); done)
  refine mm_sCe (fun q _ => ?_) (by decide)
  split
  · next e => subst e; exact hc
  · next e => exact key q e
theorem mm_wM20 {S : sw_S} {g : Nat → Int32} {c : sw_AC} (hc : mm_cr (mm_pM S 20 g) 75 = c) : sw_sC (mk S) 75 c = mk (mm_pM S 20 g) := by
  have key : ∀ q, q ≠ 75 → mm_cl (mm_pM S 20 g) q = mm_cl S q := by
    intro q hq
    unfold mm_cl
    split
    · rfl
    · split
      · have e6 : (mm_pM S 20 g).2.2 6 = S.2.2 6 := mm_pM_ne S g (by decide)
        have e7 : (mm_pM S 20 g).2.2 7 = S.2.2 7 := mm_pM_ne S g (by decide)
        rw [e6, e7]; rfl
      · unfold mm_cr
        split <;> first | rfl | exact absurd rfl hq | (simp only [mm_pM]; (repeat rw [if_neg (by decide)]); done)
  refine mm_sCe (fun q _ => ?_) (by decide)
  split
  · next e => subst e; exact hc
  · next e => exact key q e
theorem mm_wM21 {S : sw_S} {g : Nat → Int32} {c : sw_AC} (hc : mm_cr (mm_pM S 21 g) 71 = c) : sw_sC (mk S) 71 c = mk (mm_pM S 21 g) := by
  have key : ∀ q, q ≠ 71 → mm_cl (mm_pM S 21 g) q = mm_cl S q := by
    intro q hq
    unfold mm_cl
    split
    · rfl
    · split
      · have e6 : (mm_pM S 21 g).2.2 6 = S.2.2 6 := mm_pM_ne S g (by decide)
        have e7 : (mm_pM S 21 g).2.2 7 = S.2.2 7 := mm_pM_ne S g (by decide)
        rw [e6, e7]; rfl
      · unfold mm_cr
        split <;> first | rfl | exact absurd rfl hq | (simp only [mm_pM]; (repeat rw [if_neg (by decide)]); done)
  refine mm_sCe (fun q _ => ?_) (by decide)
  split
  · next e => subst e; exact hc
  · next e => exact key q e
theorem mm_wM22 {S : sw_S} {g : Nat → Int32} {c : sw_AC} (hc : mm_cr (mm_pM S 22 g) 79 = c) : sw_sC (mk S) 79 c = mk (mm_pM S 22 g) := by
  have key : ∀ q, q ≠ 79 → mm_cl (mm_pM S 22 g) q = mm_cl S q := by
    intro q hq
    unfold mm_cl
    split
    · rfl
    · split
      · have e6 : (mm_pM S 22 g).2.2 6 = S.2.2 6 := mm_pM_ne S g (by decide)
        have e7 : (mm_pM S 22 g).2.2 7 = S.2.2 7 := mm_pM_ne S g (by decide)
        rw [e6, e7]; rfl
      · unfold mm_cr
        split <;> first | rfl | exact absurd rfl hq | (simp only [mm_pM]; (repeat rw [if_neg (by decide)]); done)
  refine mm_sCe (fun q _ => ?_) (by decide)
  split
  · next e => subst e; exact hc
  · next e => exact key q e
theorem mm_wM23 {S : sw_S} {g : Nat → Int32} {c : sw_AC} (hc : mm_cr (mm_pM S 23 g) 80 = c) : sw_sC (mk S) 80 c = mk (mm_pM S 23 g) := by
  have key : ∀ q, q ≠ 80 → mm_cl (mm_pM S 23 g) q = mm_cl S q := by
    intro q hq
    unfold mm_cl
    split
    · rfl
    · split
      · have e6 : (mm_pM S 23 g).2.2 6 = S.2.2 6 := mm_pM_ne S g (by decide)
        have e7 : (mm_pM S 23 g).2.2 7 = S.2.2 7 := mm_pM_ne S g (by decide)
        rw [e6, e7]; rfl
      · unfold mm_cr
        split <;> first | rfl | exact absurd rfl hq | (simp only [mm_pM]; (repeat rw [if_neg (by decide)]); done)
  refine mm_sCe (fun q _ => ?_) (by decide)
  split
  · next e => subst e; exact hc
  · next e => exact key q e
theorem mm_wM24 {S : sw_S} {g : Nat → Int32} {c : sw_AC} (hc : mm_cr (mm_pM S 24 g) 81 = c) : sw_sC (mk S) 81 c = mk (mm_pM S 24 g) := by
  have key : ∀ q, q ≠ 81 → mm_cl (mm_pM S 24 g) q = mm_cl S q := by
    intro q hq
    unfold mm_cl
    split
    · rfl
    · split
      · have e6 : (mm_pM S 24 g).2.2 6 = S.2.2 6 := mm_pM_ne S g (by decide)
        have e7 : (mm_pM S 24 g).2.2 7 = S.2.2 7 := mm_pM_ne S g (by decide)
        rw [e6, e7]; rfl
      · unfold mm_cr
        split <;> first | rfl | exact absurd rfl hq | (simp only [mm_pM]; (repeat rw [if_neg (by decide)]); done)
  refine mm_sCe (fun q _ => ?_) (by decide)
  split
  · next e => subst e; exact hc
  · next e => exact key q e
theorem mm_wM25 {S : sw_S} {g : Nat → Int32} {c : sw_AC} (hc : mm_cr (mm_pM S 25 g) 71 = c) : sw_sC (mk S) 71 c = mk (mm_pM S 25 g) := by
  have key : ∀ q, q ≠ 71 → mm_cl (mm_pM S 25 g) q = mm_cl S q := by
    intro q hq
    unfold mm_cl
    split
    · rfl
    · split
      · have e6 : (mm_pM S 25 g).2.2 6 = S.2.2 6 := mm_pM_ne S g (by decide)
        have e7 : (mm_pM S 25 g).2.2 7 = S.2.2 7 := mm_pM_ne S g (by decide)
        rw [e6, e7]; rfl
      · unfold mm_cr
        split <;> first | rfl | exact absurd rfl hq | (simp only [mm_pM]; (repeat rw [if_neg (by decide)]); done)
  refine mm_sCe (fun q _ => ?_) (by decide)
  split
  · next e => subst e; exact hc
  · next e => exact key q e
theorem mm_wM26 {S : sw_S} {g : Nat → Int32} {c : sw_AC} (hc : mm_cr (mm_pM S 26 g) 82 = c) : sw_sC (mk S) 82 c = mk (mm_pM S 26 g) := by
  have key : ∀ q, q ≠ 82 → mm_cl (mm_pM S 26 g) q = mm_cl S q := by
    intro q hq
    unfold mm_cl
    split
    · rfl
    · split
      · have e6 : (mm_pM S 26 g).2.2 6 = S.2.2 6 := mm_pM_ne S g (by decide)
        have e7 : (mm_pM S 26 g).2.2 7 = S.2.2 7 := mm_pM_ne S g (by decide)
        rw [e6, e7]; rfl
      · unfold mm_cr
        split <;> first | rfl | exact absurd rfl hq | (simp only [mm_pM]; (repeat rw [if_neg (by decide)]); done)
  refine mm_sCe (fun q _ => ?_) (by decide)
  split
  · next e => subst e; exact hc
  · next e => exact key q e
theorem mm_wM27 {S : sw_S} {g : Nat → Int32} {c : sw_AC} (hc : mm_cr (mm_pM S 27 g) 83 = c) : sw_sC (mk S) 83 c = mk (mm_pM S 27 g) := by
  have key : ∀ q, q ≠ 83 → mm_cl (mm_pM S 27 g) q = mm_cl S q := by
    intro q hq
    unfold mm_cl
    split
    · rfl
    · split
      · have e6 : (mm_pM S 27 g).2.2 6 = S.2.2 6 := mm_pM_ne S g (by decide)
        have e7 : (mm_pM S 27 g).2.2 7 = S.2.2 7 := mm_pM_ne S g (by decide)
        rw [e6, e7]; rfl
      · unfold mm_cr
        split <;> first | rfl | exact absurd rfl hq | (simp only [mm_pM]; (repeat rw [if_neg (by decide)]); done)
  refine mm_sCe (fun q _ => ?_) (by decide)
  split
  · next e => subst e; exact hc
  · next e => exact key q e
theorem mw_m56 (S : sw_S) {i : Nat} {x : Int32} (hi : i < 10) : sw_sI (mk S) 56 (nI i) x = some (mk (mm_pM S 0 (upd (S.2.2 0) i x))) := by
  rw [mm_sI (by decide) (show mm_cl S 56 = mm_iA 10 (S.2.2 0) from rfl) hi (by decide)]
  congr 1
  exact mm_wM0 (by simp only [mm_cr, mm_pM_at])
theorem mw_m57 (S : sw_S) {i : Nat} {x : Int32} (hi : i < 10) : sw_sI (mk S) 57 (nI i) x = some (mk (mm_pM S 1 (upd (S.2.2 1) i x))) := by
  rw [mm_sI (by decide) (show mm_cl S 57 = mm_iA 10 (S.2.2 1) from rfl) hi (by decide)]
  congr 1
  exact mm_wM1 (by simp only [mm_cr, mm_pM_at])
theorem mw_m58 (S : sw_S) {i : Nat} {x : Int32} (hi : i < 10) : sw_sI (mk S) 58 (nI i) x = some (mk (mm_pM S 2 (upd (S.2.2 2) i x))) := by
  rw [mm_sI (by decide) (show mm_cl S 58 = mm_iA 10 (S.2.2 2) from rfl) hi (by decide)]
  congr 1
  exact mm_wM2 (by simp only [mm_cr, mm_pM_at])
theorem mw_m60 (S : sw_S) {i : Nat} {x : Int32} (hi : i < 100) : sw_sI (mk S) 60 (nI i) x = some (mk (mm_pM S 4 (upd (S.2.2 4) i x))) := by
  rw [mm_sI (by decide) (show mm_cl S 60 = mm_iA 100 (S.2.2 4) from rfl) hi (by decide)]
  congr 1
  exact mm_wM4 (by simp only [mm_cr, mm_pM_at])
theorem mw_m70 (S : sw_S) {i : Nat} {x : Int32} (hi : i < 7) : sw_sI (mk S) 70 (nI i) x = some (mk (mm_pM S 8 (upd (S.2.2 8) i x))) := by
  rw [mm_sI (by decide) (show mm_cl S 70 = mm_iA 7 (S.2.2 8) from rfl) hi (by decide)]
  congr 1
  exact mm_wM8 (by simp only [mm_cr, mm_pM_at])
theorem mw_m75 (S : sw_S) {i : Nat} {x : Int32} (hi : i < 7) : sw_sI (mk S) 75 (nI i) x = some (mk (mm_pM S 20 (upd (S.2.2 20) i x))) := by
  rw [mm_sI (by decide) (show mm_cl S 75 = mm_iA 7 (S.2.2 20) from rfl) hi (by decide)]
  congr 1
  exact mm_wM20 (by simp only [mm_cr, mm_pM_at])
theorem mw_m79 (S : sw_S) {i : Nat} {x : Int32} (hi : i < 10) : sw_sI (mk S) 79 (nI i) x = some (mk (mm_pM S 22 (upd (S.2.2 22) i x))) := by
  rw [mm_sI (by decide) (show mm_cl S 79 = mm_iA 10 (S.2.2 22) from rfl) hi (by decide)]
  congr 1
  exact mm_wM22 (by simp only [mm_cr, mm_pM_at])
theorem mw_m80 (S : sw_S) {i : Nat} {x : Int32} (hi : i < 10) : sw_sI (mk S) 80 (nI i) x = some (mk (mm_pM S 23 (upd (S.2.2 23) i x))) := by
  rw [mm_sI (by decide) (show mm_cl S 80 = mm_iA 10 (S.2.2 23) from rfl) hi (by decide)]
  congr 1
  exact mm_wM23 (by simp only [mm_cr, mm_pM_at])
theorem mw_m81 (S : sw_S) {i : Nat} {x : Int32} (hi : i < 100) : sw_sI (mk S) 81 (nI i) x = some (mk (mm_pM S 24 (upd (S.2.2 24) i x))) := by
  rw [mm_sI (by decide) (show mm_cl S 81 = mm_iA 100 (S.2.2 24) from rfl) hi (by decide)]
  congr 1
  exact mm_wM24 (by simp only [mm_cr, mm_pM_at])
theorem mw_m82 (S : sw_S) {i : Nat} {x : Int32} (hi : i < 4) : sw_sI (mk S) 82 (nI i) x = some (mk (mm_pM S 26 (upd (S.2.2 26) i x))) := by
  rw [mm_sI (by decide) (show mm_cl S 82 = mm_iA 4 (S.2.2 26) from rfl) hi (by decide)]
  congr 1
  exact mm_wM26 (by simp only [mm_cr, mm_pM_at])
theorem mw_m83 (S : sw_S) {i : Nat} {x : Int32} (hi : i < 4) : sw_sI (mk S) 83 (nI i) x = some (mk (mm_pM S 27 (upd (S.2.2 27) i x))) := by
  rw [mm_sI (by decide) (show mm_cl S 83 = mm_iA 4 (S.2.2 27) from rfl) hi (by decide)]
  congr 1
  exact mm_wM27 (by simp only [mm_cr, mm_pM_at])
theorem mw_f0_7 (S : sw_S) {x : Int32} (hx : x = 0 ∨ x = 1) : sw_pF (mk S) 0 7 7 (.int x) = some (mk (mm_pM S 9 (upd (S.2.2 9) 0 x))) := by
  rw [mm_pF (by decide) (show mm_cl S 0 = mm_cr S 0 from rfl) (Nat.le_of_ble_eq_true rfl) (by rcases hx with rfl | rfl <;> rfl)]
  congr 1
  exact mm_wM9 (by simp [mm_cr, mm_pM, upd])
theorem mw_f55_3 (S : sw_S) {x : Int32} : sw_pF (mk S) 55 2 3 (.int x) = some (mk (mm_pM S 3 (upd (S.2.2 3) 0 x))) := by
  rw [mm_pF (by decide) (show mm_cl S 55 = mm_cr S 55 from rfl) (Nat.le_of_ble_eq_true rfl) rfl]
  congr 1
  exact mm_wM3 (by simp [mm_cr, mm_pM, upd])
theorem mw_f59_1 (S : sw_S) {x : Int32} : sw_pF (mk S) 59 4 1 (.int x) = some (mk (mm_pM S 5 (upd (S.2.2 5) 0 x))) := by
  rw [mm_pF (by decide) (show mm_cl S 59 = mm_cr S 59 from rfl) (Nat.le_of_ble_eq_true rfl) rfl]
  congr 1
  exact mm_wM5 (by simp [mm_cr, mm_pM, upd])
theorem mw_f59_2 (S : sw_S) {x : Int32} : sw_pF (mk S) 59 4 2 (.int x) = some (mk (mm_pM S 5 (upd (S.2.2 5) 1 x))) := by
  rw [mm_pF (by decide) (show mm_cl S 59 = mm_cr S 59 from rfl) (Nat.le_of_ble_eq_true rfl) rfl]
  congr 1
  exact mm_wM5 (by simp [mm_cr, mm_pM, upd])
theorem mw_f59_3 (S : sw_S) {x : Int32} : sw_pF (mk S) 59 4 3 (.int x) = some (mk (mm_pM S 5 (upd (S.2.2 5) 2 x))) := by
  rw [mm_pF (by decide) (show mm_cl S 59 = mm_cr S 59 from rfl) (Nat.le_of_ble_eq_true rfl) rfl]
  congr 1
  exact mm_wM5 (by simp [mm_cr, mm_pM, upd])
theorem mw_f59_4 (S : sw_S) {x : Int32} : sw_pF (mk S) 59 4 4 (.int x) = some (mk (mm_pM S 5 (upd (S.2.2 5) 3 x))) := by
  rw [mm_pF (by decide) (show mm_cl S 59 = mm_cr S 59 from rfl) (Nat.le_of_ble_eq_true rfl) rfl]
  congr 1
  exact mm_wM5 (by simp [mm_cr, mm_pM, upd])
theorem mw_f59_5 (S : sw_S) {x : Int32} : sw_pF (mk S) 59 4 5 (.int x) = some (mk (mm_pM S 5 (upd (S.2.2 5) 4 x))) := by
  rw [mm_pF (by decide) (show mm_cl S 59 = mm_cr S 59 from rfl) (Nat.le_of_ble_eq_true rfl) rfl]
  congr 1
  exact mm_wM5 (by simp [mm_cr, mm_pM, upd])
theorem mw_f71_7 (S : sw_S) {x : Int32} (hx : x = 0 ∨ x = 1) : sw_pF (mk S) 71 8 7 (.int x) = some (mk (mm_pM S 21 (upd (S.2.2 21) 0 x))) := by
  rw [mm_pF (by decide) (show mm_cl S 71 = mm_cr S 71 from rfl) (Nat.le_of_ble_eq_true rfl) (by rcases hx with rfl | rfl <;> rfl)]
  congr 1
  exact mm_wM21 (by simp [mm_cr, mm_pM, upd])
theorem mw_f71_11 (S : sw_S) {x : Int32} : sw_pF (mk S) 71 8 11 (.int x) = some (mk (mm_pM S 25 (upd (S.2.2 25) 0 x))) := by
  rw [mm_pF (by decide) (show mm_cl S 71 = mm_cr S 71 from rfl) (Nat.le_of_ble_eq_true rfl) rfl]
  congr 1
  exact mm_wM25 (by simp [mm_cr, mm_pM, upd])
theorem mw_f71_12 (S : sw_S) {x : Int32} : sw_pF (mk S) 71 8 12 (.int x) = some (mk (mm_pM S 25 (upd (S.2.2 25) 1 x))) := by
  rw [mm_pF (by decide) (show mm_cl S 71 = mm_cr S 71 from rfl) (Nat.le_of_ble_eq_true rfl) rfl]
  congr 1
  exact mm_wM25 (by simp [mm_cr, mm_pM, upd])
theorem mw_f71_13 (S : sw_S) {x : Int32} : sw_pF (mk S) 71 8 13 (.int x) = some (mk (mm_pM S 25 (upd (S.2.2 25) 2 x))) := by
  rw [mm_pF (by decide) (show mm_cl S 71 = mm_cr S 71 from rfl) (Nat.le_of_ble_eq_true rfl) rfl]
  congr 1
  exact mm_wM25 (by simp [mm_cr, mm_pM, upd])
theorem mw_f71_14 (S : sw_S) {x : Int32} : sw_pF (mk S) 71 8 14 (.int x) = some (mk (mm_pM S 25 (upd (S.2.2 25) 3 x))) := by
  rw [mm_pF (by decide) (show mm_cl S 71 = mm_cr S 71 from rfl) (Nat.le_of_ble_eq_true rfl) rfl]
  congr 1
  exact mm_wM25 (by simp [mm_cr, mm_pM, upd])
theorem mw_f71_15 (S : sw_S) {x : Int32} (hx : x = 0 ∨ x = 1) : sw_pF (mk S) 71 8 15 (.int x) = some (mk (mm_pM S 25 (upd (S.2.2 25) 4 x))) := by
  rw [mm_pF (by decide) (show mm_cl S 71 = mm_cr S 71 from rfl) (Nat.le_of_ble_eq_true rfl) (by rcases hx with rfl | rfl <;> rfl)]
  congr 1
  exact mm_wM25 (by simp [mm_cr, mm_pM, upd])
theorem mw_sh1 (S : sw_S) {s : Nat} {x : Int32} (h : s < 4) : sw_pF (mk S) (mm_sh s) 3 1 (.int x) = some (mk (mm_pM S 6 (upd (S.2.2 6) s x))) := by
  rw [mm_pF (mm_sh_lt h) (mm_at_sh h) (Nat.le_of_ble_eq_true rfl) rfl]
  congr 1
  have key : ∀ q, q ≠ mm_sh s → mm_cl (mm_pM S 6 (upd (S.2.2 6) s x)) q = mm_cl S q := by
    intro q hq
    unfold mm_cl
    split
    · rfl
    · split
      · split
        · next h1 h2 h3 =>
          have hne : (q - 62) / 2 ≠ s := fun e => hq (by unfold mm_sh; omega)
          simp [mm_pM, upd, hne]
        · rfl
      · unfold mm_cr
        split <;> first | rfl | (simp only [mm_pM]; (repeat rw [if_neg (by decide)]); done)
  refine mm_sCe (fun q _ => ?_) (mm_sh_lt h)
  split
  · next e => subst e; rw [mm_at_sh h]; simp [mm_pM, upd]
  · next e => exact key q e
theorem mw_sh2 (S : sw_S) {s : Nat} {x : Int32} (h : s < 4) : sw_pF (mk S) (mm_sh s) 3 2 (.int x) = some (mk (mm_pM S 7 (upd (S.2.2 7) s x))) := by
  rw [mm_pF (mm_sh_lt h) (mm_at_sh h) (Nat.le_of_ble_eq_true rfl) rfl]
  congr 1
  have key : ∀ q, q ≠ mm_sh s → mm_cl (mm_pM S 7 (upd (S.2.2 7) s x)) q = mm_cl S q := by
    intro q hq
    unfold mm_cl
    split
    · rfl
    · split
      · split
        · next h1 h2 h3 =>
          have hne : (q - 62) / 2 ≠ s := fun e => hq (by unfold mm_sh; omega)
          simp [mm_pM, upd, hne]
        · rfl
      · unfold mm_cr
        split <;> first | rfl | (simp only [mm_pM]; (repeat rw [if_neg (by decide)]); done)
  refine mm_sCe (fun q _ => ?_) (mm_sh_lt h)
  split
  · next e => subst e; rw [mm_at_sh h]; simp [mm_pM, upd]
  · next e => exact key q e
theorem mw_sr (S : sw_S) {s i : Nat} {x : Int64} (h : s < 4) (hi : i < 40) : sw_sL (mk S) (mm_sr s) (nI i) x = some (mk (mm_pL S (6 + s) (vp_updL (S.2.1 (6 + s)) i x))) := by
  rw [mm_sL (mm_sr_lt h) (mm_at_sr h) hi (by decide)]
  congr 1
  have key : ∀ q, q < 86 → q ≠ mm_sr s → mm_cl (mm_pL S (6 + s) (vp_updL (S.2.1 (6 + s)) i x)) q = mm_cl S q := by
    intro q hq8 hq
    unfold mm_cl
    split
    · next hr =>
      unfold mm_ct
      split <;> first | rfl | (rw [mm_pL_ne S _ (by omega)]; done)
    · split
      · split
        · rfl
        · next h1 h2 h3 =>
          have hne : 6 + (q - 62) / 2 ≠ 6 + s := fun e => hq (by unfold mm_sr; omega)
          rw [mm_pL_ne S _ hne]
      · unfold mm_cr
        split <;> first | rfl | (rw [mm_pL_ne S _ (by omega)]; done) | (simp only [mm_pL]; congr 1; funext j; rw [if_neg (by omega)])
  refine mm_sCe (fun q hq => ?_) (mm_sr_lt h)
  split
  · next e => subst e; rw [mm_at_sr h, mm_pL_at]
  · next e => exact key q hq e
theorem mw_l76 (S : sw_S) {i : Nat} {x : Int64} (hi : i < 10) : sw_sL (mk S) 76 (nI i) x = some (mk (mm_pL S 3 (vp_updL (S.2.1 3) i x))) := by
  rw [mm_sL (by decide) (show mm_cl S 76 = mm_lA 10 (S.2.1 3) from rfl) hi (by decide)]
  congr 1
  have key : ∀ q, q < 86 → q ≠ 76 → mm_cl (mm_pL S 3 (vp_updL (S.2.1 3) i x)) q = mm_cl S q := by
    intro q hq8 hq
    unfold mm_cl
    split
    · next hr =>
      unfold mm_ct
      split <;> first | rfl | (rw [mm_pL_ne S _ (by omega)]; done)
    · split
      · split
        · rfl
        · rw [mm_pL_ne S _ (by omega)]
      · unfold mm_cr
        split <;> first | rfl | exact absurd rfl hq | (rw [mm_pL_ne S _ (by omega)]; done) | exact mm_lA_congr (fun j hj => by rw [mm_pL_ne S _ (by omega)])
  refine mm_sCe (fun q hq => ?_) (by decide)
  split
  · next e => subst e; show mm_lA 10 ((mm_pL S 3 _).2.1 3) = _; rw [mm_pL_at]
  · next e => exact key q hq e
theorem mw_l77 (S : sw_S) {i : Nat} {x : Int64} (hi : i < 10) : sw_sL (mk S) 77 (nI i) x = some (mk (mm_pL S 4 (vp_updL (S.2.1 4) i x))) := by
  rw [mm_sL (by decide) (show mm_cl S 77 = mm_lA 10 (S.2.1 4) from rfl) hi (by decide)]
  congr 1
  have key : ∀ q, q < 86 → q ≠ 77 → mm_cl (mm_pL S 4 (vp_updL (S.2.1 4) i x)) q = mm_cl S q := by
    intro q hq8 hq
    unfold mm_cl
    split
    · next hr =>
      unfold mm_ct
      split <;> first | rfl | (rw [mm_pL_ne S _ (by omega)]; done)
    · split
      · split
        · rfl
        · rw [mm_pL_ne S _ (by omega)]
      · unfold mm_cr
        split <;> first | rfl | exact absurd rfl hq | (rw [mm_pL_ne S _ (by omega)]; done) | exact mm_lA_congr (fun j hj => by rw [mm_pL_ne S _ (by omega)])
  refine mm_sCe (fun q hq => ?_) (by decide)
  split
  · next e => subst e; show mm_lA 10 ((mm_pL S 4 _).2.1 4) = _; rw [mm_pL_at]
  · next e => exact key q hq e
theorem mw_l78 (S : sw_S) {i : Nat} {x : Int64} (hi : i < 10) : sw_sL (mk S) 78 (nI i) x = some (mk (mm_pL S 5 (vp_updL (S.2.1 5) i x))) := by
  rw [mm_sL (by decide) (show mm_cl S 78 = mm_lA 10 (S.2.1 5) from rfl) hi (by decide)]
  congr 1
  have key : ∀ q, q < 86 → q ≠ 78 → mm_cl (mm_pL S 5 (vp_updL (S.2.1 5) i x)) q = mm_cl S q := by
    intro q hq8 hq
    unfold mm_cl
    split
    · next hr =>
      unfold mm_ct
      split <;> first | rfl | (rw [mm_pL_ne S _ (by omega)]; done)
    · split
      · split
        · rfl
        · rw [mm_pL_ne S _ (by omega)]
      · unfold mm_cr
        split <;> first | rfl | exact absurd rfl hq | (rw [mm_pL_ne S _ (by omega)]; done) | exact mm_lA_congr (fun j hj => by rw [mm_pL_ne S _ (by omega)])
  refine mm_sCe (fun q hq => ?_) (by decide)
  split
  · next e => subst e; show mm_lA 10 ((mm_pL S 5 _).2.1 5) = _; rw [mm_pL_at]
  · next e => exact key q hq e
theorem mw_l85 (S : sw_S) {i : Nat} {x : Int64} (hi : i < 40) : sw_sL (mk S) 85 (nI i) x = some (mk (mm_pL S 14 (vp_updL (S.2.1 14) i x))) := by
  rw [mm_sL (by decide) (show mm_cl S 85 = mm_lA 40 (S.2.1 14) from rfl) hi (by decide)]
  congr 1
  have key : ∀ q, q < 86 → q ≠ 85 → mm_cl (mm_pL S 14 (vp_updL (S.2.1 14) i x)) q = mm_cl S q := by
    intro q hq8 hq
    unfold mm_cl
    split
    · next hr =>
      unfold mm_ct
      split <;> first | rfl | (rw [mm_pL_ne S _ (by omega)]; done)
    · split
      · split
        · rfl
        · rw [mm_pL_ne S _ (by omega)]
      · unfold mm_cr
        split <;> first | rfl | exact absurd rfl hq | (rw [mm_pL_ne S _ (by omega)]; done) | exact mm_lA_congr (fun j hj => by rw [mm_pL_ne S _ (by omega)])
  refine mm_sCe (fun q hq => ?_) (by decide)
  split
  · next e => subst e; show mm_lA 40 ((mm_pL S 14 _).2.1 14) = _; rw [mm_pL_at]
  · next e => exact key q hq e
