/-! ===== towns copied; sets of bits ===== -/
theorem sw_xc_ite {E : sw_E} {k pc : Nat} {ls st : List Value} {M : sw_M} {c : Prop} [Decidable c] {a b : Option sw_R} : sw_xc E k pc ls st M (if c then a else b) = if c then sw_xc E k pc ls st M a else sw_xc E k pc ls st M b := by split <;> rfl
theorem sw_xv_ite {E : sw_E} {k pc : Nat} {ls st : List Value} {M : sw_M} {c : Prop} [Decidable c] {a b : Option Value} : sw_xv E k pc ls st M (if c then a else b) = if c then sw_xv E k pc ls st M a else sw_xv E k pc ls st M b := by split <;> rfl
/-- which places a town has -/
def mm_val (f i : Nat) : Prop := (f = 0 ∧ i < 6) ∨ (f = 1 ∧ i < 10) ∨ (2 ≤ f ∧ f ≤ 7 ∧ i < 16) ∨ (f = 8 ∧ i < 96) ∨ (9 ≤ f ∧ f ≤ 13 ∧ i < 24)
theorem mm_val_flat : ∀ i, i < 328 → mm_val (mm_ff i) (mm_fi i) := by
  unfold mm_val
  decide +kernel
theorem mm_zA_congr {n : Nat} {f g : Nat → Int32} (h : ∀ j, j < n → f j = g j) : mm_zA n f = mm_zA n g := by
  unfold mm_zA
  congr 4
  funext j
  by_cases hj : j < n
  · rw [if_pos hj, if_pos hj, h j hj]
  · rw [if_neg hj, if_neg hj]
theorem mm_ct_congr {S S' : sw_S} {t : Nat} (h : ∀ f i, mm_val f i → S.1 t f i = S'.1 t f i) (hl : ∀ i, i < 10 → S.2.1 t i = S'.2.1 t i) (j : Nat) : mm_ct S t j = mm_ct S' t j := by
  unfold mm_ct
  split
  · rw [h 0 4 (Or.inl (by decide)), h 0 5 (Or.inl (by decide)), h 0 3 (Or.inl (by decide))]
  · rw [h 0 0 (Or.inl (by decide))]
  · exact mm_iA_congr (fun j hj => by rw [h 1 j (Or.inr (Or.inl ⟨rfl, hj⟩))])
  · exact mm_lA_congr hl
  · rw [h 0 1 (Or.inl (by decide))]
  · exact mm_iA_congr (fun j hj => by rw [h 2 j (Or.inr (Or.inr (Or.inl ⟨by omega, by omega, hj⟩)))])
  · exact mm_iA_congr (fun j hj => by rw [h 3 j (Or.inr (Or.inr (Or.inl ⟨by omega, by omega, hj⟩)))])
  · exact mm_iA_congr (fun j hj => by rw [h 4 j (Or.inr (Or.inr (Or.inl ⟨by omega, by omega, hj⟩)))])
  · exact mm_iA_congr (fun j hj => by rw [h 5 j (Or.inr (Or.inr (Or.inl ⟨by omega, by omega, hj⟩)))])
  · exact mm_zA_congr (fun j hj => by rw [h 6 j (Or.inr (Or.inr (Or.inl ⟨by omega, by omega, hj⟩)))])
  · exact mm_iA_congr (fun j hj => by rw [h 7 j (Or.inr (Or.inr (Or.inl ⟨by omega, by omega, hj⟩)))])
  · exact mm_iA_congr (fun j hj => by rw [h 8 j (Or.inr (Or.inr (Or.inr (Or.inl ⟨rfl, hj⟩))))])
  · rw [h 0 2 (Or.inl (by decide))]
  · exact mm_iA_congr (fun j hj => by rw [h 9 j (Or.inr (Or.inr (Or.inr (Or.inr ⟨by omega, by omega, hj⟩))))])
  · exact mm_iA_congr (fun j hj => by rw [h 10 j (Or.inr (Or.inr (Or.inr (Or.inr ⟨by omega, by omega, hj⟩))))])
  · exact mm_iA_congr (fun j hj => by rw [h 11 j (Or.inr (Or.inr (Or.inr (Or.inr ⟨by omega, by omega, hj⟩))))])
  · exact mm_iA_congr (fun j hj => by rw [h 12 j (Or.inr (Or.inr (Or.inr (Or.inr ⟨by omega, by omega, hj⟩))))])
  · exact mm_iA_congr (fun j hj => by rw [h 13 j (Or.inr (Or.inr (Or.inr (Or.inr ⟨by omega, by omega, hj⟩))))])
/-- two memories that agree on every place are one -/
theorem mm_mk_congr {S S' : sw_S} (h : ∀ t f i, t < 6 → mm_val f i → S.1 t f i = S'.1 t f i) (hl : ∀ t i, t < 6 → i < 10 → S.2.1 t i = S'.2.1 t i) (hs : ∀ t i, 6 ≤ t → i < 40 → S.2.1 t i = S'.2.1 t i) (hm : S.2.2 = S'.2.2) : mk S = mk S' := by
  unfold mk
  refine Prod.ext rfl (Prod.ext rfl (Prod.ext rfl (funext fun q => ?_)))
  show mm_cl S q = mm_cl S' q
  unfold mm_cl
  split
  · next hr => exact mm_ct_congr (fun f i hv => h _ f i (by omega) hv) (fun i hi => hl _ i (by omega) hi) _
  · split
    · split
      · rw [hm]
      · exact mm_lA_congr (fun j hj => hs _ j (by omega) hj)
    · have hf : ∀ t, t < 6 → ∀ j, j < 328 → mm_fl (S.1 t) j = mm_fl (S'.1 t) j := fun t ht j hj => by unfold mm_fl; rw [h t _ _ ht (mm_val_flat j hj)]
      unfold mm_cr
      split <;> first | rfl | (rw [hm]; done) | exact mm_iA_congr (fun j hj => hf _ (by decide) j hj) | exact mm_lA_congr (fun j hj => hl _ j (by decide) hj) | exact mm_lA_congr (fun j hj => hs _ j (by omega) (by omega)) | exact mm_lA_congr (fun j hj => hs _ _ (by omega) (Nat.mod_lt _ (by decide)))
def mm_uf (T : Nat → Nat → Nat) (f : Nat) (g : Nat → Nat) : Nat → Nat → Nat := fun f' i' => if f' = f then g i' else T f' i'
theorem mm_ct_uf {S : sw_S} {t f j : Nat} {g : Nat → Nat} (hj : j < 18) (h0 : f ≠ 0) (h1 : f = 1 → j ≠ 2) (h2 : f = 2 → j ≠ 5) (h3 : f = 3 → j ≠ 6) (h4 : f = 4 → j ≠ 7) (h5 : f = 5 → j ≠ 8) (h6 : f = 6 → j ≠ 9) (h7 : f = 7 → j ≠ 10) (h8 : f = 8 → j ≠ 11) (h9 : f = 9 → j ≠ 13) (h10 : f = 10 → j ≠ 14) (h11 : f = 11 → j ≠ 15) (h12 : f = 12 → j ≠ 16) (h13 : f = 13 → j ≠ 17) : mm_ct (mm_pI S t (mm_uf (S.1 t) f g)) t j = mm_ct S t j := by
  have e1 : (mm_pI S t (mm_uf (S.1 t) f g)).1 t = mm_uf (S.1 t) f g := mm_pI_at _ _ _
  have nf : ∀ q, q ≠ f → mm_uf (S.1 t) f g q = S.1 t q := fun q hq => by funext i; simp [mm_uf, hq]
  rcases mm_18 hj with rfl | rfl | rfl | rfl | rfl | rfl | rfl | rfl | rfl | rfl | rfl | rfl | rfl | rfl | rfl | rfl | rfl | rfl
  · simp only [mm_ct, e1]; rw [nf 0 h0.symm]
  · simp only [mm_ct, e1]; rw [nf 0 h0.symm]
  · simp only [mm_ct, e1]; rw [nf 1 (fun q => h1 q.symm rfl)]
  · rfl
  · simp only [mm_ct, e1]; rw [nf 0 h0.symm]
  · simp only [mm_ct, e1]; rw [nf 2 (fun q => h2 q.symm rfl)]
  · simp only [mm_ct, e1]; rw [nf 3 (fun q => h3 q.symm rfl)]
  · simp only [mm_ct, e1]; rw [nf 4 (fun q => h4 q.symm rfl)]
  · simp only [mm_ct, e1]; rw [nf 5 (fun q => h5 q.symm rfl)]
  · simp only [mm_ct, e1]; rw [nf 6 (fun q => h6 q.symm rfl)]
  · simp only [mm_ct, e1]; rw [nf 7 (fun q => h7 q.symm rfl)]
  · simp only [mm_ct, e1]; rw [nf 8 (fun q => h8 q.symm rfl)]
  · simp only [mm_ct, e1]; rw [nf 0 h0.symm]
  · simp only [mm_ct, e1]; rw [nf 9 (fun q => h9 q.symm rfl)]
  · simp only [mm_ct, e1]; rw [nf 10 (fun q => h10 q.symm rfl)]
  · simp only [mm_ct, e1]; rw [nf 11 (fun q => h11 q.symm rfl)]
  · simp only [mm_ct, e1]; rw [nf 12 (fun q => h12 q.symm rfl)]
  · simp only [mm_ct, e1]; rw [nf 13 (fun q => h13 q.symm rfl)]
theorem mm_cpy_all {α : Type} {f g : Nat → α} {n : Nat} : va_cpy f g 0 0 n = fun i => if i < n then f i else g i := by
  funext i
  unfold va_cpy
  simp
theorem mm_cpI {S : sw_S} {a b n : Nat} {f g : Nat → Int32} (ha : a < 86) (hb : b < 86) (hn : n < 1000) (h1 : mm_cl S a = mm_iA n f) (h2 : mm_cl S b = mm_iA n g) : sw_cp (mk S) a 0 b 0 (nI n) = some (sw_sC (mk S) b (mm_iA n f)) := by
  have e1 : (nI n).toNatClampNeg = n := nI_clamp (by omega)
  have e2 : ¬ nI n < 0 := nI_pos (by omega)
  have e3 : (0 : Int32).toNatClampNeg = 0 := rfl
  unfold sw_cp
  rw [if_pos (show a < (mk S).2.2.1 ∧ b < (mk S).2.2.1 ∧ ¬ (0 : Int32) < 0 ∧ ¬ (0 : Int32) < 0 ∧ ¬ nI n < 0 from ⟨ha, hb, by decide, by decide, e2⟩)]
  show (match mm_cl S a, mm_cl S b with
    | .inl (.int, na, .inl f), .inl (.int, nb, .inl g) => _
    | .inl (.boolean, na, .inl f), .inl (.boolean, nb, .inl g) => _
    | .inl (.long, na, .inr (.inl f)), .inl (.long, nb, .inr (.inl g)) => _
    | _, _ => none) = _
  rw [h1, h2]
  unfold mm_iA
  dsimp only
  rw [e1, e3, if_pos ⟨by omega, by omega⟩, mm_cpy_all]
  congr 6
  funext i
  by_cases hi : i < n
  · simp [hi]
  · simp [hi]
theorem mm_cpZ {S : sw_S} {a b n : Nat} {f g : Nat → Int32} (ha : a < 86) (hb : b < 86) (hn : n < 1000) (h1 : mm_cl S a = mm_zA n f) (h2 : mm_cl S b = mm_zA n g) (hf : ∀ i, i < n → fits .boolean (.int (f i)) = true) : sw_cp (mk S) a 0 b 0 (nI n) = some (sw_sC (mk S) b (mm_zA n f)) := by
  have e1 : (nI n).toNatClampNeg = n := nI_clamp (by omega)
  have e2 : ¬ nI n < 0 := nI_pos (by omega)
  have e3 : (0 : Int32).toNatClampNeg = 0 := rfl
  unfold sw_cp
  rw [if_pos (show a < (mk S).2.2.1 ∧ b < (mk S).2.2.1 ∧ ¬ (0 : Int32) < 0 ∧ ¬ (0 : Int32) < 0 ∧ ¬ nI n < 0 from ⟨ha, hb, by decide, by decide, e2⟩)]
  show (match mm_cl S a, mm_cl S b with
    | .inl (.int, na, .inl f), .inl (.int, nb, .inl g) => _
    | .inl (.boolean, na, .inl f), .inl (.boolean, nb, .inl g) => _
    | .inl (.long, na, .inr (.inl f)), .inl (.long, nb, .inr (.inl g)) => _
    | _, _ => none) = _
  rw [h1, h2]
  unfold mm_zA
  dsimp only
  rw [e1, e3, if_pos ⟨⟨by omega, by omega⟩, fun i hi => by rw [Nat.zero_add, if_pos hi]; exact hf i hi⟩, mm_cpy_all]
  congr 6
  funext i
  by_cases hi : i < n
  · simp [hi]
  · simp [hi]
theorem mm_cpL {S : sw_S} {a b n : Nat} {f g : Nat → Int64} (ha : a < 86) (hb : b < 86) (hn : n < 1000) (h1 : mm_cl S a = mm_lA n f) (h2 : mm_cl S b = mm_lA n g) : sw_cp (mk S) a 0 b 0 (nI n) = some (sw_sC (mk S) b (mm_lA n f)) := by
  have e1 : (nI n).toNatClampNeg = n := nI_clamp (by omega)
  have e2 : ¬ nI n < 0 := nI_pos (by omega)
  have e3 : (0 : Int32).toNatClampNeg = 0 := rfl
  unfold sw_cp
  rw [if_pos (show a < (mk S).2.2.1 ∧ b < (mk S).2.2.1 ∧ ¬ (0 : Int32) < 0 ∧ ¬ (0 : Int32) < 0 ∧ ¬ nI n < 0 from ⟨ha, hb, by decide, by decide, e2⟩)]
  show (match mm_cl S a, mm_cl S b with
    | .inl (.int, na, .inl f), .inl (.int, nb, .inl g) => _
    | .inl (.boolean, na, .inl f), .inl (.boolean, nb, .inl g) => _
    | .inl (.long, na, .inr (.inl f)), .inl (.long, nb, .inr (.inl g)) => _
    | _, _ => none) = _
  rw [h1, h2]
  unfold mm_lA
  dsimp only
  rw [e1, e3, if_pos ⟨by omega, by omega⟩, mm_cpy_all]
  congr 7
  funext i
  by_cases hi : i < n
  · simp [hi]
  · simp [hi]
theorem mc_t2 (S : sw_S) {a b : Nat} (ha : a < 3) (hb : b < 3) : sw_cp (mk S) (mm_tn b 2) 0 (mm_tn a 2) 0 10 = some (mk (mm_pI S a (mm_uf (S.1 a) 1 (S.1 b 1)))) := by
  rw [show (10 : Int32) = nI 10 from rfl, mm_cpI (mm_tn_lt hb (by decide)) (mm_tn_lt ha (by decide)) (by decide) (mm_at (j := 2) hb (by decide)) (mm_at (j := 2) ha (by decide)), ← mm_wT (j := 2) ha (by decide) (fun j' hj' hne => mm_ct_uf hj' (by decide) (fun _ => by omega) (fun _ => by omega) (fun _ => by omega) (fun _ => by omega) (fun _ => by omega) (fun _ => by omega) (fun _ => by omega) (fun _ => by omega) (fun _ => by omega) (fun _ => by omega) (fun _ => by omega) (fun _ => by omega) (fun _ => by omega))]
  simp only [mm_ct, mm_pI_at, mm_uf, if_true]
theorem mc_t5 (S : sw_S) {a b : Nat} (ha : a < 3) (hb : b < 3) : sw_cp (mk S) (mm_tn b 5) 0 (mm_tn a 5) 0 16 = some (mk (mm_pI S a (mm_uf (S.1 a) 2 (S.1 b 2)))) := by
  rw [show (16 : Int32) = nI 16 from rfl, mm_cpI (mm_tn_lt hb (by decide)) (mm_tn_lt ha (by decide)) (by decide) (mm_at (j := 5) hb (by decide)) (mm_at (j := 5) ha (by decide)), ← mm_wT (j := 5) ha (by decide) (fun j' hj' hne => mm_ct_uf hj' (by decide) (fun _ => by omega) (fun _ => by omega) (fun _ => by omega) (fun _ => by omega) (fun _ => by omega) (fun _ => by omega) (fun _ => by omega) (fun _ => by omega) (fun _ => by omega) (fun _ => by omega) (fun _ => by omega) (fun _ => by omega) (fun _ => by omega))]
  simp only [mm_ct, mm_pI_at, mm_uf, if_true]
theorem mc_t6 (S : sw_S) {a b : Nat} (ha : a < 3) (hb : b < 3) : sw_cp (mk S) (mm_tn b 6) 0 (mm_tn a 6) 0 16 = some (mk (mm_pI S a (mm_uf (S.1 a) 3 (S.1 b 3)))) := by
  rw [show (16 : Int32) = nI 16 from rfl, mm_cpI (mm_tn_lt hb (by decide)) (mm_tn_lt ha (by decide)) (by decide) (mm_at (j := 6) hb (by decide)) (mm_at (j := 6) ha (by decide)), ← mm_wT (j := 6) ha (by decide) (fun j' hj' hne => mm_ct_uf hj' (by decide) (fun _ => by omega) (fun _ => by omega) (fun _ => by omega) (fun _ => by omega) (fun _ => by omega) (fun _ => by omega) (fun _ => by omega) (fun _ => by omega) (fun _ => by omega) (fun _ => by omega) (fun _ => by omega) (fun _ => by omega) (fun _ => by omega))]
  simp only [mm_ct, mm_pI_at, mm_uf, if_true]
theorem mc_t7 (S : sw_S) {a b : Nat} (ha : a < 3) (hb : b < 3) : sw_cp (mk S) (mm_tn b 7) 0 (mm_tn a 7) 0 16 = some (mk (mm_pI S a (mm_uf (S.1 a) 4 (S.1 b 4)))) := by
  rw [show (16 : Int32) = nI 16 from rfl, mm_cpI (mm_tn_lt hb (by decide)) (mm_tn_lt ha (by decide)) (by decide) (mm_at (j := 7) hb (by decide)) (mm_at (j := 7) ha (by decide)), ← mm_wT (j := 7) ha (by decide) (fun j' hj' hne => mm_ct_uf hj' (by decide) (fun _ => by omega) (fun _ => by omega) (fun _ => by omega) (fun _ => by omega) (fun _ => by omega) (fun _ => by omega) (fun _ => by omega) (fun _ => by omega) (fun _ => by omega) (fun _ => by omega) (fun _ => by omega) (fun _ => by omega) (fun _ => by omega))]
  simp only [mm_ct, mm_pI_at, mm_uf, if_true]
theorem mc_t8 (S : sw_S) {a b : Nat} (ha : a < 3) (hb : b < 3) : sw_cp (mk S) (mm_tn b 8) 0 (mm_tn a 8) 0 16 = some (mk (mm_pI S a (mm_uf (S.1 a) 5 (S.1 b 5)))) := by
  rw [show (16 : Int32) = nI 16 from rfl, mm_cpI (mm_tn_lt hb (by decide)) (mm_tn_lt ha (by decide)) (by decide) (mm_at (j := 8) hb (by decide)) (mm_at (j := 8) ha (by decide)), ← mm_wT (j := 8) ha (by decide) (fun j' hj' hne => mm_ct_uf hj' (by decide) (fun _ => by omega) (fun _ => by omega) (fun _ => by omega) (fun _ => by omega) (fun _ => by omega) (fun _ => by omega) (fun _ => by omega) (fun _ => by omega) (fun _ => by omega) (fun _ => by omega) (fun _ => by omega) (fun _ => by omega) (fun _ => by omega))]
  simp only [mm_ct, mm_pI_at, mm_uf, if_true]
theorem mc_t10 (S : sw_S) {a b : Nat} (ha : a < 3) (hb : b < 3) : sw_cp (mk S) (mm_tn b 10) 0 (mm_tn a 10) 0 16 = some (mk (mm_pI S a (mm_uf (S.1 a) 7 (S.1 b 7)))) := by
  rw [show (16 : Int32) = nI 16 from rfl, mm_cpI (mm_tn_lt hb (by decide)) (mm_tn_lt ha (by decide)) (by decide) (mm_at (j := 10) hb (by decide)) (mm_at (j := 10) ha (by decide)), ← mm_wT (j := 10) ha (by decide) (fun j' hj' hne => mm_ct_uf hj' (by decide) (fun _ => by omega) (fun _ => by omega) (fun _ => by omega) (fun _ => by omega) (fun _ => by omega) (fun _ => by omega) (fun _ => by omega) (fun _ => by omega) (fun _ => by omega) (fun _ => by omega) (fun _ => by omega) (fun _ => by omega) (fun _ => by omega))]
  simp only [mm_ct, mm_pI_at, mm_uf, if_true]
theorem mc_t11 (S : sw_S) {a b : Nat} (ha : a < 3) (hb : b < 3) : sw_cp (mk S) (mm_tn b 11) 0 (mm_tn a 11) 0 96 = some (mk (mm_pI S a (mm_uf (S.1 a) 8 (S.1 b 8)))) := by
  rw [show (96 : Int32) = nI 96 from rfl, mm_cpI (mm_tn_lt hb (by decide)) (mm_tn_lt ha (by decide)) (by decide) (mm_at (j := 11) hb (by decide)) (mm_at (j := 11) ha (by decide)), ← mm_wT (j := 11) ha (by decide) (fun j' hj' hne => mm_ct_uf hj' (by decide) (fun _ => by omega) (fun _ => by omega) (fun _ => by omega) (fun _ => by omega) (fun _ => by omega) (fun _ => by omega) (fun _ => by omega) (fun _ => by omega) (fun _ => by omega) (fun _ => by omega) (fun _ => by omega) (fun _ => by omega) (fun _ => by omega))]
  simp only [mm_ct, mm_pI_at, mm_uf, if_true]
theorem mc_t13 (S : sw_S) {a b : Nat} (ha : a < 3) (hb : b < 3) : sw_cp (mk S) (mm_tn b 13) 0 (mm_tn a 13) 0 24 = some (mk (mm_pI S a (mm_uf (S.1 a) 9 (S.1 b 9)))) := by
  rw [show (24 : Int32) = nI 24 from rfl, mm_cpI (mm_tn_lt hb (by decide)) (mm_tn_lt ha (by decide)) (by decide) (mm_at (j := 13) hb (by decide)) (mm_at (j := 13) ha (by decide)), ← mm_wT (j := 13) ha (by decide) (fun j' hj' hne => mm_ct_uf hj' (by decide) (fun _ => by omega) (fun _ => by omega) (fun _ => by omega) (fun _ => by omega) (fun _ => by omega) (fun _ => by omega) (fun _ => by omega) (fun _ => by omega) (fun _ => by omega) (fun _ => by omega) (fun _ => by omega) (fun _ => by omega) (fun _ => by omega))]
  simp only [mm_ct, mm_pI_at, mm_uf, if_true]
theorem mc_t14 (S : sw_S) {a b : Nat} (ha : a < 3) (hb : b < 3) : sw_cp (mk S) (mm_tn b 14) 0 (mm_tn a 14) 0 24 = some (mk (mm_pI S a (mm_uf (S.1 a) 10 (S.1 b 10)))) := by
  rw [show (24 : Int32) = nI 24 from rfl, mm_cpI (mm_tn_lt hb (by decide)) (mm_tn_lt ha (by decide)) (by decide) (mm_at (j := 14) hb (by decide)) (mm_at (j := 14) ha (by decide)), ← mm_wT (j := 14) ha (by decide) (fun j' hj' hne => mm_ct_uf hj' (by decide) (fun _ => by omega) (fun _ => by omega) (fun _ => by omega) (fun _ => by omega) (fun _ => by omega) (fun _ => by omega) (fun _ => by omega) (fun _ => by omega) (fun _ => by omega) (fun _ => by omega) (fun _ => by omega) (fun _ => by omega) (fun _ => by omega))]
  simp only [mm_ct, mm_pI_at, mm_uf, if_true]
theorem mc_t15 (S : sw_S) {a b : Nat} (ha : a < 3) (hb : b < 3) : sw_cp (mk S) (mm_tn b 15) 0 (mm_tn a 15) 0 24 = some (mk (mm_pI S a (mm_uf (S.1 a) 11 (S.1 b 11)))) := by
  rw [show (24 : Int32) = nI 24 from rfl, mm_cpI (mm_tn_lt hb (by decide)) (mm_tn_lt ha (by decide)) (by decide) (mm_at (j := 15) hb (by decide)) (mm_at (j := 15) ha (by decide)), ← mm_wT (j := 15) ha (by decide) (fun j' hj' hne => mm_ct_uf hj' (by decide) (fun _ => by omega) (fun _ => by omega) (fun _ => by omega) (fun _ => by omega) (fun _ => by omega) (fun _ => by omega) (fun _ => by omega) (fun _ => by omega) (fun _ => by omega) (fun _ => by omega) (fun _ => by omega) (fun _ => by omega) (fun _ => by omega))]
  simp only [mm_ct, mm_pI_at, mm_uf, if_true]
theorem mc_t16 (S : sw_S) {a b : Nat} (ha : a < 3) (hb : b < 3) : sw_cp (mk S) (mm_tn b 16) 0 (mm_tn a 16) 0 24 = some (mk (mm_pI S a (mm_uf (S.1 a) 12 (S.1 b 12)))) := by
  rw [show (24 : Int32) = nI 24 from rfl, mm_cpI (mm_tn_lt hb (by decide)) (mm_tn_lt ha (by decide)) (by decide) (mm_at (j := 16) hb (by decide)) (mm_at (j := 16) ha (by decide)), ← mm_wT (j := 16) ha (by decide) (fun j' hj' hne => mm_ct_uf hj' (by decide) (fun _ => by omega) (fun _ => by omega) (fun _ => by omega) (fun _ => by omega) (fun _ => by omega) (fun _ => by omega) (fun _ => by omega) (fun _ => by omega) (fun _ => by omega) (fun _ => by omega) (fun _ => by omega) (fun _ => by omega) (fun _ => by omega))]
  simp only [mm_ct, mm_pI_at, mm_uf, if_true]
theorem mc_t17 (S : sw_S) {a b : Nat} (ha : a < 3) (hb : b < 3) : sw_cp (mk S) (mm_tn b 17) 0 (mm_tn a 17) 0 24 = some (mk (mm_pI S a (mm_uf (S.1 a) 13 (S.1 b 13)))) := by
  rw [show (24 : Int32) = nI 24 from rfl, mm_cpI (mm_tn_lt hb (by decide)) (mm_tn_lt ha (by decide)) (by decide) (mm_at (j := 17) hb (by decide)) (mm_at (j := 17) ha (by decide)), ← mm_wT (j := 17) ha (by decide) (fun j' hj' hne => mm_ct_uf hj' (by decide) (fun _ => by omega) (fun _ => by omega) (fun _ => by omega) (fun _ => by omega) (fun _ => by omega) (fun _ => by omega) (fun _ => by omega) (fun _ => by omega) (fun _ => by omega) (fun _ => by omega) (fun _ => by omega) (fun _ => by omega) (fun _ => by omega))]
  simp only [mm_ct, mm_pI_at, mm_uf, if_true]
theorem mc_t9 (S : sw_S) {a b : Nat} (ha : a < 3) (hb : b < 3) (hf : ∀ i, S.1 b 6 i ≤ 1) : sw_cp (mk S) (mm_tn b 9) 0 (mm_tn a 9) 0 16 = some (mk (mm_pI S a (mm_uf (S.1 a) 6 (S.1 b 6)))) := by
  rw [show (16 : Int32) = nI 16 from rfl, mm_cpZ (mm_tn_lt hb (by decide)) (mm_tn_lt ha (by decide)) (by decide) (mm_at (j := 9) hb (by decide)) (mm_at (j := 9) ha (by decide)) (fun i _ => by
    have := hf i
    rcases (show S.1 b 6 i = 0 ∨ S.1 b 6 i = 1 by omega) with e | e <;> rw [e] <;> decide +kernel), ← mm_wT (j := 9) ha (by decide) (fun j' hj' hne => mm_ct_uf hj' (by decide) (fun _ => by omega) (fun _ => by omega) (fun _ => by omega) (fun _ => by omega) (fun _ => by omega) (fun _ => by omega) (fun _ => by omega) (fun _ => by omega) (fun _ => by omega) (fun _ => by omega) (fun _ => by omega) (fun _ => by omega) (fun _ => by omega))]
  simp only [mm_ct, mm_pI_at, mm_uf, if_true]
theorem mc_t3 (S : sw_S) {a b : Nat} (ha : a < 3) (hb : b < 3) : sw_cp (mk S) (mm_tn b 3) 0 (mm_tn a 3) 0 10 = some (mk (mm_pL S a (S.2.1 b))) := by
  rw [show (10 : Int32) = nI 10 from rfl, mm_cpL (mm_tn_lt hb (by decide)) (mm_tn_lt ha (by decide)) (by decide) (mm_at (j := 3) hb (by decide)) (mm_at (j := 3) ha (by decide))]
  congr 1
  have key : ∀ q, q ≠ mm_tn a 3 → mm_cl (mm_pL S a (S.2.1 b)) q = mm_cl S q := by
    intro q hq
    unfold mm_cl
    split
    · next hr =>
      unfold mm_ct
      split <;> first | rfl | skip
      · next h3 =>
        have hne : (q - 1) / 18 ≠ a := fun e => hq (by unfold mm_tn; omega)
        rw [mm_pL_ne S _ hne]
    · split
      · next hr =>
        have h1 : (mm_pL S a (S.2.1 b)).2.1 (6 + (q - 62) / 2) = S.2.1 (6 + (q - 62) / 2) := mm_pL_ne S _ (by omega)
        rw [h1]; rfl
      · unfold mm_cr
        split <;> first | rfl | (rw [mm_pL_ne S _ (by omega)]; done) | exact mm_lA_congr (fun j hj => by rw [mm_pL_ne S _ (by omega)])
  refine mm_sCe (fun q _ => ?_) (mm_tn_lt ha (by decide))
  split
  · next e => rw [e, mm_at ha (by decide)]; simp only [mm_ct, mm_pL_at]
  · next e => exact key q e
