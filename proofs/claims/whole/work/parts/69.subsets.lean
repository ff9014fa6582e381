/-! ===== the sets within a set, from the least on ===== -/
theorem and_dm (a b : Nat) : a &&& b = 2 * (a / 2 &&& b / 2) + (a % 2 &&& b % 2) := by
  have hd : (a &&& b) / 2 = a / 2 &&& b / 2 := by
    have := Nat.and_div_two_pow (a := a) (b := b) (n := 1)
    simpa using this
  have hmod : (a &&& b) % 2 = a % 2 &&& b % 2 := by
    have := Nat.and_mod_two_pow (a := a) (b := b) (n := 1)
    simpa using this
  rw [← hd, ← hmod]
  omega
theorem and01 {a b : Nat} (ha : a < 2) (hb : b < 2) : a &&& b = a * b := by
  rcases (show a = 0 ∨ a = 1 by omega) with rfl | rfl <;> rcases (show b = 0 ∨ b = 1 by omega) with rfl | rfl <;> rfl
theorem sub_dm {s C : Nat} (h : s &&& C = s) : (s / 2 &&& C / 2 = s / 2) ∧ s % 2 ≤ C % 2 := by
  rw [and_dm, and01 (Nat.mod_lt _ (by decide)) (Nat.mod_lt _ (by decide))] at h
  rcases Nat.mod_two_eq_zero_or_one s with e | e <;> rcases Nat.mod_two_eq_zero_or_one C with f | f <;> rw [e, f] at h <;> refine ⟨?_, ?_⟩ <;> omega
theorem sub_le {s C : Nat} (h : s &&& C = s) : s ≤ C := by rw [← h]; exact Nat.and_le_right
/-- the next set within C -/
def nxk (k C s : Nat) : Nat := (2 ^ k + s - C) &&& C
theorem nx_B : ∀ k C s, C < 2 ^ k → s &&& C = s → (2 ^ k + s - C - 1) &&& C = s := by
  intro k
  induction k with
  | zero =>
    intro C s hC hs
    have : C = 0 := by simp at hC; omega
    subst this
    rw [Nat.and_zero] at hs ⊢
    exact hs
  | succ k ih =>
    intro C s hC hs
    obtain ⟨h1, h2⟩ := sub_dm hs
    have hle := sub_le h1
    rw [Nat.pow_succ] at hC ⊢
    have i := ih (C / 2) (s / 2) (by omega) h1
    rw [and_dm, and01 (Nat.mod_lt _ (by decide)) (Nat.mod_lt _ (by decide))]
    have hm2 : 2 ^ k * 2 = 2 * 2 ^ k := Nat.mul_comm _ _
    rw [hm2]
    generalize hp : 2 ^ k = p at *
    have e : (2 * p + s - C - 1) / 2 = p + s / 2 - C / 2 - 1 := by omega
    rw [e, i]
    rcases Nat.mod_two_eq_zero_or_one s with es | es <;> rcases Nat.mod_two_eq_zero_or_one C with eC | eC
    · rw [eC]; omega
    · have : (2 * p + s - C - 1) % 2 = 0 := by omega
      rw [this]; omega
    · omega
    · have : (2 * p + s - C - 1) % 2 = 1 := by omega
      rw [this, eC]; omega
theorem nx_step {k C s : Nat} (hC : C < 2 ^ (k + 1)) (hs : s &&& C = s) : nxk (k + 1) C s = if C % 2 = 1 ∧ s % 2 = 0 then s + 1 else 2 * nxk k (C / 2) (s / 2) := by
  obtain ⟨h1, h2⟩ := sub_dm hs
  have hle := sub_le h1
  have hB := nx_B k (C / 2) (s / 2) (by rw [Nat.pow_succ] at hC; omega) h1
  unfold nxk
  rw [Nat.pow_succ] at hC ⊢
  rw [and_dm, and01 (Nat.mod_lt _ (by decide)) (Nat.mod_lt _ (by decide))]
  have hm2 : 2 ^ k * 2 = 2 * 2 ^ k := Nat.mul_comm _ _
  rw [hm2]
  generalize hp : 2 ^ k = p at *
  split
  · next h =>
    have e : (2 * p + s - C) / 2 = p + s / 2 - C / 2 - 1 := by omega
    have e2 : (2 * p + s - C) % 2 = 1 := by omega
    rw [e, e2, hB, h.1]
    omega
  · next h =>
    have e : (2 * p + s - C) / 2 = p + s / 2 - C / 2 := by omega
    have e2 : (2 * p + s - C) % 2 = 0 := by omega
    rw [e, e2]
    omega
theorem nx_sub (k C s : Nat) : nxk k C s &&& C = nxk k C s := by
  unfold nxk
  rw [Nat.and_assoc, Nat.and_self]
/-- the number of a set within C, from the least on -/
def rk : Nat → Nat → Nat → Nat
  | 0, _, _ => 0
  | k + 1, C, s => if C % 2 = 1 then s % 2 + 2 * rk k (C / 2) (s / 2) else rk k (C / 2) (s / 2)
theorem rk_nx : ∀ k C s, C < 2 ^ k → s &&& C = s → s ≠ C → rk k C (nxk k C s) = rk k C s + 1 := by
  intro k
  induction k with
  | zero =>
    intro C s hC hs hne
    have : C = 0 := by simp at hC; omega
    subst this
    rw [Nat.and_zero] at hs
    exact absurd hs.symm hne
  | succ k ih =>
    intro C s hC hs hne
    obtain ⟨h1, h2⟩ := sub_dm hs
    have hC2 : C / 2 < 2 ^ k := by rw [Nat.pow_succ] at hC; omega
    rw [nx_step hC hs]
    by_cases hc : C % 2 = 1 ∧ s % 2 = 0
    · rw [if_pos hc]
      show (if C % 2 = 1 then (s + 1) % 2 + 2 * rk k (C / 2) ((s + 1) / 2) else rk k (C / 2) ((s + 1) / 2)) = (if C % 2 = 1 then s % 2 + 2 * rk k (C / 2) (s / 2) else rk k (C / 2) (s / 2)) + 1
      rw [if_pos hc.1, if_pos hc.1, show (s + 1) / 2 = s / 2 by omega, show (s + 1) % 2 = 1 by omega, hc.2]
      omega
    · rw [if_neg hc]
      have hne2 : s / 2 ≠ C / 2 := fun e => hne (by omega)
      have i := ih (C / 2) (s / 2) hC2 h1 hne2
      show (if C % 2 = 1 then (2 * nxk k (C / 2) (s / 2)) % 2 + 2 * rk k (C / 2) ((2 * nxk k (C / 2) (s / 2)) / 2) else rk k (C / 2) ((2 * nxk k (C / 2) (s / 2)) / 2)) = (if C % 2 = 1 then s % 2 + 2 * rk k (C / 2) (s / 2) else rk k (C / 2) (s / 2)) + 1
      rw [Nat.mul_mod_right, Nat.mul_div_cancel_left _ (by decide), i]
      split
      · next h => have : s % 2 = 1 := by omega
                  rw [this]; omega
      · rfl
theorem rk_all : ∀ k C, C < 2 ^ k → rk k C C + 1 = 2 ^ pcN k C := by
  intro k
  induction k with
  | zero => intro C _; rfl
  | succ k ih =>
    intro C hC
    have i := ih (C / 2) (by rw [Nat.pow_succ] at hC; omega)
    show (if C % 2 = 1 then C % 2 + 2 * rk k (C / 2) (C / 2) else rk k (C / 2) (C / 2)) + 1 = 2 ^ (C % 2 + pcN k (C / 2))
    rcases Nat.mod_two_eq_zero_or_one C with e | e
    · rw [e, if_neg (by decide), Nat.zero_add]; exact i
    · rw [e, if_pos rfl, Nat.add_comm 1 (pcN k (C / 2)), Nat.pow_succ, ← i]; omega
theorem rk_inj : ∀ k C s t, C < 2 ^ k → s &&& C = s → t &&& C = t → rk k C s = rk k C t → s = t := by
  intro k
  induction k with
  | zero =>
    intro C s t hC hs ht _
    have : C = 0 := by simp at hC; omega
    subst this
    rw [Nat.and_zero] at hs ht
    omega
  | succ k ih =>
    intro C s t hC hs ht he
    obtain ⟨h1, h2⟩ := sub_dm hs
    obtain ⟨g1, g2⟩ := sub_dm ht
    have hC2 : C / 2 < 2 ^ k := by rw [Nat.pow_succ] at hC; omega
    have he' : (if C % 2 = 1 then s % 2 + 2 * rk k (C / 2) (s / 2) else rk k (C / 2) (s / 2)) = (if C % 2 = 1 then t % 2 + 2 * rk k (C / 2) (t / 2) else rk k (C / 2) (t / 2)) := he
    split at he'
    · have e1 : rk k (C / 2) (s / 2) = rk k (C / 2) (t / 2) := by omega
      have := ih (C / 2) (s / 2) (t / 2) hC2 h1 g1 e1
      omega
    · have := ih (C / 2) (s / 2) (t / 2) hC2 h1 g1 he'
      omega
theorem rk_0 : ∀ k C, rk k C 0 = 0 := by
  intro k
  induction k with
  | zero => intro C; rfl
  | succ k ih =>
    intro C
    show (if C % 2 = 1 then 0 % 2 + 2 * rk k (C / 2) (0 / 2) else rk k (C / 2) (0 / 2)) = 0
    rw [Nat.zero_div, ih]
    split <;> rfl
theorem pc_sub : ∀ k C s, C < 2 ^ k → s &&& C = s → pcN k s ≤ pcN k C ∧ (s ≠ C → pcN k s < pcN k C) := by
  intro k
  induction k with
  | zero =>
    intro C s hC hs
    have : C = 0 := by simp at hC; omega
    subst this
    rw [Nat.and_zero] at hs
    exact ⟨Nat.le_refl _, fun h => absurd hs.symm h⟩
  | succ k ih =>
    intro C s hC hs
    obtain ⟨h1, h2⟩ := sub_dm hs
    obtain ⟨i1, i2⟩ := ih (C / 2) (s / 2) (by rw [Nat.pow_succ] at hC; omega) h1
    show s % 2 + pcN k (s / 2) ≤ C % 2 + pcN k (C / 2) ∧ (s ≠ C → s % 2 + pcN k (s / 2) < C % 2 + pcN k (C / 2))
    refine ⟨by omega, fun hne => ?_⟩
    by_cases e : s / 2 = C / 2
    · omega
    · have := i2 e
      omega
/-- the sets within C one after another -/
def es (C : Nat) : Nat → Nat
  | 0 => 0
  | i + 1 => nxk 32 C (es C i)
section ESU
variable {C : Nat} (hC : C < 65536)
theorem es_sub (i : Nat) : es C i &&& C = es C i := by
  cases i with
  | zero => exact Nat.zero_and C
  | succ i => exact nx_sub 32 C _
theorem es_le (i : Nat) : es C i ≤ C := sub_le (es_sub i)
theorem es_rk (hC : C < 65536) : ∀ i, i < 2 ^ pcN 32 C → rk 32 C (es C i) = i := by
  intro i
  induction i with
  | zero => intro _; exact rk_0 32 C
  | succ i ih =>
    intro h
    have i1 := ih (by omega)
    have ha := rk_all 32 C (by omega)
    have hne : es C i ≠ C := fun e => by rw [e] at i1; omega
    show rk 32 C (nxk 32 C (es C i)) = i + 1
    rw [rk_nx 32 C _ (by omega) (es_sub i) hne, i1]
theorem es_all (hC : C < 65536) {i : Nat} (hi : i < 2 ^ pcN 32 C) : es C i = C ↔ i + 1 = 2 ^ pcN 32 C := by
  have ha := rk_all 32 C (by omega)
  have hr := es_rk hC i hi
  constructor
  · intro e
    rw [e] at hr
    omega
  · intro e
    exact rk_inj 32 C _ _ (by omega) (es_sub i) (Nat.and_self C) (by omega)
theorem nx_all (hC : C < 65536) : nxk 32 C C = 0 := by
  unfold nxk
  rw [Nat.add_sub_cancel]
  apply Nat.eq_of_testBit_eq
  intro j
  rw [Nat.testBit_and, Nat.zero_testBit]
  by_cases hj : j < 16
  · have : (2 ^ 32 : Nat).testBit j = false := by
      rw [Nat.testBit_two_pow]
      exact decide_eq_false (by omega)
    rw [this, Bool.false_and]
  · have : C.testBit j = false := Nat.testBit_lt_two_pow (Nat.lt_of_lt_of_le hC (by
      have : (65536 : Nat) = 2 ^ 16 := rfl
      rw [this]
      exact Nat.pow_le_pow_right (by decide) (by omega)))
    rw [this, Bool.and_false]
/-- no others come than those of the first round -/
theorem es_per (hC : C < 65536) : ∀ i, ∃ j, j < 2 ^ pcN 32 C ∧ es C i = es C j := by
  intro i
  induction i with
  | zero => exact ⟨0, Nat.two_pow_pos _, rfl⟩
  | succ i ih =>
    obtain ⟨j, hj, e⟩ := ih
    by_cases h : j + 1 < 2 ^ pcN 32 C
    · exact ⟨j + 1, h, by show nxk 32 C (es C i) = nxk 32 C (es C j); rw [e]⟩
    · refine ⟨0, Nat.two_pow_pos _, ?_⟩
      show nxk 32 C (es C i) = 0
      rw [e, (es_all hC hj).mpr (by omega), nx_all hC]
end ESU
/-- the class's way -/
def fww1 (C : Nat) (q : Nat → Bool) (i b : Nat) : Nat := if pcN 32 (es C i) < pcN 32 b ∧ q (es C i) = true then es C i else b
def tw_fw (C : Nat) (q : Nat → Bool) : Nat := lp (fww1 C q) 1024 C
/-- the reference's way -/
def fmm1 (C : Nat) (q : Nat → Bool) (i : Nat) (o : Option Nat) : Option Nat := match o with
  | none => if q (es C i) = true then some (es C i) else none
  | some b => if q (es C i) = true ∧ pcN 32 (es C i) < pcN 32 b then some (es C i) else some b
def tw_fm (C : Nat) (q : Nat → Bool) : Option Nat := lp (fmm1 C q) (2 ^ pcN 32 C) none
theorem lp_split {α : Type} (f : Nat → α → α) (n : Nat) : ∀ m (a : α), lp f (n + m) a = lp (fun i b => f (n + i) b) m (lp f n a)
  | 0, _ => rfl
  | m + 1, a => by rw [← Nat.add_assoc, lp_s, lp_split f n m a, lp_s]
theorem fw_fm {C : Nat} (hC : C < 65536) (hm : pcN 32 C ≤ 10) (q : Nat → Bool) (hq : q C = true) : tw_fm C q = some (tw_fw C q) := by
  have hp : 2 ^ pcN 32 C ≤ 1024 := Nat.pow_le_pow_right (n := 2) (by decide) hm
  have hpos : 0 < 2 ^ pcN 32 C := Nat.two_pow_pos _
  have hlast : es C (2 ^ pcN 32 C - 1) = C := (es_all hC (by omega)).mpr (by omega)
  have hper := es_per hC
  unfold tw_fm
  generalize 2 ^ pcN 32 C = K at *
  -- side by side
  have key := lp_inv (f := fun i (a : Nat × Option Nat) => (fww1 C q i a.1, fmm1 C q i a.2)) (P := fun i a => i ≤ K → ((a.2 = none → a.1 = C ∧ ∀ j, j < i → q (es C j) = false) ∧ (∀ v, a.2 = some v → a.1 = v ∧ ∀ j, j < i → q (es C j) = true → pcN 32 v ≤ pcN 32 (es C j)))) (n := K) (a := (C, none)) (fun _ => ⟨fun _ => ⟨rfl, fun j hj => absurd hj (Nat.not_lt_zero j)⟩, fun v h => by cases h⟩) (fun i a hi hP hle => by
    obtain ⟨b, o⟩ := a
    obtain ⟨h1, h2⟩ := hP (by omega)
    cases o with
    | none =>
      obtain ⟨e, hn⟩ := h1 rfl
      simp only at e
      subst e
      by_cases hqi : q (es b i) = true
      · have hv : fmm1 b q i none = some (es b i) := by simp only [fmm1]; rw [if_pos hqi]
        have hw : fww1 b q i b = es b i := by
          unfold fww1
          by_cases e : es b i = b
          · rw [if_neg (by rw [e]; omega), e]
          · rw [if_pos ⟨(pc_sub 32 b _ (by omega) (es_sub i)).2 e, hqi⟩]
        simp only [hv, hw]
        refine ⟨fun h => (by cases h), fun v h => ?_⟩
        injection h with h
        subst h
        refine ⟨rfl, fun j hj hqj => ?_⟩
        rcases Nat.lt_or_ge j i with g | g
        · rw [hn j g] at hqj; cases hqj
        · rw [show j = i by omega]; exact Nat.le_refl _
      · have hv : fmm1 b q i none = none := by simp only [fmm1]; rw [if_neg hqi]
        have hw : fww1 b q i b = b := by unfold fww1; rw [if_neg (fun g => hqi g.2)]
        simp only [hv, hw]
        refine ⟨fun _ => ⟨trivial, fun j hj => ?_⟩, fun v h => (by cases h)⟩
        rcases Nat.lt_or_ge j i with g | g
        · exact hn j g
        · rw [show j = i by omega]; simpa using hqi
    | some c =>
      obtain ⟨e, hn⟩ := h2 c rfl
      simp only at e
      subst e
      by_cases hqi : q (es C i) = true ∧ pcN 32 (es C i) < pcN 32 b
      · have hv : fmm1 C q i (some b) = some (es C i) := by simp only [fmm1]; rw [if_pos hqi]
        have hw : fww1 C q i b = es C i := by unfold fww1; rw [if_pos ⟨hqi.2, hqi.1⟩]
        simp only [hv, hw]
        refine ⟨fun h => (by cases h), fun v h => ?_⟩
        injection h with h
        subst h
        refine ⟨rfl, fun j hj hqj => ?_⟩
        rcases Nat.lt_or_ge j i with g | g
        · have := hn j g hqj; omega
        · rw [show j = i by omega]; exact Nat.le_refl _
      · have hv : fmm1 C q i (some b) = some b := by simp only [fmm1]; rw [if_neg hqi]
        have hw : fww1 C q i b = b := by unfold fww1; rw [if_neg (fun g => hqi ⟨g.2, g.1⟩)]
        simp only [hv, hw]
        refine ⟨fun h => (by cases h), fun v h => ?_⟩
        injection h with h
        subst h
        refine ⟨rfl, fun j hj hqj => ?_⟩
        rcases Nat.lt_or_ge j i with g | g
        · exact hn j g hqj
        · rw [show j = i by omega] at hqj ⊢
          exact Nat.not_lt.mp (fun g => hqi ⟨hqj, g⟩))
  rw [lp_pair (fww1 C q) (fmm1 C q)] at key
  dsimp only at key
  obtain ⟨k1, k2⟩ := key (Nat.le_refl _)
  cases ho : lp (fmm1 C q) (K) none with
  | none =>
    have := (k1 ho).2 (K - 1) (by omega)
    rw [hlast, hq] at this
    cases this
  | some v =>
    obtain ⟨e, hmin⟩ := k2 v ho
    refine congrArg some ?_
    unfold tw_fw
    have hs : (1024 : Nat) = K + (1024 - K) := by omega
    rw [hs, lp_split, e]
    have stay := lp_inv (f := fun i b => fww1 C q (K + i) b) (P := fun _ b => b = v) (n := 1024 - K) (a := v) rfl (fun i b _ hb => by
      subst hb
      obtain ⟨j, hj, ej⟩ := hper (K + i)
      unfold fww1
      rw [ej]
      by_cases hqj : q (es C j) = true
      · have := hmin j hj hqj
        rw [if_neg (by omega)]
      · rw [if_neg (fun g => hqj g.2)])
    exact stay.symm
theorem fm_none {C : Nat} (q : Nat → Bool) (hq : ∀ s, s &&& C = s → q s = false) : tw_fm C q = none :=
  lp_inv (f := fmm1 C q) (P := fun _ o => o = none) (n := 2 ^ pcN 32 C) (a := none) rfl (fun i o _ ho => by
    subst ho
    simp only [fmm1]
    rw [if_neg (by rw [hq _ (es_sub i)]; decide)])
theorem fw_le {C : Nat} (q : Nat → Bool) : tw_fw C q ≤ C :=
  lp_inv (f := fww1 C q) (P := fun _ b => b ≤ C) (n := 1024) (a := C) (Nat.le_refl C) (fun i b _ hb => by
    unfold fww1
    split
    · exact es_le i
    · exact hb)
theorem n_nx {C s : Nat} (hC : C < 65536) : (nI s - nI C) &&& nI C = nI (nxk 32 C s) := by
  have e : nI s = nI (4294967296 + s) := by
    rw [← n_add, show nI 4294967296 = 0 from by decide, Int32.zero_add]
  rw [e, n_sub (by omega), n_and]
  rfl
