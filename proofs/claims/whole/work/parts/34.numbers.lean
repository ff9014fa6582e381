/-! ===== numbers and loops ===== -/
def bI (p : Prop) [Decidable p] : Int32 := if p then 1 else 0
theorem bI_0 {p : Prop} [Decidable p] : (bI p = 0) ↔ ¬ p := by unfold bI; split <;> simp [*]
theorem bI_01 {p : Prop} [Decidable p] : (bI p = 0 ∨ bI p = 1) ↔ True := by unfold bI; split <;> simp
theorem bI_t {p : Prop} [Decidable p] (h : p) : bI p = 1 := if_pos h
theorem bI_f {p : Prop} [Decidable p] (h : ¬ p) : bI p = 0 := if_neg h
theorem n_lit (n : Nat) : (OfNat.ofNat n : Int32) = nI n := rfl
theorem n_add (a b : Nat) : nI a + nI b = nI (a + b) := (Int32.ofNat_add a b).symm
theorem n_mul (a b : Nat) : nI a * nI b = nI (a * b) := (Int32.ofNat_mul a b).symm
theorem n_addL (a n : Nat) : nI a + (no_index (OfNat.ofNat n : Int32)) = nI (a + (OfNat.ofNat n : Nat)) := n_add a n
theorem n_Ladd (a n : Nat) : (no_index (OfNat.ofNat n : Int32)) + nI a = nI ((OfNat.ofNat n : Nat) + a) := n_add n a
theorem n_mulL (a n : Nat) : nI a * (no_index (OfNat.ofNat n : Int32)) = nI (a * (OfNat.ofNat n : Nat)) := n_mul a n
theorem n_Lmul (a n : Nat) : (no_index (OfNat.ofNat n : Int32)) * nI a = nI ((OfNat.ofNat n : Nat) * a) := n_mul n a
theorem n_sub {a b : Nat} (h : b ≤ a) : nI a - nI b = nI (a - b) := by
  have : nI a = nI (a - b) + nI b := by rw [n_add, Nat.sub_add_cancel h]
  rw [this, Int32.add_sub_cancel]
theorem n_subL {a n : Nat} (h : (OfNat.ofNat n : Nat) ≤ a) : nI a - (no_index (OfNat.ofNat n : Int32)) = nI (a - (OfNat.ofNat n : Nat)) := n_sub h
theorem n_Lsub {a n : Nat} (h : a ≤ (OfNat.ofNat n : Nat)) : (no_index (OfNat.ofNat n : Int32)) - nI a = nI ((OfNat.ofNat n : Nat) - a) := n_sub h
theorem n_lt {a b : Nat} (ha : a < 2147483648) (hb : b < 2147483648) : (nI a < nI b) ↔ a < b := by
  rw [Int32.lt_iff_toInt_lt, nI_toInt ha, nI_toInt hb]; omega
theorem n_le {a b : Nat} (ha : a < 2147483648) (hb : b < 2147483648) : (nI a ≤ nI b) ↔ a ≤ b := by
  rw [Int32.le_iff_toInt_le, nI_toInt ha, nI_toInt hb]; omega
theorem n_eq {a b : Nat} (ha : a < 2147483648) (hb : b < 2147483648) : (nI a = nI b) ↔ a = b := by
  constructor
  · intro h
    have := congrArg Int32.toInt h
    rw [nI_toInt ha, nI_toInt hb] at this
    omega
  · intro h; rw [h]
theorem n_ltL {a n : Nat} (ha : a < 2147483648) (hn : (OfNat.ofNat n : Nat) < 2147483648) : (nI a < (no_index (OfNat.ofNat n : Int32))) ↔ a < (OfNat.ofNat n : Nat) := n_lt ha hn
theorem n_Llt {a n : Nat} (ha : a < 2147483648) (hn : (OfNat.ofNat n : Nat) < 2147483648) : ((no_index (OfNat.ofNat n : Int32)) < nI a) ↔ (OfNat.ofNat n : Nat) < a := n_lt hn ha
theorem n_eqL {a n : Nat} (ha : a < 2147483648) (hn : (OfNat.ofNat n : Nat) < 2147483648) : (nI a = (no_index (OfNat.ofNat n : Int32))) ↔ a = (OfNat.ofNat n : Nat) := n_eq ha hn
theorem n_Leq {a n : Nat} (ha : a < 2147483648) (hn : (OfNat.ofNat n : Nat) < 2147483648) : ((no_index (OfNat.ofNat n : Int32)) = nI a) ↔ (OfNat.ofNat n : Nat) = a := n_eq hn ha
theorem n_nneg {a : Nat} (ha : a < 2147483648) : (nI a < 0) ↔ False := ⟨fun h => nI_pos (by omega) h, False.elim⟩
theorem n_pos {a : Nat} (ha : a < 2147483648) : (0 < nI a) ↔ 0 < a := n_lt (a := 0) (by decide) ha
theorem n_div {a n : Nat} (ha : a < 2147483648) (hn : n < 2147483648) (h0 : 0 < n) : nI a / nI n = nI (a / n) := by
  apply Int32.toInt_inj.mp
  have hd : a / n < 2147483648 := Nat.lt_of_le_of_lt (Nat.div_le_self a n) ha
  have hd0 : (0 : Int) ≤ ((a / n : Nat) : Int) := Int.natCast_nonneg _
  have hd1 : ((a / n : Nat) : Int) < 2147483648 := by generalize a / n = d at hd; omega
  have hq : ((a / n : Nat) : Int).bmod (2 ^ 32) = ((a / n : Nat) : Int) := fb_bmod (Int.le_trans (by decide) hd0) hd1
  rw [Int32.toInt_div, nI_toInt ha, nI_toInt hn, nI_toInt hd, ← Int.ofNat_tdiv]
  exact hq
theorem n_divL {a n : Nat} (ha : a < 2147483648) (hn : (OfNat.ofNat n : Nat) < 2147483648) (h0 : 0 < (OfNat.ofNat n : Nat)) : nI a / (no_index (OfNat.ofNat n : Int32)) = nI (a / (OfNat.ofNat n : Nat)) := n_div ha hn h0
theorem n_clamp {a : Nat} (ha : a < 2147483648) : (nI a).toNatClampNeg = a := nI_clamp ha
/-- every int that isn't negative is one of these -/
theorem n_of {x : Int32} (h : ¬ x < 0) : ∃ a, a < 2147483648 ∧ x = nI a := by
  refine ⟨x.toInt.toNat, ?_, ?_⟩
  · have := (fb_rng x).2; omega
  · apply Int32.toInt_inj.mp
    have h0 : 0 ≤ x.toInt := by
      have := Int32.not_lt.mp h
      simpa using Int32.le_iff_toInt_le.mp this
    have h1 := (fb_rng x).2
    rw [nI_toInt (by omega)]
    omega
/-! loops -/
def lp {α : Type} (f : Nat → α → α) : Nat → α → α
  | 0, a => a
  | n + 1, a => f n (lp f n a)
theorem lp_0 {α : Type} (f : Nat → α → α) (a : α) : lp f 0 a = a := rfl
theorem lp_s {α : Type} (f : Nat → α → α) (n : Nat) (a : α) : lp f (n + 1) a = f n (lp f n a) := rfl
theorem lp_cong {α : Type} {f g : Nat → α → α} : ∀ {n : Nat} {a : α}, (∀ i, i < n → ∀ b, f i b = g i b) → lp f n a = lp g n a
  | 0, _, _ => rfl
  | n + 1, a, h => by rw [lp_s, lp_s, lp_cong (fun i hi b => h i (by omega) b), h n (by omega)]
theorem lp_inv {α : Type} {f : Nat → α → α} {P : Nat → α → Prop} : ∀ {n : Nat} {a : α}, P 0 a → (∀ i b, i < n → P i b → P (i + 1) (f i b)) → P n (lp f n a)
  | 0, _, h, _ => h
  | n + 1, a, h, hs => hs n _ (Nat.lt_succ_self n) (lp_inv (n := n) h (fun i b hi hb => hs i b (by omega) hb))
/-- a loop that counts up to n -/
theorem lp_up {α β : Type} {G : Nat → α → β} {P : Nat → α → Prop} {f : Nat → α → α} {fin : α → β} {n : Nat} {a0 : α} (h0 : P 0 a0) (hs : ∀ i a, i < n → P i a → G i a = G (i + 1) (f i a) ∧ P (i + 1) (f i a)) (he : ∀ a, P n a → G n a = fin a) : G 0 a0 = fin (lp f n a0) := by
  have key : ∀ i, i ≤ n → P i (lp f i a0) ∧ G 0 a0 = G i (lp f i a0) := by
    intro i
    induction i with
    | zero => intro _; exact ⟨h0, rfl⟩
    | succ i ih =>
      intro hi
      obtain ⟨h1, h2⟩ := ih (by omega)
      obtain ⟨h3, h4⟩ := hs i _ (by omega) h1
      exact ⟨h4, h2.trans h3⟩
  obtain ⟨h1, h2⟩ := key n (Nat.le_refl n)
  exact h2.trans (he _ h1)
/-- a loop that counts up to n, nothing asked -/
theorem lp_up' {α β : Type} {G : Nat → α → β} {f : Nat → α → α} {fin : α → β} {n : Nat} {a0 : α} (hs : ∀ i a, i < n → G i a = G (i + 1) (f i a)) (he : ∀ a, G n a = fin a) : G 0 a0 = fin (lp f n a0) :=
  lp_up (P := fun _ _ => True) trivial (fun i a hi _ => ⟨hs i a hi, trivial⟩) (fun a _ => he a)
/-- a loop that looks for the first -/
theorem lp_find {β : Type} {G : Nat → β} {p : Nat → Bool} {yes : Nat → β} {no : β} {n : Nat} (hs : ∀ i, i < n → G i = if p i = true then yes i else G (i + 1)) (he : G n = no) : G 0 = if fa_first p n < n then yes (fa_first p n) else no := by
  have key : ∀ i, i ≤ n → i ≤ fa_first p n → G 0 = G i := by
    intro i
    induction i with
    | zero => intro _ _; rfl
    | succ i ih =>
      intro hi hf
      rw [ih (by omega) (by omega), hs i (by omega), fa_first_no p n i (by omega)]
      simp
  by_cases hf : fa_first p n < n
  · rw [if_pos hf, key _ (by omega) (Nat.le_refl _), hs _ hf, fa_first_yes p n hf]
    simp
  · rw [if_neg hf, key n (Nat.le_refl n) (by omega), he]
/-- the same where something dead is carried along -/
theorem lp_findD {β δ : Type} {G : Nat → δ → β} {p : Nat → Bool} {yes : Nat → β} {no : β} {n : Nat} (hs : ∀ i d, i < n → ∃ d', G i d = if p i = true then yes i else G (i + 1) d') (he : ∀ d, G n d = no) (d : δ) : G 0 d = if fa_first p n < n then yes (fa_first p n) else no := by
  have key : ∀ i, i ≤ n → i ≤ fa_first p n → ∃ d', G 0 d = G i d' := by
    intro i
    induction i with
    | zero => intro _ _; exact ⟨d, rfl⟩
    | succ i ih =>
      intro hi hf
      obtain ⟨d1, h1⟩ := ih (by omega) (by omega)
      obtain ⟨d2, h2⟩ := hs i d1 (by omega)
      refine ⟨d2, ?_⟩
      rw [h1, h2, fa_first_no p n i (by omega)]
      simp
  by_cases hf : fa_first p n < n
  · obtain ⟨d1, h1⟩ := key _ (by omega) (Nat.le_refl _)
    obtain ⟨d2, h2⟩ := hs _ d1 hf
    rw [if_pos hf, h1, h2, fa_first_yes p n hf]
    simp
  · obtain ⟨d1, h1⟩ := key n (Nat.le_refl n) (by omega)
    rw [if_neg hf, h1, he]
theorem lp_upD {α β δ : Type} {G : Nat → δ → α → β} {P : Nat → α → Prop} {f : Nat → α → α} {fin : α → β} {n : Nat} {a0 : α} (h0 : P 0 a0) (hs : ∀ i d a, i < n → P i a → (∃ d', G i d a = G (i + 1) d' (f i a)) ∧ P (i + 1) (f i a)) (he : ∀ d a, P n a → G n d a = fin a) (d : δ) : G 0 d a0 = fin (lp f n a0) := by
  have key : ∀ i, i ≤ n → P i (lp f i a0) ∧ ∃ d', G 0 d a0 = G i d' (lp f i a0) := by
    intro i
    induction i with
    | zero => intro _; exact ⟨h0, d, rfl⟩
    | succ i ih =>
      intro hi
      obtain ⟨h1, d1, h2⟩ := ih (by omega)
      obtain ⟨⟨d2, h3⟩, h4⟩ := hs i d1 _ (by omega) h1
      exact ⟨h4, d2, h2.trans h3⟩
  obtain ⟨h1, d1, h2⟩ := key n (Nat.le_refl n)
  exact h2.trans (he d1 _ h1)
