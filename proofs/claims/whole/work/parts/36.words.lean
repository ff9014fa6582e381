/-! ===== what a town is; the words of both sides ===== -/
/-- what holds of every town -/
def IT (T : Nat → Nat → Nat) : Prop := (∀ f i, T f i < 2147483648) ∧ T 0 0 ≤ 10 ∧ T 0 1 ≤ 16 ∧ T 0 2 ≤ 24 ∧ T 0 3 ≤ 999 ∧ T 0 4 ≤ 5 ∧ T 0 5 ≤ 100 ∧ (∀ i, i < T 0 0 → T 1 i ≤ 5) ∧ (∀ i, T 6 i ≤ 1) ∧
  (∀ x, x < T 0 1 → T 2 x < T 0 0 ∧ T 3 x < T 0 0 ∧ T 4 x ≤ 9999 ∧ T 5 x ≤ 99 ∧ T 7 x ≤ 6 ∧ (∀ i, i < T 7 x → T 8 (6 * x + i) < T 0 2) ∧ ∀ i j, i < j → j < T 7 x → T 8 (6 * x + i) ≠ T 8 (6 * x + j)) ∧
  (∀ k, k < T 0 2 → T 9 k < T 0 0 ∧ T 10 k < T 0 0 ∧ T 9 k ≠ T 10 k ∧ T 11 k ≤ 9999 ∧ T 12 k ≤ 1098 ∧ T 13 k ≤ 2)
section IT1
variable {T : Nat → Nat → Nat}
theorem IT.b (h : IT T) : ∀ f i, T f i < 2147483648 := h.1
theorem IT.p (h : IT T) : T 0 0 ≤ 10 := h.2.1
theorem IT.n (h : IT T) : T 0 1 ≤ 16 := h.2.2.1
theorem IT.k (h : IT T) : T 0 2 ≤ 24 := h.2.2.2.1
theorem IT.day (h : IT T) : T 0 3 ≤ 999 := h.2.2.2.2.1
theorem IT.pass (h : IT T) : T 0 4 ≤ 5 := h.2.2.2.2.2.1
theorem IT.part (h : IT T) : T 0 5 ≤ 100 := h.2.2.2.2.2.2.1
theorem IT.kind (h : IT T) : ∀ i, i < T 0 0 → T 1 i ≤ 5 := h.2.2.2.2.2.2.2.1
theorem IT.st (h : IT T) : ∀ i, T 6 i ≤ 1 := h.2.2.2.2.2.2.2.2.1
theorem IT.th (h : IT T) : ∀ x, x < T 0 1 → T 2 x < T 0 0 ∧ T 3 x < T 0 0 ∧ T 4 x ≤ 9999 ∧ T 5 x ≤ 99 ∧ T 7 x ≤ 6 ∧ (∀ i, i < T 7 x → T 8 (6 * x + i) < T 0 2) ∧ ∀ i j, i < j → j < T 7 x → T 8 (6 * x + i) ≠ T 8 (6 * x + j) := h.2.2.2.2.2.2.2.2.2.1
theorem IT.pr (h : IT T) : ∀ k, k < T 0 2 → T 9 k < T 0 0 ∧ T 10 k < T 0 0 ∧ T 9 k ≠ T 10 k ∧ T 11 k ≤ 9999 ∧ T 12 k ≤ 1098 ∧ T 13 k ≤ 2 := h.2.2.2.2.2.2.2.2.2.2
theorem IT.len (h : IT T) {x : Nat} (hx : x < T 0 1) : T 7 x ≤ 6 := (h.th x hx).2.2.2.2.1
end IT1
/-- the bit of a number in a set -/
def sb (i : Nat) : Int32 := 1 <<< (nI i &&& 31)
def inS (s : Int32) (i : Nat) : Bool := decide (¬ (s >>> (nI i &&& 31)) &&& 1 = 0)
theorem and1 (x : Int32) : x &&& 1 = 0 ∨ x &&& 1 = 1 := by
  have h : ∀ i, 1 ≤ i → bt (x &&& 1) i = false := by
    intro i hi
    rw [b_and]
    have : bt 1 i = false := by
      rcases Nat.lt_or_ge i 32 with h | h
      · exact (by decide +kernel : ∀ i, i < 32 → 1 ≤ i → bt 1 i = false) i h hi
      · exact b_big h
    rw [this, Bool.and_false]
  cases h0 : bt (x &&& 1) 0 with
  | false =>
    refine Or.inl (b_ext (fun i _ => ?_))
    rw [b_0]
    cases i with
    | zero => exact h0
    | succ i => exact h _ (by omega)
  | true =>
    refine Or.inr (b_ext (fun i hi => ?_))
    cases i with
    | zero => rw [h0]; decide +kernel
    | succ i =>
      rw [h _ (by omega)]
      exact ((by decide +kernel : ∀ i, i < 32 → 1 ≤ i → bt 1 i = false) _ hi (by omega)).symm
theorem inS_1 {s : Int32} {i : Nat} : ((s >>> (nI i &&& 31)) &&& 1 = 1) ↔ inS s i = true := by
  unfold inS
  rw [decide_eq_true_eq]
  rcases and1 (s >>> (nI i &&& 31)) with h | h <;> rw [h] <;> decide
theorem inS_0 {s : Int32} {i : Nat} : ((s >>> (nI i &&& 31)) &&& 1 = 0) ↔ ¬ inS s i = true := by
  unfold inS
  rw [decide_eq_true_eq]
  exact Classical.not_not.symm
theorem bt_and1 (x : Int32) : (x &&& 1 = 0) ↔ bt x 0 = false := by
  constructor
  · intro h
    have := congrArg (fun y => bt y 0) h
    simp only [b_and, b_0] at this
    have h1 : bt 1 0 = true := by decide +kernel
    rw [h1, Bool.and_true] at this
    exact this
  · intro h
    rcases and1 x with g | g
    · exact g
    · have := congrArg (fun y => bt y 0) g
      simp only [b_and] at this
      have h1 : bt 1 0 = true := by decide +kernel
      rw [h1, Bool.and_true, h] at this
      cases this
theorem inS_bt {s : Int32} {i : Nat} (hi : i < 32) : inS s i = bt s i := by
  unfold inS
  have e : bt (s >>> (nI i &&& 31)) 0 = bt s i := by
    rw [b_sshr i hi s (by decide), if_pos (by omega), Nat.add_zero]
  rw [← e]
  have h := bt_and1 (s >>> (nI i &&& 31))
  cases hb : bt (s >>> (nI i &&& 31)) 0 with
  | false => rw [decide_eq_false]; exact fun g => g (h.mpr hb)
  | true => rw [decide_eq_true_eq]; intro g; rw [h.mp g] at hb; cases hb
theorem bt_sb {i j : Nat} (hi : i < 32) (hj : j < 32) : bt (sb i) j = decide (j = i) := by
  unfold sb
  rw [b_shl i hi 1 hj]
  by_cases h : j = i
  · subst h; simp; decide +kernel
  · by_cases hl : i ≤ j
    · have h1 : bt 1 (j - i) = false := (by decide +kernel : ∀ q, q < 32 → 1 ≤ q → bt 1 q = false) _ (by omega) (by omega)
      simp [h, h1]
    · simp [h, hl]
/-- the set of those below n that have p -/
def tw_set (n : Nat) (p : Nat → Bool) : Int32 := lp (fun i a => if p i = true then a ||| sb i else a) n 0
theorem tw_set_s (n : Nat) (p : Nat → Bool) : tw_set (n + 1) p = if p n = true then tw_set n p ||| sb n else tw_set n p := rfl
theorem bt_set {p : Nat → Bool} : ∀ {n : Nat}, n ≤ 32 → ∀ {j : Nat}, j < 32 → bt (tw_set n p) j = (decide (j < n) && p j)
  | 0, _, j, _ => by rw [show tw_set 0 p = 0 from rfl, b_0]; simp
  | n + 1, hn, j, hj => by
    have ih := bt_set (p := p) (n := n) (by omega) hj
    rw [tw_set_s]
    by_cases hp : p n = true
    · rw [if_pos hp, b_or, ih, bt_sb (by omega) hj]
      by_cases hjn : j = n
      · subst hjn; simp [hp]
      · have : (decide (j < n + 1)) = decide (j < n) := by rw [decide_eq_decide]; omega
        simp [hjn, this]
    · rw [if_neg hp, ih]
      by_cases hjn : j = n
      · subst hjn; simp at hp; simp [hp]
      · have : (decide (j < n + 1)) = decide (j < n) := by rw [decide_eq_decide]; omega
        rw [this]
theorem inS_set {p : Nat → Bool} {n j : Nat} (hn : n ≤ 32) (hj : j < n) : inS (tw_set n p) j = p j := by
  rw [inS_bt (by omega), bt_set hn (by omega)]; simp [hj]
theorem tw_set_cong {n : Nat} {p q : Nat → Bool} (h : ∀ i, i < n → p i = q i) : tw_set n p = tw_set n q := lp_cong (fun i hi b => by rw [h i hi])
/-- the sum over those below n that have p -/
def tw_sum (n : Nat) (p : Nat → Bool) (v : Nat → Nat) : Nat := lp (fun i a => if p i = true then a + v i else a) n 0
theorem tw_sum_cong {n : Nat} {p q : Nat → Bool} {v w : Nat → Nat} (h : ∀ i, i < n → p i = q i) (hv : ∀ i, i < n → v i = w i) : tw_sum n p v = tw_sum n q w := lp_cong (fun i hi b => by rw [h i hi, hv i hi])
theorem tw_sum_le {n c : Nat} {p : Nat → Bool} {v : Nat → Nat} (h : ∀ i, i < n → p i = true → v i ≤ c) : tw_sum n p v ≤ n * c := by
  refine lp_inv (P := fun i a => a ≤ i * c) (by omega) (fun i b hi hb => ?_)
  have e : (i + 1) * c = i * c + c := Nat.succ_mul i c
  split
  · next hp => have := h i hi hp; omega
  · omega
def tw_cnt (n : Nat) (p : Nat → Bool) : Nat := lp (fun i a => if p i = true then a + 1 else a) n 0
theorem tw_cnt_cong {n : Nat} {p q : Nat → Bool} (h : ∀ i, i < n → p i = q i) : tw_cnt n p = tw_cnt n q := lp_cong (fun i hi b => by rw [h i hi])
theorem tw_cnt_le {n : Nat} {p : Nat → Bool} : tw_cnt n p ≤ n := by
  refine lp_inv (P := fun i a => a ≤ i) (by omega) (fun i b hi hb => ?_)
  split <;> omega
/-! a thing's worth -/
def w_k (kind base part : Nat) : Nat := if kind = 1 then base * part / 100 / 2 else if kind = 2 then base else if kind = 3 then (if 50 < base then 0 else base * part / 100) else if kind = 4 then base + base / 10 else if kind = 5 then base * part / 100 / 2 + (if 0 < base then 5 else 0) else base * part / 100
def tw_w (T : Nat → Nat → Nat) (x p part : Nat) : Nat := if T 6 x = 0 then w_k (T 1 p) (T 4 x) part else 0
def tw_wa (T : Nat → Nat → Nat) (s : Int32) (p part : Nat) : Nat := tw_sum (T 0 1) (inS s) (fun x => tw_w T x p part)
theorem w_k_le {kind base part : Nat} (hb : base ≤ 9999) (hp : part ≤ 100) : w_k kind base part ≤ 11000 := by
  have h1 : base * part ≤ 9999 * 100 := Nat.mul_le_mul hb hp
  have h2 : base * part / 100 ≤ 9999 := by omega
  unfold w_k
  repeat' split
  all_goals omega
theorem tw_w_le {T : Nat → Nat → Nat} (h : IT T) {x p part : Nat} (hx : x < T 0 1) (hp : part ≤ 100) : tw_w T x p part ≤ 11000 := by
  unfold tw_w
  split
  · exact w_k_le (h.th x hx).2.2.1 hp
  · omega
theorem tw_wa_le {T : Nat → Nat → Nat} (h : IT T) {s : Int32} {p part : Nat} (hp : part ≤ 100) : tw_wa T s p part ≤ 176000 := by
  have := tw_sum_le (n := T 0 1) (c := 11000) (p := inS s) (v := fun x => tw_w T x p part) (fun i hi _ => tw_w_le h hi hp)
  have hn := h.n
  unfold tw_wa
  have : T 0 1 * 11000 ≤ 16 * 11000 := Nat.mul_le_mul_right _ hn
  omega
/-! promises and chains -/
/-- a promise's place in a thing's chain; the chain's length if it isn't there -/
def tw_pl (T : Nat → Nat → Nat) (x k : Nat) : Nat := fa_first (fun i => T 8 (6 * x + i) == k) (T 7 x)
def tw_in (T : Nat → Nat → Nat) (x k : Nat) : Bool := decide (tw_pl T x k < T 7 x)
/-- the things in whose chain a promise is -/
def tw_be (T : Nat → Nat → Nat) (k : Nat) : Int32 := tw_set (T 0 1) (fun x => tw_in T x k)
def tw_cov (T : Nat → Nat → Nat) (k : Nat) : Nat := tw_wa T (tw_be T k) (T 10 k) (T 0 5)
/-- each chain that has a promise ends with it -/
def tw_last (T : Nat → Nat → Nat) (k : Nat) : Bool := decide (∀ x, x < T 0 1 → tw_in T x k = true → tw_pl T x k + 1 = T 7 x)
def tw_can (T : Nat → Nat → Nat) (k : Nat) : Bool := T 13 k == 0 && tw_last T k
def tw_bare (T : Nat → Nat → Nat) : Int32 := tw_set (T 0 2) (fun k => T 13 k == 0 && decide (tw_cov T k < T 11 k))
def tw_put (T : Nat → Nat → Nat) (p : Nat) : Int32 := tw_set (T 0 1) (fun x => (T 3 x == p && T 6 x == 0) && decide (T 7 x ≤ T 0 4 ∧ T 7 x < 6))
/-- a promise is kept -/
def tw_keep1 (T0 : Nat → Nat → Nat) (k x : Nat) (a : Nat × (Nat → Nat → Nat)) : Nat × (Nat → Nat → Nat) := if tw_in T0 x k = true then (a.1 + 1, mm_u (mm_u a.2 7 x (a.2 7 x - 1)) 3 x (T0 9 k)) else a
def tw_keep (T : Nat → Nat → Nat) (k : Nat) : Nat × (Nat → Nat → Nat) :=
  ((lp (tw_keep1 T k) (T 0 1) (0, T)).1, mm_u (lp (tw_keep1 T k) (T 0 1) (0, T)).2 13 k 1)
