/-! ===== what changes a town, and that it stays one ===== -/
theorem lp_all {β : Type} {G : Nat → β} {p : Nat → Bool} {yes no : β} {n : Nat} (hs : ∀ i, i < n → G i = if p i = true then G (i + 1) else no) (he : G n = yes) : G 0 = if (∀ i, i < n → p i = true) then yes else no := by
  have key : ∀ i, i ≤ n → (∀ j, j < i → p j = true) → G 0 = G i := by
    intro i
    induction i with
    | zero => intro _ _; rfl
    | succ i ih =>
      intro hi hp
      rw [ih (by omega) (fun j hj => hp j (by omega)), hs i (by omega), if_pos (hp i (by omega))]
  by_cases hf : ∀ i, i < n → p i = true
  · rw [if_pos hf, key n (Nat.le_refl n) hf, he]
  · rw [if_neg hf]
    have hex : ∃ i, i < n ∧ ¬ p i = true := by
      refine Classical.byContradiction (fun hc => hf (fun i hi => Classical.byContradiction (fun hp => hc ⟨i, hi, hp⟩)))
    obtain ⟨i, hi, hp, hmin⟩ := fb_first hex
    rw [key i (by omega) (fun j hj => Classical.not_not.mp (hmin j hj)), hs i hi, if_neg hp]
/-- a loop that may stop before its time -/
theorem lp_upX {α β δ : Type} {G : Nat → δ → α → β} {P : Nat → α → Prop} {live : α → Prop} [DecidablePred live] {f : Nat → α → α} {fin : α → β} {n : Nat} {a0 : α} (h0 : P 0 a0) (hs : ∀ i d a, i < n → P i a → (live a → ∃ d', G i d a = G (i + 1) d' (f i a)) ∧ (¬ live a → G i d a = fin a ∧ f i a = a) ∧ P (i + 1) (f i a)) (he : ∀ d a, P n a → G n d a = fin a) (d : δ) : G 0 d a0 = fin (lp f n a0) := by
  have key : ∀ i, i ≤ n → P i (lp f i a0) ∧ ((∃ d', G 0 d a0 = G i d' (lp f i a0)) ∨ (¬ live (lp f i a0) ∧ G 0 d a0 = fin (lp f i a0))) := by
    intro i
    induction i with
    | zero => intro _; exact ⟨h0, Or.inl ⟨d, rfl⟩⟩
    | succ i ih =>
      intro hi
      obtain ⟨h1, h2⟩ := ih (by omega)
      rcases h2 with ⟨d1, h2⟩ | ⟨h2, h3⟩
      · obtain ⟨g1, g2, g3⟩ := hs i d1 _ (by omega) h1
        refine ⟨g3, ?_⟩
        by_cases hl : live (lp f i a0)
        · obtain ⟨d2, g4⟩ := g1 hl
          exact Or.inl ⟨d2, h2.trans g4⟩
        · refine Or.inr ?_
          rw [lp_s, (g2 hl).2]
          exact ⟨hl, h2.trans (g2 hl).1⟩
      · obtain ⟨g1, g2, g3⟩ := hs i d _ (by omega) h1
        refine ⟨g3, Or.inr ?_⟩
        rw [lp_s, (g2 h2).2]
        exact ⟨h2, h3⟩
  obtain ⟨h1, h2⟩ := key n (Nat.le_refl n)
  rcases h2 with ⟨d1, h2⟩ | ⟨_, h3⟩
  · exact h2.trans (he d1 _ h1)
  · exact h3
theorem mm_u_fn {T : Nat → Nat → Nat} {f i v f' : Nat} (h : f' ≠ f) : mm_u T f i v f' = T f' := funext fun j => by simp [mm_u, h]
theorem mm_u_b {T : Nat → Nat → Nat} (h : ∀ f i, T f i < 2147483648) {f i v : Nat} (hv : v < 2147483648) : ∀ f' i', mm_u T f i v f' i' < 2147483648 := fun f' i' => by
  unfold mm_u; split
  · exact hv
  · exact h _ _
section IT2
variable {T : Nat → Nat → Nat}
theorem IT_u2 (h : IT T) {x v : Nat} (hv : v < T 0 0) : IT (mm_u T 2 x v) := by
  have hp := h.p
  refine ⟨mm_u_b h.b (by omega), ?_⟩
  obtain ⟨_, h2, h3, h4, h5, h6, h7, h8, h9, h10, h11⟩ := h
  refine ⟨h2, h3, h4, h5, h6, h7, h8, h9, fun y hy => ?_, h11⟩
  obtain ⟨g1, g2⟩ := h10 y hy
  refine ⟨?_, g2⟩
  show (if _ then _ else _) < T 0 0
  split <;> assumption
theorem IT_u3 (h : IT T) {x v : Nat} (hv : v < T 0 0) : IT (mm_u T 3 x v) := by
  have hp := h.p
  refine ⟨mm_u_b h.b (by omega), ?_⟩
  obtain ⟨_, h2, h3, h4, h5, h6, h7, h8, h9, h10, h11⟩ := h
  refine ⟨h2, h3, h4, h5, h6, h7, h8, h9, fun y hy => ?_, h11⟩
  obtain ⟨g1, g2, g3⟩ := h10 y hy
  refine ⟨g1, ?_, g3⟩
  show (if _ then _ else _) < T 0 0
  split <;> assumption
theorem IT_u4 (h : IT T) {x v : Nat} (hv : v ≤ 9999) : IT (mm_u T 4 x v) := by
  refine ⟨mm_u_b h.b (by omega), ?_⟩
  obtain ⟨_, h2, h3, h4, h5, h6, h7, h8, h9, h10, h11⟩ := h
  refine ⟨h2, h3, h4, h5, h6, h7, h8, h9, fun y hy => ?_, h11⟩
  obtain ⟨g1, g2, g3, g4⟩ := h10 y hy
  refine ⟨g1, g2, ?_, g4⟩
  show (if _ then _ else _) ≤ 9999
  split <;> assumption
theorem IT_u6 (h : IT T) {x v : Nat} (hv : v ≤ 1) : IT (mm_u T 6 x v) := by
  refine ⟨mm_u_b h.b (by omega), ?_⟩
  obtain ⟨_, h2, h3, h4, h5, h6, h7, h8, h9, h10, h11⟩ := h
  refine ⟨h2, h3, h4, h5, h6, h7, h8, fun i => ?_, h10, h11⟩
  show (if _ then _ else _) ≤ 1
  split
  · assumption
  · exact h9 i
theorem IT_u7 (h : IT T) {x v : Nat} (hv : v ≤ T 7 x) : IT (mm_u T 7 x v) := by
  refine ⟨mm_u_b h.b (Nat.lt_of_le_of_lt hv (h.b 7 x)), ?_⟩
  obtain ⟨_, h2, h3, h4, h5, h6, h7, h8, h9, h10, h11⟩ := h
  refine ⟨h2, h3, h4, h5, h6, h7, h8, h9, fun y hy => ?_, h11⟩
  obtain ⟨g1, g2, g3, g4, g5, g6, g7⟩ := h10 y hy
  have e : mm_u T 7 x v 7 y ≤ T 7 y := by
    show (if _ then _ else _) ≤ T 7 y
    split
    · next e => rw [e.2]; exact hv
    · exact Nat.le_refl _
  exact ⟨g1, g2, g3, g4, Nat.le_trans e g5, fun i hi => g6 i (Nat.lt_of_lt_of_le hi e), fun i j hij hj => g7 i j hij (Nat.lt_of_lt_of_le hj e)⟩
theorem IT_u11 (h : IT T) {k v : Nat} (hv : v ≤ 9999) : IT (mm_u T 11 k v) := by
  refine ⟨mm_u_b h.b (by omega), ?_⟩
  obtain ⟨_, h2, h3, h4, h5, h6, h7, h8, h9, h10, h11⟩ := h
  refine ⟨h2, h3, h4, h5, h6, h7, h8, h9, h10, fun y hy => ?_⟩
  obtain ⟨g1, g2, g3, g4, g5⟩ := h11 y hy
  refine ⟨g1, g2, g3, ?_, g5⟩
  show (if _ then _ else _) ≤ 9999
  split <;> assumption
theorem IT_u13 (h : IT T) {k v : Nat} (hv : v ≤ 2) : IT (mm_u T 13 k v) := by
  refine ⟨mm_u_b h.b (by omega), ?_⟩
  obtain ⟨_, h2, h3, h4, h5, h6, h7, h8, h9, h10, h11⟩ := h
  refine ⟨h2, h3, h4, h5, h6, h7, h8, h9, h10, fun y hy => ?_⟩
  obtain ⟨g1, g2, g3, g4, g5, g6⟩ := h11 y hy
  refine ⟨g1, g2, g3, g4, g5, ?_⟩
  show (if _ then _ else _) ≤ 2
  split <;> assumption
theorem IT_u03 (h : IT T) {v : Nat} (hv : v ≤ 999) : IT (mm_u T 0 3 v) := by
  refine ⟨mm_u_b h.b (by omega), ?_⟩
  obtain ⟨_, h2, h3, h4, h5, h6, h7, h8, h9, h10, h11⟩ := h
  exact ⟨h2, h3, h4, hv, h6, h7, h8, h9, h10, h11⟩
theorem IT_u04 (h : IT T) {v : Nat} (hv : v ≤ 5) : IT (mm_u T 0 4 v) := by
  refine ⟨mm_u_b h.b (by omega), ?_⟩
  obtain ⟨_, h2, h3, h4, h5, h6, h7, h8, h9, h10, h11⟩ := h
  exact ⟨h2, h3, h4, h5, hv, h7, h8, h9, h10, h11⟩
theorem IT_u05 (h : IT T) {v : Nat} (hv : v ≤ 100) : IT (mm_u T 0 5 v) := by
  refine ⟨mm_u_b h.b (by omega), ?_⟩
  obtain ⟨_, h2, h3, h4, h5, h6, h7, h8, h9, h10, h11⟩ := h
  exact ⟨h2, h3, h4, h5, h6, hv, h8, h9, h10, h11⟩
/-- what a chain is whose first ones are taken off -/
theorem tw_drop_f (T : Nat → Nat → Nat) (x m : Nat) : ∀ f j, tw_drop T x m f j = if f = 7 ∧ j = x then T 7 x - m else if f = 8 ∧ 6 * x ≤ j ∧ j < 6 * x + (T 7 x - m) then T 8 (j + m) else T f j := by
  have key := lp_inv (f := fun i a => mm_u a 8 (6 * x + i) (a 8 (6 * x + m + i))) (P := fun n a => ∀ f j, a f j = if f = 8 ∧ 6 * x ≤ j ∧ j < 6 * x + n then T 8 (j + m) else T f j) (n := T 7 x - m) (a := T) (fun f j => by rw [if_neg (by omega)]) (fun i a hi hP f j => by
    simp only [mm_u]
    by_cases h : f = 8 ∧ j = 6 * x + i
    · rw [if_pos h, hP, if_neg (by omega), if_pos (by omega), h.2]
      congr 1; omega
    · rw [if_neg h, hP]
      by_cases h2 : f = 8 ∧ 6 * x ≤ j ∧ j < 6 * x + i
      · rw [if_pos h2, if_pos (by omega)]
      · rw [if_neg h2, if_neg (by omega)])
  intro f j
  unfold tw_drop
  show (if _ then _ else _) = _
  split
  · rfl
  · exact key f j
theorem tw_drop_ne {x m f : Nat} (h7 : f ≠ 7) (h8 : f ≠ 8) : tw_drop T x m f = T f := funext fun j => by rw [tw_drop_f, if_neg (by omega), if_neg (by omega)]
theorem IT_drop (h : IT T) {x m : Nat} (hx : x < T 0 1) : IT (tw_drop T x m) := by
  have hF := tw_drop_f T x m
  have e0 : tw_drop T x m 0 = T 0 := tw_drop_ne (by omega) (by omega)
  have ef : ∀ f, f ≠ 7 → f ≠ 8 → tw_drop T x m f = T f := fun f h7 h8 => tw_drop_ne h7 h8
  refine ⟨fun f j => ?_, ?_⟩
  · rw [hF]
    have := h.b 7 x
    split
    · omega
    · split
      · exact h.b _ _
      · exact h.b _ _
  obtain ⟨_, h2, h3, h4, h5, h6, h7, h8, h9, h10, h11⟩ := h
  rw [e0, ef 1 (by omega) (by omega), ef 6 (by omega) (by omega), ef 9 (by omega) (by omega), ef 10 (by omega) (by omega), ef 11 (by omega) (by omega), ef 12 (by omega) (by omega), ef 13 (by omega) (by omega), ef 2 (by omega) (by omega), ef 3 (by omega) (by omega), ef 4 (by omega) (by omega), ef 5 (by omega) (by omega)]
  refine ⟨h2, h3, h4, h5, h6, h7, h8, h9, fun y hy => ?_, h11⟩
  obtain ⟨g1, g2, g3, g4, g5, g6, g7⟩ := h10 y hy
  refine ⟨g1, g2, g3, g4, ?_⟩
  by_cases hyx : y = x
  · subst hyx
    have e7 : tw_drop T y m 7 y = T 7 y - m := by rw [hF, if_pos ⟨rfl, rfl⟩]
    have e8 : ∀ i, i < T 7 y - m → tw_drop T y m 8 (6 * y + i) = T 8 (6 * y + (i + m)) := fun i hi => by rw [hF, if_neg (by omega), if_pos (by omega)]; congr 1; omega
    rw [e7]
    refine ⟨by omega, fun i hi => ?_, fun i j hij hj => ?_⟩
    · rw [e8 i hi]; exact g6 _ (by omega)
    · rw [e8 i (by omega), e8 j hj]; exact g7 _ _ (by omega) (by omega)
  · have e7 : tw_drop T x m 7 y = T 7 y := by rw [hF, if_neg (by omega), if_neg (by omega)]
    have hl := (h10 x hx).2.2.2.2.1
    have e8 : ∀ i, i < T 7 y → tw_drop T x m 8 (6 * y + i) = T 8 (6 * y + i) := fun i hi => by rw [hF, if_neg (by omega), if_neg (by omega)]
    rw [e7]
    refine ⟨g5, fun i hi => ?_, fun i j hij hj => ?_⟩
    · rw [e8 i hi]; exact g6 _ hi
    · rw [e8 i (by omega), e8 j hj]; exact g7 _ _ hij hj
/-- a promise is put behind a thing's chain -/
def tw_app (T : Nat → Nat → Nat) (x k : Nat) : Nat → Nat → Nat := mm_u (mm_u T 8 (6 * x + T 7 x) k) 7 x (T 7 x + 1)
theorem IT_app (h : IT T) {x k : Nat} (hx : x < T 0 1) (hk : k < T 0 2) (hl : T 7 x < 6) (hd : ∀ i, i < T 7 x → T 8 (6 * x + i) ≠ k) : IT (tw_app T x k) := by
  have hk24 := h.k
  refine ⟨mm_u_b (mm_u_b h.b (by omega)) (by omega), ?_⟩
  obtain ⟨_, h2, h3, h4, h5, h6, h7, h8, h9, h10, h11⟩ := h
  refine ⟨h2, h3, h4, h5, h6, h7, h8, h9, fun y hy => ?_, h11⟩
  obtain ⟨g1, g2, g3, g4, g5, g6, g7⟩ := h10 y hy
  refine ⟨g1, g2, g3, g4, ?_⟩
  have e8 : ∀ j, tw_app T x k 8 j = if j = 6 * x + T 7 x then k else T 8 j := fun j => by simp [tw_app, mm_u]
  have e7 : ∀ j, tw_app T x k 7 j = if j = x then T 7 x + 1 else T 7 j := fun j => by simp [tw_app, mm_u]
  rw [e7]
  by_cases hyx : y = x
  · subst hyx
    rw [if_pos rfl]
    refine ⟨by omega, fun i hi => ?_, fun i j hij hj => ?_⟩
    · rw [e8]
      split
      · exact hk
      · exact g6 i (by omega)
    · rw [e8, e8, if_neg (by omega)]
      split
      · exact hd i (by omega)
      · exact g7 i j hij (by omega)
  · rw [if_neg hyx]
    refine ⟨g5, fun i hi => ?_, fun i j hij hj => ?_⟩
    · rw [e8, if_neg (by omega)]; exact g6 i hi
    · rw [e8, e8, if_neg (by omega), if_neg (by omega)]; exact g7 i j hij hj
/-! new ones -/
def tw_newP (T : Nat → Nat → Nat) (v : Nat) : Nat → Nat → Nat := mm_u (mm_u T 1 (T 0 0) v) 0 0 (T 0 0 + 1)
theorem IT_newP (h : IT T) {v : Nat} (hv : v ≤ 5) (hf : T 0 0 < 10) : IT (tw_newP T v) := by
  refine ⟨mm_u_b (mm_u_b h.b (by omega)) (by omega), ?_⟩
  obtain ⟨_, h2, h3, h4, h5, h6, h7, h8, h9, h10, h11⟩ := h
  have e1 : ∀ j, tw_newP T v 1 j = if j = T 0 0 then v else T 1 j := fun j => by simp [tw_newP, mm_u]
  have e0 : tw_newP T v 0 0 = T 0 0 + 1 := by simp [tw_newP, mm_u]
  rw [e0]
  refine ⟨by omega, h3, h4, h5, h6, h7, fun i hi => ?_, h9, fun y hy => ?_, fun k hk => ?_⟩
  · rw [e1]; split
    · exact hv
    · exact h8 i (by omega)
  · obtain ⟨g1, g2, g3⟩ := h10 y hy
    exact ⟨Nat.lt_succ_of_lt g1, Nat.lt_succ_of_lt g2, g3⟩
  · obtain ⟨g1, g2, g3⟩ := h11 k hk
    exact ⟨Nat.lt_succ_of_lt g1, Nat.lt_succ_of_lt g2, g3⟩
def tw_newT (T : Nat → Nat → Nat) (o b r : Nat) : Nat → Nat → Nat := mm_u (mm_u (mm_u (mm_u (mm_u (mm_u (mm_u T 2 (T 0 1) o) 3 (T 0 1) o) 4 (T 0 1) b) 5 (T 0 1) r) 6 (T 0 1) 0) 7 (T 0 1) 0) 0 1 (T 0 1 + 1)
theorem IT_newT (h : IT T) {o b r : Nat} (ho : o < T 0 0) (hb : b ≤ 9999) (hr : r ≤ 99) (hf : T 0 1 < 16) : IT (tw_newT T o b r) := by
  have hp := h.p
  refine ⟨mm_u_b (mm_u_b (mm_u_b (mm_u_b (mm_u_b (mm_u_b (mm_u_b h.b (by omega)) (by omega)) (by omega)) (by omega)) (by omega)) (by omega)) (by omega), ?_⟩
  obtain ⟨_, h2, h3, h4, h5, h6, h7, h8, h9, h10, h11⟩ := h
  have e0 : tw_newT T o b r 0 1 = T 0 1 + 1 := by simp [tw_newT, mm_u]
  rw [e0]
  refine ⟨h2, by omega, h4, h5, h6, h7, h8, fun i => ?_, fun y hy => ?_, h11⟩
  · have e6 : tw_newT T o b r 6 i = if i = T 0 1 then 0 else T 6 i := by simp [tw_newT, mm_u]
    rw [e6]; split
    · omega
    · exact h9 i
  · have q2 : tw_newT T o b r 2 y = if y = T 0 1 then o else T 2 y := by simp [tw_newT, mm_u]
    have q3 : tw_newT T o b r 3 y = if y = T 0 1 then o else T 3 y := by simp [tw_newT, mm_u]
    have q4 : tw_newT T o b r 4 y = if y = T 0 1 then b else T 4 y := by simp [tw_newT, mm_u]
    have q5 : tw_newT T o b r 5 y = if y = T 0 1 then r else T 5 y := by simp [tw_newT, mm_u]
    have q7 : tw_newT T o b r 7 y = if y = T 0 1 then 0 else T 7 y := by simp [tw_newT, mm_u]
    rw [q2, q3, q4, q5, q7]
    by_cases hy2 : y = T 0 1
    · rw [if_pos hy2, if_pos hy2, if_pos hy2, if_pos hy2, if_pos hy2]
      exact ⟨ho, ho, hb, hr, by omega, fun i hi => by omega, fun i j _ hj => by omega⟩
    · rw [if_neg hy2, if_neg hy2, if_neg hy2, if_neg hy2, if_neg hy2]
      exact h10 y (by omega)
def tw_newK (T : Nat → Nat → Nat) (a b s d : Nat) : Nat → Nat → Nat := mm_u (mm_u (mm_u (mm_u (mm_u (mm_u T 9 (T 0 2) a) 10 (T 0 2) b) 11 (T 0 2) s) 12 (T 0 2) d) 13 (T 0 2) 0) 0 2 (T 0 2 + 1)
theorem IT_newK (h : IT T) {a b s d : Nat} (ha : a < T 0 0) (hb : b < T 0 0) (hab : a ≠ b) (hs : s ≤ 9999) (hd : d ≤ 1098) (hf : T 0 2 < 24) : IT (tw_newK T a b s d) := by
  have hp := h.p
  refine ⟨mm_u_b (mm_u_b (mm_u_b (mm_u_b (mm_u_b (mm_u_b h.b (by omega)) (by omega)) (by omega)) (by omega)) (by omega)) (by omega), ?_⟩
  obtain ⟨_, h2, h3, h4, h5, h6, h7, h8, h9, h10, h11⟩ := h
  have e0 : tw_newK T a b s d 0 2 = T 0 2 + 1 := by simp [tw_newK, mm_u]
  rw [e0]
  refine ⟨h2, h3, by omega, h5, h6, h7, h8, h9, fun y hy => ?_, fun k hk => ?_⟩
  · obtain ⟨g1, g2, g3, g4, g5, g6, g7⟩ := h10 y hy
    exact ⟨g1, g2, g3, g4, g5, fun i hi => Nat.lt_succ_of_lt (g6 i hi), g7⟩
  · have q9 : tw_newK T a b s d 9 k = if k = T 0 2 then a else T 9 k := by simp [tw_newK, mm_u]
    have q10 : tw_newK T a b s d 10 k = if k = T 0 2 then b else T 10 k := by simp [tw_newK, mm_u]
    have q11 : tw_newK T a b s d 11 k = if k = T 0 2 then s else T 11 k := by simp [tw_newK, mm_u]
    have q12 : tw_newK T a b s d 12 k = if k = T 0 2 then d else T 12 k := by simp [tw_newK, mm_u]
    have q13 : tw_newK T a b s d 13 k = if k = T 0 2 then 0 else T 13 k := by simp [tw_newK, mm_u]
    rw [q9, q10, q11, q12, q13]
    by_cases hy2 : k = T 0 2
    · rw [if_pos hy2, if_pos hy2, if_pos hy2, if_pos hy2, if_pos hy2]
      exact ⟨ha, hb, hab, hs, hd, by omega⟩
    · rw [if_neg hy2, if_neg hy2, if_neg hy2, if_neg hy2, if_neg hy2]
      exact h11 k (by omega)
end IT2
/-! the whole changes -/
/-- a promise is kept: a thing's step -/
def kp1 (k x : Nat) (a : Nat × (Nat → Nat → Nat)) : Nat × (Nat → Nat → Nat) := if tw_in a.2 x k = true then (a.1 + 1, mm_u (mm_u a.2 7 x (a.2 7 x - 1)) 3 x (a.2 9 k)) else a
def kpL (T : Nat → Nat → Nat) (k : Nat) : Nat × (Nat → Nat → Nat) := lp (kp1 k) (T 0 1) (0, T)
def tw_kp (T : Nat → Nat → Nat) (k : Nat) : Nat × (Nat → Nat → Nat) := ((kpL T k).1, mm_u (kpL T k).2 13 k 1)
theorem kp1_IT {a : Nat × (Nat → Nat → Nat)} {k x : Nat} (h : IT a.2) (hk : k < a.2 0 2) : IT (kp1 k x a).2 ∧ (kp1 k x a).2 0 = a.2 0 := by
  unfold kp1
  split
  · refine ⟨IT_u3 (IT_u7 h (by omega)) ?_, ?_⟩
    · exact (h.pr k hk).1
    · show mm_u (mm_u a.2 7 x (a.2 7 x - 1)) 3 x (a.2 9 k) 0 = _
      rw [mm_u_fn (by omega), mm_u_fn (by omega)]
  · exact ⟨h, rfl⟩
theorem IT_kp {T : Nat → Nat → Nat} (h : IT T) {k : Nat} (hk : k < T 0 2) : IT (tw_kp T k).2 ∧ (tw_kp T k).2 0 = T 0 := by
  have key := lp_inv (f := kp1 k) (P := fun _ a => IT a.2 ∧ a.2 0 = T 0) (n := T 0 1) (a := (0, T)) ⟨h, rfl⟩ (fun i a hi hP => by
    obtain ⟨g1, g2⟩ := kp1_IT (x := i) hP.1 (by rw [hP.2]; exact hk)
    exact ⟨g1, g2.trans hP.2⟩)
  refine ⟨IT_u13 key.1 (by omega), ?_⟩
  show mm_u (kpL T k).2 13 k 1 0 = _
  rw [mm_u_fn (by omega)]
  exact key.2
/-- all that can be kept is kept, in order -/
def sr1 (k : Nat) (a : Nat × (Nat → Nat → Nat)) : Nat × (Nat → Nat → Nat) := if tw_can a.2 k = true then (a.1 + 1, (tw_kp a.2 k).2) else a
def tw_sr (T : Nat → Nat → Nat) : Nat × (Nat → Nat → Nat) := lp sr1 (T 0 2) (0, T)
theorem sr1_IT {a : Nat × (Nat → Nat → Nat)} {k : Nat} (h : IT a.2) (hk : k < a.2 0 2) : IT (sr1 k a).2 ∧ (sr1 k a).2 0 = a.2 0 := by
  unfold sr1
  split
  · exact IT_kp h hk
  · exact ⟨h, rfl⟩
theorem IT_sr {T : Nat → Nat → Nat} (h : IT T) : IT (tw_sr T).2 ∧ (tw_sr T).2 0 = T 0 :=
  lp_inv (f := sr1) (P := fun _ a => IT a.2 ∧ a.2 0 = T 0) (n := T 0 2) (a := (0, T)) ⟨h, rfl⟩ (fun i a hi hP => by
    obtain ⟨g1, g2⟩ := sr1_IT (k := i) hP.1 (by rw [hP.2]; exact hi)
    exact ⟨g1, g2.trans hP.2⟩)
/-- a promise is broken: a thing's step; harms are changed too -/
def fl1 (k x : Nat) (a : Nat × (Nat → Nat → Nat) × (Nat → Int64)) : Nat × (Nat → Nat → Nat) × (Nat → Int64) :=
  if tw_in a.2.1 x k = true then (if a.2.1 2 x = a.2.1 10 k then a.1 else a.1 + 1, tw_drop (mm_u a.2.1 2 x (a.2.1 10 k)) x (tw_pl a.2.1 x k + 1), vp_updL a.2.2 (a.2.1 2 x) (a.2.2 (a.2.1 2 x) + (nI (a.2.1 4 x)).toInt64)) else a
def flL (T : Nat → Nat → Nat) (H : Nat → Int64) (k : Nat) : Nat × (Nat → Nat → Nat) × (Nat → Int64) := lp (fl1 k) (T 0 1) (0, T, H)
def tw_fl (T : Nat → Nat → Nat) (H : Nat → Int64) (k : Nat) : Nat × (Nat → Nat → Nat) × (Nat → Int64) := ((flL T H k).1, mm_u (flL T H k).2.1 13 k 2, (flL T H k).2.2)
theorem fl1_IT {a : Nat × (Nat → Nat → Nat) × (Nat → Int64)} {k x : Nat} (h : IT a.2.1) (hk : k < a.2.1 0 2) (hx : x < a.2.1 0 1) : IT (fl1 k x a).2.1 ∧ (fl1 k x a).2.1 0 = a.2.1 0 := by
  unfold fl1
  split
  · refine ⟨IT_drop (IT_u2 h (h.pr k hk).2.1) hx, ?_⟩
    show tw_drop _ _ _ 0 = _
    rw [tw_drop_ne (by omega) (by omega), mm_u_fn (by omega)]
  · exact ⟨h, rfl⟩
theorem IT_fl {T : Nat → Nat → Nat} {H : Nat → Int64} (h : IT T) {k : Nat} (hk : k < T 0 2) : IT (tw_fl T H k).2.1 ∧ (tw_fl T H k).2.1 0 = T 0 := by
  have key := lp_inv (f := fl1 k) (P := fun _ a => IT a.2.1 ∧ a.2.1 0 = T 0) (n := T 0 1) (a := (0, T, H)) ⟨h, rfl⟩ (fun i a hi hP => by
    obtain ⟨g1, g2⟩ := fl1_IT (x := i) hP.1 (by rw [hP.2]; exact hk) (by rw [hP.2]; exact hi)
    exact ⟨g1, g2.trans hP.2⟩)
  refine ⟨IT_u13 key.1 (by omega), ?_⟩
  show mm_u (flL T H k).2.1 13 k 2 0 = _
  rw [mm_u_fn (by omega)]
  exact key.2
theorem IT_rot {T : Nat → Nat → Nat} (h : IT T) : IT (tw_rot T) ∧ tw_rot T 0 = T 0 :=
  lp_inv (P := fun _ a => IT a ∧ a 0 = T 0) ⟨h, rfl⟩ (fun i a hi hP => by
    refine ⟨IT_u4 hP.1 ?_, ?_⟩
    · have := (hP.1.th i (by rw [hP.2]; exact hi)).2.2.1
      omega
    · show mm_u _ _ _ _ 0 = _
      rw [mm_u_fn (by omega)]
      exact hP.2)
/-- a day passes -/
def pd1 (k : Nat) (a : Nat × (Nat → Nat → Nat) × (Nat → Int64)) : Nat × (Nat → Nat → Nat) × (Nat → Int64) :=
  if (a.2.1 13 k == 0 && decide (a.2.1 12 k < a.2.1 0 3)) = true then (a.1 + 1, (tw_fl a.2.1 a.2.2 k).2) else a
def tw_pd (T : Nat → Nat → Nat) (H : Nat → Int64) : Nat × (Nat → Nat → Nat) × (Nat → Int64) := lp pd1 (T 0 2) (0, tw_rot (mm_u T 0 3 (T 0 3 + 1)), H)
theorem pd1_IT {a : Nat × (Nat → Nat → Nat) × (Nat → Int64)} {k : Nat} (h : IT a.2.1) (hk : k < a.2.1 0 2) : IT (pd1 k a).2.1 ∧ (pd1 k a).2.1 0 = a.2.1 0 := by
  unfold pd1
  split
  · exact IT_fl h hk
  · exact ⟨h, rfl⟩
theorem IT_pd {T : Nat → Nat → Nat} {H : Nat → Int64} (h : IT T) (hd : T 0 3 < 999) : IT (tw_pd T H).2.1 ∧ (tw_pd T H).2.1 0 = mm_u T 0 3 (T 0 3 + 1) 0 ∧ (tw_pd T H).1 ≤ T 0 2 := by
  have h1 := IT_rot (IT_u03 h (v := T 0 3 + 1) (by omega))
  have key := lp_inv (f := pd1) (P := fun i a => IT a.2.1 ∧ a.2.1 0 = mm_u T 0 3 (T 0 3 + 1) 0 ∧ a.1 ≤ i) (n := T 0 2) (a := (0, tw_rot (mm_u T 0 3 (T 0 3 + 1)), H)) ⟨h1.1, h1.2, Nat.le_refl _⟩ (fun i a hi hP => by
    obtain ⟨g1, g2⟩ := pd1_IT (k := i) hP.1 (by rw [hP.2.1]; exact hi)
    refine ⟨g1, g2.trans hP.2.1, ?_⟩
    have := hP.2.2
    unfold pd1; split
    · show a.1 + 1 ≤ _; omega
    · omega)
  exact key
/-- an amount is taken off what one owes another -/
def to1 (p q k : Nat) (a : Nat × (Nat → Nat → Nat)) : Nat × (Nat → Nat → Nat) :=
  if 0 < a.1 ∧ (a.2 13 k = 0 ∧ a.2 9 k = p ∧ a.2 10 k = q) ∧ 0 < a.2 11 k then
    (a.1 - a.2 11 k, if a.2 11 k ≤ a.1 ∧ tw_last (mm_u a.2 11 k (a.2 11 k - a.1)) k = true then (tw_kp (mm_u a.2 11 k (a.2 11 k - a.1)) k).2 else mm_u a.2 11 k (a.2 11 k - a.1))
  else a
def tw_to (T : Nat → Nat → Nat) (p q v : Nat) : Nat → Nat → Nat := (lp (to1 p q) (T 0 2) (v, T)).2
theorem to1_IT {a : Nat × (Nat → Nat → Nat)} {p q k : Nat} (h : IT a.2) (hk : k < a.2 0 2) : IT (to1 p q k a).2 ∧ (to1 p q k a).2 0 = a.2 0 ∧ (to1 p q k a).1 ≤ a.1 := by
  unfold to1
  have hs := (h.pr k hk).2.2.2.1
  have h1 : IT (mm_u a.2 11 k (a.2 11 k - a.1)) := IT_u11 h (by omega)
  split
  · refine ⟨?_, ?_, by show _ - _ ≤ _; omega⟩
    · show IT (if _ then _ else _)
      split
      · exact (IT_kp h1 hk).1
      · exact h1
    · simp only
      split
      · rw [(IT_kp h1 hk).2, mm_u_fn (by omega)]
      · rw [mm_u_fn (by omega)]
  · exact ⟨h, rfl, Nat.le_refl _⟩
theorem IT_to {T : Nat → Nat → Nat} (h : IT T) {p q v : Nat} : IT (tw_to T p q v) ∧ tw_to T p q v 0 = T 0 :=
  lp_inv (f := to1 p q) (P := fun _ a => IT a.2 ∧ a.2 0 = T 0) (n := T 0 2) (a := (v, T)) ⟨h, rfl⟩ (fun i a hi hP => by
    obtain ⟨g1, g2, _⟩ := to1_IT (p := p) (q := q) (k := i) hP.1 (by rw [hP.2]; exact hi)
    exact ⟨g1, g2.trans hP.2⟩)
/-- things are put behind a promise -/
def pb1 (k s x : Nat) (a : Nat → Nat → Nat) : Nat → Nat → Nat := mm_u (tw_app a x k) 3 x s
def tw_pb (T : Nat → Nat → Nat) (k : Nat) (s : Int32) : Nat → Nat → Nat := lp (fun x a => if inS s x = true then mm_u (tw_app a x k) 3 x (a 10 k) else a) (T 0 1) T
theorem IT_pb {T : Nat → Nat → Nat} (h : IT T) {k : Nat} {s : Int32} (hk : k < T 0 2) (hl : ∀ x, x < T 0 1 → inS s x = true → T 7 x < 6) (hd : ∀ x, x < T 0 1 → ∀ i, i < T 7 x → T 8 (6 * x + i) ≠ k) : IT (tw_pb T k s) ∧ tw_pb T k s 0 = T 0 := by
  have key := lp_inv (f := fun x a => if inS s x = true then mm_u (tw_app a x k) 3 x (a 10 k) else a) (P := fun n a => IT a ∧ a 0 = T 0 ∧ (∀ x, n ≤ x → a 7 x = T 7 x) ∧ (∀ j, 6 * n ≤ j → a 8 j = T 8 j)) (n := T 0 1) (a := T) ⟨h, rfl, fun _ _ => rfl, fun _ _ => rfl⟩ (fun x a hx hP => by
    obtain ⟨h1, h2, h3, h4⟩ := hP
    split
    · next hs =>
      have hl7 : a 7 x = T 7 x := h3 x (Nat.le_refl _)
      have hxl := hl x hx hs
      refine ⟨IT_u3 (IT_app h1 (by rw [h2]; exact hx) (by rw [h2]; exact hk) (by omega) ?_) ?_, ?_, ?_, ?_⟩
      · intro i hi
        rw [h4 _ (by omega)]
        exact hd x hx i (by omega)
      · show a 10 k < a 0 0
        exact (h1.pr k (by rw [h2]; exact hk)).2.1
      · rw [mm_u_fn (by omega)]
        unfold tw_app
        rw [mm_u_fn (by omega), mm_u_fn (by omega)]
        exact h2
      · intro y hy
        rw [mm_u_fn (by omega)]
        have : tw_app a x k 7 y = a 7 y := by simp only [tw_app, mm_u]; rw [if_neg (by omega), if_neg (by omega)]
        rw [this]; exact h3 y (by omega)
      · intro j hj
        rw [mm_u_fn (by omega)]
        have : tw_app a x k 8 j = a 8 j := by simp only [tw_app, mm_u]; rw [if_neg (by omega), if_neg (by omega)]
        rw [this]; exact h4 j (by omega)
    · exact ⟨h1, h2, fun y hy => h3 y (by omega), fun j hj => h4 j (by omega)⟩)
  exact ⟨key.1, key.2.1⟩
