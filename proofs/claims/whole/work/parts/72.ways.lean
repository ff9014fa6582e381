/-! ===== the ways back to one, by steps ===== -/
def exV (n : Nat) (f : Nat → Bool) : Bool := !decide (∀ v, v < n → f v = false)
theorem exV_iff {n : Nat} {f : Nat → Bool} : exV n f = true ↔ ∃ v, v < n ∧ f v = true := by
  unfold exV
  constructor
  · intro h
    simp only [Bool.not_eq_true', decide_eq_false_iff_not] at h
    refine Classical.byContradiction (fun g => h (fun v hv => ?_))
    cases hf : f v with
    | false => rfl
    | true => exact absurd ⟨v, hv, hf⟩ g
  · rintro ⟨v, hv, hf⟩
    simp only [Bool.not_eq_true', decide_eq_false_iff_not]
    intro g
    rw [g v hv] at hf
    cases hf
/-- those from whom it takes just k steps; those from whom it takes no more -/
def Dl (e : Nat → Nat → Bool) (P p : Nat) : Nat → Nat → Bool × Bool
  | 0 => fun i => (i == p, i == p)
  | k + 1 => fun i => (decide (i < P) && !(Dl e P p k i).2 && exV P (fun v => e i v && (Dl e P p k v).1), (Dl e P p k i).2 || (decide (i < P) && !(Dl e P p k i).2 && exV P (fun v => e i v && (Dl e P p k v).1)))
section DL
variable {e : Nat → Nat → Bool} {P p : Nat}
theorem Dl_seen : ∀ k i, (Dl e P p k i).2 = true ↔ ∃ j, j ≤ k ∧ (Dl e P p j i).1 = true := by
  intro k
  induction k with
  | zero =>
    intro i
    exact ⟨fun h => ⟨0, Nat.le_refl 0, h⟩, fun ⟨j, hj, h⟩ => by rw [show j = 0 by omega] at h; exact h⟩
  | succ k ih =>
    intro i
    show ((Dl e P p k i).2 || (Dl e P p (k + 1) i).1) = true ↔ _
    rw [Bool.or_eq_true, ih i]
    constructor
    · rintro (⟨j, hj, h⟩ | h)
      · exact ⟨j, by omega, h⟩
      · exact ⟨k + 1, Nat.le_refl _, h⟩
    · rintro ⟨j, hj, h⟩
      rcases Nat.lt_or_ge j (k + 1) with g | g
      · exact Or.inl ⟨j, by omega, h⟩
      · rw [show j = k + 1 by omega] at h
        exact Or.inr h
theorem Dl_succ {k i : Nat} : (Dl e P p (k + 1) i).1 = true ↔ i < P ∧ (Dl e P p k i).2 = false ∧ ∃ v, v < P ∧ e i v = true ∧ (Dl e P p k v).1 = true := by
  show (decide (i < P) && !(Dl e P p k i).2 && exV P (fun v => e i v && (Dl e P p k v).1)) = true ↔ _
  rw [Bool.and_eq_true, Bool.and_eq_true, exV_iff, decide_eq_true_eq, Bool.not_eq_true']
  simp only [Bool.and_eq_true]
  exact ⟨fun ⟨⟨h1, h2⟩, h3⟩ => ⟨h1, h2, h3⟩, fun ⟨h1, h2, h3⟩ => ⟨⟨h1, h2⟩, h3⟩⟩
/-- one has one number of steps at most -/
theorem Dl_uniq {k l i : Nat} (hk : (Dl e P p k i).1 = true) (hl : (Dl e P p l i).1 = true) : k = l := by
  have key : ∀ a b, a < b → (Dl e P p a i).1 = true → (Dl e P p b i).1 = true → False := by
    intro a b hab ha hb
    cases b with
    | zero => omega
    | succ b =>
      have h := (Dl_succ.mp hb).2.1
      have : (Dl e P p b i).2 = true := (Dl_seen b i).mpr ⟨a, by omega, ha⟩
      rw [h] at this; cases this
  rcases Nat.lt_trichotomy k l with g | g | g
  · exact (key k l g hk hl).elim
  · exact g
  · exact (key l k g hl hk).elim
theorem Dl_lt (hp : p < P) {k i : Nat} (h : (Dl e P p k i).1 = true) : i < P := by
  cases k with
  | zero =>
    have : i = p := by simpa using (show (i == p) = true from h)
    omega
  | succ k => exact (Dl_succ.mp h).1
theorem Dl_0 {i : Nat} : (Dl e P p 0 i).1 = true ↔ i = p := by
  show (i == p) = true ↔ _
  simp
/-- a step ahead of one -/
theorem Dl_step {k i v : Nat} (hi : i < P) (hv : v < P) (he : e i v = true) (h : (Dl e P p k v).1 = true) : ∃ l, l ≤ k + 1 ∧ (Dl e P p l i).1 = true := by
  by_cases hs : (Dl e P p k i).2 = true
  · obtain ⟨j, hj, g⟩ := (Dl_seen k i).mp hs
    exact ⟨j, by omega, g⟩
  · exact ⟨k + 1, Nat.le_refl _, Dl_succ.mpr ⟨hi, by simpa using hs, v, hv, he, h⟩⟩
theorem cnt_more {q r : Nat → Bool} : ∀ {n : Nat}, (∀ i, i < n → q i = true → r i = true) → (∃ i, i < n ∧ r i = true ∧ q i = false) → tw_cnt n q + 1 ≤ tw_cnt n r := by
  intro n
  induction n with
  | zero => intro _ h; obtain ⟨i, hi, _⟩ := h; omega
  | succ n ih =>
    intro h1 h2
    have mono : tw_cnt n q ≤ tw_cnt n r := by
      have : ∀ m, m ≤ n → tw_cnt m q ≤ tw_cnt m r := by
        intro m
        induction m with
        | zero => intro _; exact Nat.le_refl _
        | succ m ihm =>
          intro hm
          have := ihm (by omega)
          have hq := h1 m (by omega)
          show (if q m = true then tw_cnt m q + 1 else tw_cnt m q) ≤ (if r m = true then tw_cnt m r + 1 else tw_cnt m r)
          by_cases g : q m = true
          · rw [if_pos g, if_pos (hq g)]; omega
          · rw [if_neg g]; split <;> omega
      exact this n (Nat.le_refl n)
    show (if q n = true then tw_cnt n q + 1 else tw_cnt n q) + 1 ≤ (if r n = true then tw_cnt n r + 1 else tw_cnt n r)
    obtain ⟨i, hi, hr, hq⟩ := h2
    rcases Nat.lt_or_ge i n with g | g
    · have := ih (fun j hj => h1 j (by omega)) ⟨i, g, hr, hq⟩
      have hqn := h1 n (by omega)
      by_cases g2 : q n = true
      · rw [if_pos g2, if_pos (hqn g2)]; omega
      · rw [if_neg g2]; split <;> omega
    · have e1 : i = n := by omega
      subst e1
      rw [if_pos hr, if_neg (by rw [hq]; decide)]
      omega
/-- there are no more steps than people -/
theorem Dl_few (hp : p < P) : ∀ k, (∃ i, (Dl e P p k i).1 = true) → k + 1 ≤ tw_cnt P (fun i => (Dl e P p k i).2) := by
  intro k
  induction k with
  | zero =>
    intro _
    have := cnt_more (q := fun _ => false) (r := fun i => (Dl e P p 0 i).2) (n := P) (fun i _ h => by cases h) ⟨p, hp, (Dl_seen 0 p).mpr ⟨0, Nat.le_refl 0, Dl_0.mpr rfl⟩, rfl⟩
    omega
  | succ k ih =>
    rintro ⟨i, hi⟩
    obtain ⟨h1, h2, v, hv, he, hd⟩ := Dl_succ.mp hi
    have := ih ⟨v, hd⟩
    have m := cnt_more (q := fun i => (Dl e P p k i).2) (r := fun i => (Dl e P p (k + 1) i).2) (n := P) (fun j _ h => by
      obtain ⟨a, ha, g⟩ := (Dl_seen k j).mp h
      exact (Dl_seen (k + 1) j).mpr ⟨a, by omega, g⟩) ⟨i, h1, (Dl_seen (k + 1) i).mpr ⟨k + 1, Nat.le_refl _, hi⟩, h2⟩
    omega
theorem Dl_lev (hp : p < P) {k i : Nat} (h : (Dl e P p k i).1 = true) : k < P := by
  have := Dl_few hp k ⟨i, h⟩
  have h2 : tw_cnt P (fun i => (Dl e P p k i).2) ≤ P := tw_cnt_le
  omega
/-! the reference's distances -/
def fr1 (e : Nat → Nat → Bool) (u v : Nat) (f : Nat → Nat) : Nat → Nat := if v ≠ u ∧ e u v = true ∧ f v + 1 < f u then fun i => if i = u then f v + 1 else f i else f
def fr2 (e : Nat → Nat → Bool) (P p : Nat) (u : Nat) (f : Nat → Nat) : Nat → Nat := if u = p then f else lp (fr1 e u) P f
def fr3 (e : Nat → Nat → Bool) (P p : Nat) (_ : Nat) (f : Nat → Nat) : Nat → Nat := lp (fr2 e P p) P f
def far (e : Nat → Nat → Bool) (P p : Nat) : Nat → Nat := lp (fr3 e P p) P (fun i => if i = p then 0 else 99)
/-- what holds of them all along -/
def FI (e : Nat → Nat → Bool) (P p : Nat) (f : Nat → Nat) : Prop := (∀ i, f i ≤ 99) ∧ f p = 0 ∧ (∀ i k, (Dl e P p k i).1 = true → k ≤ f i) ∧ (∀ i, i < P → (∀ k, (Dl e P p k i).1 = false) → f i = 99)
theorem fr1_FI (hP : P ≤ 10) (hp : p < P) {u v : Nat} (hu : u < P) (hv : v < P) (hup : u ≠ p) {f : Nat → Nat} (h : FI e P p f) : FI e P p (fr1 e u v f) ∧ (∀ i, fr1 e u v f i ≤ f i) ∧ (v ≠ u → e u v = true → fr1 e u v f u ≤ f v + 1) := by
  unfold fr1
  by_cases hc : v ≠ u ∧ e u v = true ∧ f v + 1 < f u
  · rw [if_pos hc]
    obtain ⟨h1, h2, h3, h4⟩ := h
    have hb := h1 u
    have hlev : ∃ l, (Dl e P p l v).1 = true := by
      refine Classical.byContradiction (fun g => ?_)
      have := h4 v hv (fun k => by
        cases hd : (Dl e P p k v).1 with
        | false => rfl
        | true => exact absurd ⟨k, hd⟩ g)
      omega
    obtain ⟨l, hl⟩ := hlev
    obtain ⟨l', hl', hu'⟩ := Dl_step hu hv hc.2.1 hl
    refine ⟨⟨fun i => ?_, ?_, fun i k hk => ?_, fun i hi hn => ?_⟩, fun i => ?_, fun _ _ => ?_⟩
    · show (if i = u then f v + 1 else f i) ≤ 99
      split
      · omega
      · exact h1 i
    · show (if p = u then f v + 1 else f p) = 0
      rw [if_neg (fun g => hup g.symm)]; exact h2
    · show k ≤ (if i = u then f v + 1 else f i)
      split
      · next g =>
        rw [g] at hk
        have e1 := Dl_uniq hk hu'
        have e2 := h3 v l hl
        omega
      · exact h3 i k hk
    · show (if i = u then f v + 1 else f i) = 99
      split
      · next g =>
        have := hn l'
        rw [g, hu'] at this; cases this
      · exact h4 i hi hn
    · show (if i = u then f v + 1 else f i) ≤ f i
      split
      · next g => rw [g]; omega
      · exact Nat.le_refl _
    · show (if u = u then f v + 1 else f u) ≤ f v + 1
      rw [if_pos rfl]; exact Nat.le_refl _
  · rw [if_neg hc]
    refine ⟨h, fun i => Nat.le_refl _, fun g1 g2 => ?_⟩
    exact Nat.not_lt.mp (fun g => hc ⟨g1, g2, g⟩)
theorem fr2_FI (hP : P ≤ 10) (hp : p < P) {u : Nat} (hu : u < P) {f : Nat → Nat} (h : FI e P p f) : FI e P p (fr2 e P p u f) ∧ (∀ i, fr2 e P p u f i ≤ f i) ∧ (u ≠ p → ∀ v, v < P → v ≠ u → e u v = true → fr2 e P p u f u ≤ f v + 1) := by
  unfold fr2
  by_cases hup : u = p
  · rw [if_pos hup]
    exact ⟨h, fun i => Nat.le_refl _, fun g => absurd hup g⟩
  · rw [if_neg hup]
    have key := lp_inv (f := fr1 e u) (P := fun n g => n ≤ P → FI e P p g ∧ (∀ i, g i ≤ f i) ∧ ∀ v, v < n → v ≠ u → e u v = true → g u ≤ f v + 1) (n := P) (a := f) (fun _ => ⟨h, fun i => Nat.le_refl _, fun v hv => by omega⟩) (fun n g hn hQ _ => by
      obtain ⟨q1, q2, q3⟩ := hQ (by omega)
      obtain ⟨r1, r2, r3⟩ := fr1_FI hP hp hu hn hup q1
      refine ⟨r1, fun i => Nat.le_trans (r2 i) (q2 i), fun v hv hvu he => ?_⟩
      rcases Nat.lt_or_ge v n with g1 | g1
      · exact Nat.le_trans (r2 u) (q3 v g1 hvu he)
      · have e1 : v = n := by omega
        subst e1
        have := r3 hvu he
        have := q2 v
        omega)
    obtain ⟨k1, k2, k3⟩ := key (Nat.le_refl P)
    exact ⟨k1, k2, fun _ => k3⟩
theorem fr3_FI (hP : P ≤ 10) (hp : p < P) {t : Nat} {f : Nat → Nat} (h : FI e P p f) (ht : ∀ i k, (Dl e P p k i).1 = true → k ≤ t → f i ≤ k) : FI e P p (fr3 e P p t f) ∧ ∀ i k, (Dl e P p k i).1 = true → k ≤ t + 1 → fr3 e P p t f i ≤ k := by
  have key := lp_inv (f := fr2 e P p) (P := fun n g => n ≤ P → FI e P p g ∧ (∀ i, g i ≤ f i) ∧ ∀ u, u < n → u ≠ p → ∀ v, v < P → v ≠ u → e u v = true → g u ≤ f v + 1) (n := P) (a := f) (fun _ => ⟨h, fun i => Nat.le_refl _, fun u hu => by omega⟩) (fun n g hn hQ _ => by
    obtain ⟨q1, q2, q3⟩ := hQ (by omega)
    obtain ⟨r1, r2, r3⟩ := fr2_FI hP hp hn q1
    refine ⟨r1, fun i => Nat.le_trans (r2 i) (q2 i), fun u hu hup v hv hvu he => ?_⟩
    rcases Nat.lt_or_ge u n with g1 | g1
    · exact Nat.le_trans (r2 u) (q3 u g1 hup v hv hvu he)
    · have e1 : u = n := by omega
      subst e1
      have := r3 hup v hv hvu he
      have := q2 v
      omega)
  obtain ⟨k1, k2, k3⟩ := key (Nat.le_refl P)
  refine ⟨k1, fun i k hd hk => ?_⟩
  rcases Nat.lt_or_ge k (t + 1) with g | g
  · exact Nat.le_trans (k2 i) (ht i k hd (by omega))
  · have e1 : k = t + 1 := by omega
    subst e1
    obtain ⟨h1, h2, v, hv, he, hdv⟩ := Dl_succ.mp hd
    have hip : i ≠ p := fun g => by
      have := Dl_uniq hd (Dl_0.mpr g)
      omega
    have hvi : v ≠ i := fun g => by
      rw [g] at hdv
      have := Dl_uniq hd hdv
      omega
    have := k3 i h1 hip v hv hvi he
    have := ht v t hdv (Nat.le_refl t)
    show lp (fr2 e P p) P f i ≤ t + 1
    omega
theorem far_ok (hP : P ≤ 10) (hp : p < P) : FI e P p (far e P p) ∧ ∀ i k, (Dl e P p k i).1 = true → far e P p i = k := by
  have h0 : FI e P p (fun i => if i = p then 0 else 99) := by
    refine ⟨fun i => ?_, by simp, fun i k hk => ?_, fun i hi hn => ?_⟩
    · show (if i = p then 0 else 99) ≤ 99
      split <;> omega
    · show k ≤ (if i = p then 0 else 99)
      split
      · next g =>
        have := Dl_uniq hk (Dl_0.mpr g)
        omega
      · have := Dl_lev hp hk
        omega
    · show (if i = p then 0 else 99) = 99
      rw [if_neg (fun g => by
        have := hn 0
        rw [Dl_0.mpr g] at this; cases this)]
  have key := lp_inv (f := fr3 e P p) (P := fun n g => FI e P p g ∧ ∀ i k, (Dl e P p k i).1 = true → k ≤ n → g i ≤ k) (n := P) (a := fun i => if i = p then 0 else 99) ⟨h0, fun i k hd hk => by
    have e1 : k = 0 := by omega
    subst e1
    show (if i = p then 0 else 99) ≤ 0
    rw [if_pos (Dl_0.mp hd)]
    exact Nat.le_refl 0⟩ (fun n g hn hQ => fr3_FI hP hp hQ.1 hQ.2)
  refine ⟨key.1, fun i k hd => ?_⟩
  have h1 := key.2 i k hd (Nat.le_of_lt (Dl_lev hp hd))
  have h2 := key.1.2.2.1 i k hd
  exact Nat.le_antisymm h1 h2
/-- a number of steps, told by the distances -/
theorem far_iff (hP : P ≤ 10) (hp : p < P) {i k : Nat} (hi : i < P) (hk : k < 99) : far e P p i = k ↔ (Dl e P p k i).1 = true := by
  obtain ⟨h1, h2⟩ := far_ok (e := e) hP hp
  constructor
  · intro h
    refine Classical.byContradiction (fun g => ?_)
    by_cases hx : ∃ l, (Dl e P p l i).1 = true
    · obtain ⟨l, hl⟩ := hx
      have := h2 i l hl
      rw [h] at this
      rw [this] at g
      exact g hl
    · have := h1.2.2.2 i hi (fun l => by
        cases hd : (Dl e P p l i).1 with
        | false => rfl
        | true => exact absurd ⟨l, hd⟩ hx)
      omega
  · intro h
    exact h2 i k h
end DL
/-! the ring itself -/
/-- is there one to whom it owes something, from whom it takes just k steps -/
def rgk (e : Nat → Nat → Bool) (P p : Nat) (k : Nat) : Bool := exV P (fun v => e p v && (Dl e P p k v).1)
/-- how many a shortest ring has; 0: there is none -/
def rgl (e : Nat → Nat → Bool) (P p : Nat) : Nat := if fa_first (fun j => rgk e P p (j + 1)) 9 < 9 then fa_first (fun j => rgk e P p (j + 1)) 9 + 2 else 0
/-- its people -/
def rgm (e : Nat → Nat → Bool) (P p L : Nat) : Nat → Nat
  | 0 => p
  | i + 1 => fa_first (fun v => e (rgm e P p L i) v && (Dl e P p (L - (i + 1)) v).1) P
section RG
variable {e : Nat → Nat → Bool} {P p : Nat}
theorem first_ex {q : Nat → Bool} {n : Nat} (h : ∃ v, v < n ∧ q v = true) : fa_first q n < n := by
  obtain ⟨v, hv, hq⟩ := h
  refine Classical.byContradiction (fun g => ?_)
  have := fa_first_no q n v (by omega)
  rw [hq] at this
  cases this
theorem rgl_le : rgl e P p ≤ 10 := by
  unfold rgl
  split <;> omega
theorem rgl_2 (h : 0 < rgl e P p) : 2 ≤ rgl e P p ∧ rgk e P p (rgl e P p - 1) = true := by
  unfold rgl at h ⊢
  split
  · next hf =>
    refine ⟨by omega, ?_⟩
    have := fa_first_yes _ _ hf
    exact this
  · next hf =>
    rw [if_neg hf] at h
    omega
theorem rgm_ok (hp : p < P) (h : 0 < rgl e P p) : ∀ i, i < rgl e P p → rgm e P p (rgl e P p) i < P ∧ (0 < i → (Dl e P p (rgl e P p - i) (rgm e P p (rgl e P p) i)).1 = true) ∧ (i + 1 < rgl e P p → ∃ v, v < P ∧ (e (rgm e P p (rgl e P p) i) v && (Dl e P p (rgl e P p - (i + 1)) v).1) = true) := by
  obtain ⟨h2, hk⟩ := rgl_2 h
  generalize hL : rgl e P p = L at *
  intro i
  induction i with
  | zero =>
    intro _
    refine ⟨hp, fun g => absurd g (Nat.lt_irrefl 0), fun _ => ?_⟩
    unfold rgk at hk
    exact exV_iff.mp hk
  | succ i ih =>
    intro hi
    obtain ⟨_, _, h5⟩ := ih (by omega)
    have hf := first_ex (h5 hi)
    have hy := fa_first_yes _ _ hf
    simp only [Bool.and_eq_true] at hy
    refine ⟨hf, fun _ => hy.2, fun hi2 => ?_⟩
    have hd : (Dl e P p (L - (i + 1)) (rgm e P p L (i + 1))).1 = true := hy.2
    have e1 : L - (i + 1) = (L - (i + 1 + 1)) + 1 := by omega
    rw [e1] at hd
    obtain ⟨_, _, v, hv, he, hdv⟩ := Dl_succ.mp hd
    exact ⟨v, hv, by rw [he, hdv]; rfl⟩
end RG
