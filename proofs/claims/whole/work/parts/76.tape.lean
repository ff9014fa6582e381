/-! ===== the tape: its words, the scanner ===== -/
def rw5 (r : Nat → Int32) (a b c d : Int32) : Nat → Int32 := fun k => if k = 1 then a else if k = 2 then b else if k = 3 then c else if k = 4 then d else r k
/-- row f has the tape's words, town t the town -/
def TP (f t : Nat) (S : sw_S) (T : Nat → Nat → Nat) (H : Nat → Int64) (a b c d : Int32) : sw_S := mm_pM (mm_pL (mm_pI S t T) t H) f (rw5 (S.2.2 f) a b c d)
section TPS
variable (f t : Nat) (S : sw_S) (T T' : Nat → Nat → Nat) (H H' : Nat → Int64) (a b c d x : Int32)
theorem TP_T : (TP f t S T H a b c d).1 t = T := by unfold TP; rw [mm_pM_1, mm_pL_1, mm_pI_at]
theorem TP_H : (TP f t S T H a b c d).2.1 t = H := by unfold TP; rw [mm_pM_2, mm_pL_at]
theorem TP_Tn {q : Nat} (h : q ≠ t) : (TP f t S T H a b c d).1 q = S.1 q := by unfold TP; rw [mm_pM_1, mm_pL_1, mm_pI_ne _ _ h]
theorem TP_Hn {q : Nat} (h : q ≠ t) : (TP f t S T H a b c d).2.1 q = S.2.1 q := by unfold TP; rw [mm_pM_2, mm_pL_ne _ _ h, mm_pI_2]
theorem TP_fn {q : Nat} (h : q ≠ f) : (TP f t S T H a b c d).2.2 q = S.2.2 q := by unfold TP; rw [mm_pM_ne _ _ h, mm_pL_3, mm_pI_2]
theorem TP_f : (TP f t S T H a b c d).2.2 f = rw5 (S.2.2 f) a b c d := by unfold TP; rw [mm_pM_at]
theorem TP_f0 : (TP f t S T H a b c d).2.2 f 0 = S.2.2 f 0 := by rw [TP_f]; rfl
theorem TP_f1 : (TP f t S T H a b c d).2.2 f 1 = a := by rw [TP_f]; rfl
theorem TP_f2 : (TP f t S T H a b c d).2.2 f 2 = b := by rw [TP_f]; rfl
theorem TP_f3 : (TP f t S T H a b c d).2.2 f 3 = c := by rw [TP_f]; rfl
theorem TP_f4 : (TP f t S T H a b c d).2.2 f 4 = d := by rw [TP_f]; rfl
theorem TP_any (r : Nat → Int32) : mm_pM (TP f t S T H a b c d) f r = mm_pM (mm_pL (mm_pI S t T) t H) f r := by unfold TP; rw [mm_pM_pM]
theorem rw5_1 : upd (rw5 (S.2.2 f) a b c d) 1 x = rw5 (S.2.2 f) x b c d := by
  funext k; unfold upd rw5
  by_cases h : k = 1
  · subst h; rfl
  · simp [h]
theorem rw5_2 : upd (rw5 (S.2.2 f) a b c d) 2 x = rw5 (S.2.2 f) a x c d := by
  funext k; unfold upd rw5
  by_cases h : k = 2
  · subst h; rfl
  · simp [h]
theorem rw5_3 : upd (rw5 (S.2.2 f) a b c d) 3 x = rw5 (S.2.2 f) a b x d := by
  funext k; unfold upd rw5
  by_cases h : k = 3
  · subst h; rfl
  · simp [h]
theorem rw5_4 : upd (rw5 (S.2.2 f) a b c d) 4 x = rw5 (S.2.2 f) a b c x := by
  funext k; unfold upd rw5
  by_cases h : k = 4
  · subst h; rfl
  · simp [h]
theorem TP_w1 : mm_pM (TP f t S T H a b c d) f (upd ((TP f t S T H a b c d).2.2 f) 1 x) = TP f t S T H x b c d := by rw [TP_any, TP_f, rw5_1]; rfl
theorem TP_w2 : mm_pM (TP f t S T H a b c d) f (upd ((TP f t S T H a b c d).2.2 f) 2 x) = TP f t S T H a x c d := by rw [TP_any, TP_f, rw5_2]; rfl
theorem TP_w3 : mm_pM (TP f t S T H a b c d) f (upd ((TP f t S T H a b c d).2.2 f) 3 x) = TP f t S T H a b x d := by rw [TP_any, TP_f, rw5_3]; rfl
theorem TP_w4 : mm_pM (TP f t S T H a b c d) f (upd ((TP f t S T H a b c d).2.2 f) 4 x) = TP f t S T H a b c x := by rw [TP_any, TP_f, rw5_4]; rfl
theorem TP_wT : mm_pI (TP f t S T H a b c d) t T' = TP f t S T' H a b c d := by
  unfold TP
  rw [mm_pI_pM, mm_pI_pL, mm_pI_pI]
theorem TP_wH : mm_pL (TP f t S T H a b c d) t H' = TP f t S T H' a b c d := by
  unfold TP
  rw [mm_pL_pM, mm_pL_pL]
theorem TP_id : TP f t S (S.1 t) (S.2.1 t) (S.2.2 f 1) (S.2.2 f 2) (S.2.2 f 3) (S.2.2 f 4) = S := by
  have e : rw5 (S.2.2 f) (S.2.2 f 1) (S.2.2 f 2) (S.2.2 f 3) (S.2.2 f 4) = S.2.2 f := by
    funext k; unfold rw5
    by_cases h1 : k = 1
    · subst h1; rfl
    · by_cases h2 : k = 2
      · subst h2; rfl
      · by_cases h3 : k = 3
        · subst h3; rfl
        · by_cases h4 : k = 4
          · subst h4; rfl
          · simp [h1, h2, h3, h4]
  unfold TP
  rw [e, mm_pI_id, mm_pL_id, mm_pM_id]
end TPS
/-! the scanner -/
def sk (q : Nat → Bool) : Nat → Nat → Nat
  | 0, i => i
  | k + 1, i => if q i = true then sk q k (i + 1) else i
def run (q : Nat → Bool) (n i : Nat) : Nat := sk q (n - i) i
theorem run_e {q : Nat → Bool} {n i : Nat} (h : ¬ i < n) : run q n i = i := by
  unfold run
  rw [show n - i = 0 by omega]; rfl
theorem run_y {q : Nat → Bool} {n i : Nat} (h : i < n) (hq : q i = true) : run q n i = run q n (i + 1) := by
  unfold run
  rw [show n - i = (n - (i + 1)) + 1 by omega]
  exact if_pos hq
theorem run_n {q : Nat → Bool} {n i : Nat} (h : i < n) (hq : ¬ q i = true) : run q n i = i := by
  unfold run
  rw [show n - i = (n - (i + 1)) + 1 by omega]
  exact if_neg hq
theorem run_b {q : Nat → Bool} {n : Nat} : ∀ m i, n - i ≤ m → i ≤ n → i ≤ run q n i ∧ run q n i ≤ n
  | m, i, hm, hi => by
    by_cases h : i < n
    · by_cases hq : q i = true
      · rw [run_y h hq]
        cases m with
        | zero => omega
        | succ m =>
          have := run_b (q := q) (n := n) m (i + 1) (by omega) (by omega)
          omega
      · rw [run_n h hq]; omega
    · rw [run_e h]; omega
theorem run_le {q : Nat → Bool} {n i : Nat} (hi : i ≤ n) : i ≤ run q n i ∧ run q n i ≤ n := run_b (n - i) i (Nat.le_refl _) hi
def isLt (b : Nat) : Bool := decide (97 ≤ b) && decide (b ≤ 122)
def isDg (b : Nat) : Bool := decide (48 ≤ b) && decide (b ≤ 57)
section SCN
variable (p : Nat → Nat) (n : Nat)
def sp (i : Nat) : Nat := run (fun j => decide (p j = 32)) n i
def tk (f : Nat) : Nat := if ¬ f < n then 0 else if isLt (p f) = true then 1 else if isDg (p f) = true then 2 else if p f = 59 then 3 else 4
def en (f : Nat) : Nat := if ¬ f < n then f else if isLt (p f) = true then run (fun j => isLt (p j)) n f else if isDg (p f) = true then run (fun j => isDg (p j)) n f else f + 1
def nv (m : Nat → Nat) : Nat → Nat → Nat → Nat
  | 0, _, v => v
  | k + 1, i, v => nv m k (i + 1) (if 9999 < v then v else v * 10 + m i - 48)
def vl (f : Nat) : Nat := nv p (en p n f - f) f 0
def dd (f : Nat) (d : Int32) : Int32 := if tk p n f = 2 then nI (vl p n f) else d
def nx (f : Nat) : Nat := sp p n (en p n f)
theorem tk_le (f : Nat) : tk p n f ≤ 4 := by
  unfold tk
  repeat' split
  all_goals omega
variable {p n}
theorem en_b {f : Nat} (h : f ≤ n) : f ≤ en p n f ∧ en p n f ≤ n ∧ (f < n → f < en p n f) := by
  unfold en
  by_cases h1 : f < n
  · rw [if_neg (not_not_intro h1)]
    by_cases h2 : isLt (p f) = true
    · rw [if_pos h2, run_y (q := fun j => isLt (p j)) h1 h2]
      have := run_le (q := fun j => isLt (p j)) (n := n) (i := f + 1) h1
      omega
    · rw [if_neg h2]
      by_cases h3 : isDg (p f) = true
      · rw [if_pos h3, run_y (q := fun j => isDg (p j)) h1 h3]
        have := run_le (q := fun j => isDg (p j)) (n := n) (i := f + 1) h1
        omega
      · rw [if_neg h3]; omega
  · rw [if_pos h1]; omega
theorem nx_b {f : Nat} (h : f ≤ n) : f ≤ nx p n f ∧ nx p n f ≤ n ∧ (f < n → f < nx p n f) := by
  have h1 := en_b (p := p) h
  have h2 := run_le (q := fun j => decide (p j = 32)) (n := n) (i := en p n f) h1.2.1
  unfold nx sp
  omega
theorem nv_b : ∀ (k i v : Nat), (∀ j, p j < 256) → v ≤ 100207 → nv p k i v ≤ 100207
  | 0, _, v, _, hv => hv
  | k + 1, i, v, hp, hv => by
    have := hp i
    unfold nv
    refine nv_b k (i + 1) _ hp ?_
    split <;> omega
theorem vl_b (hp : ∀ j, p j < 256) (f : Nat) : vl p n f ≤ 100207 := nv_b _ _ _ hp (by omega)
end SCN
