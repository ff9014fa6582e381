/-! ===== the memory of class and reference ===== -/
/-- towns (region, field, index), longs (row, index), other ints (field, index) -/
abbrev sw_S : Type := (Nat → Nat → Nat → Nat) × (Nat → Nat → Int64) × (Nat → Nat → Int32)
def mm_tn (t j : Nat) : Nat := 1 + 18 * t + j
def mm_sh (s : Nat) : Nat := 62 + 2 * s
def mm_sr (s : Nat) : Nat := 63 + 2 * s
def mm_iA (n : Nat) (f : Nat → Int32) : sw_AC := .inl (.int, n, .inl (fun i => if i < n then f i else 0))
def mm_zA (n : Nat) (f : Nat → Int32) : sw_AC := .inl (.boolean, n, .inl (fun i => if i < n then f i else 0))
def mm_lA (n : Nat) (f : Nat → Int64) : sw_AC := .inl (.long, n, .inr (.inl (fun i => if i < n then f i else 0)))
theorem mm_lA_congr {n : Nat} {f g : Nat → Int64} (h : ∀ j, j < n → f j = g j) : mm_lA n f = mm_lA n g := by
  unfold mm_lA
  congr 5
  funext j
  by_cases hj : j < n
  · rw [if_pos hj, if_pos hj, h j hj]
  · rw [if_neg hj, if_neg hj]
theorem mm_iA_congr {n : Nat} {f g : Nat → Int32} (h : ∀ j, j < n → f j = g j) : mm_iA n f = mm_iA n g := by
  unfold mm_iA
  congr 4
  funext j
  by_cases hj : j < n
  · rw [if_pos hj, if_pos hj, h j hj]
  · rw [if_neg hj, if_neg hj]
/-- the reference's row of 328 ints: which field, which index -/
def mm_ff (i : Nat) : Nat := if i < 6 then 0 else if i < 16 then 1 else if i < 208 then (if (i - 16) % 12 < 6 then 2 + (i - 16) % 12 else 8) else 9 + (i - 208) % 5
def mm_fi (i : Nat) : Nat := if i < 6 then i else if i < 16 then i - 6 else if i < 208 then (if (i - 16) % 12 < 6 then (i - 16) / 12 else 6 * ((i - 16) / 12) + ((i - 16) % 12 - 6)) else (i - 208) / 5
def mm_fl (T : Nat → Nat → Nat) (i : Nat) : Int32 := nI (T (mm_ff i) (mm_fi i))
def mm_ct (S : sw_S) (t j : Nat) : sw_AC := match j with
  | 0 => .inr (6, [.ref (mm_tn t 1), .ref (mm_tn t 4), .ref (mm_tn t 12), .int (nI (S.1 t 0 4)), .int (nI (S.1 t 0 5)), .int (nI (S.1 t 0 3))])
  | 1 => .inr (0, [.ref (mm_tn t 2), .ref (mm_tn t 3), .int (nI (S.1 t 0 0))])
  | 2 => mm_iA 10 (fun i => nI (S.1 t 1 i))
  | 3 => mm_lA 10 (S.2.1 t)
  | 4 => .inr (5, [.ref (mm_tn t 5), .ref (mm_tn t 6), .ref (mm_tn t 7), .ref (mm_tn t 8), .ref (mm_tn t 9), .ref (mm_tn t 10), .ref (mm_tn t 11), .int (nI (S.1 t 0 1))])
  | 5 => mm_iA 16 (fun i => nI (S.1 t 2 i))
  | 6 => mm_iA 16 (fun i => nI (S.1 t 3 i))
  | 7 => mm_iA 16 (fun i => nI (S.1 t 4 i))
  | 8 => mm_iA 16 (fun i => nI (S.1 t 5 i))
  | 9 => mm_zA 16 (fun i => nI (S.1 t 6 i))
  | 10 => mm_iA 16 (fun i => nI (S.1 t 7 i))
  | 11 => mm_iA 96 (fun i => nI (S.1 t 8 i))
  | 12 => .inr (1, [.ref (mm_tn t 13), .ref (mm_tn t 14), .ref (mm_tn t 15), .ref (mm_tn t 16), .ref (mm_tn t 17), .int (nI (S.1 t 0 2))])
  | 13 => mm_iA 24 (fun i => nI (S.1 t 9 i))
  | 14 => mm_iA 24 (fun i => nI (S.1 t 10 i))
  | 15 => mm_iA 24 (fun i => nI (S.1 t 11 i))
  | 16 => mm_iA 24 (fun i => nI (S.1 t 12 i))
  | _ => mm_iA 24 (fun i => nI (S.1 t 13 i))
def mm_cr (S : sw_S) (r : Nat) : sw_AC := match r with
  | 0 => .inr (7, [.ref (mm_tn 0 0), .ref (mm_tn 1 0), .ref (mm_tn 2 0), .ref 55, .ref 59, .ref 61, .ref 70, .int (S.2.2 9 0)])
  | 55 => .inr (2, [.ref 56, .ref 57, .ref 58, .int (S.2.2 3 0)])
  | 56 => mm_iA 10 (S.2.2 0)
  | 57 => mm_iA 10 (S.2.2 1)
  | 58 => mm_iA 10 (S.2.2 2)
  | 59 => .inr (4, [.ref 60, .int (S.2.2 5 0), .int (S.2.2 5 1), .int (S.2.2 5 2), .int (S.2.2 5 3), .int (S.2.2 5 4)])
  | 60 => mm_iA 100 (S.2.2 4)
  | 61 => .inl (.object RX3, 4, .inr (.inr (.inr (.inr (fun i => if i < 4 then some (mm_sh i) else none)))))
  | 70 => mm_iA 7 (S.2.2 8)
  | 71 => .inr (8, [.ref 72, .ref 73, .ref 74, .ref 75, .ref 76, .ref 77, .ref 78, .int (S.2.2 21 0), .ref 79, .ref 80, .ref 81, .int (S.2.2 25 0), .int (S.2.2 25 1), .int (S.2.2 25 2), .int (S.2.2 25 3), .int (S.2.2 25 4), .ref 82, .ref 83, .ref 84, .ref 85])
  | 72 => mm_iA 328 (mm_fl (S.1 3))
  | 73 => mm_iA 328 (mm_fl (S.1 4))
  | 74 => mm_iA 328 (mm_fl (S.1 5))
  | 75 => mm_iA 7 (S.2.2 20)
  | 76 => mm_lA 10 (S.2.1 3)
  | 77 => mm_lA 10 (S.2.1 4)
  | 78 => mm_lA 10 (S.2.1 5)
  | 79 => mm_iA 10 (S.2.2 22)
  | 80 => mm_iA 10 (S.2.2 23)
  | 81 => mm_iA 100 (S.2.2 24)
  | 82 => mm_iA 4 (S.2.2 26)
  | 83 => mm_iA 4 (S.2.2 27)
  | 84 => mm_lA 160 (fun j => S.2.1 (10 + j / 40) (j % 40))
  | 85 => mm_lA 40 (S.2.1 14)
  | _ => .inr (99, [])
def mm_cl (S : sw_S) (r : Nat) : sw_AC :=
  if 1 ≤ r ∧ r < 55 then mm_ct S ((r - 1) / 18) ((r - 1) % 18)
  else if 62 ≤ r ∧ r < 70 then (if r % 2 = 0 then .inr (3, [.ref (mm_sr ((r - 62) / 2)), .int (S.2.2 6 ((r - 62) / 2)), .int (S.2.2 7 ((r - 62) / 2))]) else mm_lA 40 (S.2.1 (6 + (r - 62) / 2)))
  else mm_cr S r
/-- the memory while a method runs that makes nothing -/
def mk (S : sw_S) : sw_M := (0, 0, 86, mm_cl S)
/-- the memory in the law's own loop -/
def mkL (S : sw_S) : sw_M := (86, 2765, 86, mm_cl S)
theorem mm_z (S : sw_S) : sw_z (mk S) = mk S := rfl
theorem mm_zL (S : sw_S) : sw_z (mkL S) = mk S := rfl
theorem mm_rs (S S' : sw_S) : sw_rs (mk S) (mk S') = mk S' := rfl
theorem mm_rsL (S S' : sw_S) : sw_rs (mkL S) (mk S') = mkL S' := rfl
/-! updates -/
def mm_u (T : Nat → Nat → Nat) (f i v : Nat) : Nat → Nat → Nat := fun f' i' => if f' = f ∧ i' = i then v else T f' i'
def mm_pI (S : sw_S) (t : Nat) (T : Nat → Nat → Nat) : sw_S := (fun t' => if t' = t then T else S.1 t', S.2)
def mm_pL (S : sw_S) (t : Nat) (h : Nat → Int64) : sw_S := (S.1, fun t' => if t' = t then h else S.2.1 t', S.2.2)
def mm_pM (S : sw_S) (f : Nat) (g : Nat → Int32) : sw_S := (S.1, S.2.1, fun f' => if f' = f then g else S.2.2 f')
theorem mm_pI_at (S : sw_S) (t : Nat) (T : Nat → Nat → Nat) : (mm_pI S t T).1 t = T := by simp [mm_pI]
theorem mm_pI_ne (S : sw_S) {t t' : Nat} (T : Nat → Nat → Nat) (h : t' ≠ t) : (mm_pI S t T).1 t' = S.1 t' := by simp [mm_pI, h]
theorem mm_pI_2 (S : sw_S) (t : Nat) (T : Nat → Nat → Nat) : (mm_pI S t T).2 = S.2 := rfl
theorem mm_pL_1 (S : sw_S) (t : Nat) (h : Nat → Int64) : (mm_pL S t h).1 = S.1 := rfl
theorem mm_pL_at (S : sw_S) (t : Nat) (h : Nat → Int64) : (mm_pL S t h).2.1 t = h := by simp [mm_pL]
theorem mm_pL_ne (S : sw_S) {t t' : Nat} (h : Nat → Int64) (g : t' ≠ t) : (mm_pL S t h).2.1 t' = S.2.1 t' := by simp [mm_pL, g]
theorem mm_pL_3 (S : sw_S) (t : Nat) (h : Nat → Int64) : (mm_pL S t h).2.2 = S.2.2 := rfl
theorem mm_pM_1 (S : sw_S) (f : Nat) (g : Nat → Int32) : (mm_pM S f g).1 = S.1 := rfl
theorem mm_pM_2 (S : sw_S) (f : Nat) (g : Nat → Int32) : (mm_pM S f g).2.1 = S.2.1 := rfl
theorem mm_pM_at (S : sw_S) (f : Nat) (g : Nat → Int32) : (mm_pM S f g).2.2 f = g := by simp [mm_pM]
theorem mm_pM_ne (S : sw_S) {f f' : Nat} (g : Nat → Int32) (h : f' ≠ f) : (mm_pM S f g).2.2 f' = S.2.2 f' := by simp [mm_pM, h]
theorem mm_pI_pI (S : sw_S) (t : Nat) (T T' : Nat → Nat → Nat) : mm_pI (mm_pI S t T) t T' = mm_pI S t T' := by
  refine Prod.ext (funext fun t' => ?_) rfl
  simp only [mm_pI]; split <;> rfl
theorem mm_pL_pL (S : sw_S) (t : Nat) (T T' : Nat → Int64) : mm_pL (mm_pL S t T) t T' = mm_pL S t T' := by
  refine Prod.ext rfl (Prod.ext (funext fun t' => ?_) rfl)
  simp only [mm_pL]; split <;> rfl
theorem mm_pM_pM (S : sw_S) (t : Nat) (T T' : Nat → Int32) : mm_pM (mm_pM S t T) t T' = mm_pM S t T' := by
  refine Prod.ext rfl (Prod.ext rfl (funext fun t' => ?_))
  simp only [mm_pM]; split <;> rfl
theorem mm_pI_pL (S : sw_S) (t t' : Nat) (T : Nat → Nat → Nat) (h : Nat → Int64) : mm_pI (mm_pL S t h) t' T = mm_pL (mm_pI S t' T) t h := rfl
theorem mm_pI_pM (S : sw_S) (t f : Nat) (T : Nat → Nat → Nat) (g : Nat → Int32) : mm_pI (mm_pM S f g) t T = mm_pM (mm_pI S t T) f g := rfl
theorem mm_pL_pM (S : sw_S) (t f : Nat) (h : Nat → Int64) (g : Nat → Int32) : mm_pL (mm_pM S f g) t h = mm_pM (mm_pL S t h) f g := rfl
theorem mm_pI_id (S : sw_S) (t : Nat) : mm_pI S t (S.1 t) = S := by
  refine Prod.ext (funext fun t' => ?_) rfl
  simp only [mm_pI]; split
  · next h => rw [h]
  · rfl
theorem mm_pL_id (S : sw_S) (t : Nat) : mm_pL S t (S.2.1 t) = S := by
  refine Prod.ext rfl (Prod.ext (funext fun t' => ?_) rfl)
  simp only [mm_pL]; split
  · next h => rw [h]
  · rfl
theorem mm_pM_id (S : sw_S) (t : Nat) : mm_pM S t (S.2.2 t) = S := by
  refine Prod.ext rfl (Prod.ext rfl (funext fun t' => ?_))
  simp only [mm_pM]; split
  · next h => rw [h]
  · rfl
theorem mm_u_at (T : Nat → Nat → Nat) (f i v : Nat) : mm_u T f i v f i = v := by simp [mm_u]
theorem mm_u_ne (T : Nat → Nat → Nat) {f i v f' i' : Nat} (h : ¬ (f' = f ∧ i' = i)) : mm_u T f i v f' i' = T f' i' := by simp [mm_u, h]
theorem mm_u_f (T : Nat → Nat → Nat) {f i v f' : Nat} (h : f' ≠ f) : mm_u T f i v f' = T f' := by funext i'; simp [mm_u, h]
theorem mm_u_u (T : Nat → Nat → Nat) (f i v w : Nat) : mm_u (mm_u T f i v) f i w = mm_u T f i w := by
  funext f' i'; simp only [mm_u]; split <;> rfl
/-! where the cells lie -/
theorem mm_tn_lt {t j : Nat} (ht : t < 3) (hj : j < 18) : mm_tn t j < 86 := by unfold mm_tn; omega
theorem mm_at {S : sw_S} {t j : Nat} (ht : t < 3) (hj : j < 18) : mm_cl S (mm_tn t j) = mm_ct S t j := by
  have h1 : 1 ≤ mm_tn t j ∧ mm_tn t j < 55 := by unfold mm_tn; omega
  have h2 : (mm_tn t j - 1) / 18 = t := by unfold mm_tn; omega
  have h3 : (mm_tn t j - 1) % 18 = j := by unfold mm_tn; omega
  unfold mm_cl
  rw [if_pos h1, h2, h3]
theorem mm_at_sh {S : sw_S} {s : Nat} (h : s < 4) : mm_cl S (mm_sh s) = .inr (3, [.ref (mm_sr s), .int (S.2.2 6 s), .int (S.2.2 7 s)]) := by
  have h1 : ¬ (1 ≤ mm_sh s ∧ mm_sh s < 55) := by unfold mm_sh; omega
  have h2 : 62 ≤ mm_sh s ∧ mm_sh s < 70 := by unfold mm_sh; omega
  have h3 : mm_sh s % 2 = 0 := by unfold mm_sh; omega
  have h4 : (mm_sh s - 62) / 2 = s := by unfold mm_sh; omega
  unfold mm_cl
  rw [if_neg h1, if_pos h2, if_pos h3, h4]
theorem mm_at_sr {S : sw_S} {s : Nat} (h : s < 4) : mm_cl S (mm_sr s) = mm_lA 40 (S.2.1 (6 + s)) := by
  have h1 : ¬ (1 ≤ mm_sr s ∧ mm_sr s < 55) := by unfold mm_sr; omega
  have h2 : 62 ≤ mm_sr s ∧ mm_sr s < 70 := by unfold mm_sr; omega
  have h3 : ¬ mm_sr s % 2 = 0 := by unfold mm_sr; omega
  have h4 : (mm_sr s - 62) / 2 = s := by unfold mm_sr; omega
  unfold mm_cl
  rw [if_neg h1, if_pos h2, if_neg h3, h4]
/-! reading and writing, by the cell -/
section MMR
variable {E : sw_E} {S : sw_S} {r : Nat}
theorem mm_rd (hr : r < 86) : sw_rd E (mk S) r = some (mm_cl S r) := by unfold sw_rd mk; rw [if_pos hr]
theorem mm_isC (hr : r < 86) {c : Nat} {fs : List Value} (h : mm_cl S r = .inr (c, fs)) : sw_isC E (mk S) r c = true := by
  unfold sw_isC; rw [mm_rd hr, h]; simp
theorem mm_gF (hr : r < 86) {c j : Nat} {fs : List Value} {v : Value} (h : mm_cl S r = .inr (c, fs)) (hj : fs[j]? = some v) : sw_gF E (mk S) r c j = some v := by
  unfold sw_gF; rw [mm_rd hr, h]; simp [hj]
theorem mm_aI (hr : r < 86) {n i : Nat} {f : Nat → Int32} (h : mm_cl S r = mm_iA n f) (hi : i < n) (hn : n < 1000) : sw_aI E (mk S) r (nI i) = some (.int (f i)) := by
  unfold sw_aI; rw [mm_rd hr, h]
  unfold mm_iA
  have h1 : (nI i).toNatClampNeg = i := nI_clamp (by omega)
  have h2 : ¬ nI i < 0 := nI_pos (by omega)
  simp only [h1]
  rw [if_neg (fun q => q.elim h2 (fun b => by omega)), if_pos hi]
theorem mm_aL (hr : r < 86) {n i : Nat} {f : Nat → Int64} (h : mm_cl S r = mm_lA n f) (hi : i < n) (hn : n < 1000) : sw_aL (mk S) r (nI i) = some (.long (f i)) := by
  unfold sw_aL
  rw [if_pos (show r < (mk S).2.2.1 from hr)]
  show (match mm_cl S r with | .inl (.long, n, .inr (.inl f)) => _ | _ => none) = _
  rw [h]
  unfold mm_lA
  have h1 : (nI i).toNatClampNeg = i := nI_clamp (by omega)
  have h2 : ¬ nI i < 0 := nI_pos (by omega)
  simp only [h1]
  rw [if_neg (fun q => q.elim h2 (fun b => by omega)), if_pos hi]
theorem mm_aB (hr : r < 86) {n i : Nat} {f : Nat → Int32} (h : mm_cl S r = mm_zA n f) (hi : i < n) (hn : n < 1000) : sw_aB E (mk S) r (nI i) = some (.int (f i)) := by
  unfold sw_aB
  rw [if_pos (show r < (mk S).2.2.1 from hr)]
  show (match mm_cl S r with | .inl (.boolean, n, .inl f) => _ | _ => none) = _
  rw [h]
  unfold mm_zA
  have h1 : (nI i).toNatClampNeg = i := nI_clamp (by omega)
  have h2 : ¬ nI i < 0 := nI_pos (by omega)
  simp only [h1]
  rw [if_neg (fun q => q.elim h2 (fun b => by omega)), if_pos hi]
theorem mm_cl_out {S : sw_S} {q : Nat} (h : ¬ q < 86) : mm_cl S q = .inr (99, []) := by
  unfold mm_cl
  rw [if_neg (by omega), if_neg (by omega)]
  unfold mm_cr
  split <;> first | omega | rfl
theorem mm_sCe {S' : sw_S} {c : sw_AC} (h : ∀ q, q < 86 → mm_cl S' q = if q = r then c else mm_cl S q) (hr : r < 86) : sw_sC (mk S) r c = mk S' := by
  unfold sw_sC mk
  refine Prod.ext rfl (Prod.ext rfl (Prod.ext rfl (funext fun q => ?_)))
  show sw_up (mm_cl S) r c q = mm_cl S' q
  unfold sw_up
  by_cases hq : q < 86
  · rw [h q hq]
  · rw [mm_cl_out hq, mm_cl_out hq, if_neg (by omega)]
theorem mm_sI (hr : r < 86) {n i : Nat} {f : Nat → Int32} {x : Int32} (h : mm_cl S r = mm_iA n f) (hi : i < n) (hn : n < 1000) : sw_sI (mk S) r (nI i) x = some (sw_sC (mk S) r (mm_iA n (upd f i x))) := by
  unfold sw_sI
  rw [if_pos (show r < (mk S).2.2.1 from hr)]
  show (match mm_cl S r with | .inl (.int, n, .inl f) => _ | _ => none) = _
  rw [h]
  unfold mm_iA
  have h1 : (nI i).toNatClampNeg = i := nI_clamp (by omega)
  have h2 : ¬ nI i < 0 := nI_pos (by omega)
  simp only [h1]
  rw [if_neg (fun q => q.elim h2 (fun b => by omega))]
  congr 6
  funext j
  by_cases hj : j = i
  · subst hj; simp [upd, hi]
  · simp [upd, hj]
theorem mm_sB (hr : r < 86) {n i : Nat} {f : Nat → Int32} {x : Int32} (h : mm_cl S r = mm_zA n f) (hi : i < n) (hn : n < 1000) : sw_sB (mk S) r (nI i) x = some (sw_sC (mk S) r (mm_zA n (upd f i (vp_nar .boolean x)))) := by
  unfold sw_sB
  rw [if_pos (show r < (mk S).2.2.1 from hr)]
  show (match mm_cl S r with | .inl (.boolean, n, .inl f) => _ | _ => none) = _
  rw [h]
  unfold mm_zA
  have h1 : (nI i).toNatClampNeg = i := nI_clamp (by omega)
  have h2 : ¬ nI i < 0 := nI_pos (by omega)
  simp only [h1]
  rw [if_neg (fun q => q.elim h2 (fun b => by omega))]
  congr 6
  funext j
  by_cases hj : j = i
  · subst hj; simp [upd, hi]
  · simp [upd, hj]
theorem mm_sL (hr : r < 86) {n i : Nat} {f : Nat → Int64} {x : Int64} (h : mm_cl S r = mm_lA n f) (hi : i < n) (hn : n < 1000) : sw_sL (mk S) r (nI i) x = some (sw_sC (mk S) r (mm_lA n (vp_updL f i x))) := by
  unfold sw_sL
  rw [if_pos (show r < (mk S).2.2.1 from hr)]
  show (match mm_cl S r with | .inl (.long, n, .inr (.inl f)) => _ | _ => none) = _
  rw [h]
  unfold mm_lA
  have h1 : (nI i).toNatClampNeg = i := nI_clamp (by omega)
  have h2 : ¬ nI i < 0 := nI_pos (by omega)
  simp only [h1]
  rw [if_neg (fun q => q.elim h2 (fun b => by omega))]
  congr 7
  funext j
  by_cases hj : j = i
  · subst hj; simp [vp_updL, hi]
  · simp [vp_updL, hj]
theorem mm_pF (hr : r < 86) {c j : Nat} {fs : List Value} {v : Value} (h : mm_cl S r = .inr (c, fs)) (hj : j < fs.length) (hv : sw_okv (sw_fty c j) v = true) : sw_pF (mk S) r c j v = some (sw_sC (mk S) r (.inr (c, fs.set j v))) := by
  unfold sw_pF
  rw [if_pos (show r < (mk S).2.2.1 from hr)]
  show (match mm_cl S r with | .inr (c', fs) => _ | _ => none) = _
  rw [h]
  simp [hj, hv]
end MMR
