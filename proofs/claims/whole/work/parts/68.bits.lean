/-! ===== how many are in a set ===== -/
def pcN : Nat → Nat → Nat
  | 0, _ => 0
  | k + 1, n => n % 2 + pcN k (n / 2)
theorem pcN_0 : ∀ k, pcN k 0 = 0
  | 0 => rfl
  | k + 1 => by show 0 % 2 + pcN k (0 / 2) = 0; rw [Nat.zero_div, pcN_0 k]
theorem pcN_add : ∀ k l n, pcN (k + l) n = pcN k n + pcN l (n / 2 ^ k)
  | 0, l, n => by rw [Nat.zero_add, Nat.pow_zero, Nat.div_one]; show _ = 0 + _; omega
  | k + 1, l, n => by
    have ih := pcN_add k l (n / 2)
    have e : k + 1 + l = (k + l) + 1 := by omega
    rw [e]
    show n % 2 + pcN (k + l) (n / 2) = n % 2 + pcN k (n / 2) + pcN l (n / 2 ^ (k + 1))
    rw [ih, Nat.div_div_eq_div_mul, show 2 * 2 ^ k = 2 ^ (k + 1) by rw [Nat.pow_succ]; omega]
    omega
theorem pcN_le : ∀ k n, pcN k n ≤ k
  | 0, _ => Nat.le_refl 0
  | k + 1, n => by
    have := pcN_le k (n / 2)
    show n % 2 + pcN k (n / 2) ≤ k + 1
    omega
def bc1 (x : Nat) : Nat := x - ((x / 2) &&& 85)
def bc2 (x : Nat) : Nat := (bc1 x &&& 51) + ((bc1 x / 4) &&& 51)
theorem bc_8 : ∀ x, x < 256 → (x / 2) &&& 85 ≤ x ∧ bc1 x < 256 ∧ bc2 x ≤ 68 ∧ bc2 x % 16 ≤ 4 ∧ (bc2 x + bc2 x / 16) % 16 = pcN 8 x ∧ pcN 8 x ≤ 8 := by decide +kernel
/-- masks act on both parts -/
theorem and_two {W lo hi m M : Nat} (k : Nat) (hl : lo < 2 ^ W) (hm : m < 2 ^ (W - k)) (hk : k ≤ W) : ((lo + 2 ^ W * hi) / 2 ^ k) &&& (m + 2 ^ W * M) = ((lo / 2 ^ k) &&& m) + 2 ^ W * ((hi / 2 ^ k) &&& M) := by
  have hm16 : m < 2 ^ W := Nat.lt_of_lt_of_le hm (Nat.pow_le_pow_right (by decide) (by omega))
  have ha : (lo / 2 ^ k) &&& m < 2 ^ W := Nat.lt_of_le_of_lt Nat.and_le_right hm16
  apply Nat.eq_of_testBit_eq
  intro j
  rw [Nat.testBit_and, Nat.testBit_div_two_pow, Nat.add_comm lo, Nat.add_comm m, Nat.add_comm ((lo / 2 ^ k) &&& m), Nat.testBit_two_pow_mul_add _ hl, Nat.testBit_two_pow_mul_add _ hm16, Nat.testBit_two_pow_mul_add _ ha]
  by_cases hj : j < W
  · rw [if_pos hj, if_pos hj, Nat.testBit_and, Nat.testBit_div_two_pow]
    by_cases hjk : j + k < W
    · rw [if_pos hjk]
    · have : m.testBit j = false := Nat.testBit_lt_two_pow (Nat.lt_of_lt_of_le hm (Nat.pow_le_pow_right (by decide) (by omega)))
      rw [this, Bool.and_false, Bool.and_false]
  · rw [if_neg hj, if_neg hj, if_neg (by omega), Nat.testBit_and, Nat.testBit_div_two_pow]
    congr 2
    omega
/-- masks of bytes act byte by byte -/
theorem and_3 {x y z m : Nat} (k : Nat) (hx : x < 256) (hy : y < 256) (hz : z < 256) (hm : m < 2 ^ (8 - k)) (hk : k ≤ 8) : ((x + 256 * (y + 256 * z)) / 2 ^ k) &&& (m + 256 * (m + 256 * (m + 256 * m))) = ((x / 2 ^ k) &&& m) + 256 * (((y / 2 ^ k) &&& m) + 256 * ((z / 2 ^ k) &&& m)) := by
  have t1 := and_two (W := 8) (lo := x) (hi := y + 256 * z) (m := m) (M := m + 256 * (m + 256 * m)) k hx hm hk
  have t2 := and_two (W := 8) (lo := y) (hi := z) (m := m) (M := m + 256 * m) k hy hm hk
  have t3 := and_two (W := 8) (lo := z) (hi := 0) (m := m) (M := m) k hz hm hk
  have e : (2 : Nat) ^ 8 = 256 := rfl
  rw [e] at t1 t2 t3
  rw [Nat.mul_zero, Nat.add_zero, Nat.zero_div, Nat.zero_and, Nat.mul_zero, Nat.add_zero] at t3
  rw [t1, t2, t3]
theorem pcN_low : ∀ k n m, pcN k (n + 2 ^ k * m) = pcN k n := by
  intro k
  induction k with
  | zero => intro n m; rfl
  | succ k ih =>
    intro n m
    show (n + 2 ^ (k + 1) * m) % 2 + pcN k ((n + 2 ^ (k + 1) * m) / 2) = n % 2 + pcN k (n / 2)
    have e : 2 ^ (k + 1) * m = 2 * (2 ^ k * m) := by rw [Nat.pow_succ, Nat.mul_comm (2 ^ k) 2, Nat.mul_assoc]
    rw [e, Nat.add_mul_mod_self_left, Nat.add_mul_div_left _ _ (by decide), ih]
/-- the last steps -/
theorem bc_end {p q r : Nat} (hp : p ≤ 8) (hq : q ≤ 8) (hr : r ≤ 8) : ((p + 256 * (q + 256 * r)) + (p + 256 * (q + 256 * r)) / 256 + ((p + 256 * (q + 256 * r)) + (p + 256 * (q + 256 * r)) / 256) / 65536) % 64 = p + q + r := by
  have e1 : (p + 256 * (q + 256 * r)) / 256 = q + 256 * r := by omega
  rw [e1]
  have e2 : (p + 256 * (q + 256 * r) + (q + 256 * r)) / 65536 = r := by omega
  rw [e2]
  omega
theorem bc_mid {e f g : Nat} (he : e ≤ 68) (hf : f ≤ 68) (hg : g ≤ 68) (hf4 : f % 16 ≤ 4) (hg4 : g % 16 ≤ 4) : (e + 256 * (f + 256 * g)) + (e + 256 * (f + 256 * g)) / 16 = (e + e / 16 + 16 * (f % 16)) + 256 * ((f + f / 16 + 16 * (g % 16)) + 256 * (g + g / 16)) := by omega
/-- the five steps of Integer.bitCount -/
theorem bit_steps {a : Nat} (ha : a < 16777216) : ∃ i1 i2 i3 : Nat, i1 = a - ((a / 2) &&& 1431655765) ∧ (a / 2) &&& 1431655765 ≤ a ∧ i2 = (i1 &&& 858993459) + ((i1 / 4) &&& 858993459) ∧ i3 = (i2 + i2 / 16) &&& 252645135 ∧ i1 < 67108864 ∧ i2 < 67108864 ∧ i3 < 67108864 ∧ (i3 + i3 / 256 + (i3 + i3 / 256) / 65536) % 64 = pcN 32 a := by
  obtain ⟨x, y, z, hx, hy, hz, rfl⟩ : ∃ x y z, x < 256 ∧ y < 256 ∧ z < 256 ∧ a = x + 256 * (y + 256 * z) := ⟨a % 256, a / 256 % 256, a / 65536, by omega, by omega, by omega, by omega⟩
  obtain ⟨x1, x2, x3, x4, x5, x6⟩ := bc_8 x hx
  obtain ⟨y1, y2, y3, y4, y5, y6⟩ := bc_8 y hy
  obtain ⟨z1, z2, z3, z4, z5, z6⟩ := bc_8 z hz
  have t1 : ((x + 256 * (y + 256 * z)) / 2) &&& 1431655765 = ((x / 2) &&& 85) + 256 * (((y / 2) &&& 85) + 256 * ((z / 2) &&& 85)) := and_3 (m := 85) 1 hx hy hz (by decide) (by decide)
  have e1 : (x + 256 * (y + 256 * z)) - (((x + 256 * (y + 256 * z)) / 2) &&& 1431655765) = bc1 x + 256 * (bc1 y + 256 * bc1 z) := by
    rw [t1]
    unfold bc1
    omega
  have t2 : (bc1 x + 256 * (bc1 y + 256 * bc1 z)) &&& 858993459 = (bc1 x &&& 51) + 256 * ((bc1 y &&& 51) + 256 * (bc1 z &&& 51)) := by
    have := and_3 (m := 51) 0 x2 y2 z2 (by decide) (by decide)
    simp only [Nat.pow_zero, Nat.div_one] at this
    exact this
  have t3 : ((bc1 x + 256 * (bc1 y + 256 * bc1 z)) / 4) &&& 858993459 = ((bc1 x / 4) &&& 51) + 256 * (((bc1 y / 4) &&& 51) + 256 * ((bc1 z / 4) &&& 51)) := and_3 (m := 51) 2 x2 y2 z2 (by decide) (by decide)
  have e2 : ((bc1 x + 256 * (bc1 y + 256 * bc1 z)) &&& 858993459) + (((bc1 x + 256 * (bc1 y + 256 * bc1 z)) / 4) &&& 858993459) = bc2 x + 256 * (bc2 y + 256 * bc2 z) := by
    rw [t2, t3]
    unfold bc2
    omega
  have m15 : ∀ n : Nat, n &&& 15 = n % 16 := fun n => Nat.and_two_pow_sub_one_eq_mod n 4
  have t4 : ((bc2 x + bc2 x / 16 + 16 * (bc2 y % 16)) + 256 * ((bc2 y + bc2 y / 16 + 16 * (bc2 z % 16)) + 256 * (bc2 z + bc2 z / 16))) &&& 252645135 = ((bc2 x + bc2 x / 16 + 16 * (bc2 y % 16)) &&& 15) + 256 * (((bc2 y + bc2 y / 16 + 16 * (bc2 z % 16)) &&& 15) + 256 * ((bc2 z + bc2 z / 16) &&& 15)) := by
    have := and_3 (x := bc2 x + bc2 x / 16 + 16 * (bc2 y % 16)) (y := bc2 y + bc2 y / 16 + 16 * (bc2 z % 16)) (z := bc2 z + bc2 z / 16) (m := 15) 0 (by omega) (by omega) (by omega) (by decide) (by decide)
    simp only [Nat.pow_zero, Nat.div_one] at this
    exact this
  have e3 : ((bc2 x + 256 * (bc2 y + 256 * bc2 z)) + (bc2 x + 256 * (bc2 y + 256 * bc2 z)) / 16) &&& 252645135 = pcN 8 x + 256 * (pcN 8 y + 256 * pcN 8 z) := by
    rw [bc_mid x3 y3 z3 y4 z4, t4, m15, m15, m15, Nat.add_mul_mod_self_left, Nat.add_mul_mod_self_left, x5, y5, z5]
  have ep : pcN 32 (x + 256 * (y + 256 * z)) = pcN 8 x + pcN 8 y + pcN 8 z := by
    have g1 := pcN_add 8 24 (x + 256 * (y + 256 * z))
    have g2 := pcN_add 8 16 (y + 256 * z)
    have g3 := pcN_add 8 8 z
    rw [show (x + 256 * (y + 256 * z)) / 2 ^ 8 = y + 256 * z by show (x + 256 * (y + 256 * z)) / 256 = _; omega, show pcN 8 (x + 256 * (y + 256 * z)) = pcN 8 x from pcN_low 8 x _] at g1
    rw [show (y + 256 * z) / 2 ^ 8 = z by show (y + 256 * z) / 256 = _; omega, show pcN 8 (y + 256 * z) = pcN 8 y from pcN_low 8 y z] at g2
    rw [show z / 2 ^ 8 = 0 by show z / 256 = 0; omega, pcN_0] at g3
    have h32 : (32 : Nat) = 8 + 24 := rfl
    have h24 : (24 : Nat) = 8 + 16 := rfl
    have h16 : (16 : Nat) = 8 + 8 := rfl
    rw [h32, g1, h24, g2, h16, g3]
    omega
  refine ⟨_, _, _, rfl, ?_, rfl, rfl, ?_⟩
  · exact Nat.le_trans Nat.and_le_left (Nat.div_le_self _ _)
  · rw [e1, e2, e3, ep]
    refine ⟨by omega, by omega, by omega, bc_end x6 y6 z6⟩
theorem n_and (a b : Nat) : nI a &&& nI b = nI (a &&& b) := fa_and a b
theorem n_andL (a n : Nat) : nI a &&& (no_index (OfNat.ofNat n : Int32)) = nI (a &&& (OfNat.ofNat n : Nat)) := fa_and a n
theorem n_ushr {a : Nat} (ha : a < 2147483648) : ∀ k, k < 31 → (((nI a).toUInt32 >>> ((nI k).toUInt32 &&& Int32.toUInt32 31)).toInt32) = nI (a / 2 ^ k) := by
  intro k hk
  have h1 : (nI a).toUInt32.toNat = a := by
    have := i32_nat (nI a)
    rw [nI_toInt ha] at this
    have hlt : (nI a).toUInt32.toNat < 4294967296 := (nI a).toUInt32.toNat_lt
    split at this <;> omega
  have hd : a / 2 ^ k < 2147483648 := Nat.lt_of_le_of_lt (Nat.div_le_self _ _) ha
  have h2 : (((nI a).toUInt32 >>> ((nI k).toUInt32 &&& Int32.toUInt32 31)).toInt32).toUInt32.toNat = a / 2 ^ k := by
    show ((nI a).toUInt32 >>> ((nI k).toUInt32 &&& Int32.toUInt32 31)).toNat = _
    rw [UInt32.toNat_shiftRight, n_sh k (by omega), Nat.mod_eq_of_lt (by omega), Nat.shiftRight_eq_div_pow, h1]
  apply Int32.toInt_inj.mp
  rw [i32_nat, h2, nI_toInt hd, if_pos hd]
section BC
variable (E : sw_E)
set_option maxRecDepth 100000 in
set_option maxHeartbeats 4000000 in
theorem c_bitCount {a : Nat} (ha : a < 16777216) (M : sw_M) : f_bitCount E (.int (nI a)) M = some (some (.int (nI (pcN 32 a))), M) := by
  obtain ⟨i1, i2, i3, e1, l1, e2, e3, h1, h2, h3, e4⟩ := bit_steps ha
  have s1 := n_ushr (a := a) (by omega) 1 (by decide)
  have s2 := n_ushr (a := i1) (by omega) 2 (by decide)
  have s4 := n_ushr (a := i2) (by omega) 4 (by decide)
  have s8 := n_ushr (a := i3) (by omega) 8 (by decide)
  have s16 := n_ushr (a := i3 + i3 / 256) (by omega) 16 (by decide)
  rw [show nI 1 = 1 from rfl, show a / 2 ^ 1 = a / 2 from rfl] at s1
  rw [show nI 2 = 2 from rfl, show i1 / 2 ^ 2 = i1 / 4 from rfl] at s2
  rw [show nI 4 = 4 from rfl, show i2 / 2 ^ 4 = i2 / 16 from rfl] at s4
  rw [show nI 8 = 8 from rfl, show i3 / 2 ^ 8 = i3 / 256 from rfl] at s8
  rw [show nI 16 = 16 from rfl, show (i3 + i3 / 256) / 2 ^ 16 = (i3 + i3 / 256) / 65536 from rfl] at s16
  have m : ∀ n, n &&& 63 = n % 64 := fun n => Nat.and_two_pow_sub_one_eq_mod n 6
  have f1 : nI a - nI ((a / 2) &&& 1431655765) = nI i1 := by rw [n_sub l1, e1]
  have f2 : nI (i1 &&& 858993459) + nI ((i1 / 4) &&& 858993459) = nI i2 := by rw [n_add, e2]
  have f3 : nI ((i2 + i2 / 16) &&& 252645135) = nI i3 := by rw [e3]
  simp only [e_bitCount, st_bitCount, s1, n_andL, f1, s2, f2, s4, n_add i2, f3, s8, n_add i3, s16, n_add (i3 + i3 / 256), m, e4]
/-- the least bit taken off -/
theorem pc_off : ∀ k n, 0 < n → n < 2 ^ k → pcN k (n &&& (n - 1)) + 1 = pcN k n ∧ n &&& (n - 1) < n := by
  intro k
  induction k with
  | zero => intro n h0 h; simp at h; omega
  | succ k ih =>
    intro n h0 hn
    have hdm : n &&& (n - 1) = 2 * (n / 2 &&& (n - 1) / 2) + (n % 2 &&& (n - 1) % 2) := by
      have hd : (n &&& (n - 1)) / 2 = n / 2 &&& (n - 1) / 2 := by
        have := Nat.and_div_two_pow (a := n) (b := n - 1) (n := 1)
        simpa using this
      have hmod : (n &&& (n - 1)) % 2 = n % 2 &&& (n - 1) % 2 := by
        have := Nat.and_mod_two_pow (a := n) (b := n - 1) (n := 1)
        simpa using this
      rw [← hd, ← hmod]
      omega
    have hp : n < 2 * 2 ^ k := by rw [Nat.pow_succ] at hn; omega
    rcases Nat.mod_two_eq_zero_or_one n with h2 | h2
    · have e1 : (n - 1) / 2 = n / 2 - 1 := by omega
      have e2 : (n - 1) % 2 = 1 := by omega
      rw [h2, e1, e2] at hdm
      have hz : (0 &&& 1 : Nat) = 0 := rfl
      rw [hz, Nat.add_zero] at hdm
      obtain ⟨g1, g2⟩ := ih (n / 2) (by omega) (by omega)
      rw [hdm]
      refine ⟨?_, by omega⟩
      show (2 * (n / 2 &&& n / 2 - 1)) % 2 + pcN k ((2 * (n / 2 &&& n / 2 - 1)) / 2) + 1 = n % 2 + pcN k (n / 2)
      rw [Nat.mul_mod_right, Nat.mul_div_cancel_left _ (by decide), h2]
      omega
    · have e1 : (n - 1) / 2 = n / 2 := by omega
      have e2 : (n - 1) % 2 = 0 := by omega
      rw [h2, e1, e2, Nat.and_self] at hdm
      have hz : (1 &&& 0 : Nat) = 0 := rfl
      rw [hz, Nat.add_zero] at hdm
      rw [hdm]
      refine ⟨?_, by omega⟩
      show (2 * (n / 2)) % 2 + pcN k ((2 * (n / 2)) / 2) + 1 = n % 2 + pcN k (n / 2)
      rw [Nat.mul_mod_right, Nat.mul_div_cancel_left _ (by decide), h2]
      omega
set_option maxRecDepth 100000 in
set_option maxHeartbeats 4000000 in
theorem md_ones (S : sw_S) {a : Nat} (ha : a < 2147483648) : f_MD_ones E (.int (nI a)) (mk S) = some (some (.int (nI (pcN 32 a))), mk S) := by
  have key : ∀ m c x, pcN 32 c = m → c < 2147483648 → h_MD_ones_0 E [.int (nI a), .int (nI x), .int (nI c)] (mk S) = some (some (.int (nI (x + m))), mk S) := by
    intro m
    induction m with
    | zero =>
      intro c x hm hc
      have h0 : c = 0 := by
        refine Classical.byContradiction (fun g => ?_)
        have := (pc_off 32 c (by omega) (by omega)).1
        omega
      subst h0
      rw [u_MD_ones_0]
      simp only [st_MD_ones, show (nI 0 = 0) ↔ True from by decide, if_true, Nat.add_zero]
    | succ m ih =>
      intro c x hm hc
      have h0 : c ≠ 0 := fun e => by rw [e, pcN_0] at hm; omega
      obtain ⟨g1, g2⟩ := pc_off 32 c (by omega) (by omega)
      have hi := ih (c &&& (c - 1)) (x + 1) (by omega) (by omega)
      rw [u_MD_ones_0]
      have e0 : (nI c = 0) ↔ False := by rw [n_eqL hc (by decide)]; simp [h0]
      have e1 : nI c - 1 = nI (c - 1) := n_sub (b := 1) (by omega)
      have e2 : nI x + 1 = nI (x + 1) := n_add x 1
      simp only [st_MD_ones, e0, if_false, e1, n_and, e2, hi]
      rw [show x + 1 + m = x + (m + 1) by omega]
  have := key (pcN 32 a) a 0 rfl ha
  simp only [e_MD_ones, st_MD_ones]
  rw [Nat.zero_add] at this
  exact this
end BC
