/-! ===== ranges, class and reference together ===== -/
def ok (x : Int32) (n : Nat) : Bool := decide (¬ x < 0) && decide (x < nI n)
def okS (x : Int32) : Bool := decide (¬ x < 1) && decide (¬ 9999 < x)
theorem ok_iff {x : Int32} {n : Nat} (hn : n < 2147483648) : ok x n = true ↔ ∃ a, a < n ∧ x = nI a := by
  unfold ok
  simp only [Bool.and_eq_true, decide_eq_true_eq]
  constructor
  · intro h
    obtain ⟨a, ha, rfl⟩ := n_of h.1
    exact ⟨a, (n_lt ha hn).mp h.2, rfl⟩
  · rintro ⟨a, ha, rfl⟩
    exact ⟨fun g => (n_nneg (by omega)).mp g, (n_lt (by omega) hn).mpr ha⟩
theorem ok_nI {a n : Nat} (ha : a < 2147483648) (hn : n < 2147483648) : ok (nI a) n = true ↔ a < n := by
  rw [ok_iff hn]
  constructor
  · rintro ⟨b, hb, e⟩
    rw [(n_eq ha (by omega)).mp e]; exact hb
  · intro h; exact ⟨a, h, rfl⟩
theorem ok_int {x : Int32} {n : Nat} (hn : n < 2147483648) : ok x n = true ↔ 0 ≤ x.toInt ∧ x.toInt < n := by
  unfold ok
  simp only [Bool.and_eq_true, decide_eq_true_eq]
  rw [Int32.lt_iff_toInt_lt, Int32.lt_iff_toInt_lt, nI_toInt hn]
  have : (0 : Int32).toInt = 0 := by decide
  omega
theorem okS_iff {x : Int32} : okS x = true ↔ ∃ a, 1 ≤ a ∧ a ≤ 9999 ∧ x = nI a := by
  unfold okS
  simp only [Bool.and_eq_true, decide_eq_true_eq]
  constructor
  · intro h
    have h0 : ¬ x < 0 := fun g => h.1 (by
      rw [Int32.lt_iff_toInt_lt] at g ⊢
      have e0 : (0 : Int32).toInt = 0 := by decide
      have e1 : (1 : Int32).toInt = 1 := by decide
      omega)
    obtain ⟨a, ha, rfl⟩ := n_of h0
    rw [n_ltL ha (by decide), n_Llt ha (by decide)] at h
    exact ⟨a, by omega, by omega, rfl⟩
  · rintro ⟨a, h1, h2, rfl⟩
    rw [n_ltL (by omega) (by decide), n_Llt (by omega) (by decide)]
    omega
section OK1
variable (E : sw_E) (M : sw_M)
theorem ok_b {p q : Prop} [Decidable p] {b : Bool} : (bI (p) = bI (b = true)) ↔ (p ↔ b = true) := by
  unfold bI
  by_cases hp : p <;> cases b <;> simp [hp]
set_option maxRecDepth 100000 in
set_option maxHeartbeats 4000000 in
theorem c_isKind (x : Int32) : f_SW_isKind E (.int x) M = some (some (.int (bI (ok x 6 = true))), M) := by
  simp only [e_SW_isKind, st_SW_isKind]
  unfold ok bI
  by_cases h1 : x < 0 <;> by_cases h2 : x < 6 <;> simp [h1, h2, show nI 6 = 6 from rfl]
theorem ok_lit {x : Int32} {n : Nat} (hn : n + 1 < 2147483648) : ok x (n + 1) = true ↔ ¬ x < 0 ∧ ¬ nI n < x := by
  rw [ok_int hn, Int32.lt_iff_toInt_lt, Int32.lt_iff_toInt_lt, nI_toInt (by omega)]
  have : (0 : Int32).toInt = 0 := by decide
  omega
set_option maxRecDepth 100000 in
set_option maxHeartbeats 4000000 in
theorem c_isUpTo (x : Int32) {n : Nat} (hn : (OfNat.ofNat n : Nat) + 1 < 2147483648) : f_SW_isUpTo E (.int x) (.int (no_index (OfNat.ofNat n : Int32))) M = some (some (.int (bI (ok x ((OfNat.ofNat n : Nat) + 1) = true))), M) := by
  simp only [e_SW_isUpTo, st_SW_isUpTo]
  have e := ok_lit (x := x) hn
  have e2 : nI (OfNat.ofNat n : Nat) = (OfNat.ofNat n : Int32) := rfl
  rw [e2] at e
  unfold bI
  by_cases h1 : x < 0
  · have h3 : ¬ ok x ((OfNat.ofNat n : Nat) + 1) = true := fun g => (e.mp g).1 h1
    simp [h1, h3]
  · by_cases h2 : (OfNat.ofNat n : Int32) < x
    · have h3 : ¬ ok x ((OfNat.ofNat n : Nat) + 1) = true := fun g => (e.mp g).2 h2
      simp [h1, h2, h3]
    · have h3 : ok x ((OfNat.ofNat n : Nat) + 1) = true := e.mpr ⟨h1, h2⟩
      simp [h1, h2, h3]
set_option maxRecDepth 100000 in
set_option maxHeartbeats 4000000 in
theorem c_isSum (x : Int32) : f_SW_isSum E (.int x) M = some (some (.int (bI (okS x = true))), M) := by
  simp only [e_SW_isSum, st_SW_isSum]
  unfold okS bI
  by_cases h1 : x < 1 <;> by_cases h2 : 9999 < x <;> simp [h1, h2]
theorem in_ok (x : Int32) {n : Nat} (hn : (OfNat.ofNat n : Nat) + 1 < 2147483648) : f_MD_in E (.long x.toInt64) (.long 0) (.long (no_index (OfNat.ofNat n : Int64))) M = some (some (.int (bI (ok x ((OfNat.ofNat n : Nat) + 1) = true))), M) := by
  rw [md_in]
  refine congrArg (fun v => some (some (Value.int v), M)) (bI_iff ?_)
  rw [ok_int hn, Int64.le_iff_toInt_le, Int64.le_iff_toInt_le, Int32.toInt_toInt64, show (OfNat.ofNat n : Int64) = lN (OfNat.ofNat n : Nat) from rfl, lN_toInt (Nat.lt_of_succ_lt hn)]
  have : (0 : Int64).toInt = 0 := by decide
  omega
theorem in_okS (x : Int32) : f_MD_in E (.long x.toInt64) (.long 1) (.long 9999) M = some (some (.int (bI (okS x = true))), M) := by
  rw [md_in]
  refine congrArg (fun v => some (some (Value.int v), M)) (bI_iff ?_)
  unfold okS
  simp only [Bool.and_eq_true, decide_eq_true_eq]
  rw [Int64.le_iff_toInt_le, Int64.le_iff_toInt_le, Int32.toInt_toInt64, Int32.lt_iff_toInt_lt, Int32.lt_iff_toInt_lt]
  have e1 : (1 : Int64).toInt = 1 := by decide
  have e2 : (9999 : Int64).toInt = 9999 := by decide
  have e3 : (1 : Int32).toInt = 1 := by decide
  have e4 : (9999 : Int32).toInt = 9999 := by decide
  omega
theorem in_okc (x : Int32) {c : Nat} (hc : c < 2147483648) : f_MD_in E (.long x.toInt64) (.long 0) (.long (nI c - 1).toInt64) M = some (some (.int (bI (ok x c = true))), M) := by
  rw [md_in]
  refine congrArg (fun v => some (some (Value.int v), M)) (bI_iff ?_)
  rw [ok_int hc, Int64.le_iff_toInt_le, Int64.le_iff_toInt_le, Int32.toInt_toInt64, Int32.toInt_toInt64]
  have e0 : (0 : Int64).toInt = 0 := by decide
  have e1 : (1 : Int32).toInt = 1 := by decide
  rw [fb_subI (by rw [nI_toInt hc, e1]; omega) (by rw [nI_toInt hc, e1]; omega), nI_toInt hc, e1]
  omega
end OK1
/-! sets -/
theorem sb_n : ∀ n, n < 31 → sb n = nI (2 ^ n) := by decide +kernel
theorem n_sh : ∀ n, n < 32 → ((nI n).toUInt32 &&& Int32.toUInt32 31).toNat = n := by decide +kernel
theorem i32_nat (x : Int32) : x.toInt = if x.toUInt32.toNat < 2147483648 then (x.toUInt32.toNat : Int) else (x.toUInt32.toNat : Int) - 4294967296 := by
  have h := BitVec.toInt_eq_toNat_cond x.toBitVec
  have e : x.toUInt32.toNat = x.toBitVec.toNat := rfl
  have e2 : x.toInt = x.toBitVec.toInt := rfl
  rw [e, e2, h]
  by_cases h1 : x.toBitVec.toNat < 2147483648
  · rw [if_pos (by omega), if_pos h1]
  · rw [if_neg (by omega), if_neg h1]; rfl
theorem set_ok (x : Int32) {n : Nat} (hn : n ≤ 24) : ((x.toUInt32 >>> ((nI n).toUInt32 &&& Int32.toUInt32 31)).toInt32 = 0) ↔ ok x (2 ^ n) = true := by
  have hp : 2 ^ n ≤ 2 ^ 24 := Nat.pow_le_pow_right (by decide) hn
  rw [ok_int (by omega), i32_nat x]
  have e : ((x.toUInt32 >>> ((nI n).toUInt32 &&& Int32.toUInt32 31)).toInt32 = 0) ↔ (x.toUInt32 >>> ((nI n).toUInt32 &&& Int32.toUInt32 31)).toNat = 0 := by
    constructor
    · intro h
      have := congrArg (fun y : Int32 => y.toUInt32.toNat) h
      exact this
    · intro h
      have h2 : (x.toUInt32 >>> ((nI n).toUInt32 &&& Int32.toUInt32 31)) = 0 := UInt32.toNat_inj.mp h
      rw [h2]; rfl
  rw [e, UInt32.toNat_shiftRight, n_sh n (by omega), Nat.mod_eq_of_lt (by omega), Nat.shiftRight_eq_div_pow, Nat.div_eq_zero_iff]
  have hpos : 0 < 2 ^ n := Nat.two_pow_pos n
  have hlt : x.toUInt32.toNat < 4294967296 := x.toUInt32.toNat_lt
  have hc : ((2 ^ n : Nat) : Int) = (2 ^ n : Nat) := rfl
  generalize hq : (2 ^ n : Nat) = q at *
  split <;> omega
theorem all_n {n : Nat} (hn : n ≤ 24) : sb n - 1 = nI (2 ^ n - 1) := by
  have hpos : 0 < 2 ^ n := Nat.two_pow_pos n
  rw [sb_n n (by omega)]
  exact n_sub hpos
section OK2
variable (E : sw_E) (S : sw_S)
set_option maxRecDepth 100000 in
set_option maxHeartbeats 4000000 in
theorem c_Phas (x : Int32) {t : Nat} (h : t < 3) : f_People_has E (.ref (mm_tn t 1)) (.int x) (mk S) = some (some (.int (bI (ok x (S.1 t 0 0) = true))), mk S) := by
  simp (disch := first | omega | exact hB _ _ | assumption | decide) only [e_People_has, st_People_has, mr_town E S t h, Bool.false_eq_true, n_10, true_and, and_true, false_and, and_false, Nat.not_lt_zero, true_or, or_true, eq_self, mm_z, mm_rs, sw_xc_ite, sw_xv_ite, n_m1, Nat.lt_irrefl, not_false_eq_true, not_true_eq_false, inS_0, inS_1, ite_not, sw_xv_some, sw_xm_some, sw_xc_some, sw_xc_void, if_true, if_false, reduceIte, bI_0, bI_01, n_add, n_mul, n_addL, n_Ladd, n_mulL, n_Lmul, n_sub, n_subL, n_lt, n_eq, n_ltL, n_Llt, n_eqL, n_Leq, n_nneg, n_pos]
  unfold ok bI
  by_cases h1 : x < 0 <;> by_cases h2 : x < nI (S.1 t 0 0) <;> simp [h1, h2]
set_option maxRecDepth 100000 in
set_option maxHeartbeats 4000000 in
theorem c_Thas (x : Int32) {t : Nat} (h : t < 3) : f_Things_has E (.ref (mm_tn t 4)) (.int x) (mk S) = some (some (.int (bI (ok x (S.1 t 0 1) = true))), mk S) := by
  simp (disch := first | omega | exact hB _ _ | assumption | decide) only [e_Things_has, st_Things_has, mr_town E S t h, Bool.false_eq_true, n_10, true_and, and_true, false_and, and_false, Nat.not_lt_zero, true_or, or_true, eq_self, mm_z, mm_rs, sw_xc_ite, sw_xv_ite, n_m1, Nat.lt_irrefl, not_false_eq_true, not_true_eq_false, inS_0, inS_1, ite_not, sw_xv_some, sw_xm_some, sw_xc_some, sw_xc_void, if_true, if_false, reduceIte, bI_0, bI_01, n_add, n_mul, n_addL, n_Ladd, n_mulL, n_Lmul, n_sub, n_subL, n_lt, n_eq, n_ltL, n_Llt, n_eqL, n_Leq, n_nneg, n_pos]
  unfold ok bI
  by_cases h1 : x < 0 <;> by_cases h2 : x < nI (S.1 t 0 1) <;> simp [h1, h2]
set_option maxRecDepth 100000 in
set_option maxHeartbeats 4000000 in
theorem c_Khas (x : Int32) {t : Nat} (h : t < 3) : f_Promises_has E (.ref (mm_tn t 12)) (.int x) (mk S) = some (some (.int (bI (ok x (S.1 t 0 2) = true))), mk S) := by
  simp (disch := first | omega | exact hB _ _ | assumption | decide) only [e_Promises_has, st_Promises_has, mr_town E S t h, Bool.false_eq_true, n_10, true_and, and_true, false_and, and_false, Nat.not_lt_zero, true_or, or_true, eq_self, mm_z, mm_rs, sw_xc_ite, sw_xv_ite, n_m1, Nat.lt_irrefl, not_false_eq_true, not_true_eq_false, inS_0, inS_1, ite_not, sw_xv_some, sw_xm_some, sw_xc_some, sw_xc_void, if_true, if_false, reduceIte, bI_0, bI_01, n_add, n_mul, n_addL, n_Ladd, n_mulL, n_Lmul, n_sub, n_subL, n_lt, n_eq, n_ltL, n_Llt, n_eqL, n_Leq, n_nneg, n_pos]
  unfold ok bI
  by_cases h1 : x < 0 <;> by_cases h2 : x < nI (S.1 t 0 2) <;> simp [h1, h2]
set_option maxRecDepth 100000 in
set_option maxHeartbeats 4000000 in
theorem c_Thasall (x : Int32) {t : Nat} (h : t < 3) (hn : S.1 t 0 1 ≤ 16) : f_Things_hasAll E (.ref (mm_tn t 4)) (.int x) (mk S) = some (some (.int (bI (ok x (2 ^ S.1 t 0 1) = true))), mk S) := by
  have e := set_ok x (n := S.1 t 0 1) (by omega)
  simp (disch := first | omega | exact hB _ _ | assumption | decide) only [e_Things_hasAll, st_Things_hasAll, mr_town E S t h, e, Bool.false_eq_true, n_10, true_and, and_true, false_and, and_false, Nat.not_lt_zero, true_or, or_true, eq_self, mm_z, mm_rs, sw_xc_ite, sw_xv_ite, n_m1, Nat.lt_irrefl, not_false_eq_true, not_true_eq_false, inS_0, inS_1, ite_not, sw_xv_some, sw_xm_some, sw_xc_some, sw_xc_void, if_true, if_false, reduceIte, bI_0, bI_01, n_add, n_mul, n_addL, n_Ladd, n_mulL, n_Lmul, n_sub, n_subL, n_lt, n_eq, n_ltL, n_Llt, n_eqL, n_Leq, n_nneg, n_pos]
  by_cases h1 : ok x (2 ^ S.1 t 0 1) = true <;> simp [h1, bI]
set_option maxRecDepth 100000 in
set_option maxHeartbeats 4000000 in
theorem md_isPersonX (x : Int32) (hB : ∀ f i, S.1 3 f i < 2147483648) : f_MD_isPerson E (.ref 71) (.int x) (mk S) = some (some (.int (bI (ok x (S.1 3 0 0) = true))), mk S) := by
  simp (disch := first | omega | exact hB _ _ | assumption | decide) only [e_MD_isPerson, st_MD_isPerson, rs_L, in_okc, mr_md E _, mm_pI_at, mm_pI_pI, mm_pI_2, mm_pL_1, mm_pL_at, mm_pL_pL, mm_pL_3, mm_pM_1, mm_pM_2, mm_pM_at, mm_pM_pM, mm_pI_pL, mm_pI_pM, mm_pL_pM, Bool.false_eq_true, n_10, true_and, and_true, false_and, and_false, Nat.not_lt_zero, true_or, or_true, eq_self, mm_z, mm_rs, sw_xc_ite, sw_xv_ite, n_m1, Nat.lt_irrefl, not_false_eq_true, not_true_eq_false, inS_0, inS_1, ite_not, sw_xv_some, sw_xm_some, sw_xc_some, sw_xc_void, if_true, if_false, reduceIte, bI_0, bI_01, bI_1, nt_or, Nat.reduceAdd, n_add, n_mul, n_addL, n_Ladd, n_mulL, n_Lmul, n_sub, n_subL, n_lt, n_eq, n_ltL, n_Llt, n_eqL, n_Leq, n_nneg, n_pos]
set_option maxRecDepth 100000 in
set_option maxHeartbeats 4000000 in
theorem md_isThingX (x : Int32) (hB : ∀ f i, S.1 3 f i < 2147483648) : f_MD_isThing E (.ref 71) (.int x) (mk S) = some (some (.int (bI (ok x (S.1 3 0 1) = true))), mk S) := by
  simp (disch := first | omega | exact hB _ _ | assumption | decide) only [e_MD_isThing, st_MD_isThing, rs_L, in_okc, mr_md E _, mm_pI_at, mm_pI_pI, mm_pI_2, mm_pL_1, mm_pL_at, mm_pL_pL, mm_pL_3, mm_pM_1, mm_pM_2, mm_pM_at, mm_pM_pM, mm_pI_pL, mm_pI_pM, mm_pL_pM, Bool.false_eq_true, n_10, true_and, and_true, false_and, and_false, Nat.not_lt_zero, true_or, or_true, eq_self, mm_z, mm_rs, sw_xc_ite, sw_xv_ite, n_m1, Nat.lt_irrefl, not_false_eq_true, not_true_eq_false, inS_0, inS_1, ite_not, sw_xv_some, sw_xm_some, sw_xc_some, sw_xc_void, if_true, if_false, reduceIte, bI_0, bI_01, bI_1, nt_or, Nat.reduceAdd, n_add, n_mul, n_addL, n_Ladd, n_mulL, n_Lmul, n_sub, n_subL, n_lt, n_eq, n_ltL, n_Llt, n_eqL, n_Leq, n_nneg, n_pos]
set_option maxRecDepth 100000 in
set_option maxHeartbeats 4000000 in
theorem md_isPromiseX (x : Int32) (hB : ∀ f i, S.1 3 f i < 2147483648) : f_MD_isPromise E (.ref 71) (.int x) (mk S) = some (some (.int (bI (ok x (S.1 3 0 2) = true))), mk S) := by
  simp (disch := first | omega | exact hB _ _ | assumption | decide) only [e_MD_isPromise, st_MD_isPromise, rs_L, in_okc, mr_md E _, mm_pI_at, mm_pI_pI, mm_pI_2, mm_pL_1, mm_pL_at, mm_pL_pL, mm_pL_3, mm_pM_1, mm_pM_2, mm_pM_at, mm_pM_pM, mm_pI_pL, mm_pI_pM, mm_pL_pM, Bool.false_eq_true, n_10, true_and, and_true, false_and, and_false, Nat.not_lt_zero, true_or, or_true, eq_self, mm_z, mm_rs, sw_xc_ite, sw_xv_ite, n_m1, Nat.lt_irrefl, not_false_eq_true, not_true_eq_false, inS_0, inS_1, ite_not, sw_xv_some, sw_xm_some, sw_xc_some, sw_xc_void, if_true, if_false, reduceIte, bI_0, bI_01, bI_1, nt_or, Nat.reduceAdd, n_add, n_mul, n_addL, n_Ladd, n_mulL, n_Lmul, n_sub, n_subL, n_lt, n_eq, n_ltL, n_Llt, n_eqL, n_Leq, n_nneg, n_pos]
set_option maxRecDepth 100000 in
set_option maxHeartbeats 4000000 in
theorem md_isSet (x : Int32) (hB : ∀ f i, S.1 3 f i < 2147483648) (hn : S.1 3 0 1 ≤ 16) : f_MD_isSet E (.ref 71) (.int x) (mk S) = some (some (.int (bI (ok x (2 ^ S.1 3 0 1) = true))), mk S) := by
  have hp : 2 ^ S.1 3 0 1 ≤ 2 ^ 16 := Nat.pow_le_pow_right (by decide) hn
  have e : (nI (2 ^ S.1 3 0 1) - 1) = nI (2 ^ S.1 3 0 1 - 1) := n_sub (Nat.two_pow_pos _)
  have e2 : (1 : Int32) <<< (nI (S.1 3 0 1) &&& 31) = nI (2 ^ S.1 3 0 1) := sb_n _ (by omega)
  have h2 : 2 ^ S.1 3 0 1 < 2147483648 := by omega
  simp (disch := first | omega | exact hB _ _ | assumption | decide) only [e_MD_isSet, st_MD_isSet, e_MD_allThings, st_MD_allThings, rs_L, e2, in_okc, mr_md E _, mm_pI_at, mm_pI_pI, mm_pI_2, mm_pL_1, mm_pL_at, mm_pL_pL, mm_pL_3, mm_pM_1, mm_pM_2, mm_pM_at, mm_pM_pM, mm_pI_pL, mm_pI_pM, mm_pL_pM, Bool.false_eq_true, n_10, true_and, and_true, false_and, and_false, Nat.not_lt_zero, true_or, or_true, eq_self, mm_z, mm_rs, sw_xc_ite, sw_xv_ite, n_m1, Nat.lt_irrefl, not_false_eq_true, not_true_eq_false, inS_0, inS_1, ite_not, sw_xv_some, sw_xm_some, sw_xc_some, sw_xc_void, if_true, if_false, reduceIte, bI_0, bI_01, bI_1, nt_or, Nat.reduceAdd, n_add, n_mul, n_addL, n_Ladd, n_mulL, n_Lmul, n_sub, n_subL, n_lt, n_eq, n_ltL, n_Llt, n_eqL, n_Leq, n_nneg, n_pos]
end OK2
/-! the whole memory -/
def Inv (S : sw_S) : Prop := IT (S.1 0) ∧ S.1 3 = S.1 0 ∧ S.2.1 3 = S.2.1 0 ∧ IT (S.1 1) ∧ (S.2.2 9 0 = 0 ∨ S.2.2 9 0 = 1) ∧ S.2.2 21 0 = S.2.2 9 0 ∧ (S.2.2 9 0 = 1 → S.1 4 = S.1 1 ∧ S.2.1 4 = S.2.1 1) ∧ S.2.2 20 = S.2.2 8 ∧
  (∃ n, n ≤ 100 ∧ S.2.2 5 0 = nI n ∧ S.2.2 25 0 = nI n) ∧ S.2.2 24 = S.2.2 4 ∧ (∀ i, ∃ b, b < 256 ∧ S.2.2 4 i = nI b) ∧
  S.2.2 26 = S.2.2 6 ∧ S.2.2 27 = S.2.2 7 ∧ (∀ s, s < 4 → ∃ n, n ≤ 40 ∧ S.2.2 7 s = nI n) ∧ (∀ s, s < 4 → S.2.1 (10 + s) = S.2.1 (6 + s))
section INV
variable {S : sw_S}
theorem Inv.it (h : Inv S) : IT (S.1 0) := h.1
theorem Inv.s3 (h : Inv S) : S.1 3 = S.1 0 := h.2.1
theorem Inv.h3 (h : Inv S) : S.2.1 3 = S.2.1 0 := h.2.2.1
theorem Inv.it3 (h : Inv S) : IT (S.1 3) := by rw [h.s3]; exact h.1
theorem Inv.it1 (h : Inv S) : IT (S.1 1) := h.2.2.2.1
theorem Inv.kb (h : Inv S) : S.2.2 9 0 = 0 ∨ S.2.2 9 0 = 1 := h.2.2.2.2.1
theorem Inv.k21 (h : Inv S) : S.2.2 21 0 = S.2.2 9 0 := h.2.2.2.2.2.1
theorem Inv.kept (h : Inv S) : S.2.2 9 0 = 1 → S.1 4 = S.1 1 ∧ S.2.1 4 = S.2.1 1 := h.2.2.2.2.2.2.1
theorem Inv.f (h : Inv S) : S.2.2 20 = S.2.2 8 := h.2.2.2.2.2.2.2.1
theorem Inv.tape (h : Inv S) : ∃ n, n ≤ 100 ∧ S.2.2 5 0 = nI n ∧ S.2.2 25 0 = nI n := h.2.2.2.2.2.2.2.2.1
theorem Inv.by (h : Inv S) : S.2.2 24 = S.2.2 4 := h.2.2.2.2.2.2.2.2.2.1
theorem Inv.by2 (h : Inv S) : ∀ i, ∃ b, b < 256 ∧ S.2.2 4 i = nI b := h.2.2.2.2.2.2.2.2.2.2.1
theorem Inv.sb (h : Inv S) : S.2.2 26 = S.2.2 6 := h.2.2.2.2.2.2.2.2.2.2.2.1
theorem Inv.ss (h : Inv S) : S.2.2 27 = S.2.2 7 := h.2.2.2.2.2.2.2.2.2.2.2.2.1
theorem Inv.sz (h : Inv S) : ∀ s, s < 4 → ∃ n, n ≤ 40 ∧ S.2.2 7 s = nI n := h.2.2.2.2.2.2.2.2.2.2.2.2.2.1
theorem Inv.row (h : Inv S) : ∀ s, s < 4 → S.2.1 (10 + s) = S.2.1 (6 + s) := h.2.2.2.2.2.2.2.2.2.2.2.2.2.2
/-- a finding is counted -/
theorem Inv_find (h : Inv S) (j : Nat) : Inv (mm_pM (mm_pM S 8 (upd (S.2.2 8) j (S.2.2 8 j + 1))) 20 (upd (S.2.2 20) j (S.2.2 20 j + 1))) := by
  obtain ⟨h1, h2, h3, h4, h5, h6, h7, h8, h9, h10, h11, h12, h13, h14, h15⟩ := h
  refine ⟨h1, h2, h3, h4, h5, h6, h7, ?_, h9, h10, h11, h12, h13, h14, h15⟩
  show upd (S.2.2 20) j (S.2.2 20 j + 1) = upd (S.2.2 8) j (S.2.2 8 j + 1)
  rw [h8]
/-- the town changes on both sides -/
theorem Inv_town (h : Inv S) {T : Nat → Nat → Nat} {H : Nat → Int64} (hT : IT T) : Inv (mm_pL (mm_pI (mm_pL (mm_pI S 0 T) 0 H) 3 T) 3 H) := by
  obtain ⟨h1, h2, h3, h4, h5, h6, h7, h8, h9, h10, h11, h12, h13, h14, h15⟩ := h
  refine ⟨hT, rfl, rfl, h4, h5, h6, h7, h8, h9, h10, h11, h12, h13, h14, fun s hs => ?_⟩
  have e1 : (mm_pL (mm_pI (mm_pL (mm_pI S 0 T) 0 H) 3 T) 3 H).2.1 (10 + s) = S.2.1 (10 + s) := by
    rw [mm_pL_ne _ _ (by omega), mm_pI_2, mm_pL_ne _ _ (by omega), mm_pI_2]
  have e2 : (mm_pL (mm_pI (mm_pL (mm_pI S 0 T) 0 H) 3 T) 3 H).2.1 (6 + s) = S.2.1 (6 + s) := by
    rw [mm_pL_ne _ _ (by omega), mm_pI_2, mm_pL_ne _ _ (by omega), mm_pI_2]
  rw [e1, e2]; exact h15 s hs
theorem Inv_town0 (h : Inv S) {T : Nat → Nat → Nat} (hT : IT T) : Inv (mm_pI (mm_pI S 0 T) 3 T) := by
  obtain ⟨h1, h2, h3, h4, h5, h6, h7, h8, h9, h10, h11, h12, h13, h14, h15⟩ := h
  exact ⟨hT, rfl, h3, h4, h5, h6, h7, h8, h9, h10, h11, h12, h13, h14, h15⟩
end INV
/-- class and reference answer alike -/
def AgI (S : sw_S) (f g : sw_M → Option sw_R) : Prop := ∃ (v : Int32) (S1 S2 : sw_S), f (mk S) = some (some (.int v), mk S1) ∧ g (mk S1) = some (some (.int v), mk S2) ∧ Inv S2
def AgL (S : sw_S) (f g : sw_M → Option sw_R) : Prop := ∃ (v : Int64) (S1 S2 : sw_S), f (mk S) = some (some (.long v), mk S1) ∧ g (mk S1) = some (some (.long v), mk S2) ∧ Inv S2
/-- the reference's part is the same -/
def MP (S S1 : sw_S) : Prop := (∀ t, 3 ≤ t → S1.1 t = S.1 t) ∧ (∀ t, (3 ≤ t ∧ t < 6) ∨ 10 ≤ t → S1.2.1 t = S.2.1 t) ∧ (∀ f, 20 ≤ f → S1.2.2 f = S.2.2 f)
theorem MP_refl (S : sw_S) : MP S S := ⟨fun _ _ => rfl, fun _ _ => rfl, fun _ _ => rfl⟩
theorem MP_pI {S S1 : sw_S} (h : MP S S1) {t : Nat} (ht : t < 3) (T : Nat → Nat → Nat) : MP S (mm_pI S1 t T) := ⟨fun q hq => (mm_pI_ne _ _ (by omega)).trans (h.1 q hq), h.2.1, h.2.2⟩
theorem MP_pL {S S1 : sw_S} (h : MP S S1) {t : Nat} (ht : t < 3 ∨ (6 ≤ t ∧ t < 10)) (H : Nat → Int64) : MP S (mm_pL S1 t H) := ⟨h.1, fun q hq => (mm_pL_ne _ _ (by omega)).trans (h.2.1 q hq), h.2.2⟩
theorem MP_pM {S S1 : sw_S} (h : MP S S1) {t : Nat} (ht : t < 20) (H : Nat → Int32) : MP S (mm_pM S1 t H) := ⟨h.1, h.2.1, fun q hq => (mm_pM_ne _ _ (by omega)).trans (h.2.2 q hq)⟩
section AG
variable {S : sw_S} {f g : sw_M → Option sw_R} {v : Int32} {w : Int64}
theorem ag_find (j : Nat) (h1 : f (mk S) = some (some (.int v), mk (mm_pM S 8 (upd (S.2.2 8) j (S.2.2 8 j + 1))))) (h2 : ∀ S1, MP S S1 → g (mk S1) = some (some (.int v), mk (mm_pM S1 20 (upd (S1.2.2 20) j (S1.2.2 20 j + 1))))) (hI : Inv S) : AgI S f g := ⟨v, _, _, h1, h2 _ (MP_pM (MP_refl S) (by decide) _), Inv_find hI j⟩
theorem ag_findL (j : Nat) (h1 : f (mk S) = some (some (.long w), mk (mm_pM S 8 (upd (S.2.2 8) j (S.2.2 8 j + 1))))) (h2 : ∀ S1, MP S S1 → g (mk S1) = some (some (.long w), mk (mm_pM S1 20 (upd (S1.2.2 20) j (S1.2.2 20 j + 1))))) (hI : Inv S) : AgL S f g := ⟨w, _, _, h1, h2 _ (MP_pM (MP_refl S) (by decide) _), Inv_find hI j⟩
theorem ag_read (h1 : f (mk S) = some (some (.int v), mk S)) (h2 : ∀ S1, MP S S1 → g (mk S1) = some (some (.int v), mk S1)) (hI : Inv S) : AgI S f g := ⟨v, _, _, h1, h2 S (MP_refl S), hI⟩
theorem ag_readL (h1 : f (mk S) = some (some (.long w), mk S)) (h2 : ∀ S1, MP S S1 → g (mk S1) = some (some (.long w), mk S1)) (hI : Inv S) : AgL S f g := ⟨w, _, _, h1, h2 S (MP_refl S), hI⟩
theorem ag_town0 {T : Nat → Nat → Nat} (h1 : f (mk S) = some (some (.int v), mk (mm_pI S 0 T))) (h2 : ∀ S1, MP S S1 → g (mk S1) = some (some (.int v), mk (mm_pI S1 3 T))) (hI : Inv S) (hT : IT T) : AgI S f g := ⟨v, _, _, h1, h2 _ (MP_pI (MP_refl S) (by decide) _), Inv_town0 hI hT⟩
theorem ag_town {T : Nat → Nat → Nat} {H : Nat → Int64} (h1 : f (mk S) = some (some (.int v), mk (mm_pL (mm_pI S 0 T) 0 H))) (h2 : ∀ S1, MP S S1 → g (mk S1) = some (some (.int v), mk (mm_pL (mm_pI S1 3 T) 3 H))) (hI : Inv S) (hT : IT T) : AgI S f g := ⟨v, _, _, h1, h2 _ (MP_pL (MP_pI (MP_refl S) (by decide) _) (by decide) _), Inv_town hI hT⟩
end AG
