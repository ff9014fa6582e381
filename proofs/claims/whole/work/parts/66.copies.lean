/-! ===== copies of sheets; the tape is fed ===== -/
theorem lp_cpy (f g : Nat → Int64) (sp dp n : Nat) : lp (fun k b => vp_updL b (dp + k) (f (sp + k))) n g = va_cpy f g sp dp n := by
  have key := lp_inv (f := fun k b => vp_updL b (dp + k) (f (sp + k))) (P := fun i b => b = va_cpy f g sp dp i) (n := n) (a := g) (by
    funext j
    unfold va_cpy
    rw [if_neg (by omega)]) (fun i b hi hP => by
    rw [hP]
    funext j
    unfold vp_updL va_cpy
    by_cases hj : j = dp + i
    · rw [if_pos hj, if_pos (by omega)]
      congr 1; omega
    · rw [if_neg hj]
      by_cases h2 : dp ≤ j ∧ j < dp + i
      · rw [if_pos h2, if_pos (by omega)]
      · rw [if_neg h2, if_neg (by omega)])
  exact key
/-- what is moved -/
def mvd (f m : Nat → Int64) (sp n : Nat) : Nat → Int64 := lp (fun k a => vp_updL a k (f (sp + k))) n m
theorem mvd_at (f m : Nat → Int64) (sp : Nat) {n k : Nat} (hk : k < n) : mvd f m sp n k = f (sp + k) := by
  have key := lp_inv (f := fun k a => vp_updL a k (f (sp + k))) (P := fun i a => ∀ j, j < i → a j = f (sp + j)) (n := n) (a := m) (fun j hj => absurd hj (Nat.not_lt_zero j)) (fun i a hi hP j hj => by
    unfold vp_updL
    by_cases hji : j = i
    · rw [if_pos hji, hji]
    · rw [if_neg hji]; exact hP j (by omega))
  exact key k hk
theorem n_sub_lt {a b n : Nat} (ha : a < 2147483648) (hb : b < 2147483648) (hn : n < 2147483648) : (nI a - nI b < nI n) ↔ a < b + n := by
  rw [Int32.lt_iff_toInt_lt, fb_subI (by rw [nI_toInt ha, nI_toInt hb]; omega) (by rw [nI_toInt ha, nI_toInt hb]; omega), nI_toInt ha, nI_toInt hb, nI_toInt hn]
  omega
section CP2
variable (E : sw_E) (S : sw_S)
theorem mm_wsr {s : Nat} (h : s < 4) (X : Nat → Int64) : sw_sC (mk S) (mm_sr s) (mm_lA 40 X) = mk (mm_pL S (6 + s) X) := by
  have key : ∀ q, q < 86 → q ≠ mm_sr s → mm_cl (mm_pL S (6 + s) X) q = mm_cl S q := by
    intro q hq8 hq
    unfold mm_cl
    split
    · next hr =>
      unfold mm_ct
      split <;> first | rfl | (rw [mm_pL_ne S _ (by omega)]; done)
    · split
      · split
        · rfl
        · next h1 h2 h3 =>
          have hne : 6 + (q - 62) / 2 ≠ 6 + s := fun e => hq (by unfold mm_sr; omega)
          rw [mm_pL_ne S _ hne]
      · unfold mm_cr
        split <;> first | rfl | (rw [mm_pL_ne S _ (by omega)]; done) | (simp only [mm_pL]; congr 1; funext j; rw [if_neg (by omega)])
  refine mm_sCe (fun q hq => ?_) (mm_sr_lt h)
  split
  · next e => subst e; rw [mm_at_sr h, mm_pL_at]
  · next e => exact key q hq e
theorem mc_sr {s t sp dp n : Nat} (hs : s < 4) (ht : t < 4) (h1 : sp + n ≤ 40) (h2 : dp + n ≤ 40) : sw_cp (mk S) (mm_sr s) (nI sp) (mm_sr t) (nI dp) (nI n) = some (mk (mm_pL S (6 + t) (va_cpy (S.2.1 (6 + s)) (S.2.1 (6 + t)) sp dp n))) := by
  have c1 : (nI sp).toNatClampNeg = sp := nI_clamp (by omega)
  have c2 : (nI dp).toNatClampNeg = dp := nI_clamp (by omega)
  have c3 : (nI n).toNatClampNeg = n := nI_clamp (by omega)
  unfold sw_cp
  rw [if_pos (show mm_sr s < (mk S).2.2.1 ∧ mm_sr t < (mk S).2.2.1 ∧ ¬ nI sp < 0 ∧ ¬ nI dp < 0 ∧ ¬ nI n < 0 from ⟨mm_sr_lt hs, mm_sr_lt ht, nI_pos (by omega), nI_pos (by omega), nI_pos (by omega)⟩)]
  have e1 : (mk S).2.2.2 (mm_sr s) = mm_lA 40 (S.2.1 (6 + s)) := mm_at_sr hs
  have e2 : (mk S).2.2.2 (mm_sr t) = mm_lA 40 (S.2.1 (6 + t)) := mm_at_sr ht
  rw [e1, e2]
  unfold mm_lA
  simp only [c1, c2, c3]
  rw [if_pos ⟨h1, h2⟩, ← mm_wsr S ht]
  unfold mm_lA
  congr 7
  funext i
  unfold va_cpy
  by_cases hi : dp ≤ i ∧ i < dp + n
  · rw [if_pos hi, if_pos (by omega), if_pos hi]
    show (if sp + (i - dp) < 40 then _ else _) = _
    rw [if_pos (by omega)]
  · rw [if_neg hi, if_neg hi]
set_option maxRecDepth 100000 in
set_option maxHeartbeats 4000000 in
theorem md_copy_l {s t sp dp n : Nat} (hs : s < 4) (ht : t < 4) (h1 : sp + n ≤ 40) (h2 : dp + n ≤ 40) : h_MD_copy_0 E [.ref 71, .int (nI s), .int (nI sp), .int (nI t), .int (nI dp), .int (nI n), .int 0] (mk S) = some (some (.int (nI n)), mk (mm_pL (mm_pL S 14 (mvd (S.2.1 (10 + s)) (S.2.1 14) sp n)) (10 + t) (va_cpy (S.2.1 (10 + s)) (S.2.1 (10 + t)) sp dp n))) := by
  have k1 := lp_up' (G := fun i a => h_MD_copy_0 E [.ref 71, .int (nI s), .int (nI sp), .int (nI t), .int (nI dp), .int (nI n), .int (nI i)] (mk (mm_pL S 14 a))) (f := fun k a => vp_updL a k (S.2.1 (10 + s) (sp + k))) (fin := fun a => h_MD_copy_1 E [.ref 71, .int (nI s), .int (nI sp), .int (nI t), .int (nI dp), .int (nI n), .int (nI 0)] (mk (mm_pL S 14 a))) (n := n) (a0 := S.2.1 14) (fun i a hi => ?_) (fun a => ?_)
  · have k2 := lp_up' (G := fun i b => h_MD_copy_1 E [.ref 71, .int (nI s), .int (nI sp), .int (nI t), .int (nI dp), .int (nI n), .int (nI i)] (mk (mm_pL (mm_pL S 14 (mvd (S.2.1 (10 + s)) (S.2.1 14) sp n)) (10 + t) b))) (f := fun k b => vp_updL b (dp + k) (S.2.1 (10 + s) (sp + k))) (fin := fun b => some (some (.int (nI n)), mk (mm_pL (mm_pL S 14 (mvd (S.2.1 (10 + s)) (S.2.1 14) sp n)) (10 + t) b))) (n := n) (a0 := S.2.1 (10 + t)) (fun i b hi => ?_) (fun b => ?_)
    · rw [mm_pL_id] at k1
      have e := mm_pL_id (mm_pL S 14 (mvd (S.2.1 (10 + s)) (S.2.1 14) sp n)) (10 + t)
      rw [mm_pL_ne _ _ (show 10 + t ≠ 14 by omega)] at e
      rw [e, lp_cpy] at k2
      exact k1.trans k2
    · have e1 : 40 * t + dp + i = 40 * t + (dp + i) := by omega
      have e2 : mvd (S.2.1 (10 + s)) (S.2.1 14) sp n i = S.2.1 (10 + s) (sp + i) := mvd_at _ _ _ hi
      have e3 : dp + i < 40 := by omega
      rw [u_MD_copy_1]
      simp (disch := first | omega | exact hB _ _ | assumption | decide) only [st_MD_copy, hi, e1, mw_l84 _ ht e3, e2, mr_md E _, mm_pI_at, mm_pI_pI, mm_pI_2, mm_pL_1, mm_pL_at, mm_pL_pL, mm_pL_3, mm_pM_1, mm_pM_2, mm_pM_at, mm_pM_pM, mm_pI_pL, mm_pI_pM, mm_pL_pM, mm_pI_ne, mm_pL_ne, mm_pM_ne, u_at, uL_at, fa_upd_twice, Bool.false_eq_true, n_10, true_and, and_true, false_and, and_false, Nat.not_lt_zero, true_or, or_true, eq_self, mm_z, mm_rs, sw_xc_ite, sw_xv_ite, n_m1, Nat.lt_irrefl, not_false_eq_true, not_true_eq_false, inS_0, inS_1, ite_not, sw_xv_some, sw_xm_some, sw_xc_some, sw_xc_void, if_true, if_false, reduceIte, bI_0, bI_01, bI_1, nt_or, Nat.reduceAdd, n_add, n_mul, n_addL, n_Ladd, n_mulL, n_Lmul, n_sub, n_subL, n_lt, n_eq, n_ltL, n_Llt, n_eqL, n_Leq, n_nneg, n_pos]
    · rw [u_MD_copy_1]
      simp (disch := first | omega | exact hB _ _ | assumption | decide) only [st_MD_copy, mr_md E _, mm_pI_at, mm_pI_pI, mm_pI_2, mm_pL_1, mm_pL_at, mm_pL_pL, mm_pL_3, mm_pM_1, mm_pM_2, mm_pM_at, mm_pM_pM, mm_pI_pL, mm_pI_pM, mm_pL_pM, mm_pI_ne, mm_pL_ne, mm_pM_ne, u_at, uL_at, fa_upd_twice, Bool.false_eq_true, n_10, true_and, and_true, false_and, and_false, Nat.not_lt_zero, true_or, or_true, eq_self, mm_z, mm_rs, sw_xc_ite, sw_xv_ite, n_m1, Nat.lt_irrefl, not_false_eq_true, not_true_eq_false, inS_0, inS_1, ite_not, sw_xv_some, sw_xm_some, sw_xc_some, sw_xc_void, if_true, if_false, reduceIte, bI_0, bI_01, bI_1, nt_or, Nat.reduceAdd, n_add, n_mul, n_addL, n_Ladd, n_mulL, n_Lmul, n_sub, n_subL, n_lt, n_eq, n_ltL, n_Llt, n_eqL, n_Leq, n_nneg, n_pos]
  · have e1 : 40 * s + sp + i = 40 * s + (sp + i) := by omega
    have e3 : sp + i < 40 := by omega
    rw [u_MD_copy_0]
    simp (disch := first | omega | exact hB _ _ | assumption | decide) only [st_MD_copy, hi, e1, rs_num _ hs e3, mw_l85, mr_md E _, mm_pI_at, mm_pI_pI, mm_pI_2, mm_pL_1, mm_pL_at, mm_pL_pL, mm_pL_3, mm_pM_1, mm_pM_2, mm_pM_at, mm_pM_pM, mm_pI_pL, mm_pI_pM, mm_pL_pM, mm_pI_ne, mm_pL_ne, mm_pM_ne, u_at, uL_at, fa_upd_twice, Bool.false_eq_true, n_10, true_and, and_true, false_and, and_false, Nat.not_lt_zero, true_or, or_true, eq_self, mm_z, mm_rs, sw_xc_ite, sw_xv_ite, n_m1, Nat.lt_irrefl, not_false_eq_true, not_true_eq_false, inS_0, inS_1, ite_not, sw_xv_some, sw_xm_some, sw_xc_some, sw_xc_void, if_true, if_false, reduceIte, bI_0, bI_01, bI_1, nt_or, Nat.reduceAdd, n_add, n_mul, n_addL, n_Ladd, n_mulL, n_Lmul, n_sub, n_subL, n_lt, n_eq, n_ltL, n_Llt, n_eqL, n_Leq, n_nneg, n_pos]
  · rw [u_MD_copy_0]
    simp (disch := first | omega | exact hB _ _ | assumption | decide) only [st_MD_copy, mr_md E _, mm_pI_at, mm_pI_pI, mm_pI_2, mm_pL_1, mm_pL_at, mm_pL_pL, mm_pL_3, mm_pM_1, mm_pM_2, mm_pM_at, mm_pM_pM, mm_pI_pL, mm_pI_pM, mm_pL_pM, mm_pI_ne, mm_pL_ne, mm_pM_ne, u_at, uL_at, fa_upd_twice, Bool.false_eq_true, n_10, true_and, and_true, false_and, and_false, Nat.not_lt_zero, true_or, or_true, eq_self, mm_z, mm_rs, sw_xc_ite, sw_xv_ite, n_m1, Nat.lt_irrefl, not_false_eq_true, not_true_eq_false, inS_0, inS_1, ite_not, sw_xv_some, sw_xm_some, sw_xc_some, sw_xc_void, if_true, if_false, reduceIte, bI_0, bI_01, bI_1, nt_or, Nat.reduceAdd, n_add, n_mul, n_addL, n_Ladd, n_mulL, n_Lmul, n_sub, n_subL, n_lt, n_eq, n_ltL, n_Llt, n_eqL, n_Leq, n_nneg, n_pos]
    rfl
end CP2
/-! feeding -/
def byt (x : Int32) (i : Nat) : Int32 := (x >>> (nI (8 * i) &&& 31)) &&& 255
theorem byt_u (x : Int32) {i : Nat} (hi : i < 4) : (x.toUInt32 >>> ((nI (8 * i)).toUInt32 &&& Int32.toUInt32 31)).toInt32 &&& 255 = byt x i := by
  refine b_ext (fun j hj => ?_)
  unfold byt
  rw [b_and, b_and, b_255]
  by_cases h8 : j < 8
  · rw [b_ushr (8 * i) (by omega) x, b_sshr (8 * i) (by omega) x hj]
    by_cases h : 8 * i + j < 32
    · simp [h]
    · omega
  · simp [h8]
theorem byt_n (x : Int32) (i : Nat) : ∃ b, b < 256 ∧ byt x i = nI b := by
  unfold byt
  generalize x >>> (nI (8 * i) &&& 31) = y
  have h0 : ¬ y &&& 255 < 0 := by
    rw [Int32.lt_iff_toInt_lt, i32_nat]
    have e0 : (0 : Int32).toInt = 0 := by decide
    have hl : (y &&& 255).toUInt32.toNat < 256 := by
      show (y.toBitVec &&& (255 : Int32).toBitVec).toNat < 256
      rw [BitVec.toNat_and]
      exact Nat.lt_of_le_of_lt Nat.and_le_right (by decide)
    split <;> omega
  obtain ⟨b, hb, e⟩ := n_of h0
  refine ⟨b, ?_, e⟩
  have hl : (y &&& 255).toUInt32.toNat < 256 := by
    show (y.toBitVec &&& (255 : Int32).toBitVec).toNat < 256
    rw [BitVec.toNat_and]
    exact Nat.lt_of_le_of_lt Nat.and_le_right (by decide)
  have h2 := i32_nat (y &&& 255)
  rw [e, nI_toInt hb, ← e] at h2
  split at h2 <;> omega
/-- bytes put behind a tape -/
def tp_fd (B : Nat → Int32) (l : Nat) (x : Int32) (n : Nat) : Nat → Int32 := lp (fun j a => upd a (l + j) (byt x (n - 1 - j))) n B
theorem tp_fd_b {B : Nat → Int32} (hB : ∀ i, ∃ b, b < 256 ∧ B i = nI b) (l : Nat) (x : Int32) (n : Nat) : ∀ i, ∃ b, b < 256 ∧ tp_fd B l x n i = nI b :=
  lp_inv (f := fun j a => upd a (l + j) (byt x (n - 1 - j))) (P := fun _ a => ∀ i, ∃ b, b < 256 ∧ a i = nI b) (n := n) (a := B) hB (fun j a _ hP i => by
    unfold upd
    split
    · exact byt_n _ _
    · exact hP i)
def vdn (n j : Nat) : Int32 := if j < n then nI (n - 1 - j) else -1
theorem vdn_s {n j : Nat} (h : j < n) : nI (n - 1 - j) + (-1) = vdn n (j + 1) := by
  unfold vdn
  by_cases h1 : j + 1 < n
  · rw [if_pos h1]
    have e : n - 1 - j = (n - 1 - (j + 1)) + 1 := by omega
    rw [e, ← n_add, Int32.add_assoc]
    rw [show nI 1 + (-1) = 0 from by decide, Int32.add_zero]
  · rw [if_neg h1, show n - 1 - j = 0 by omega]
    decide
section FD
variable (E : sw_E) (S : sw_S)
theorem p54 (S : sw_S) (g b : Nat → Int32) : mm_pM (mm_pM S 5 g) 4 b = mm_pM (mm_pM S 4 b) 5 g := by
  refine Prod.ext rfl (Prod.ext rfl (funext fun f => ?_))
  simp only [mm_pM]
  by_cases h : f = 4 <;> by_cases h2 : f = 5 <;> simp [h, h2] <;> omega
theorem p2524 (S : sw_S) (g b : Nat → Int32) : mm_pM (mm_pM S 25 g) 24 b = mm_pM (mm_pM S 24 b) 25 g := by
  refine Prod.ext rfl (Prod.ext rfl (funext fun f => ?_))
  simp only [mm_pM]
  by_cases h : f = 24 <;> by_cases h2 : f = 25 <;> simp [h, h2] <;> omega
set_option maxRecDepth 100000 in
set_option maxHeartbeats 4000000 in
theorem c_append {l n : Nat} (hl : S.2.2 5 0 = nI l) (h1 : 1 ≤ n) (h4 : n ≤ 4) (hln : l + n ≤ 100) (x : Int32) : f_Tape_append E (.ref 59) (.int x) (.int (nI n)) (mk S) = some (some (.int (nI (l + n))), mk (mm_pM (mm_pM S 4 (tp_fd (S.2.2 4) l x n)) 5 (upd (S.2.2 5) 0 (nI (l + n))))) := by
  have key := lp_up' (G := fun j a => h_Tape_append_0 E [.ref 59, .int x, .int (nI n), .int (vdn n j)] (mk (mm_pM (mm_pM S 4 a) 5 (upd (S.2.2 5) 0 (nI (l + j)))))) (f := fun j a => upd a (l + j) (byt x (n - 1 - j))) (fin := fun a => some (some (.int (nI (l + n))), mk (mm_pM (mm_pM S 4 a) 5 (upd (S.2.2 5) 0 (nI (l + n)))))) (n := n) (a0 := S.2.2 4) (fun j a hj => ?_) (fun a => ?_)
  · have e0 : vdn n 0 = nI n - 1 := by
      unfold vdn
      rw [if_pos (by omega), n_subL (by omega : (1 : Nat) ≤ n)]
      rfl
    have e1 : mm_pM (mm_pM S 4 (S.2.2 4)) 5 (upd (S.2.2 5) 0 (nI (l + 0))) = S := by
      have : upd (S.2.2 5) 0 (nI (l + 0)) = S.2.2 5 := fa_upd_same hl
      rw [this, mm_pM_id, mm_pM_id]
    rw [e1, e0] at key
    simp only [e_Tape_append, st_Tape_append]
    exact key
  · have ev : vdn n j = nI (n - 1 - j) := if_pos hj
    have es := vdn_s hj
    have eb : ∀ i, i < 4 → (x.toUInt32 >>> ((nI (8 * i)).toUInt32 &&& Int32.toUInt32 31)).toInt32 &&& 255 = byt x i := fun i hi => byt_u x hi
    rw [u_Tape_append_0, ev]
    simp (disch := first | omega | exact hB _ _ | assumption | decide) only [st_Tape_append, eb, es, mw_m60, mw_f59_1, p54, Nat.add_assoc l j 1, mr_cl E _, mm_pI_at, mm_pI_pI, mm_pI_2, mm_pL_1, mm_pL_at, mm_pL_pL, mm_pL_3, mm_pM_1, mm_pM_2, mm_pM_at, mm_pM_pM, mm_pI_pL, mm_pI_pM, mm_pL_pM, mm_pI_ne, mm_pL_ne, mm_pM_ne, u_at, uL_at, fa_upd_twice, Bool.false_eq_true, n_10, true_and, and_true, false_and, and_false, Nat.not_lt_zero, true_or, or_true, eq_self, mm_z, mm_rs, sw_xc_ite, sw_xv_ite, n_m1, Nat.lt_irrefl, not_false_eq_true, not_true_eq_false, inS_0, inS_1, ite_not, sw_xv_some, sw_xm_some, sw_xc_some, sw_xc_void, if_true, if_false, reduceIte, bI_0, bI_01, bI_1, nt_or, Nat.reduceAdd, n_add, n_mul, n_addL, n_Ladd, n_mulL, n_Lmul, n_sub, n_subL, n_lt, n_eq, n_ltL, n_Llt, n_eqL, n_Leq, n_nneg, n_pos]
  · have ev : vdn n n = -1 := if_neg (Nat.lt_irrefl n)
    rw [u_Tape_append_0, ev]
    simp (disch := first | omega | exact hB _ _ | assumption | decide) only [st_Tape_append, mr_cl E _, mm_pI_at, mm_pI_pI, mm_pI_2, mm_pL_1, mm_pL_at, mm_pL_pL, mm_pL_3, mm_pM_1, mm_pM_2, mm_pM_at, mm_pM_pM, mm_pI_pL, mm_pI_pM, mm_pL_pM, mm_pI_ne, mm_pL_ne, mm_pM_ne, u_at, uL_at, fa_upd_twice, Bool.false_eq_true, n_10, true_and, and_true, false_and, and_false, Nat.not_lt_zero, true_or, or_true, eq_self, mm_z, mm_rs, sw_xc_ite, sw_xv_ite, n_m1, Nat.lt_irrefl, not_false_eq_true, not_true_eq_false, inS_0, inS_1, ite_not, sw_xv_some, sw_xm_some, sw_xc_some, sw_xc_void, if_true, if_false, reduceIte, bI_0, bI_01, bI_1, nt_or, Nat.reduceAdd, n_add, n_mul, n_addL, n_Ladd, n_mulL, n_Lmul, n_sub, n_subL, n_lt, n_eq, n_ltL, n_Llt, n_eqL, n_Leq, n_nneg, n_pos]
set_option maxRecDepth 100000 in
set_option maxHeartbeats 4000000 in
theorem md_feed_l {l n : Nat} (hl : S.2.2 25 0 = nI l) (h1 : 1 ≤ n) (h4 : n ≤ 4) (hln : l + n ≤ 100) (x : Int32) : h_MD_feed_0 E [.ref 71, .int x, .int (nI n), .int (nI (n - 1))] (mk S) = some (some (.int (nI (l + n))), mk (mm_pM (mm_pM S 24 (tp_fd (S.2.2 24) l x n)) 25 (upd (S.2.2 25) 0 (nI (l + n))))) := by
  have key := lp_up' (G := fun j a => h_MD_feed_0 E [.ref 71, .int x, .int (nI n), .int (vdn n j)] (mk (mm_pM (mm_pM S 24 a) 25 (upd (S.2.2 25) 0 (nI (l + j)))))) (f := fun j a => upd a (l + j) (byt x (n - 1 - j))) (fin := fun a => some (some (.int (nI (l + n))), mk (mm_pM (mm_pM S 24 a) 25 (upd (S.2.2 25) 0 (nI (l + n)))))) (n := n) (a0 := S.2.2 24) (fun j a hj => ?_) (fun a => ?_)
  · have e0 : vdn n 0 = nI (n - 1) := by
      unfold vdn
      rw [if_pos (by omega)]
      rfl
    have e1 : mm_pM (mm_pM S 24 (S.2.2 24)) 25 (upd (S.2.2 25) 0 (nI (l + 0))) = S := by
      have : upd (S.2.2 25) 0 (nI (l + 0)) = S.2.2 25 := fa_upd_same hl
      rw [this, mm_pM_id, mm_pM_id]
    rw [e1, e0] at key
    exact key
  · have ev : vdn n j = nI (n - 1 - j) := if_pos hj
    have es := vdn_s hj
    have eb : ∀ i, (x >>> (nI (8 * i) &&& 31)) &&& 255 = byt x i := fun i => rfl
    rw [u_MD_feed_0, ev]
    simp (disch := first | omega | exact hB _ _ | assumption | decide) only [st_MD_feed, eb, es, mw_m81, mw_f71_11, p2524, Nat.add_assoc l j 1, mr_md E _, mm_pI_at, mm_pI_pI, mm_pI_2, mm_pL_1, mm_pL_at, mm_pL_pL, mm_pL_3, mm_pM_1, mm_pM_2, mm_pM_at, mm_pM_pM, mm_pI_pL, mm_pI_pM, mm_pL_pM, mm_pI_ne, mm_pL_ne, mm_pM_ne, u_at, uL_at, fa_upd_twice, Bool.false_eq_true, n_10, true_and, and_true, false_and, and_false, Nat.not_lt_zero, true_or, or_true, eq_self, mm_z, mm_rs, sw_xc_ite, sw_xv_ite, n_m1, Nat.lt_irrefl, not_false_eq_true, not_true_eq_false, inS_0, inS_1, ite_not, sw_xv_some, sw_xm_some, sw_xc_some, sw_xc_void, if_true, if_false, reduceIte, bI_0, bI_01, bI_1, nt_or, Nat.reduceAdd, n_add, n_mul, n_addL, n_Ladd, n_mulL, n_Lmul, n_sub, n_subL, n_lt, n_eq, n_ltL, n_Llt, n_eqL, n_Leq, n_nneg, n_pos]
  · have ev : vdn n n = -1 := if_neg (Nat.lt_irrefl n)
    rw [u_MD_feed_0, ev]
    simp (disch := first | omega | exact hB _ _ | assumption | decide) only [st_MD_feed, mr_md E _, mm_pI_at, mm_pI_pI, mm_pI_2, mm_pL_1, mm_pL_at, mm_pL_pL, mm_pL_3, mm_pM_1, mm_pM_2, mm_pM_at, mm_pM_pM, mm_pI_pL, mm_pI_pM, mm_pL_pM, mm_pI_ne, mm_pL_ne, mm_pM_ne, u_at, uL_at, fa_upd_twice, Bool.false_eq_true, n_10, true_and, and_true, false_and, and_false, Nat.not_lt_zero, true_or, or_true, eq_self, mm_z, mm_rs, sw_xc_ite, sw_xv_ite, n_m1, Nat.lt_irrefl, not_false_eq_true, not_true_eq_false, inS_0, inS_1, ite_not, sw_xv_some, sw_xm_some, sw_xc_some, sw_xc_void, if_true, if_false, reduceIte, bI_0, bI_01, bI_1, nt_or, Nat.reduceAdd, n_add, n_mul, n_addL, n_Ladd, n_mulL, n_Lmul, n_sub, n_subL, n_lt, n_eq, n_ltL, n_Llt, n_eqL, n_Leq, n_nneg, n_pos]
end FD
