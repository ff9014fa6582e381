/-! ===== the reference's tape ===== -/
theorem bIT : bI True = 1 := rfl
theorem bIF : bI False = 0 := rfl
theorem run_q {q : Nat → Bool} {n : Nat} : ∀ m i, n - i ≤ m → i ≤ n → ∀ j, i ≤ j → j < run q n i → q j = true
  | m, i, hm, hi, j, h1, h2 => by
    by_cases h : i < n
    · by_cases hq : q i = true
      · rw [run_y h hq] at h2
        by_cases hj : j = i
        · rw [hj]; exact hq
        · cases m with
          | zero => omega
          | succ m => exact run_q m (i + 1) (by omega) (by omega) j (by omega) h2
      · rw [run_n h hq] at h2; omega
    · rw [run_e h] at h2; omega
section MT
variable (E : sw_E) (S : sw_S)
theorem lt_int {b lo hi : Nat} (hb : b < 2147483648) (hlo : lo < 2147483648) (hhi : hi < 2147483648) : (lN lo ≤ (nI b).toInt64 ∧ (nI b).toInt64 ≤ lN hi) ↔ (lo ≤ b ∧ b ≤ hi) := by
  rw [Int64.le_iff_toInt_le, Int64.le_iff_toInt_le, Int32.toInt_toInt64, nI_toInt hb, lN_toInt hlo, lN_toInt hhi]
  omega
set_option maxRecDepth 100000 in
set_option maxHeartbeats 4000000 in
theorem md_isLetter {b : Nat} (hb : b < 256) : f_MD_isLetter E (.int (nI b)) (mk S) = some (some (.int (bI (isLt b = true))), mk S) := by
  have e : ((97 : Int64) ≤ (nI b).toInt64 ∧ (nI b).toInt64 ≤ 122) ↔ isLt b = true := by
    refine (lt_int (lo := 97) (hi := 122) (by omega) (by decide) (by decide)).trans ?_
    unfold isLt; simp
  have e2 := bI_iff e
  simp (disch := first | omega | exact hB _ _ | assumption | decide) only [e_MD_isLetter, st_MD_isLetter, md_in, e2, bI_1, nt_or, Bool.false_eq_true, n_10, true_and, and_true, false_and, and_false, Nat.not_lt_zero, true_or, or_true, eq_self, mm_z, mm_rs, sw_xc_ite, sw_xv_ite, n_m1, Nat.lt_irrefl, not_false_eq_true, not_true_eq_false, inS_0, inS_1, ite_not, sw_xv_some, sw_xm_some, sw_xc_some, sw_xc_void, if_true, if_false, reduceIte, bI_0, bI_01, n_add, n_mul, n_addL, n_Ladd, n_mulL, n_Lmul, n_sub, n_subL, n_lt, n_eq, n_ltL, n_Llt, n_eqL, n_Leq, n_nneg, n_pos]
set_option maxRecDepth 100000 in
set_option maxHeartbeats 4000000 in
theorem md_isDigit {b : Nat} (hb : b < 256) : f_MD_isDigit E (.int (nI b)) (mk S) = some (some (.int (bI (isDg b = true))), mk S) := by
  have e : ((48 : Int64) ≤ (nI b).toInt64 ∧ (nI b).toInt64 ≤ 57) ↔ isDg b = true := by
    refine (lt_int (lo := 48) (hi := 57) (by omega) (by decide) (by decide)).trans ?_
    unfold isDg; simp
  have e2 := bI_iff e
  simp (disch := first | omega | exact hB _ _ | assumption | decide) only [e_MD_isDigit, st_MD_isDigit, md_in, e2, bI_1, nt_or, Bool.false_eq_true, n_10, true_and, and_true, false_and, and_false, Nat.not_lt_zero, true_or, or_true, eq_self, mm_z, mm_rs, sw_xc_ite, sw_xv_ite, n_m1, Nat.lt_irrefl, not_false_eq_true, not_true_eq_false, inS_0, inS_1, ite_not, sw_xv_some, sw_xm_some, sw_xc_some, sw_xc_void, if_true, if_false, reduceIte, bI_0, bI_01, n_add, n_mul, n_addL, n_Ladd, n_mulL, n_Lmul, n_sub, n_subL, n_lt, n_eq, n_ltL, n_Llt, n_eqL, n_Leq, n_nneg, n_pos]
set_option maxRecDepth 100000 in
set_option maxHeartbeats 4000000 in
theorem md_isLetterN : f_MD_isLetter E (.int (-1)) (mk S) = some (some (.int 0), mk S) := by
  have e2 : bI ((97 : Int64) ≤ (-1 : Int32).toInt64 ∧ (-1 : Int32).toInt64 ≤ 122) = 0 := by decide
  simp (disch := first | omega | exact hB _ _ | assumption | decide) only [e_MD_isLetter, st_MD_isLetter, md_in, e2, bI_1, nt_or, Bool.false_eq_true, n_10, true_and, and_true, false_and, and_false, Nat.not_lt_zero, true_or, or_true, eq_self, mm_z, mm_rs, sw_xc_ite, sw_xv_ite, n_m1, Nat.lt_irrefl, not_false_eq_true, not_true_eq_false, inS_0, inS_1, ite_not, sw_xv_some, sw_xm_some, sw_xc_some, sw_xc_void, if_true, if_false, reduceIte, bI_0, bI_01, n_add, n_mul, n_addL, n_Ladd, n_mulL, n_Lmul, n_sub, n_subL, n_lt, n_eq, n_ltL, n_Llt, n_eqL, n_Leq, n_nneg, n_pos]
set_option maxRecDepth 100000 in
set_option maxHeartbeats 4000000 in
theorem md_isDigitN : f_MD_isDigit E (.int (-1)) (mk S) = some (some (.int 0), mk S) := by
  have e2 : bI ((48 : Int64) ≤ (-1 : Int32).toInt64 ∧ (-1 : Int32).toInt64 ≤ 57) = 0 := by decide
  simp (disch := first | omega | exact hB _ _ | assumption | decide) only [e_MD_isDigit, st_MD_isDigit, md_in, e2, bI_1, nt_or, Bool.false_eq_true, n_10, true_and, and_true, false_and, and_false, Nat.not_lt_zero, true_or, or_true, eq_self, mm_z, mm_rs, sw_xc_ite, sw_xv_ite, n_m1, Nat.lt_irrefl, not_false_eq_true, not_true_eq_false, inS_0, inS_1, ite_not, sw_xv_some, sw_xm_some, sw_xc_some, sw_xc_void, if_true, if_false, reduceIte, bI_0, bI_01, n_add, n_mul, n_addL, n_Ladd, n_mulL, n_Lmul, n_sub, n_subL, n_lt, n_eq, n_ltL, n_Llt, n_eqL, n_Leq, n_nneg, n_pos]
theorem in_nH (M : sw_M) {v h : Nat} {x : Int32} (hx : x = nI h - 1) (hv : v < 2147483648) (hh : h < 2147483648) : f_MD_in E (.long (nI v).toInt64) (.long (Int32.toInt64 0)) (.long x.toInt64) M = some (some (.int (bI (v < h))), M) := by
  rw [md_in]
  refine congrArg (fun v => some (some (Value.int v), M)) (bI_iff ?_)
  have t1 : (1 : Int32).toInt = 1 := by decide
  have t2 : (nI h - 1).toInt = (h : Int) - 1 := by
    rw [fb_subI (by rw [nI_toInt hh, t1]; omega) (by rw [nI_toInt hh, t1]; omega), nI_toInt hh, t1]
  have t3 : (Int32.toInt64 0).toInt = 0 := by decide
  rw [hx, Int64.le_iff_toInt_le, Int64.le_iff_toInt_le, t3, Int32.toInt_toInt64, Int32.toInt_toInt64, t2, nI_toInt hv]
  omega
end MT
section MT2
variable (E : sw_E) {S : sw_S} {T : Nat → Nat → Nat} {H : Nat → Int64} {a b v w : Int32} {p : Nat → Nat} {n : Nat}
set_option maxRecDepth 100000 in
set_option maxHeartbeats 4000000 in
theorem md_byY (hb : ∀ j, S.2.2 24 j = nI (p j)) (hn : n ≤ 100) (hl : S.2.2 25 0 = nI n) {i : Nat} (h : i < n) : f_MD_byteAt E (.ref 71) (.int (nI i)) (mk (TP 25 3 S T H a b v w)) = some (some (.int (nI (p i))), mk (TP 25 3 S T H a b v w)) := by
  have h45 : 24 ≠ 25 := by decide
  have hi : i < 100 := by omega
  simp (disch := first | omega | exact hB _ _ | assumption | decide) only [e_MD_byteAt, st_MD_byteAt, hl, hb, h, mr_md E _, mw_f59_1, mw_f59_2, mw_f59_3, mw_f59_4, mw_f59_5, mw_f71_11, mw_f71_12, mw_f71_13, mw_f71_14, mw_f71_15, TP_T, TP_H, TP_Tn, TP_Hn, TP_fn, TP_f0, TP_f1, TP_f2, TP_f3, TP_f4, TP_w1, TP_w2, TP_w3, TP_w4, TP_wT, TP_wH, Bool.false_eq_true, n_10, true_and, and_true, false_and, and_false, Nat.not_lt_zero, true_or, or_true, eq_self, mm_z, mm_rs, sw_xc_ite, sw_xv_ite, n_m1, Nat.lt_irrefl, not_false_eq_true, not_true_eq_false, inS_0, inS_1, ite_not, sw_xv_some, sw_xm_some, sw_xc_some, sw_xc_void, if_true, if_false, reduceIte, bI_0, bI_01, bI_1, nt_or, Nat.reduceAdd, n_add, n_mul, n_addL, n_Ladd, n_mulL, n_Lmul, n_sub, n_subL, n_lt, n_eq, n_ltL, n_Llt, n_eqL, n_Leq, n_nneg, n_pos]
set_option maxRecDepth 100000 in
set_option maxHeartbeats 4000000 in
theorem md_byN (hn : n ≤ 100) (hl : S.2.2 25 0 = nI n) {i : Nat} (h : ¬ i < n) (hi : i < 2147483648) : f_MD_byteAt E (.ref 71) (.int (nI i)) (mk (TP 25 3 S T H a b v w)) = some (some (.int (-1)), mk (TP 25 3 S T H a b v w)) := by
  simp (disch := first | omega | exact hB _ _ | assumption | decide) only [e_MD_byteAt, st_MD_byteAt, hl, h, mr_md E _, mw_f59_1, mw_f59_2, mw_f59_3, mw_f59_4, mw_f59_5, mw_f71_11, mw_f71_12, mw_f71_13, mw_f71_14, mw_f71_15, TP_T, TP_H, TP_Tn, TP_Hn, TP_fn, TP_f0, TP_f1, TP_f2, TP_f3, TP_f4, TP_w1, TP_w2, TP_w3, TP_w4, TP_wT, TP_wH, Bool.false_eq_true, n_10, true_and, and_true, false_and, and_false, Nat.not_lt_zero, true_or, or_true, eq_self, mm_z, mm_rs, sw_xc_ite, sw_xv_ite, n_m1, Nat.lt_irrefl, not_false_eq_true, not_true_eq_false, inS_0, inS_1, ite_not, sw_xv_some, sw_xm_some, sw_xc_some, sw_xc_void, if_true, if_false, reduceIte, bI_0, bI_01, bI_1, nt_or, Nat.reduceAdd, n_add, n_mul, n_addL, n_Ladd, n_mulL, n_Lmul, n_sub, n_subL, n_lt, n_eq, n_ltL, n_Llt, n_eqL, n_Leq, n_nneg, n_pos]
set_option maxRecDepth 100000 in
set_option maxHeartbeats 4000000 in
theorem md_nx0 (hp : ∀ j, p j < 256) (hb : ∀ j, S.2.2 24 j = nI (p j)) (hn : n ≤ 100) (hl : S.2.2 25 0 = nI n) (x y : Value) : ∀ m i, n - i ≤ m → i ≤ n → h_MD_next_0 E [.ref 71, x, y] (mk (TP 25 3 S T H (nI i) b v w)) = sw_ex E 198 34 [.ref 71, x, y] [] (mk (TP 25 3 S T H (nI (sp p n i)) b v w))
  | m, i, hm, hi => by
    have n1 : ((-1 : Int32) = 32) ↔ False := by decide
    by_cases h1 : i < n
    · have hpi := hp i
      by_cases h2 : p i = 32
      · cases m with
        | zero => omega
        | succ m =>
          have ih := md_nx0 hp hb hn hl x y m (i + 1) (by omega) (by omega)
          have e : sp p n i = sp p n (i + 1) := run_y h1 (decide_eq_true h2)
          rw [u_MD_next_0]
          simp (disch := first | omega | exact hB _ _ | assumption | decide) only [st_MD_next, md_byY E hb hn hl h1, h2, ih, e, mr_md E _, mw_f59_1, mw_f59_2, mw_f59_3, mw_f59_4, mw_f59_5, mw_f71_11, mw_f71_12, mw_f71_13, mw_f71_14, mw_f71_15, TP_T, TP_H, TP_Tn, TP_Hn, TP_fn, TP_f0, TP_f1, TP_f2, TP_f3, TP_f4, TP_w1, TP_w2, TP_w3, TP_w4, TP_wT, TP_wH, Bool.false_eq_true, n_10, true_and, and_true, false_and, and_false, Nat.not_lt_zero, true_or, or_true, eq_self, mm_z, mm_rs, sw_xc_ite, sw_xv_ite, n_m1, Nat.lt_irrefl, not_false_eq_true, not_true_eq_false, inS_0, inS_1, ite_not, sw_xv_some, sw_xm_some, sw_xc_some, sw_xc_void, if_true, if_false, reduceIte, bI_0, bI_01, bI_1, nt_or, Nat.reduceAdd, n_add, n_mul, n_addL, n_Ladd, n_mulL, n_Lmul, n_sub, n_subL, n_lt, n_eq, n_ltL, n_Llt, n_eqL, n_Leq, n_nneg, n_pos]
      · have e : sp p n i = i := run_n h1 (by simpa using h2)
        rw [u_MD_next_0]
        simp (disch := first | omega | exact hB _ _ | assumption | decide) only [st_MD_next, md_byY E hb hn hl h1, h2, e, mr_md E _, mw_f59_1, mw_f59_2, mw_f59_3, mw_f59_4, mw_f59_5, mw_f71_11, mw_f71_12, mw_f71_13, mw_f71_14, mw_f71_15, TP_T, TP_H, TP_Tn, TP_Hn, TP_fn, TP_f0, TP_f1, TP_f2, TP_f3, TP_f4, TP_w1, TP_w2, TP_w3, TP_w4, TP_wT, TP_wH, Bool.false_eq_true, n_10, true_and, and_true, false_and, and_false, Nat.not_lt_zero, true_or, or_true, eq_self, mm_z, mm_rs, sw_xc_ite, sw_xv_ite, n_m1, Nat.lt_irrefl, not_false_eq_true, not_true_eq_false, inS_0, inS_1, ite_not, sw_xv_some, sw_xm_some, sw_xc_some, sw_xc_void, if_true, if_false, reduceIte, bI_0, bI_01, bI_1, nt_or, Nat.reduceAdd, n_add, n_mul, n_addL, n_Ladd, n_mulL, n_Lmul, n_sub, n_subL, n_lt, n_eq, n_ltL, n_Llt, n_eqL, n_Leq, n_nneg, n_pos]
    · have e : sp p n i = i := run_e h1
      rw [u_MD_next_0]
      simp (disch := first | omega | exact hB _ _ | assumption | decide) only [st_MD_next, md_byN E hn hl h1, e, n1, mr_md E _, mw_f59_1, mw_f59_2, mw_f59_3, mw_f59_4, mw_f59_5, mw_f71_11, mw_f71_12, mw_f71_13, mw_f71_14, mw_f71_15, TP_T, TP_H, TP_Tn, TP_Hn, TP_fn, TP_f0, TP_f1, TP_f2, TP_f3, TP_f4, TP_w1, TP_w2, TP_w3, TP_w4, TP_wT, TP_wH, Bool.false_eq_true, n_10, true_and, and_true, false_and, and_false, Nat.not_lt_zero, true_or, or_true, eq_self, mm_z, mm_rs, sw_xc_ite, sw_xv_ite, n_m1, Nat.lt_irrefl, not_false_eq_true, not_true_eq_false, inS_0, inS_1, ite_not, sw_xv_some, sw_xm_some, sw_xc_some, sw_xc_void, if_true, if_false, reduceIte, bI_0, bI_01, bI_1, nt_or, Nat.reduceAdd, n_add, n_mul, n_addL, n_Ladd, n_mulL, n_Lmul, n_sub, n_subL, n_lt, n_eq, n_ltL, n_Llt, n_eqL, n_Leq, n_nneg, n_pos]
set_option maxRecDepth 100000 in
set_option maxHeartbeats 4000000 in
theorem md_nx1 (hp : ∀ j, p j < 256) (hb : ∀ j, S.2.2 24 j = nI (p j)) (hn : n ≤ 100) (hl : S.2.2 25 0 = nI n) : ∀ m i, n - i ≤ m → i ≤ n → h_MD_next_1 E [.ref 71, .int 1, .int 0] (mk (TP 25 3 S T H a (nI i) v w)) = some (none, mk (TP 25 3 S T H a (nI (run (fun j => isLt (p j)) n i)) v w))
  | m, i, hm, hi => by
    by_cases h1 : i < n
    · have hpi := hp i
      by_cases h2 : isLt (p i) = true
      · cases m with
        | zero => omega
        | succ m =>
          have ih := md_nx1 hp hb hn hl m (i + 1) (by omega) (by omega)
          have e : run (fun j => isLt (p j)) n i = run (fun j => isLt (p j)) n (i + 1) := run_y h1 h2
          rw [u_MD_next_1]
          simp (disch := first | omega | exact hB _ _ | assumption | decide) only [st_MD_next, md_byY E hb hn hl h1, md_isLetter, h2, ih, e, i_ne, mr_md E _, mw_f59_1, mw_f59_2, mw_f59_3, mw_f59_4, mw_f59_5, mw_f71_11, mw_f71_12, mw_f71_13, mw_f71_14, mw_f71_15, TP_T, TP_H, TP_Tn, TP_Hn, TP_fn, TP_f0, TP_f1, TP_f2, TP_f3, TP_f4, TP_w1, TP_w2, TP_w3, TP_w4, TP_wT, TP_wH, Bool.false_eq_true, n_10, true_and, and_true, false_and, and_false, Nat.not_lt_zero, true_or, or_true, eq_self, mm_z, mm_rs, sw_xc_ite, sw_xv_ite, n_m1, Nat.lt_irrefl, not_false_eq_true, not_true_eq_false, inS_0, inS_1, ite_not, sw_xv_some, sw_xm_some, sw_xc_some, sw_xc_void, if_true, if_false, reduceIte, bI_0, bI_01, bI_1, nt_or, Nat.reduceAdd, n_add, n_mul, n_addL, n_Ladd, n_mulL, n_Lmul, n_sub, n_subL, n_lt, n_eq, n_ltL, n_Llt, n_eqL, n_Leq, n_nneg, n_pos]
      · have e : run (fun j => isLt (p j)) n i = i := run_n h1 h2
        rw [u_MD_next_1]
        simp (disch := first | omega | exact hB _ _ | assumption | decide) only [st_MD_next, md_byY E hb hn hl h1, md_isLetter, h2, e, i_ne, mr_md E _, mw_f59_1, mw_f59_2, mw_f59_3, mw_f59_4, mw_f59_5, mw_f71_11, mw_f71_12, mw_f71_13, mw_f71_14, mw_f71_15, TP_T, TP_H, TP_Tn, TP_Hn, TP_fn, TP_f0, TP_f1, TP_f2, TP_f3, TP_f4, TP_w1, TP_w2, TP_w3, TP_w4, TP_wT, TP_wH, Bool.false_eq_true, n_10, true_and, and_true, false_and, and_false, Nat.not_lt_zero, true_or, or_true, eq_self, mm_z, mm_rs, sw_xc_ite, sw_xv_ite, n_m1, Nat.lt_irrefl, not_false_eq_true, not_true_eq_false, inS_0, inS_1, ite_not, sw_xv_some, sw_xm_some, sw_xc_some, sw_xc_void, if_true, if_false, reduceIte, bI_0, bI_01, bI_1, nt_or, Nat.reduceAdd, n_add, n_mul, n_addL, n_Ladd, n_mulL, n_Lmul, n_sub, n_subL, n_lt, n_eq, n_ltL, n_Llt, n_eqL, n_Leq, n_nneg, n_pos]
    · have e : run (fun j => isLt (p j)) n i = i := run_e h1
      rw [u_MD_next_1]
      simp (disch := first | omega | exact hB _ _ | assumption | decide) only [st_MD_next, md_byN E hn hl h1, md_isLetterN, e, i_ne, mr_md E _, mw_f59_1, mw_f59_2, mw_f59_3, mw_f59_4, mw_f59_5, mw_f71_11, mw_f71_12, mw_f71_13, mw_f71_14, mw_f71_15, TP_T, TP_H, TP_Tn, TP_Hn, TP_fn, TP_f0, TP_f1, TP_f2, TP_f3, TP_f4, TP_w1, TP_w2, TP_w3, TP_w4, TP_wT, TP_wH, Bool.false_eq_true, n_10, true_and, and_true, false_and, and_false, Nat.not_lt_zero, true_or, or_true, eq_self, mm_z, mm_rs, sw_xc_ite, sw_xv_ite, n_m1, Nat.lt_irrefl, not_false_eq_true, not_true_eq_false, inS_0, inS_1, ite_not, sw_xv_some, sw_xm_some, sw_xc_some, sw_xc_void, if_true, if_false, reduceIte, bI_0, bI_01, bI_1, nt_or, Nat.reduceAdd, n_add, n_mul, n_addL, n_Ladd, n_mulL, n_Lmul, n_sub, n_subL, n_lt, n_eq, n_ltL, n_Llt, n_eqL, n_Leq, n_nneg, n_pos]
set_option maxRecDepth 100000 in
set_option maxHeartbeats 4000000 in
theorem md_nx2 (hp : ∀ j, p j < 256) (hb : ∀ j, S.2.2 24 j = nI (p j)) (hn : n ≤ 100) (hl : S.2.2 25 0 = nI n) : ∀ m i, n - i ≤ m → i ≤ n → h_MD_next_1 E [.ref 71, .int 0, .int 1] (mk (TP 25 3 S T H a (nI i) v w)) = some (none, mk (TP 25 3 S T H a (nI (run (fun j => isDg (p j)) n i)) v w))
  | m, i, hm, hi => by
    by_cases h1 : i < n
    · have hpi := hp i
      by_cases h2 : isDg (p i) = true
      · cases m with
        | zero => omega
        | succ m =>
          have ih := md_nx2 hp hb hn hl m (i + 1) (by omega) (by omega)
          have e : run (fun j => isDg (p j)) n i = run (fun j => isDg (p j)) n (i + 1) := run_y h1 h2
          rw [u_MD_next_1]
          simp (disch := first | omega | exact hB _ _ | assumption | decide) only [st_MD_next, md_byY E hb hn hl h1, md_isDigit, h2, ih, e, i_ne, mr_md E _, mw_f59_1, mw_f59_2, mw_f59_3, mw_f59_4, mw_f59_5, mw_f71_11, mw_f71_12, mw_f71_13, mw_f71_14, mw_f71_15, TP_T, TP_H, TP_Tn, TP_Hn, TP_fn, TP_f0, TP_f1, TP_f2, TP_f3, TP_f4, TP_w1, TP_w2, TP_w3, TP_w4, TP_wT, TP_wH, Bool.false_eq_true, n_10, true_and, and_true, false_and, and_false, Nat.not_lt_zero, true_or, or_true, eq_self, mm_z, mm_rs, sw_xc_ite, sw_xv_ite, n_m1, Nat.lt_irrefl, not_false_eq_true, not_true_eq_false, inS_0, inS_1, ite_not, sw_xv_some, sw_xm_some, sw_xc_some, sw_xc_void, if_true, if_false, reduceIte, bI_0, bI_01, bI_1, nt_or, Nat.reduceAdd, n_add, n_mul, n_addL, n_Ladd, n_mulL, n_Lmul, n_sub, n_subL, n_lt, n_eq, n_ltL, n_Llt, n_eqL, n_Leq, n_nneg, n_pos]
      · have e : run (fun j => isDg (p j)) n i = i := run_n h1 h2
        rw [u_MD_next_1]
        simp (disch := first | omega | exact hB _ _ | assumption | decide) only [st_MD_next, md_byY E hb hn hl h1, md_isDigit, h2, e, i_ne, mr_md E _, mw_f59_1, mw_f59_2, mw_f59_3, mw_f59_4, mw_f59_5, mw_f71_11, mw_f71_12, mw_f71_13, mw_f71_14, mw_f71_15, TP_T, TP_H, TP_Tn, TP_Hn, TP_fn, TP_f0, TP_f1, TP_f2, TP_f3, TP_f4, TP_w1, TP_w2, TP_w3, TP_w4, TP_wT, TP_wH, Bool.false_eq_true, n_10, true_and, and_true, false_and, and_false, Nat.not_lt_zero, true_or, or_true, eq_self, mm_z, mm_rs, sw_xc_ite, sw_xv_ite, n_m1, Nat.lt_irrefl, not_false_eq_true, not_true_eq_false, inS_0, inS_1, ite_not, sw_xv_some, sw_xm_some, sw_xc_some, sw_xc_void, if_true, if_false, reduceIte, bI_0, bI_01, bI_1, nt_or, Nat.reduceAdd, n_add, n_mul, n_addL, n_Ladd, n_mulL, n_Lmul, n_sub, n_subL, n_lt, n_eq, n_ltL, n_Llt, n_eqL, n_Leq, n_nneg, n_pos]
    · have e : run (fun j => isDg (p j)) n i = i := run_e h1
      rw [u_MD_next_1]
      simp (disch := first | omega | exact hB _ _ | assumption | decide) only [st_MD_next, md_byN E hn hl h1, md_isDigitN, e, i_ne, mr_md E _, mw_f59_1, mw_f59_2, mw_f59_3, mw_f59_4, mw_f59_5, mw_f71_11, mw_f71_12, mw_f71_13, mw_f71_14, mw_f71_15, TP_T, TP_H, TP_Tn, TP_Hn, TP_fn, TP_f0, TP_f1, TP_f2, TP_f3, TP_f4, TP_w1, TP_w2, TP_w3, TP_w4, TP_wT, TP_wH, Bool.false_eq_true, n_10, true_and, and_true, false_and, and_false, Nat.not_lt_zero, true_or, or_true, eq_self, mm_z, mm_rs, sw_xc_ite, sw_xv_ite, n_m1, Nat.lt_irrefl, not_false_eq_true, not_true_eq_false, inS_0, inS_1, ite_not, sw_xv_some, sw_xm_some, sw_xc_some, sw_xc_void, if_true, if_false, reduceIte, bI_0, bI_01, bI_1, nt_or, Nat.reduceAdd, n_add, n_mul, n_addL, n_Ladd, n_mulL, n_Lmul, n_sub, n_subL, n_lt, n_eq, n_ltL, n_Llt, n_eqL, n_Leq, n_nneg, n_pos]
set_option maxRecDepth 100000 in
set_option maxHeartbeats 4000000 in
theorem md_nxt (hp : ∀ j, p j < 256) (hb : ∀ j, S.2.2 24 j = nI (p j)) (hn : n ≤ 100) (hl : S.2.2 25 0 = nI n) {i : Nat} (hi : i ≤ n) : f_MD_next E (.ref 71) (mk (TP 25 3 S T H a (nI i) v w)) = some (none, mk (TP 25 3 S T H (nI (sp p n i)) (nI (en p n (sp p n i))) v w)) := by
  have k0 := md_nx0 E (T := T) (H := H) (b := nI i) (v := v) (w := w) hp hb hn hl sw_J sw_J n i (by omega) hi
  have hf : sp p n i ≤ n := (run_le hi).2
  generalize sp p n i = f at *
  by_cases h1 : f < n
  · have hpi := hp f
    by_cases h2 : isLt (p f) = true
    · have k1 := md_nx1 E (T := T) (H := H) (a := nI f) (v := v) (w := w) hp hb hn hl n (f + 1) (by omega) h1
      have h3 : (isDg (p f) = true) ↔ False := by unfold isLt at h2; unfold isDg; simp at h2 ⊢; omega
      have e2 : en p n f = run (fun j => isLt (p j)) n (f + 1) := by unfold en; rw [if_neg (not_not_intro h1), if_pos h2]; exact run_y h1 h2
      rw [e2]
      simp (disch := first | omega | exact hB _ _ | assumption | decide) only [e_MD_next, st_MD_next, k0, hl, h1, md_byY E hb hn hl h1, md_isLetter, md_isDigit, h2, h3, bIT, bIF, k1, mr_md E _, mw_f59_1, mw_f59_2, mw_f59_3, mw_f59_4, mw_f59_5, mw_f71_11, mw_f71_12, mw_f71_13, mw_f71_14, mw_f71_15, TP_T, TP_H, TP_Tn, TP_Hn, TP_fn, TP_f0, TP_f1, TP_f2, TP_f3, TP_f4, TP_w1, TP_w2, TP_w3, TP_w4, TP_wT, TP_wH, Bool.false_eq_true, n_10, true_and, and_true, false_and, and_false, Nat.not_lt_zero, true_or, or_true, eq_self, mm_z, mm_rs, sw_xc_ite, sw_xv_ite, n_m1, Nat.lt_irrefl, not_false_eq_true, not_true_eq_false, inS_0, inS_1, ite_not, sw_xv_some, sw_xm_some, sw_xc_some, sw_xc_void, if_true, if_false, reduceIte, bI_0, bI_01, bI_1, nt_or, Nat.reduceAdd, n_add, n_mul, n_addL, n_Ladd, n_mulL, n_Lmul, n_sub, n_subL, n_lt, n_eq, n_ltL, n_Llt, n_eqL, n_Leq, n_nneg, n_pos]
    · by_cases h3 : isDg (p f) = true
      · have k1 := md_nx2 E (T := T) (H := H) (a := nI f) (v := v) (w := w) hp hb hn hl n (f + 1) (by omega) h1
        have e2 : en p n f = run (fun j => isDg (p j)) n (f + 1) := by unfold en; rw [if_neg (not_not_intro h1), if_neg h2, if_pos h3]; exact run_y h1 h3
        rw [e2]
        simp (disch := first | omega | exact hB _ _ | assumption | decide) only [e_MD_next, st_MD_next, k0, hl, h1, md_byY E hb hn hl h1, md_isLetter, md_isDigit, h2, h3, bIT, bIF, k1, mr_md E _, mw_f59_1, mw_f59_2, mw_f59_3, mw_f59_4, mw_f59_5, mw_f71_11, mw_f71_12, mw_f71_13, mw_f71_14, mw_f71_15, TP_T, TP_H, TP_Tn, TP_Hn, TP_fn, TP_f0, TP_f1, TP_f2, TP_f3, TP_f4, TP_w1, TP_w2, TP_w3, TP_w4, TP_wT, TP_wH, Bool.false_eq_true, n_10, true_and, and_true, false_and, and_false, Nat.not_lt_zero, true_or, or_true, eq_self, mm_z, mm_rs, sw_xc_ite, sw_xv_ite, n_m1, Nat.lt_irrefl, not_false_eq_true, not_true_eq_false, inS_0, inS_1, ite_not, sw_xv_some, sw_xm_some, sw_xc_some, sw_xc_void, if_true, if_false, reduceIte, bI_0, bI_01, bI_1, nt_or, Nat.reduceAdd, n_add, n_mul, n_addL, n_Ladd, n_mulL, n_Lmul, n_sub, n_subL, n_lt, n_eq, n_ltL, n_Llt, n_eqL, n_Leq, n_nneg, n_pos]
      · have e2 : en p n f = f + 1 := by unfold en; rw [if_neg (not_not_intro h1), if_neg h2, if_neg h3]
        rw [e2]
        simp (disch := first | omega | exact hB _ _ | assumption | decide) only [e_MD_next, st_MD_next, k0, hl, h1, md_byY E hb hn hl h1, md_isLetter, md_isDigit, h2, h3, bIT, bIF, u_MD_next_1, mr_md E _, mw_f59_1, mw_f59_2, mw_f59_3, mw_f59_4, mw_f59_5, mw_f71_11, mw_f71_12, mw_f71_13, mw_f71_14, mw_f71_15, TP_T, TP_H, TP_Tn, TP_Hn, TP_fn, TP_f0, TP_f1, TP_f2, TP_f3, TP_f4, TP_w1, TP_w2, TP_w3, TP_w4, TP_wT, TP_wH, Bool.false_eq_true, n_10, true_and, and_true, false_and, and_false, Nat.not_lt_zero, true_or, or_true, eq_self, mm_z, mm_rs, sw_xc_ite, sw_xv_ite, n_m1, Nat.lt_irrefl, not_false_eq_true, not_true_eq_false, inS_0, inS_1, ite_not, sw_xv_some, sw_xm_some, sw_xc_some, sw_xc_void, if_true, if_false, reduceIte, bI_0, bI_01, bI_1, nt_or, Nat.reduceAdd, n_add, n_mul, n_addL, n_Ladd, n_mulL, n_Lmul, n_sub, n_subL, n_lt, n_eq, n_ltL, n_Llt, n_eqL, n_Leq, n_nneg, n_pos]
  · have e2 : en p n f = f := by unfold en; rw [if_pos h1]
    rw [e2]
    simp (disch := first | omega | exact hB _ _ | assumption | decide) only [e_MD_next, st_MD_next, k0, hl, h1, md_byN E hn hl h1, md_isLetterN, md_isDigitN, u_MD_next_1, mr_md E _, mw_f59_1, mw_f59_2, mw_f59_3, mw_f59_4, mw_f59_5, mw_f71_11, mw_f71_12, mw_f71_13, mw_f71_14, mw_f71_15, TP_T, TP_H, TP_Tn, TP_Hn, TP_fn, TP_f0, TP_f1, TP_f2, TP_f3, TP_f4, TP_w1, TP_w2, TP_w3, TP_w4, TP_wT, TP_wH, Bool.false_eq_true, n_10, true_and, and_true, false_and, and_false, Nat.not_lt_zero, true_or, or_true, eq_self, mm_z, mm_rs, sw_xc_ite, sw_xv_ite, n_m1, Nat.lt_irrefl, not_false_eq_true, not_true_eq_false, inS_0, inS_1, ite_not, sw_xv_some, sw_xm_some, sw_xc_some, sw_xc_void, if_true, if_false, reduceIte, bI_0, bI_01, bI_1, nt_or, Nat.reduceAdd, n_add, n_mul, n_addL, n_Ladd, n_mulL, n_Lmul, n_sub, n_subL, n_lt, n_eq, n_ltL, n_Llt, n_eqL, n_Leq, n_nneg, n_pos]
set_option maxRecDepth 100000 in
set_option maxHeartbeats 4000000 in
theorem md_needY (hp : ∀ j, p j < 256) (hb : ∀ j, S.2.2 24 j = nI (p j)) (hn : n ≤ 100) (hl : S.2.2 25 0 = nI n) {f : Nat} (hf : f ≤ n) : f_MD_needs E (.ref 71) (.int 1) (mk (TP 25 3 S T H (nI f) (nI (en p n f)) v 0)) = some (none, mk (TP 25 3 S T H (nI (nx p n f)) (nI (en p n (nx p n f))) v 0)) := by
  have k := md_nxt E (T := T) (H := H) (a := nI f) (v := v) (w := 0) hp hb hn hl (en_b (p := p) hf).2.1
  simp (disch := first | omega | exact hB _ _ | assumption | decide) only [e_MD_needs, st_MD_needs, k, i_ne, mr_md E _, mw_f59_1, mw_f59_2, mw_f59_3, mw_f59_4, mw_f59_5, mw_f71_11, mw_f71_12, mw_f71_13, mw_f71_14, mw_f71_15, TP_T, TP_H, TP_Tn, TP_Hn, TP_fn, TP_f0, TP_f1, TP_f2, TP_f3, TP_f4, TP_w1, TP_w2, TP_w3, TP_w4, TP_wT, TP_wH, Bool.false_eq_true, n_10, true_and, and_true, false_and, and_false, Nat.not_lt_zero, true_or, or_true, eq_self, mm_z, mm_rs, sw_xc_ite, sw_xv_ite, n_m1, Nat.lt_irrefl, not_false_eq_true, not_true_eq_false, inS_0, inS_1, ite_not, sw_xv_some, sw_xm_some, sw_xc_some, sw_xc_void, if_true, if_false, reduceIte, bI_0, bI_01, bI_1, nt_or, Nat.reduceAdd, n_add, n_mul, n_addL, n_Ladd, n_mulL, n_Lmul, n_sub, n_subL, n_lt, n_eq, n_ltL, n_Llt, n_eqL, n_Leq, n_nneg, n_pos]
  rfl
set_option maxRecDepth 100000 in
set_option maxHeartbeats 4000000 in
theorem md_needN : f_MD_needs E (.ref 71) (.int 0) (mk (TP 25 3 S T H a b v 0)) = some (none, mk (TP 25 3 S T H a b v 1)) := by
  simp (disch := first | omega | exact hB _ _ | assumption | decide) only [e_MD_needs, st_MD_needs, i_ne, mr_md E _, mw_f59_1, mw_f59_2, mw_f59_3, mw_f59_4, mw_f59_5, mw_f71_11, mw_f71_12, mw_f71_13, mw_f71_14, mw_f71_15, TP_T, TP_H, TP_Tn, TP_Hn, TP_fn, TP_f0, TP_f1, TP_f2, TP_f3, TP_f4, TP_w1, TP_w2, TP_w3, TP_w4, TP_wT, TP_wH, Bool.false_eq_true, n_10, true_and, and_true, false_and, and_false, Nat.not_lt_zero, true_or, or_true, eq_self, mm_z, mm_rs, sw_xc_ite, sw_xv_ite, n_m1, Nat.lt_irrefl, not_false_eq_true, not_true_eq_false, inS_0, inS_1, ite_not, sw_xv_some, sw_xm_some, sw_xc_some, sw_xc_void, if_true, if_false, reduceIte, bI_0, bI_01, bI_1, nt_or, Nat.reduceAdd, n_add, n_mul, n_addL, n_Ladd, n_mulL, n_Lmul, n_sub, n_subL, n_lt, n_eq, n_ltL, n_Llt, n_eqL, n_Leq, n_nneg, n_pos]
set_option maxRecDepth 100000 in
set_option maxHeartbeats 4000000 in
theorem md_needW (x : Int32) : f_MD_needs E (.ref 71) (.int x) (mk (TP 25 3 S T H a b v 1)) = some (none, mk (TP 25 3 S T H a b v 1)) := by
  simp (disch := first | omega | exact hB _ _ | assumption | decide) only [e_MD_needs, st_MD_needs, i_ne, mr_md E _, mw_f59_1, mw_f59_2, mw_f59_3, mw_f59_4, mw_f59_5, mw_f71_11, mw_f71_12, mw_f71_13, mw_f71_14, mw_f71_15, TP_T, TP_H, TP_Tn, TP_Hn, TP_fn, TP_f0, TP_f1, TP_f2, TP_f3, TP_f4, TP_w1, TP_w2, TP_w3, TP_w4, TP_wT, TP_wH, Bool.false_eq_true, n_10, true_and, and_true, false_and, and_false, Nat.not_lt_zero, true_or, or_true, eq_self, mm_z, mm_rs, sw_xc_ite, sw_xv_ite, n_m1, Nat.lt_irrefl, not_false_eq_true, not_true_eq_false, inS_0, inS_1, ite_not, sw_xv_some, sw_xm_some, sw_xc_some, sw_xc_void, if_true, if_false, reduceIte, bI_0, bI_01, bI_1, nt_or, Nat.reduceAdd, n_add, n_mul, n_addL, n_Ladd, n_mulL, n_Lmul, n_sub, n_subL, n_lt, n_eq, n_ltL, n_Llt, n_eqL, n_Leq, n_nneg, n_pos]
set_option maxRecDepth 100000 in
set_option maxHeartbeats 4000000 in
theorem md_numW (x y : Int32) : f_MD_number E (.ref 71) (.int x) (.int y) (mk (TP 25 3 S T H a b v 1)) = some (none, mk (TP 25 3 S T H a b v 1)) := by
  simp (disch := first | omega | exact hB _ _ | assumption | decide) only [e_MD_number, st_MD_number, i_ne, mr_md E _, mw_f59_1, mw_f59_2, mw_f59_3, mw_f59_4, mw_f59_5, mw_f71_11, mw_f71_12, mw_f71_13, mw_f71_14, mw_f71_15, TP_T, TP_H, TP_Tn, TP_Hn, TP_fn, TP_f0, TP_f1, TP_f2, TP_f3, TP_f4, TP_w1, TP_w2, TP_w3, TP_w4, TP_wT, TP_wH, Bool.false_eq_true, n_10, true_and, and_true, false_and, and_false, Nat.not_lt_zero, true_or, or_true, eq_self, mm_z, mm_rs, sw_xc_ite, sw_xv_ite, n_m1, Nat.lt_irrefl, not_false_eq_true, not_true_eq_false, inS_0, inS_1, ite_not, sw_xv_some, sw_xm_some, sw_xc_some, sw_xc_void, if_true, if_false, reduceIte, bI_0, bI_01, bI_1, nt_or, Nat.reduceAdd, n_add, n_mul, n_addL, n_Ladd, n_mulL, n_Lmul, n_sub, n_subL, n_lt, n_eq, n_ltL, n_Llt, n_eqL, n_Leq, n_nneg, n_pos]
set_option maxRecDepth 100000 in
set_option maxHeartbeats 4000000 in
theorem md_nul (hb : ∀ j, S.2.2 24 j = nI (p j)) (hn : n ≤ 100) (hl : S.2.2 25 0 = nI n) {t : Nat} (ht : t ≤ n) (x : Int32) : ∀ m k u, t - k ≤ m → k ≤ t → u ≤ 100207 → (∀ j, k ≤ j → j < t → 48 ≤ p j ∧ p j ≤ 57) → h_MD_number_0 E [.ref 71, .int 0, .int x, .int 1, .int (nI u), .int (nI k)] (mk (TP 25 3 S T H a (nI t) v w)) = sw_ex E 202 79 [.ref 71, .int 0, .int x, .int 1, .int (nI (nv p (t - k) k u)), .int (nI t)] [] (mk (TP 25 3 S T H a (nI t) v w))
  | m, k, u, hm, hk, hu, hd => by
    have h45 : 24 ≠ 25 := by decide
    rw [u_MD_number_0]
    by_cases h1 : k < t
    · have hk100 : k < 100 := by omega
      have hdk := hd k (Nat.le_refl _) h1
      cases m with
      | zero => omega
      | succ m =>
        have e2 : t - k = t - (k + 1) + 1 := by omega
        rw [e2]
        by_cases h4 : 9999 < u
        · have ih := md_nul hb hn hl ht x m (k + 1) u (by omega) (by omega) hu (fun j h2 h3 => hd j (by omega) h3)
          have e3 : nv p (t - (k + 1) + 1) k u = nv p (t - (k + 1)) (k + 1) u := by
            show nv p _ (k + 1) (if 9999 < u then u else u * 10 + p k - 48) = _
            rw [if_pos h4]
          simp (disch := first | omega | exact hB _ _ | assumption | decide) only [st_MD_number, h1, h4, hb, ih, e3, i_ne, mr_md E _, mw_f59_1, mw_f59_2, mw_f59_3, mw_f59_4, mw_f59_5, mw_f71_11, mw_f71_12, mw_f71_13, mw_f71_14, mw_f71_15, TP_T, TP_H, TP_Tn, TP_Hn, TP_fn, TP_f0, TP_f1, TP_f2, TP_f3, TP_f4, TP_w1, TP_w2, TP_w3, TP_w4, TP_wT, TP_wH, Bool.false_eq_true, n_10, true_and, and_true, false_and, and_false, Nat.not_lt_zero, true_or, or_true, eq_self, mm_z, mm_rs, sw_xc_ite, sw_xv_ite, n_m1, Nat.lt_irrefl, not_false_eq_true, not_true_eq_false, inS_0, inS_1, ite_not, sw_xv_some, sw_xm_some, sw_xc_some, sw_xc_void, if_true, if_false, reduceIte, bI_0, bI_01, bI_1, nt_or, Nat.reduceAdd, n_add, n_mul, n_addL, n_Ladd, n_mulL, n_Lmul, n_sub, n_subL, n_lt, n_eq, n_ltL, n_Llt, n_eqL, n_Leq, n_nneg, n_pos]
        · have ih := md_nul hb hn hl ht x m (k + 1) (10 * u + p k - 48) (by omega) (by omega) (by omega) (fun j h2 h3 => hd j (by omega) h3)
          have e3 : nv p (t - (k + 1) + 1) k u = nv p (t - (k + 1)) (k + 1) (10 * u + p k - 48) := by
            show nv p _ (k + 1) (if 9999 < u then u else u * 10 + p k - 48) = _
            rw [if_neg h4, Nat.mul_comm]
          simp (disch := first | omega | exact hB _ _ | assumption | decide) only [st_MD_number, h1, h4, hb, ih, e3, i_ne, mr_md E _, mw_f59_1, mw_f59_2, mw_f59_3, mw_f59_4, mw_f59_5, mw_f71_11, mw_f71_12, mw_f71_13, mw_f71_14, mw_f71_15, TP_T, TP_H, TP_Tn, TP_Hn, TP_fn, TP_f0, TP_f1, TP_f2, TP_f3, TP_f4, TP_w1, TP_w2, TP_w3, TP_w4, TP_wT, TP_wH, Bool.false_eq_true, n_10, true_and, and_true, false_and, and_false, Nat.not_lt_zero, true_or, or_true, eq_self, mm_z, mm_rs, sw_xc_ite, sw_xv_ite, n_m1, Nat.lt_irrefl, not_false_eq_true, not_true_eq_false, inS_0, inS_1, ite_not, sw_xv_some, sw_xm_some, sw_xc_some, sw_xc_void, if_true, if_false, reduceIte, bI_0, bI_01, bI_1, nt_or, Nat.reduceAdd, n_add, n_mul, n_addL, n_Ladd, n_mulL, n_Lmul, n_sub, n_subL, n_lt, n_eq, n_ltL, n_Llt, n_eqL, n_Leq, n_nneg, n_pos]
    · have hkt : k = t := by omega
      subst hkt
      rw [Nat.sub_self]
      simp (disch := first | omega | exact hB _ _ | assumption | decide) only [st_MD_number, mr_md E _, mw_f59_1, mw_f59_2, mw_f59_3, mw_f59_4, mw_f59_5, mw_f71_11, mw_f71_12, mw_f71_13, mw_f71_14, mw_f71_15, TP_T, TP_H, TP_Tn, TP_Hn, TP_fn, TP_f0, TP_f1, TP_f2, TP_f3, TP_f4, TP_w1, TP_w2, TP_w3, TP_w4, TP_wT, TP_wH, Bool.false_eq_true, n_10, true_and, and_true, false_and, and_false, Nat.not_lt_zero, true_or, or_true, eq_self, mm_z, mm_rs, sw_xc_ite, sw_xv_ite, n_m1, Nat.lt_irrefl, not_false_eq_true, not_true_eq_false, inS_0, inS_1, ite_not, sw_xv_some, sw_xm_some, sw_xc_some, sw_xc_void, if_true, if_false, reduceIte, bI_0, bI_01, bI_1, nt_or, Nat.reduceAdd, n_add, n_mul, n_addL, n_Ladd, n_mulL, n_Lmul, n_sub, n_subL, n_lt, n_eq, n_ltL, n_Llt, n_eqL, n_Leq, n_nneg, n_pos]
      rfl
set_option maxRecDepth 100000 in
set_option maxHeartbeats 4000000 in
theorem md_nu0 (hn : n ≤ 100) {f t : Nat} (hf : f ≤ n) (ht : t ≤ n) (x u : Int32) : h_MD_number_0 E [.ref 71, .int 0, .int x, .int 0, .int u, .int (nI f)] (mk (TP 25 3 S T H a (nI t) v w)) = sw_ex E 202 79 [.ref 71, .int 0, .int x, .int 0, .int u, .int (nI f)] [] (mk (TP 25 3 S T H a (nI t) v w)) := by
  rw [u_MD_number_0]
  by_cases h : f < t
  · simp (disch := first | omega | exact hB _ _ | assumption | decide) only [st_MD_number, h, mr_md E _, mw_f59_1, mw_f59_2, mw_f59_3, mw_f59_4, mw_f59_5, mw_f71_11, mw_f71_12, mw_f71_13, mw_f71_14, mw_f71_15, TP_T, TP_H, TP_Tn, TP_Hn, TP_fn, TP_f0, TP_f1, TP_f2, TP_f3, TP_f4, TP_w1, TP_w2, TP_w3, TP_w4, TP_wT, TP_wH, Bool.false_eq_true, n_10, true_and, and_true, false_and, and_false, Nat.not_lt_zero, true_or, or_true, eq_self, mm_z, mm_rs, sw_xc_ite, sw_xv_ite, n_m1, Nat.lt_irrefl, not_false_eq_true, not_true_eq_false, inS_0, inS_1, ite_not, sw_xv_some, sw_xm_some, sw_xc_some, sw_xc_void, if_true, if_false, reduceIte, bI_0, bI_01, bI_1, nt_or, Nat.reduceAdd, n_add, n_mul, n_addL, n_Ladd, n_mulL, n_Lmul, n_sub, n_subL, n_lt, n_eq, n_ltL, n_Llt, n_eqL, n_Leq, n_nneg, n_pos]
  · simp (disch := first | omega | exact hB _ _ | assumption | decide) only [st_MD_number, h, mr_md E _, mw_f59_1, mw_f59_2, mw_f59_3, mw_f59_4, mw_f59_5, mw_f71_11, mw_f71_12, mw_f71_13, mw_f71_14, mw_f71_15, TP_T, TP_H, TP_Tn, TP_Hn, TP_fn, TP_f0, TP_f1, TP_f2, TP_f3, TP_f4, TP_w1, TP_w2, TP_w3, TP_w4, TP_wT, TP_wH, Bool.false_eq_true, n_10, true_and, and_true, false_and, and_false, Nat.not_lt_zero, true_or, or_true, eq_self, mm_z, mm_rs, sw_xc_ite, sw_xv_ite, n_m1, Nat.lt_irrefl, not_false_eq_true, not_true_eq_false, inS_0, inS_1, ite_not, sw_xv_some, sw_xm_some, sw_xc_some, sw_xc_void, if_true, if_false, reduceIte, bI_0, bI_01, bI_1, nt_or, Nat.reduceAdd, n_add, n_mul, n_addL, n_Ladd, n_mulL, n_Lmul, n_sub, n_subL, n_lt, n_eq, n_ltL, n_Llt, n_eqL, n_Leq, n_nneg, n_pos]
theorem tk2 {f : Nat} (h : tk p n f = 2) : f < n ∧ isDg (p f) = true ∧ en p n f = run (fun j => isDg (p j)) n f := by
  have h1 : f < n := Classical.byContradiction (fun g => by unfold tk at h; rw [if_pos g] at h; omega)
  unfold tk at h
  rw [if_neg (not_not_intro h1)] at h
  have h2 : ¬ isLt (p f) = true := fun g => by rw [if_pos g] at h; omega
  rw [if_neg h2] at h
  have h3 : isDg (p f) = true := Classical.byContradiction (fun g => by rw [if_neg g] at h; split at h <;> omega)
  exact ⟨h1, h3, by unfold en; rw [if_neg (not_not_intro h1), if_neg h2, if_pos h3]⟩
theorem tkd {f : Nat} (h1 : f < n) (h : isDg (p f) = true) : tk p n f = 2 := by
  have h2 : ¬ isLt (p f) = true := by unfold isDg at h; unfold isLt; simp at h ⊢; omega
  unfold tk
  rw [if_neg (not_not_intro h1), if_neg h2, if_pos h]
set_option maxRecDepth 100000 in
set_option maxHeartbeats 4000000 in
theorem md_numY (hp : ∀ j, p j < 256) (hb : ∀ j, S.2.2 24 j = nI (p j)) (hn : n ≤ 100) (hl : S.2.2 25 0 = nI n) {f h : Nat} {x : Int32} (hx : x = nI h - 1) (hh : h < 2147483648) (hf : f ≤ n) (ht : tk p n f = 2) (hv : vl p n f < h) : f_MD_number E (.ref 71) (.int 0) (.int x) (mk (TP 25 3 S T H (nI f) (nI (en p n f)) v 0)) = some (none, mk (TP 25 3 S T H (nI (nx p n f)) (nI (en p n (nx p n f))) (nI (vl p n f)) 0)) := by
  obtain ⟨h1, h2, h3⟩ := tk2 ht
  have hpf := hp f
  have he := en_b (p := p) hf
  have hvb := vl_b (n := n) hp f
  have k := md_nul E (T := T) (H := H) (a := nI f) (v := v) (w := 0) hb hn hl he.2.1 x n f 0 (by omega) he.1 (by omega) (fun j q1 q2 => by
    rw [h3] at q2
    have := run_q (q := fun j => isDg (p j)) n f (by omega) hf j q1 q2
    unfold isDg at this
    simpa using this)
  have k2 : nv p (en p n f - f) f 0 = vl p n f := rfl
  rw [k2] at k
  have k3 := md_needY E (T := T) (H := H) (v := nI (vl p n f)) hp hb hn hl hf
  generalize vl p n f = u at *
  have hu : u < 2147483648 := by omega
  have k4 := in_nH E (mk (TP 25 3 S T H (nI f) (nI (en p n f)) (nI u) 0)) hx hu hh
  have n0 : (0 : Int32) = nI 0 := rfl
  have k' : h_MD_number_0 E [.ref 71, .int 0, .int x, .int 1, .int 0, .int (nI f)] (mk (TP 25 3 S T H (nI f) (nI (en p n f)) v 0)) = _ := k
  simp (disch := first | omega | exact hB _ _ | assumption | decide) only [e_MD_number, st_MD_number, md_byY E hb hn hl h1, md_isDigit, h2, bIT, k', i_ne, k4, hv, k3, mr_md E _, mw_f59_1, mw_f59_2, mw_f59_3, mw_f59_4, mw_f59_5, mw_f71_11, mw_f71_12, mw_f71_13, mw_f71_14, mw_f71_15, TP_T, TP_H, TP_Tn, TP_Hn, TP_fn, TP_f0, TP_f1, TP_f2, TP_f3, TP_f4, TP_w1, TP_w2, TP_w3, TP_w4, TP_wT, TP_wH, Bool.false_eq_true, n_10, true_and, and_true, false_and, and_false, Nat.not_lt_zero, true_or, or_true, eq_self, mm_z, mm_rs, sw_xc_ite, sw_xv_ite, n_m1, Nat.lt_irrefl, not_false_eq_true, not_true_eq_false, inS_0, inS_1, ite_not, sw_xv_some, sw_xm_some, sw_xc_some, sw_xc_void, if_true, if_false, reduceIte, bI_0, bI_01, bI_1, nt_or, Nat.reduceAdd, n_add, n_mul, n_addL, n_Ladd, n_mulL, n_Lmul, n_sub, n_subL, n_lt, n_eq, n_ltL, n_Llt, n_eqL, n_Leq, n_nneg, n_pos]
set_option maxRecDepth 100000 in
set_option maxHeartbeats 4000000 in
theorem md_numN (hp : ∀ j, p j < 256) (hb : ∀ j, S.2.2 24 j = nI (p j)) (hn : n ≤ 100) (hl : S.2.2 25 0 = nI n) {f h : Nat} {x : Int32} (hx : x = nI h - 1) (hh : h < 2147483648) (hf : f ≤ n) (hw : ¬ (tk p n f = 2 ∧ vl p n f < h)) : ∃ v', f_MD_number E (.ref 71) (.int 0) (.int x) (mk (TP 25 3 S T H (nI f) (nI (en p n f)) v 0)) = some (none, mk (TP 25 3 S T H (nI f) (nI (en p n f)) v' 1)) := by
  have he := en_b (p := p) hf
  by_cases ht : tk p n f = 2
  · obtain ⟨h1, h2, h3⟩ := tk2 ht
    have hpf := hp f
    have hvb := vl_b (n := n) hp f
    have hv : ¬ vl p n f < h := fun g => hw ⟨ht, g⟩
    have k := md_nul E (T := T) (H := H) (a := nI f) (v := v) (w := 0) hb hn hl he.2.1 x n f 0 (by omega) he.1 (by omega) (fun j q1 q2 => by
      rw [h3] at q2
      have := run_q (q := fun j => isDg (p j)) n f (by omega) hf j q1 q2
      unfold isDg at this
      simpa using this)
    have k2 : nv p (en p n f - f) f 0 = vl p n f := rfl
    rw [k2] at k
    clear hw
    generalize vl p n f = u at *
    have hu : u < 2147483648 := by omega
    have k4 := in_nH E (mk (TP 25 3 S T H (nI f) (nI (en p n f)) (nI u) 0)) hx hu hh
    have k' : h_MD_number_0 E [.ref 71, .int 0, .int x, .int 1, .int 0, .int (nI f)] (mk (TP 25 3 S T H (nI f) (nI (en p n f)) v 0)) = _ := k
    refine ⟨nI u, ?_⟩
    simp (disch := first | omega | exact hB _ _ | assumption | decide) only [e_MD_number, st_MD_number, md_byY E hb hn hl h1, md_isDigit, h2, bIT, k', i_ne, k4, hv, md_needN, mr_md E _, mw_f59_1, mw_f59_2, mw_f59_3, mw_f59_4, mw_f59_5, mw_f71_11, mw_f71_12, mw_f71_13, mw_f71_14, mw_f71_15, TP_T, TP_H, TP_Tn, TP_Hn, TP_fn, TP_f0, TP_f1, TP_f2, TP_f3, TP_f4, TP_w1, TP_w2, TP_w3, TP_w4, TP_wT, TP_wH, Bool.false_eq_true, n_10, true_and, and_true, false_and, and_false, Nat.not_lt_zero, true_or, or_true, eq_self, mm_z, mm_rs, sw_xc_ite, sw_xv_ite, n_m1, Nat.lt_irrefl, not_false_eq_true, not_true_eq_false, inS_0, inS_1, ite_not, sw_xv_some, sw_xm_some, sw_xc_some, sw_xc_void, if_true, if_false, reduceIte, bI_0, bI_01, bI_1, nt_or, Nat.reduceAdd, n_add, n_mul, n_addL, n_Ladd, n_mulL, n_Lmul, n_sub, n_subL, n_lt, n_eq, n_ltL, n_Llt, n_eqL, n_Leq, n_nneg, n_pos]
  · refine ⟨0, ?_⟩
    have k := md_nu0 E (S := S) (T := T) (H := H) (a := nI f) (v := v) (w := 0) hn hf he.2.1 x 0
    by_cases h1 : f < n
    · have hpf := hp f
      have h2 : (isDg (p f) = true) ↔ False := ⟨fun g => ht (tkd h1 g), False.elim⟩
      simp (disch := first | omega | exact hB _ _ | assumption | decide) only [e_MD_number, st_MD_number, md_byY E hb hn hl h1, md_isDigit, h2, bIF, k, i_ne, md_needN, mr_md E _, mw_f59_1, mw_f59_2, mw_f59_3, mw_f59_4, mw_f59_5, mw_f71_11, mw_f71_12, mw_f71_13, mw_f71_14, mw_f71_15, TP_T, TP_H, TP_Tn, TP_Hn, TP_fn, TP_f0, TP_f1, TP_f2, TP_f3, TP_f4, TP_w1, TP_w2, TP_w3, TP_w4, TP_wT, TP_wH, Bool.false_eq_true, n_10, true_and, and_true, false_and, and_false, Nat.not_lt_zero, true_or, or_true, eq_self, mm_z, mm_rs, sw_xc_ite, sw_xv_ite, n_m1, Nat.lt_irrefl, not_false_eq_true, not_true_eq_false, inS_0, inS_1, ite_not, sw_xv_some, sw_xm_some, sw_xc_some, sw_xc_void, if_true, if_false, reduceIte, bI_0, bI_01, bI_1, nt_or, Nat.reduceAdd, n_add, n_mul, n_addL, n_Ladd, n_mulL, n_Lmul, n_sub, n_subL, n_lt, n_eq, n_ltL, n_Llt, n_eqL, n_Leq, n_nneg, n_pos]
    · simp (disch := first | omega | exact hB _ _ | assumption | decide) only [e_MD_number, st_MD_number, md_byN E hn hl h1, md_isDigitN, k, i_ne, md_needN, mr_md E _, mw_f59_1, mw_f59_2, mw_f59_3, mw_f59_4, mw_f59_5, mw_f71_11, mw_f71_12, mw_f71_13, mw_f71_14, mw_f71_15, TP_T, TP_H, TP_Tn, TP_Hn, TP_fn, TP_f0, TP_f1, TP_f2, TP_f3, TP_f4, TP_w1, TP_w2, TP_w3, TP_w4, TP_wT, TP_wH, Bool.false_eq_true, n_10, true_and, and_true, false_and, and_false, Nat.not_lt_zero, true_or, or_true, eq_self, mm_z, mm_rs, sw_xc_ite, sw_xv_ite, n_m1, Nat.lt_irrefl, not_false_eq_true, not_true_eq_false, inS_0, inS_1, ite_not, sw_xv_some, sw_xm_some, sw_xc_some, sw_xc_void, if_true, if_false, reduceIte, bI_0, bI_01, bI_1, nt_or, Nat.reduceAdd, n_add, n_mul, n_addL, n_Ladd, n_mulL, n_Lmul, n_sub, n_subL, n_lt, n_eq, n_ltL, n_Llt, n_eqL, n_Leq, n_nneg, n_pos]
set_option maxRecDepth 100000 in
set_option maxHeartbeats 4000000 in
theorem md_at0 (hp : ∀ j, p j < 256) (hb : ∀ j, S.2.2 24 j = nI (p j)) (hn : n ≤ 100) (hl : S.2.2 25 0 = nI n) {f l : Nat} (hq : f < n) (h0 : 0 < l) (hl2 : l < 256) : f_MD_isAt E (.ref 71) (.int 0) (.int (nI l)) (mk (TP 25 3 S T H (nI f) b v w)) = some (some (.int (bI (p (f) = l))), mk (TP 25 3 S T H (nI f) b v w)) := by
  have z : ¬ l = 0 := by omega
  have r := hp (f)
  have y := md_byY E (T := T) (H := H) (a := nI f) (b := b) (v := v) (w := w) hb hn hl hq
  generalize p (f) = u at *
  have e0 : nI f + 0 = nI f := n_add f 0
  by_cases c : u = l
  · simp (disch := first | omega | exact hB _ _ | assumption | decide) only [e_MD_isAt, st_MD_isAt, z, y, c, e0, mr_md E _, mw_f59_1, mw_f59_2, mw_f59_3, mw_f59_4, mw_f59_5, mw_f71_11, mw_f71_12, mw_f71_13, mw_f71_14, mw_f71_15, TP_T, TP_H, TP_Tn, TP_Hn, TP_fn, TP_f0, TP_f1, TP_f2, TP_f3, TP_f4, TP_w1, TP_w2, TP_w3, TP_w4, TP_wT, TP_wH, Bool.false_eq_true, n_10, true_and, and_true, false_and, and_false, Nat.not_lt_zero, true_or, or_true, eq_self, mm_z, mm_rs, sw_xc_ite, sw_xv_ite, n_m1, Nat.lt_irrefl, not_false_eq_true, not_true_eq_false, inS_0, inS_1, ite_not, sw_xv_some, sw_xm_some, sw_xc_some, sw_xc_void, if_true, if_false, reduceIte, bI_0, bI_01, bI_1, nt_or, Nat.reduceAdd, n_add, n_mul, n_addL, n_Ladd, n_mulL, n_Lmul, n_sub, n_subL, n_lt, n_eq, n_ltL, n_Llt, n_eqL, n_Leq, n_nneg, n_pos]
    rfl
  · simp (disch := first | omega | exact hB _ _ | assumption | decide) only [e_MD_isAt, st_MD_isAt, z, y, c, e0, mr_md E _, mw_f59_1, mw_f59_2, mw_f59_3, mw_f59_4, mw_f59_5, mw_f71_11, mw_f71_12, mw_f71_13, mw_f71_14, mw_f71_15, TP_T, TP_H, TP_Tn, TP_Hn, TP_fn, TP_f0, TP_f1, TP_f2, TP_f3, TP_f4, TP_w1, TP_w2, TP_w3, TP_w4, TP_wT, TP_wH, Bool.false_eq_true, n_10, true_and, and_true, false_and, and_false, Nat.not_lt_zero, true_or, or_true, eq_self, mm_z, mm_rs, sw_xc_ite, sw_xv_ite, n_m1, Nat.lt_irrefl, not_false_eq_true, not_true_eq_false, inS_0, inS_1, ite_not, sw_xv_some, sw_xm_some, sw_xc_some, sw_xc_void, if_true, if_false, reduceIte, bI_0, bI_01, bI_1, nt_or, Nat.reduceAdd, n_add, n_mul, n_addL, n_Ladd, n_mulL, n_Lmul, n_sub, n_subL, n_lt, n_eq, n_ltL, n_Llt, n_eqL, n_Leq, n_nneg, n_pos]
    rfl
set_option maxRecDepth 100000 in
set_option maxHeartbeats 4000000 in
theorem md_at1 (hp : ∀ j, p j < 256) (hb : ∀ j, S.2.2 24 j = nI (p j)) (hn : n ≤ 100) (hl : S.2.2 25 0 = nI n) {f l : Nat} (hq : f + 1 < n) (h0 : 0 < l) (hl2 : l < 256) : f_MD_isAt E (.ref 71) (.int 1) (.int (nI l)) (mk (TP 25 3 S T H (nI f) b v w)) = some (some (.int (bI (p (f + 1) = l))), mk (TP 25 3 S T H (nI f) b v w)) := by
  have z : ¬ l = 0 := by omega
  have r := hp (f + 1)
  have y := md_byY E (T := T) (H := H) (a := nI f) (b := b) (v := v) (w := w) hb hn hl hq
  generalize p (f + 1) = u at *
  by_cases c : u = l
  · simp (disch := first | omega | exact hB _ _ | assumption | decide) only [e_MD_isAt, st_MD_isAt, z, y, c, mr_md E _, mw_f59_1, mw_f59_2, mw_f59_3, mw_f59_4, mw_f59_5, mw_f71_11, mw_f71_12, mw_f71_13, mw_f71_14, mw_f71_15, TP_T, TP_H, TP_Tn, TP_Hn, TP_fn, TP_f0, TP_f1, TP_f2, TP_f3, TP_f4, TP_w1, TP_w2, TP_w3, TP_w4, TP_wT, TP_wH, Bool.false_eq_true, n_10, true_and, and_true, false_and, and_false, Nat.not_lt_zero, true_or, or_true, eq_self, mm_z, mm_rs, sw_xc_ite, sw_xv_ite, n_m1, Nat.lt_irrefl, not_false_eq_true, not_true_eq_false, inS_0, inS_1, ite_not, sw_xv_some, sw_xm_some, sw_xc_some, sw_xc_void, if_true, if_false, reduceIte, bI_0, bI_01, bI_1, nt_or, Nat.reduceAdd, n_add, n_mul, n_addL, n_Ladd, n_mulL, n_Lmul, n_sub, n_subL, n_lt, n_eq, n_ltL, n_Llt, n_eqL, n_Leq, n_nneg, n_pos]
    rfl
  · simp (disch := first | omega | exact hB _ _ | assumption | decide) only [e_MD_isAt, st_MD_isAt, z, y, c, mr_md E _, mw_f59_1, mw_f59_2, mw_f59_3, mw_f59_4, mw_f59_5, mw_f71_11, mw_f71_12, mw_f71_13, mw_f71_14, mw_f71_15, TP_T, TP_H, TP_Tn, TP_Hn, TP_fn, TP_f0, TP_f1, TP_f2, TP_f3, TP_f4, TP_w1, TP_w2, TP_w3, TP_w4, TP_wT, TP_wH, Bool.false_eq_true, n_10, true_and, and_true, false_and, and_false, Nat.not_lt_zero, true_or, or_true, eq_self, mm_z, mm_rs, sw_xc_ite, sw_xv_ite, n_m1, Nat.lt_irrefl, not_false_eq_true, not_true_eq_false, inS_0, inS_1, ite_not, sw_xv_some, sw_xm_some, sw_xc_some, sw_xc_void, if_true, if_false, reduceIte, bI_0, bI_01, bI_1, nt_or, Nat.reduceAdd, n_add, n_mul, n_addL, n_Ladd, n_mulL, n_Lmul, n_sub, n_subL, n_lt, n_eq, n_ltL, n_Llt, n_eqL, n_Leq, n_nneg, n_pos]
    rfl
set_option maxRecDepth 100000 in
set_option maxHeartbeats 4000000 in
theorem md_at2 (hp : ∀ j, p j < 256) (hb : ∀ j, S.2.2 24 j = nI (p j)) (hn : n ≤ 100) (hl : S.2.2 25 0 = nI n) {f l : Nat} (hq : f + 2 < n) (h0 : 0 < l) (hl2 : l < 256) : f_MD_isAt E (.ref 71) (.int 2) (.int (nI l)) (mk (TP 25 3 S T H (nI f) b v w)) = some (some (.int (bI (p (f + 2) = l))), mk (TP 25 3 S T H (nI f) b v w)) := by
  have z : ¬ l = 0 := by omega
  have r := hp (f + 2)
  have y := md_byY E (T := T) (H := H) (a := nI f) (b := b) (v := v) (w := w) hb hn hl hq
  generalize p (f + 2) = u at *
  by_cases c : u = l
  · simp (disch := first | omega | exact hB _ _ | assumption | decide) only [e_MD_isAt, st_MD_isAt, z, y, c, mr_md E _, mw_f59_1, mw_f59_2, mw_f59_3, mw_f59_4, mw_f59_5, mw_f71_11, mw_f71_12, mw_f71_13, mw_f71_14, mw_f71_15, TP_T, TP_H, TP_Tn, TP_Hn, TP_fn, TP_f0, TP_f1, TP_f2, TP_f3, TP_f4, TP_w1, TP_w2, TP_w3, TP_w4, TP_wT, TP_wH, Bool.false_eq_true, n_10, true_and, and_true, false_and, and_false, Nat.not_lt_zero, true_or, or_true, eq_self, mm_z, mm_rs, sw_xc_ite, sw_xv_ite, n_m1, Nat.lt_irrefl, not_false_eq_true, not_true_eq_false, inS_0, inS_1, ite_not, sw_xv_some, sw_xm_some, sw_xc_some, sw_xc_void, if_true, if_false, reduceIte, bI_0, bI_01, bI_1, nt_or, Nat.reduceAdd, n_add, n_mul, n_addL, n_Ladd, n_mulL, n_Lmul, n_sub, n_subL, n_lt, n_eq, n_ltL, n_Llt, n_eqL, n_Leq, n_nneg, n_pos]
    rfl
  · simp (disch := first | omega | exact hB _ _ | assumption | decide) only [e_MD_isAt, st_MD_isAt, z, y, c, mr_md E _, mw_f59_1, mw_f59_2, mw_f59_3, mw_f59_4, mw_f59_5, mw_f71_11, mw_f71_12, mw_f71_13, mw_f71_14, mw_f71_15, TP_T, TP_H, TP_Tn, TP_Hn, TP_fn, TP_f0, TP_f1, TP_f2, TP_f3, TP_f4, TP_w1, TP_w2, TP_w3, TP_w4, TP_wT, TP_wH, Bool.false_eq_true, n_10, true_and, and_true, false_and, and_false, Nat.not_lt_zero, true_or, or_true, eq_self, mm_z, mm_rs, sw_xc_ite, sw_xv_ite, n_m1, Nat.lt_irrefl, not_false_eq_true, not_true_eq_false, inS_0, inS_1, ite_not, sw_xv_some, sw_xm_some, sw_xc_some, sw_xc_void, if_true, if_false, reduceIte, bI_0, bI_01, bI_1, nt_or, Nat.reduceAdd, n_add, n_mul, n_addL, n_Ladd, n_mulL, n_Lmul, n_sub, n_subL, n_lt, n_eq, n_ltL, n_Llt, n_eqL, n_Leq, n_nneg, n_pos]
    rfl
set_option maxRecDepth 100000 in
set_option maxHeartbeats 4000000 in
theorem md_at3 (hp : ∀ j, p j < 256) (hb : ∀ j, S.2.2 24 j = nI (p j)) (hn : n ≤ 100) (hl : S.2.2 25 0 = nI n) {f l : Nat} (hq : f + 3 < n) (h0 : 0 < l) (hl2 : l < 256) : f_MD_isAt E (.ref 71) (.int 3) (.int (nI l)) (mk (TP 25 3 S T H (nI f) b v w)) = some (some (.int (bI (p (f + 3) = l))), mk (TP 25 3 S T H (nI f) b v w)) := by
  have z : ¬ l = 0 := by omega
  have r := hp (f + 3)
  have y := md_byY E (T := T) (H := H) (a := nI f) (b := b) (v := v) (w := w) hb hn hl hq
  generalize p (f + 3) = u at *
  by_cases c : u = l
  · simp (disch := first | omega | exact hB _ _ | assumption | decide) only [e_MD_isAt, st_MD_isAt, z, y, c, mr_md E _, mw_f59_1, mw_f59_2, mw_f59_3, mw_f59_4, mw_f59_5, mw_f71_11, mw_f71_12, mw_f71_13, mw_f71_14, mw_f71_15, TP_T, TP_H, TP_Tn, TP_Hn, TP_fn, TP_f0, TP_f1, TP_f2, TP_f3, TP_f4, TP_w1, TP_w2, TP_w3, TP_w4, TP_wT, TP_wH, Bool.false_eq_true, n_10, true_and, and_true, false_and, and_false, Nat.not_lt_zero, true_or, or_true, eq_self, mm_z, mm_rs, sw_xc_ite, sw_xv_ite, n_m1, Nat.lt_irrefl, not_false_eq_true, not_true_eq_false, inS_0, inS_1, ite_not, sw_xv_some, sw_xm_some, sw_xc_some, sw_xc_void, if_true, if_false, reduceIte, bI_0, bI_01, bI_1, nt_or, Nat.reduceAdd, n_add, n_mul, n_addL, n_Ladd, n_mulL, n_Lmul, n_sub, n_subL, n_lt, n_eq, n_ltL, n_Llt, n_eqL, n_Leq, n_nneg, n_pos]
    rfl
  · simp (disch := first | omega | exact hB _ _ | assumption | decide) only [e_MD_isAt, st_MD_isAt, z, y, c, mr_md E _, mw_f59_1, mw_f59_2, mw_f59_3, mw_f59_4, mw_f59_5, mw_f71_11, mw_f71_12, mw_f71_13, mw_f71_14, mw_f71_15, TP_T, TP_H, TP_Tn, TP_Hn, TP_fn, TP_f0, TP_f1, TP_f2, TP_f3, TP_f4, TP_w1, TP_w2, TP_w3, TP_w4, TP_wT, TP_wH, Bool.false_eq_true, n_10, true_and, and_true, false_and, and_false, Nat.not_lt_zero, true_or, or_true, eq_self, mm_z, mm_rs, sw_xc_ite, sw_xv_ite, n_m1, Nat.lt_irrefl, not_false_eq_true, not_true_eq_false, inS_0, inS_1, ite_not, sw_xv_some, sw_xm_some, sw_xc_some, sw_xc_void, if_true, if_false, reduceIte, bI_0, bI_01, bI_1, nt_or, Nat.reduceAdd, n_add, n_mul, n_addL, n_Ladd, n_mulL, n_Lmul, n_sub, n_subL, n_lt, n_eq, n_ltL, n_Llt, n_eqL, n_Leq, n_nneg, n_pos]
    rfl
set_option maxRecDepth 100000 in
set_option maxHeartbeats 4000000 in
theorem md_at4 (hp : ∀ j, p j < 256) (hb : ∀ j, S.2.2 24 j = nI (p j)) (hn : n ≤ 100) (hl : S.2.2 25 0 = nI n) {f l : Nat} (hq : f + 4 < n) (h0 : 0 < l) (hl2 : l < 256) : f_MD_isAt E (.ref 71) (.int 4) (.int (nI l)) (mk (TP 25 3 S T H (nI f) b v w)) = some (some (.int (bI (p (f + 4) = l))), mk (TP 25 3 S T H (nI f) b v w)) := by
  have z : ¬ l = 0 := by omega
  have r := hp (f + 4)
  have y := md_byY E (T := T) (H := H) (a := nI f) (b := b) (v := v) (w := w) hb hn hl hq
  generalize p (f + 4) = u at *
  by_cases c : u = l
  · simp (disch := first | omega | exact hB _ _ | assumption | decide) only [e_MD_isAt, st_MD_isAt, z, y, c, mr_md E _, mw_f59_1, mw_f59_2, mw_f59_3, mw_f59_4, mw_f59_5, mw_f71_11, mw_f71_12, mw_f71_13, mw_f71_14, mw_f71_15, TP_T, TP_H, TP_Tn, TP_Hn, TP_fn, TP_f0, TP_f1, TP_f2, TP_f3, TP_f4, TP_w1, TP_w2, TP_w3, TP_w4, TP_wT, TP_wH, Bool.false_eq_true, n_10, true_and, and_true, false_and, and_false, Nat.not_lt_zero, true_or, or_true, eq_self, mm_z, mm_rs, sw_xc_ite, sw_xv_ite, n_m1, Nat.lt_irrefl, not_false_eq_true, not_true_eq_false, inS_0, inS_1, ite_not, sw_xv_some, sw_xm_some, sw_xc_some, sw_xc_void, if_true, if_false, reduceIte, bI_0, bI_01, bI_1, nt_or, Nat.reduceAdd, n_add, n_mul, n_addL, n_Ladd, n_mulL, n_Lmul, n_sub, n_subL, n_lt, n_eq, n_ltL, n_Llt, n_eqL, n_Leq, n_nneg, n_pos]
    rfl
  · simp (disch := first | omega | exact hB _ _ | assumption | decide) only [e_MD_isAt, st_MD_isAt, z, y, c, mr_md E _, mw_f59_1, mw_f59_2, mw_f59_3, mw_f59_4, mw_f59_5, mw_f71_11, mw_f71_12, mw_f71_13, mw_f71_14, mw_f71_15, TP_T, TP_H, TP_Tn, TP_Hn, TP_fn, TP_f0, TP_f1, TP_f2, TP_f3, TP_f4, TP_w1, TP_w2, TP_w3, TP_w4, TP_wT, TP_wH, Bool.false_eq_true, n_10, true_and, and_true, false_and, and_false, Nat.not_lt_zero, true_or, or_true, eq_self, mm_z, mm_rs, sw_xc_ite, sw_xv_ite, n_m1, Nat.lt_irrefl, not_false_eq_true, not_true_eq_false, inS_0, inS_1, ite_not, sw_xv_some, sw_xm_some, sw_xc_some, sw_xc_void, if_true, if_false, reduceIte, bI_0, bI_01, bI_1, nt_or, Nat.reduceAdd, n_add, n_mul, n_addL, n_Ladd, n_mulL, n_Lmul, n_sub, n_subL, n_lt, n_eq, n_ltL, n_Llt, n_eqL, n_Leq, n_nneg, n_pos]
    rfl
set_option maxRecDepth 100000 in
set_option maxHeartbeats 4000000 in
theorem md_at5 (hp : ∀ j, p j < 256) (hb : ∀ j, S.2.2 24 j = nI (p j)) (hn : n ≤ 100) (hl : S.2.2 25 0 = nI n) {f l : Nat} (hq : f + 5 < n) (h0 : 0 < l) (hl2 : l < 256) : f_MD_isAt E (.ref 71) (.int 5) (.int (nI l)) (mk (TP 25 3 S T H (nI f) b v w)) = some (some (.int (bI (p (f + 5) = l))), mk (TP 25 3 S T H (nI f) b v w)) := by
  have z : ¬ l = 0 := by omega
  have r := hp (f + 5)
  have y := md_byY E (T := T) (H := H) (a := nI f) (b := b) (v := v) (w := w) hb hn hl hq
  generalize p (f + 5) = u at *
  by_cases c : u = l
  · simp (disch := first | omega | exact hB _ _ | assumption | decide) only [e_MD_isAt, st_MD_isAt, z, y, c, mr_md E _, mw_f59_1, mw_f59_2, mw_f59_3, mw_f59_4, mw_f59_5, mw_f71_11, mw_f71_12, mw_f71_13, mw_f71_14, mw_f71_15, TP_T, TP_H, TP_Tn, TP_Hn, TP_fn, TP_f0, TP_f1, TP_f2, TP_f3, TP_f4, TP_w1, TP_w2, TP_w3, TP_w4, TP_wT, TP_wH, Bool.false_eq_true, n_10, true_and, and_true, false_and, and_false, Nat.not_lt_zero, true_or, or_true, eq_self, mm_z, mm_rs, sw_xc_ite, sw_xv_ite, n_m1, Nat.lt_irrefl, not_false_eq_true, not_true_eq_false, inS_0, inS_1, ite_not, sw_xv_some, sw_xm_some, sw_xc_some, sw_xc_void, if_true, if_false, reduceIte, bI_0, bI_01, bI_1, nt_or, Nat.reduceAdd, n_add, n_mul, n_addL, n_Ladd, n_mulL, n_Lmul, n_sub, n_subL, n_lt, n_eq, n_ltL, n_Llt, n_eqL, n_Leq, n_nneg, n_pos]
    rfl
  · simp (disch := first | omega | exact hB _ _ | assumption | decide) only [e_MD_isAt, st_MD_isAt, z, y, c, mr_md E _, mw_f59_1, mw_f59_2, mw_f59_3, mw_f59_4, mw_f59_5, mw_f71_11, mw_f71_12, mw_f71_13, mw_f71_14, mw_f71_15, TP_T, TP_H, TP_Tn, TP_Hn, TP_fn, TP_f0, TP_f1, TP_f2, TP_f3, TP_f4, TP_w1, TP_w2, TP_w3, TP_w4, TP_wT, TP_wH, Bool.false_eq_true, n_10, true_and, and_true, false_and, and_false, Nat.not_lt_zero, true_or, or_true, eq_self, mm_z, mm_rs, sw_xc_ite, sw_xv_ite, n_m1, Nat.lt_irrefl, not_false_eq_true, not_true_eq_false, inS_0, inS_1, ite_not, sw_xv_some, sw_xm_some, sw_xc_some, sw_xc_void, if_true, if_false, reduceIte, bI_0, bI_01, bI_1, nt_or, Nat.reduceAdd, n_add, n_mul, n_addL, n_Ladd, n_mulL, n_Lmul, n_sub, n_subL, n_lt, n_eq, n_ltL, n_Llt, n_eqL, n_Leq, n_nneg, n_pos]
    rfl
set_option maxRecDepth 100000 in
set_option maxHeartbeats 4000000 in
theorem md_at6 (hp : ∀ j, p j < 256) (hb : ∀ j, S.2.2 24 j = nI (p j)) (hn : n ≤ 100) (hl : S.2.2 25 0 = nI n) {f l : Nat} (hq : f + 6 < n) (h0 : 0 < l) (hl2 : l < 256) : f_MD_isAt E (.ref 71) (.int 6) (.int (nI l)) (mk (TP 25 3 S T H (nI f) b v w)) = some (some (.int (bI (p (f + 6) = l))), mk (TP 25 3 S T H (nI f) b v w)) := by
  have z : ¬ l = 0 := by omega
  have r := hp (f + 6)
  have y := md_byY E (T := T) (H := H) (a := nI f) (b := b) (v := v) (w := w) hb hn hl hq
  generalize p (f + 6) = u at *
  by_cases c : u = l
  · simp (disch := first | omega | exact hB _ _ | assumption | decide) only [e_MD_isAt, st_MD_isAt, z, y, c, mr_md E _, mw_f59_1, mw_f59_2, mw_f59_3, mw_f59_4, mw_f59_5, mw_f71_11, mw_f71_12, mw_f71_13, mw_f71_14, mw_f71_15, TP_T, TP_H, TP_Tn, TP_Hn, TP_fn, TP_f0, TP_f1, TP_f2, TP_f3, TP_f4, TP_w1, TP_w2, TP_w3, TP_w4, TP_wT, TP_wH, Bool.false_eq_true, n_10, true_and, and_true, false_and, and_false, Nat.not_lt_zero, true_or, or_true, eq_self, mm_z, mm_rs, sw_xc_ite, sw_xv_ite, n_m1, Nat.lt_irrefl, not_false_eq_true, not_true_eq_false, inS_0, inS_1, ite_not, sw_xv_some, sw_xm_some, sw_xc_some, sw_xc_void, if_true, if_false, reduceIte, bI_0, bI_01, bI_1, nt_or, Nat.reduceAdd, n_add, n_mul, n_addL, n_Ladd, n_mulL, n_Lmul, n_sub, n_subL, n_lt, n_eq, n_ltL, n_Llt, n_eqL, n_Leq, n_nneg, n_pos]
    rfl
  · simp (disch := first | omega | exact hB _ _ | assumption | decide) only [e_MD_isAt, st_MD_isAt, z, y, c, mr_md E _, mw_f59_1, mw_f59_2, mw_f59_3, mw_f59_4, mw_f59_5, mw_f71_11, mw_f71_12, mw_f71_13, mw_f71_14, mw_f71_15, TP_T, TP_H, TP_Tn, TP_Hn, TP_fn, TP_f0, TP_f1, TP_f2, TP_f3, TP_f4, TP_w1, TP_w2, TP_w3, TP_w4, TP_wT, TP_wH, Bool.false_eq_true, n_10, true_and, and_true, false_and, and_false, Nat.not_lt_zero, true_or, or_true, eq_self, mm_z, mm_rs, sw_xc_ite, sw_xv_ite, n_m1, Nat.lt_irrefl, not_false_eq_true, not_true_eq_false, inS_0, inS_1, ite_not, sw_xv_some, sw_xm_some, sw_xc_some, sw_xc_void, if_true, if_false, reduceIte, bI_0, bI_01, bI_1, nt_or, Nat.reduceAdd, n_add, n_mul, n_addL, n_Ladd, n_mulL, n_Lmul, n_sub, n_subL, n_lt, n_eq, n_ltL, n_Llt, n_eqL, n_Leq, n_nneg, n_pos]
    rfl
set_option maxRecDepth 100000 in
set_option maxHeartbeats 4000000 in
theorem md_atZ (x : Int32) : f_MD_isAt E (.ref 71) (.int x) (.int 0) (mk S) = some (some (.int 1), mk S) := by
  simp (disch := first | omega | exact hB _ _ | assumption | decide) only [e_MD_isAt, st_MD_isAt, i_ne, mr_md E _, mw_f59_1, mw_f59_2, mw_f59_3, mw_f59_4, mw_f59_5, mw_f71_11, mw_f71_12, mw_f71_13, mw_f71_14, mw_f71_15, TP_T, TP_H, TP_Tn, TP_Hn, TP_fn, TP_f0, TP_f1, TP_f2, TP_f3, TP_f4, TP_w1, TP_w2, TP_w3, TP_w4, TP_wT, TP_wH, Bool.false_eq_true, n_10, true_and, and_true, false_and, and_false, Nat.not_lt_zero, true_or, or_true, eq_self, mm_z, mm_rs, sw_xc_ite, sw_xv_ite, n_m1, Nat.lt_irrefl, not_false_eq_true, not_true_eq_false, inS_0, inS_1, ite_not, sw_xv_some, sw_xm_some, sw_xc_some, sw_xc_void, if_true, if_false, reduceIte, bI_0, bI_01, bI_1, nt_or, Nat.reduceAdd, n_add, n_mul, n_addL, n_Ladd, n_mulL, n_Lmul, n_sub, n_subL, n_lt, n_eq, n_ltL, n_Llt, n_eqL, n_Leq, n_nneg, n_pos]
set_option maxRecDepth 100000 in
set_option maxHeartbeats 4000000 in
theorem md_isW3 (hp : ∀ j, p j < 256) (hb : ∀ j, S.2.2 24 j = nI (p j)) (hn : n ≤ 100) (hl : S.2.2 25 0 = nI n) {f l0 l1 l2 : Nat} (hf : f ≤ n) (g0 : 0 < l0) (k0 : l0 < 256) (g1 : 0 < l1) (k1 : l1 < 256) (g2 : 0 < l2) (k2 : l2 < 256) : f_MD_isWord E (.ref 71) (.int (nI l0)) (.int (nI l1)) (.int (nI l2)) (.int 0) (.int 0) (.int 0) (.int 0) (mk (TP 25 3 S T H (nI f) (nI (en p n f)) v 0)) = some (some (.int (bI (en p n f - f = 3 ∧ p (f) = l0 ∧ p (f + 1) = l1 ∧ p (f + 2) = l2))), mk (TP 25 3 S T H (nI f) (nI (en p n f)) v 0)) := by
  obtain ⟨he1, he2, _⟩ := en_b (p := p) hf
  have z0 : ¬ l0 = 0 := by omega
  have z1 : ¬ l1 = 0 := by omega
  have z2 : ¬ l2 = 0 := by omega
  by_cases h : en p n f - f = 3
  · have q0 : f < n := by omega
    have q1 : f + 1 < n := by omega
    have q2 : f + 2 < n := by omega
    simp (maxSteps := 2000000) (disch := first | omega | exact hB _ _ | assumption | decide) only [e_MD_isWord, st_MD_isWord, i_ne, z0, z1, z2, h, md_at0 E hp hb hn hl q0 g0 k0, md_at1 E hp hb hn hl q1 g1 k1, md_at2 E hp hb hn hl q2 g2 k2, md_atZ, mr_md E _, mw_f59_1, mw_f59_2, mw_f59_3, mw_f59_4, mw_f59_5, mw_f71_11, mw_f71_12, mw_f71_13, mw_f71_14, mw_f71_15, TP_T, TP_H, TP_Tn, TP_Hn, TP_fn, TP_f0, TP_f1, TP_f2, TP_f3, TP_f4, TP_w1, TP_w2, TP_w3, TP_w4, TP_wT, TP_wH, Bool.false_eq_true, n_10, true_and, and_true, false_and, and_false, Nat.not_lt_zero, true_or, or_true, eq_self, mm_z, mm_rs, sw_xc_ite, sw_xv_ite, n_m1, Nat.lt_irrefl, not_false_eq_true, not_true_eq_false, inS_0, inS_1, ite_not, sw_xv_some, sw_xm_some, sw_xc_some, sw_xc_void, if_true, if_false, reduceIte, bI_0, bI_01, bI_1, nt_or, Nat.reduceAdd, n_add, n_mul, n_addL, n_Ladd, n_mulL, n_Lmul, n_sub, n_subL, n_lt, n_eq, n_ltL, n_Llt, n_eqL, n_Leq, n_nneg, n_pos]
    by_cases c0 : p (f) = l0
    case neg => rw [if_neg c0, bI_f (fun g => c0 g.1)]
    rw [if_pos c0]
    by_cases c1 : p (f + 1) = l1
    case neg => rw [if_neg c1, bI_f (fun g => c1 g.2.1)]
    rw [if_pos c1]
    by_cases c2 : p (f + 2) = l2
    case neg => rw [if_neg c2, bI_f (fun g => c2 g.2.2)]
    rw [if_pos c2]
    rw [bI_t ⟨c0, c1, c2⟩]
  · rw [bI_f (fun g => h g.1)]
    simp (maxSteps := 2000000) (disch := first | omega | exact hB _ _ | assumption | decide) only [e_MD_isWord, st_MD_isWord, i_ne, z0, z1, z2, h, mr_md E _, mw_f59_1, mw_f59_2, mw_f59_3, mw_f59_4, mw_f59_5, mw_f71_11, mw_f71_12, mw_f71_13, mw_f71_14, mw_f71_15, TP_T, TP_H, TP_Tn, TP_Hn, TP_fn, TP_f0, TP_f1, TP_f2, TP_f3, TP_f4, TP_w1, TP_w2, TP_w3, TP_w4, TP_wT, TP_wH, Bool.false_eq_true, n_10, true_and, and_true, false_and, and_false, Nat.not_lt_zero, true_or, or_true, eq_self, mm_z, mm_rs, sw_xc_ite, sw_xv_ite, n_m1, Nat.lt_irrefl, not_false_eq_true, not_true_eq_false, inS_0, inS_1, ite_not, sw_xv_some, sw_xm_some, sw_xc_some, sw_xc_void, if_true, if_false, reduceIte, bI_0, bI_01, bI_1, nt_or, Nat.reduceAdd, n_add, n_mul, n_addL, n_Ladd, n_mulL, n_Lmul, n_sub, n_subL, n_lt, n_eq, n_ltL, n_Llt, n_eqL, n_Leq, n_nneg, n_pos]
set_option maxRecDepth 100000 in
set_option maxHeartbeats 4000000 in
theorem md_isW4 (hp : ∀ j, p j < 256) (hb : ∀ j, S.2.2 24 j = nI (p j)) (hn : n ≤ 100) (hl : S.2.2 25 0 = nI n) {f l0 l1 l2 l3 : Nat} (hf : f ≤ n) (g0 : 0 < l0) (k0 : l0 < 256) (g1 : 0 < l1) (k1 : l1 < 256) (g2 : 0 < l2) (k2 : l2 < 256) (g3 : 0 < l3) (k3 : l3 < 256) : f_MD_isWord E (.ref 71) (.int (nI l0)) (.int (nI l1)) (.int (nI l2)) (.int (nI l3)) (.int 0) (.int 0) (.int 0) (mk (TP 25 3 S T H (nI f) (nI (en p n f)) v 0)) = some (some (.int (bI (en p n f - f = 4 ∧ p (f) = l0 ∧ p (f + 1) = l1 ∧ p (f + 2) = l2 ∧ p (f + 3) = l3))), mk (TP 25 3 S T H (nI f) (nI (en p n f)) v 0)) := by
  obtain ⟨he1, he2, _⟩ := en_b (p := p) hf
  have z0 : ¬ l0 = 0 := by omega
  have z1 : ¬ l1 = 0 := by omega
  have z2 : ¬ l2 = 0 := by omega
  have z3 : ¬ l3 = 0 := by omega
  by_cases h : en p n f - f = 4
  · have q0 : f < n := by omega
    have q1 : f + 1 < n := by omega
    have q2 : f + 2 < n := by omega
    have q3 : f + 3 < n := by omega
    simp (maxSteps := 2000000) (disch := first | omega | exact hB _ _ | assumption | decide) only [e_MD_isWord, st_MD_isWord, i_ne, z0, z1, z2, z3, h, md_at0 E hp hb hn hl q0 g0 k0, md_at1 E hp hb hn hl q1 g1 k1, md_at2 E hp hb hn hl q2 g2 k2, md_at3 E hp hb hn hl q3 g3 k3, md_atZ, mr_md E _, mw_f59_1, mw_f59_2, mw_f59_3, mw_f59_4, mw_f59_5, mw_f71_11, mw_f71_12, mw_f71_13, mw_f71_14, mw_f71_15, TP_T, TP_H, TP_Tn, TP_Hn, TP_fn, TP_f0, TP_f1, TP_f2, TP_f3, TP_f4, TP_w1, TP_w2, TP_w3, TP_w4, TP_wT, TP_wH, Bool.false_eq_true, n_10, true_and, and_true, false_and, and_false, Nat.not_lt_zero, true_or, or_true, eq_self, mm_z, mm_rs, sw_xc_ite, sw_xv_ite, n_m1, Nat.lt_irrefl, not_false_eq_true, not_true_eq_false, inS_0, inS_1, ite_not, sw_xv_some, sw_xm_some, sw_xc_some, sw_xc_void, if_true, if_false, reduceIte, bI_0, bI_01, bI_1, nt_or, Nat.reduceAdd, n_add, n_mul, n_addL, n_Ladd, n_mulL, n_Lmul, n_sub, n_subL, n_lt, n_eq, n_ltL, n_Llt, n_eqL, n_Leq, n_nneg, n_pos]
    by_cases c0 : p (f) = l0
    case neg => rw [if_neg c0, bI_f (fun g => c0 g.1)]
    rw [if_pos c0]
    by_cases c1 : p (f + 1) = l1
    case neg => rw [if_neg c1, bI_f (fun g => c1 g.2.1)]
    rw [if_pos c1]
    by_cases c2 : p (f + 2) = l2
    case neg => rw [if_neg c2, bI_f (fun g => c2 g.2.2.1)]
    rw [if_pos c2]
    by_cases c3 : p (f + 3) = l3
    case neg => rw [if_neg c3, bI_f (fun g => c3 g.2.2.2)]
    rw [if_pos c3]
    rw [bI_t ⟨c0, c1, c2, c3⟩]
  · rw [bI_f (fun g => h g.1)]
    simp (maxSteps := 2000000) (disch := first | omega | exact hB _ _ | assumption | decide) only [e_MD_isWord, st_MD_isWord, i_ne, z0, z1, z2, z3, h, mr_md E _, mw_f59_1, mw_f59_2, mw_f59_3, mw_f59_4, mw_f59_5, mw_f71_11, mw_f71_12, mw_f71_13, mw_f71_14, mw_f71_15, TP_T, TP_H, TP_Tn, TP_Hn, TP_fn, TP_f0, TP_f1, TP_f2, TP_f3, TP_f4, TP_w1, TP_w2, TP_w3, TP_w4, TP_wT, TP_wH, Bool.false_eq_true, n_10, true_and, and_true, false_and, and_false, Nat.not_lt_zero, true_or, or_true, eq_self, mm_z, mm_rs, sw_xc_ite, sw_xv_ite, n_m1, Nat.lt_irrefl, not_false_eq_true, not_true_eq_false, inS_0, inS_1, ite_not, sw_xv_some, sw_xm_some, sw_xc_some, sw_xc_void, if_true, if_false, reduceIte, bI_0, bI_01, bI_1, nt_or, Nat.reduceAdd, n_add, n_mul, n_addL, n_Ladd, n_mulL, n_Lmul, n_sub, n_subL, n_lt, n_eq, n_ltL, n_Llt, n_eqL, n_Leq, n_nneg, n_pos]
set_option maxRecDepth 100000 in
set_option maxHeartbeats 4000000 in
theorem md_isW5 (hp : ∀ j, p j < 256) (hb : ∀ j, S.2.2 24 j = nI (p j)) (hn : n ≤ 100) (hl : S.2.2 25 0 = nI n) {f l0 l1 l2 l3 l4 : Nat} (hf : f ≤ n) (g0 : 0 < l0) (k0 : l0 < 256) (g1 : 0 < l1) (k1 : l1 < 256) (g2 : 0 < l2) (k2 : l2 < 256) (g3 : 0 < l3) (k3 : l3 < 256) (g4 : 0 < l4) (k4 : l4 < 256) : f_MD_isWord E (.ref 71) (.int (nI l0)) (.int (nI l1)) (.int (nI l2)) (.int (nI l3)) (.int (nI l4)) (.int 0) (.int 0) (mk (TP 25 3 S T H (nI f) (nI (en p n f)) v 0)) = some (some (.int (bI (en p n f - f = 5 ∧ p (f) = l0 ∧ p (f + 1) = l1 ∧ p (f + 2) = l2 ∧ p (f + 3) = l3 ∧ p (f + 4) = l4))), mk (TP 25 3 S T H (nI f) (nI (en p n f)) v 0)) := by
  obtain ⟨he1, he2, _⟩ := en_b (p := p) hf
  have z0 : ¬ l0 = 0 := by omega
  have z1 : ¬ l1 = 0 := by omega
  have z2 : ¬ l2 = 0 := by omega
  have z3 : ¬ l3 = 0 := by omega
  have z4 : ¬ l4 = 0 := by omega
  by_cases h : en p n f - f = 5
  · have q0 : f < n := by omega
    have q1 : f + 1 < n := by omega
    have q2 : f + 2 < n := by omega
    have q3 : f + 3 < n := by omega
    have q4 : f + 4 < n := by omega
    simp (maxSteps := 2000000) (disch := first | omega | exact hB _ _ | assumption | decide) only [e_MD_isWord, st_MD_isWord, i_ne, z0, z1, z2, z3, z4, h, md_at0 E hp hb hn hl q0 g0 k0, md_at1 E hp hb hn hl q1 g1 k1, md_at2 E hp hb hn hl q2 g2 k2, md_at3 E hp hb hn hl q3 g3 k3, md_at4 E hp hb hn hl q4 g4 k4, md_atZ, mr_md E _, mw_f59_1, mw_f59_2, mw_f59_3, mw_f59_4, mw_f59_5, mw_f71_11, mw_f71_12, mw_f71_13, mw_f71_14, mw_f71_15, TP_T, TP_H, TP_Tn, TP_Hn, TP_fn, TP_f0, TP_f1, TP_f2, TP_f3, TP_f4, TP_w1, TP_w2, TP_w3, TP_w4, TP_wT, TP_wH, Bool.false_eq_true, n_10, true_and, and_true, false_and, and_false, Nat.not_lt_zero, true_or, or_true, eq_self, mm_z, mm_rs, sw_xc_ite, sw_xv_ite, n_m1, Nat.lt_irrefl, not_false_eq_true, not_true_eq_false, inS_0, inS_1, ite_not, sw_xv_some, sw_xm_some, sw_xc_some, sw_xc_void, if_true, if_false, reduceIte, bI_0, bI_01, bI_1, nt_or, Nat.reduceAdd, n_add, n_mul, n_addL, n_Ladd, n_mulL, n_Lmul, n_sub, n_subL, n_lt, n_eq, n_ltL, n_Llt, n_eqL, n_Leq, n_nneg, n_pos]
    by_cases c0 : p (f) = l0
    case neg => rw [if_neg c0, bI_f (fun g => c0 g.1)]
    rw [if_pos c0]
    by_cases c1 : p (f + 1) = l1
    case neg => rw [if_neg c1, bI_f (fun g => c1 g.2.1)]
    rw [if_pos c1]
    by_cases c2 : p (f + 2) = l2
    case neg => rw [if_neg c2, bI_f (fun g => c2 g.2.2.1)]
    rw [if_pos c2]
    by_cases c3 : p (f + 3) = l3
    case neg => rw [if_neg c3, bI_f (fun g => c3 g.2.2.2.1)]
    rw [if_pos c3]
    by_cases c4 : p (f + 4) = l4
    case neg => rw [if_neg c4, bI_f (fun g => c4 g.2.2.2.2)]
    rw [if_pos c4]
    rw [bI_t ⟨c0, c1, c2, c3, c4⟩]
  · rw [bI_f (fun g => h g.1)]
    simp (maxSteps := 2000000) (disch := first | omega | exact hB _ _ | assumption | decide) only [e_MD_isWord, st_MD_isWord, i_ne, z0, z1, z2, z3, z4, h, mr_md E _, mw_f59_1, mw_f59_2, mw_f59_3, mw_f59_4, mw_f59_5, mw_f71_11, mw_f71_12, mw_f71_13, mw_f71_14, mw_f71_15, TP_T, TP_H, TP_Tn, TP_Hn, TP_fn, TP_f0, TP_f1, TP_f2, TP_f3, TP_f4, TP_w1, TP_w2, TP_w3, TP_w4, TP_wT, TP_wH, Bool.false_eq_true, n_10, true_and, and_true, false_and, and_false, Nat.not_lt_zero, true_or, or_true, eq_self, mm_z, mm_rs, sw_xc_ite, sw_xv_ite, n_m1, Nat.lt_irrefl, not_false_eq_true, not_true_eq_false, inS_0, inS_1, ite_not, sw_xv_some, sw_xm_some, sw_xc_some, sw_xc_void, if_true, if_false, reduceIte, bI_0, bI_01, bI_1, nt_or, Nat.reduceAdd, n_add, n_mul, n_addL, n_Ladd, n_mulL, n_Lmul, n_sub, n_subL, n_lt, n_eq, n_ltL, n_Llt, n_eqL, n_Leq, n_nneg, n_pos]
set_option maxRecDepth 100000 in
set_option maxHeartbeats 4000000 in
theorem md_isW6 (hp : ∀ j, p j < 256) (hb : ∀ j, S.2.2 24 j = nI (p j)) (hn : n ≤ 100) (hl : S.2.2 25 0 = nI n) {f l0 l1 l2 l3 l4 l5 : Nat} (hf : f ≤ n) (g0 : 0 < l0) (k0 : l0 < 256) (g1 : 0 < l1) (k1 : l1 < 256) (g2 : 0 < l2) (k2 : l2 < 256) (g3 : 0 < l3) (k3 : l3 < 256) (g4 : 0 < l4) (k4 : l4 < 256) (g5 : 0 < l5) (k5 : l5 < 256) : f_MD_isWord E (.ref 71) (.int (nI l0)) (.int (nI l1)) (.int (nI l2)) (.int (nI l3)) (.int (nI l4)) (.int (nI l5)) (.int 0) (mk (TP 25 3 S T H (nI f) (nI (en p n f)) v 0)) = some (some (.int (bI (en p n f - f = 6 ∧ p (f) = l0 ∧ p (f + 1) = l1 ∧ p (f + 2) = l2 ∧ p (f + 3) = l3 ∧ p (f + 4) = l4 ∧ p (f + 5) = l5))), mk (TP 25 3 S T H (nI f) (nI (en p n f)) v 0)) := by
  obtain ⟨he1, he2, _⟩ := en_b (p := p) hf
  have z0 : ¬ l0 = 0 := by omega
  have z1 : ¬ l1 = 0 := by omega
  have z2 : ¬ l2 = 0 := by omega
  have z3 : ¬ l3 = 0 := by omega
  have z4 : ¬ l4 = 0 := by omega
  have z5 : ¬ l5 = 0 := by omega
  by_cases h : en p n f - f = 6
  · have q0 : f < n := by omega
    have q1 : f + 1 < n := by omega
    have q2 : f + 2 < n := by omega
    have q3 : f + 3 < n := by omega
    have q4 : f + 4 < n := by omega
    have q5 : f + 5 < n := by omega
    simp (maxSteps := 2000000) (disch := first | omega | exact hB _ _ | assumption | decide) only [e_MD_isWord, st_MD_isWord, i_ne, z0, z1, z2, z3, z4, z5, h, md_at0 E hp hb hn hl q0 g0 k0, md_at1 E hp hb hn hl q1 g1 k1, md_at2 E hp hb hn hl q2 g2 k2, md_at3 E hp hb hn hl q3 g3 k3, md_at4 E hp hb hn hl q4 g4 k4, md_at5 E hp hb hn hl q5 g5 k5, md_atZ, mr_md E _, mw_f59_1, mw_f59_2, mw_f59_3, mw_f59_4, mw_f59_5, mw_f71_11, mw_f71_12, mw_f71_13, mw_f71_14, mw_f71_15, TP_T, TP_H, TP_Tn, TP_Hn, TP_fn, TP_f0, TP_f1, TP_f2, TP_f3, TP_f4, TP_w1, TP_w2, TP_w3, TP_w4, TP_wT, TP_wH, Bool.false_eq_true, n_10, true_and, and_true, false_and, and_false, Nat.not_lt_zero, true_or, or_true, eq_self, mm_z, mm_rs, sw_xc_ite, sw_xv_ite, n_m1, Nat.lt_irrefl, not_false_eq_true, not_true_eq_false, inS_0, inS_1, ite_not, sw_xv_some, sw_xm_some, sw_xc_some, sw_xc_void, if_true, if_false, reduceIte, bI_0, bI_01, bI_1, nt_or, Nat.reduceAdd, n_add, n_mul, n_addL, n_Ladd, n_mulL, n_Lmul, n_sub, n_subL, n_lt, n_eq, n_ltL, n_Llt, n_eqL, n_Leq, n_nneg, n_pos]
    by_cases c0 : p (f) = l0
    case neg => rw [if_neg c0, bI_f (fun g => c0 g.1)]
    rw [if_pos c0]
    by_cases c1 : p (f + 1) = l1
    case neg => rw [if_neg c1, bI_f (fun g => c1 g.2.1)]
    rw [if_pos c1]
    by_cases c2 : p (f + 2) = l2
    case neg => rw [if_neg c2, bI_f (fun g => c2 g.2.2.1)]
    rw [if_pos c2]
    by_cases c3 : p (f + 3) = l3
    case neg => rw [if_neg c3, bI_f (fun g => c3 g.2.2.2.1)]
    rw [if_pos c3]
    by_cases c4 : p (f + 4) = l4
    case neg => rw [if_neg c4, bI_f (fun g => c4 g.2.2.2.2.1)]
    rw [if_pos c4]
    by_cases c5 : p (f + 5) = l5
    case neg => rw [if_neg c5, bI_f (fun g => c5 g.2.2.2.2.2)]
    rw [if_pos c5]
    rw [bI_t ⟨c0, c1, c2, c3, c4, c5⟩]
  · rw [bI_f (fun g => h g.1)]
    simp (maxSteps := 2000000) (disch := first | omega | exact hB _ _ | assumption | decide) only [e_MD_isWord, st_MD_isWord, i_ne, z0, z1, z2, z3, z4, z5, h, mr_md E _, mw_f59_1, mw_f59_2, mw_f59_3, mw_f59_4, mw_f59_5, mw_f71_11, mw_f71_12, mw_f71_13, mw_f71_14, mw_f71_15, TP_T, TP_H, TP_Tn, TP_Hn, TP_fn, TP_f0, TP_f1, TP_f2, TP_f3, TP_f4, TP_w1, TP_w2, TP_w3, TP_w4, TP_wT, TP_wH, Bool.false_eq_true, n_10, true_and, and_true, false_and, and_false, Nat.not_lt_zero, true_or, or_true, eq_self, mm_z, mm_rs, sw_xc_ite, sw_xv_ite, n_m1, Nat.lt_irrefl, not_false_eq_true, not_true_eq_false, inS_0, inS_1, ite_not, sw_xv_some, sw_xm_some, sw_xc_some, sw_xc_void, if_true, if_false, reduceIte, bI_0, bI_01, bI_1, nt_or, Nat.reduceAdd, n_add, n_mul, n_addL, n_Ladd, n_mulL, n_Lmul, n_sub, n_subL, n_lt, n_eq, n_ltL, n_Llt, n_eqL, n_Leq, n_nneg, n_pos]
set_option maxRecDepth 100000 in
set_option maxHeartbeats 4000000 in
theorem md_isW7 (hp : ∀ j, p j < 256) (hb : ∀ j, S.2.2 24 j = nI (p j)) (hn : n ≤ 100) (hl : S.2.2 25 0 = nI n) {f l0 l1 l2 l3 l4 l5 l6 : Nat} (hf : f ≤ n) (g0 : 0 < l0) (k0 : l0 < 256) (g1 : 0 < l1) (k1 : l1 < 256) (g2 : 0 < l2) (k2 : l2 < 256) (g3 : 0 < l3) (k3 : l3 < 256) (g4 : 0 < l4) (k4 : l4 < 256) (g5 : 0 < l5) (k5 : l5 < 256) (g6 : 0 < l6) (k6 : l6 < 256) : f_MD_isWord E (.ref 71) (.int (nI l0)) (.int (nI l1)) (.int (nI l2)) (.int (nI l3)) (.int (nI l4)) (.int (nI l5)) (.int (nI l6)) (mk (TP 25 3 S T H (nI f) (nI (en p n f)) v 0)) = some (some (.int (bI (en p n f - f = 7 ∧ p (f) = l0 ∧ p (f + 1) = l1 ∧ p (f + 2) = l2 ∧ p (f + 3) = l3 ∧ p (f + 4) = l4 ∧ p (f + 5) = l5 ∧ p (f + 6) = l6))), mk (TP 25 3 S T H (nI f) (nI (en p n f)) v 0)) := by
  obtain ⟨he1, he2, _⟩ := en_b (p := p) hf
  have z0 : ¬ l0 = 0 := by omega
  have z1 : ¬ l1 = 0 := by omega
  have z2 : ¬ l2 = 0 := by omega
  have z3 : ¬ l3 = 0 := by omega
  have z4 : ¬ l4 = 0 := by omega
  have z5 : ¬ l5 = 0 := by omega
  have z6 : ¬ l6 = 0 := by omega
  by_cases h : en p n f - f = 7
  · have q0 : f < n := by omega
    have q1 : f + 1 < n := by omega
    have q2 : f + 2 < n := by omega
    have q3 : f + 3 < n := by omega
    have q4 : f + 4 < n := by omega
    have q5 : f + 5 < n := by omega
    have q6 : f + 6 < n := by omega
    simp (maxSteps := 2000000) (disch := first | omega | exact hB _ _ | assumption | decide) only [e_MD_isWord, st_MD_isWord, i_ne, z0, z1, z2, z3, z4, z5, z6, h, md_at0 E hp hb hn hl q0 g0 k0, md_at1 E hp hb hn hl q1 g1 k1, md_at2 E hp hb hn hl q2 g2 k2, md_at3 E hp hb hn hl q3 g3 k3, md_at4 E hp hb hn hl q4 g4 k4, md_at5 E hp hb hn hl q5 g5 k5, md_at6 E hp hb hn hl q6 g6 k6, md_atZ, mr_md E _, mw_f59_1, mw_f59_2, mw_f59_3, mw_f59_4, mw_f59_5, mw_f71_11, mw_f71_12, mw_f71_13, mw_f71_14, mw_f71_15, TP_T, TP_H, TP_Tn, TP_Hn, TP_fn, TP_f0, TP_f1, TP_f2, TP_f3, TP_f4, TP_w1, TP_w2, TP_w3, TP_w4, TP_wT, TP_wH, Bool.false_eq_true, n_10, true_and, and_true, false_and, and_false, Nat.not_lt_zero, true_or, or_true, eq_self, mm_z, mm_rs, sw_xc_ite, sw_xv_ite, n_m1, Nat.lt_irrefl, not_false_eq_true, not_true_eq_false, inS_0, inS_1, ite_not, sw_xv_some, sw_xm_some, sw_xc_some, sw_xc_void, if_true, if_false, reduceIte, bI_0, bI_01, bI_1, nt_or, Nat.reduceAdd, n_add, n_mul, n_addL, n_Ladd, n_mulL, n_Lmul, n_sub, n_subL, n_lt, n_eq, n_ltL, n_Llt, n_eqL, n_Leq, n_nneg, n_pos]
    by_cases c0 : p (f) = l0
    case neg => rw [if_neg c0, bI_f (fun g => c0 g.1)]
    rw [if_pos c0]
    by_cases c1 : p (f + 1) = l1
    case neg => rw [if_neg c1, bI_f (fun g => c1 g.2.1)]
    rw [if_pos c1]
    by_cases c2 : p (f + 2) = l2
    case neg => rw [if_neg c2, bI_f (fun g => c2 g.2.2.1)]
    rw [if_pos c2]
    by_cases c3 : p (f + 3) = l3
    case neg => rw [if_neg c3, bI_f (fun g => c3 g.2.2.2.1)]
    rw [if_pos c3]
    by_cases c4 : p (f + 4) = l4
    case neg => rw [if_neg c4, bI_f (fun g => c4 g.2.2.2.2.1)]
    rw [if_pos c4]
    by_cases c5 : p (f + 5) = l5
    case neg => rw [if_neg c5, bI_f (fun g => c5 g.2.2.2.2.2.1)]
    rw [if_pos c5]
    by_cases c6 : p (f + 6) = l6
    case neg => rw [if_neg c6, bI_f (fun g => c6 g.2.2.2.2.2.2)]
    rw [if_pos c6]
    rw [bI_t ⟨c0, c1, c2, c3, c4, c5, c6⟩]
  · rw [bI_f (fun g => h g.1)]
    simp (maxSteps := 2000000) (disch := first | omega | exact hB _ _ | assumption | decide) only [e_MD_isWord, st_MD_isWord, i_ne, z0, z1, z2, z3, z4, z5, z6, h, mr_md E _, mw_f59_1, mw_f59_2, mw_f59_3, mw_f59_4, mw_f59_5, mw_f71_11, mw_f71_12, mw_f71_13, mw_f71_14, mw_f71_15, TP_T, TP_H, TP_Tn, TP_Hn, TP_fn, TP_f0, TP_f1, TP_f2, TP_f3, TP_f4, TP_w1, TP_w2, TP_w3, TP_w4, TP_wT, TP_wH, Bool.false_eq_true, n_10, true_and, and_true, false_and, and_false, Nat.not_lt_zero, true_or, or_true, eq_self, mm_z, mm_rs, sw_xc_ite, sw_xv_ite, n_m1, Nat.lt_irrefl, not_false_eq_true, not_true_eq_false, inS_0, inS_1, ite_not, sw_xv_some, sw_xm_some, sw_xc_some, sw_xc_void, if_true, if_false, reduceIte, bI_0, bI_01, bI_1, nt_or, Nat.reduceAdd, n_add, n_mul, n_addL, n_Ladd, n_mulL, n_Lmul, n_sub, n_subL, n_lt, n_eq, n_ltL, n_Llt, n_eqL, n_Leq, n_nneg, n_pos]
theorem md_w0 (hp : ∀ j, p j < 256) (hb : ∀ j, S.2.2 24 j = nI (p j)) (hn : n ≤ 100) (hl : S.2.2 25 0 = nI n) {f : Nat} (hf : f ≤ n) : f_MD_isWord E (.ref 71) (.int 116) (.int 104) (.int 105) (.int 110) (.int 103) (.int 0) (.int 0) (mk (TP 25 3 S T H (nI f) (nI (en p n f)) v 0)) = some (some (.int (bI (isw p n f 0 = true))), mk (TP 25 3 S T H (nI f) (nI (en p n f)) v 0)) := by
  have e : (isw p n f 0 = true) ↔ (en p n f - f = 5 ∧ p f = 116 ∧ p (f + 1) = 104 ∧ p (f + 2) = 105 ∧ p (f + 3) = 110 ∧ p (f + 4) = 103) := by
    rw [isw_iff]
    constructor
    · rintro ⟨h1, h2⟩
      exact ⟨h1, h2 0 (by decide), h2 1 (by decide), h2 2 (by decide), h2 3 (by decide), h2 4 (by decide)⟩
    · rintro ⟨h1, c0, c1, c2, c3, c4⟩
      refine ⟨h1, fun j hj => ?_⟩
      have hj : j < 5 := hj
      rcases (show j = 0 ∨ j = 1 ∨ j = 2 ∨ j = 3 ∨ j = 4 by omega) with rfl | rfl | rfl | rfl | rfl
      · exact c0
      · exact c1
      · exact c2
      · exact c3
      · exact c4
  rw [bI_iff e]
  exact md_isW5 E hp hb hn hl hf (l0 := 116) (l1 := 104) (l2 := 105) (l3 := 110) (l4 := 103) (by decide) (by decide) (by decide) (by decide) (by decide) (by decide) (by decide) (by decide) (by decide) (by decide)
theorem md_w1 (hp : ∀ j, p j < 256) (hb : ∀ j, S.2.2 24 j = nI (p j)) (hn : n ≤ 100) (hl : S.2.2 25 0 = nI n) {f : Nat} (hf : f ≤ n) : f_MD_isWord E (.ref 71) (.int 114) (.int 111) (.int 116) (.int 0) (.int 0) (.int 0) (.int 0) (mk (TP 25 3 S T H (nI f) (nI (en p n f)) v 0)) = some (some (.int (bI (isw p n f 1 = true))), mk (TP 25 3 S T H (nI f) (nI (en p n f)) v 0)) := by
  have e : (isw p n f 1 = true) ↔ (en p n f - f = 3 ∧ p f = 114 ∧ p (f + 1) = 111 ∧ p (f + 2) = 116) := by
    rw [isw_iff]
    constructor
    · rintro ⟨h1, h2⟩
      exact ⟨h1, h2 0 (by decide), h2 1 (by decide), h2 2 (by decide)⟩
    · rintro ⟨h1, c0, c1, c2⟩
      refine ⟨h1, fun j hj => ?_⟩
      have hj : j < 3 := hj
      rcases (show j = 0 ∨ j = 1 ∨ j = 2 by omega) with rfl | rfl | rfl
      · exact c0
      · exact c1
      · exact c2
  rw [bI_iff e]
  exact md_isW3 E hp hb hn hl hf (l0 := 114) (l1 := 111) (l2 := 116) (by decide) (by decide) (by decide) (by decide) (by decide) (by decide)
theorem md_w2 (hp : ∀ j, p j < 256) (hb : ∀ j, S.2.2 24 j = nI (p j)) (hn : n ≤ 100) (hl : S.2.2 25 0 = nI n) {f : Nat} (hf : f ≤ n) : f_MD_isWord E (.ref 71) (.int 112) (.int 97) (.int 115) (.int 115) (.int 0) (.int 0) (.int 0) (mk (TP 25 3 S T H (nI f) (nI (en p n f)) v 0)) = some (some (.int (bI (isw p n f 2 = true))), mk (TP 25 3 S T H (nI f) (nI (en p n f)) v 0)) := by
  have e : (isw p n f 2 = true) ↔ (en p n f - f = 4 ∧ p f = 112 ∧ p (f + 1) = 97 ∧ p (f + 2) = 115 ∧ p (f + 3) = 115) := by
    rw [isw_iff]
    constructor
    · rintro ⟨h1, h2⟩
      exact ⟨h1, h2 0 (by decide), h2 1 (by decide), h2 2 (by decide), h2 3 (by decide)⟩
    · rintro ⟨h1, c0, c1, c2, c3⟩
      refine ⟨h1, fun j hj => ?_⟩
      have hj : j < 4 := hj
      rcases (show j = 0 ∨ j = 1 ∨ j = 2 ∨ j = 3 by omega) with rfl | rfl | rfl | rfl
      · exact c0
      · exact c1
      · exact c2
      · exact c3
  rw [bI_iff e]
  exact md_isW4 E hp hb hn hl hf (l0 := 112) (l1 := 97) (l2 := 115) (l3 := 115) (by decide) (by decide) (by decide) (by decide) (by decide) (by decide) (by decide) (by decide)
theorem md_w3 (hp : ∀ j, p j < 256) (hb : ∀ j, S.2.2 24 j = nI (p j)) (hn : n ≤ 100) (hl : S.2.2 25 0 = nI n) {f : Nat} (hf : f ≤ n) : f_MD_isWord E (.ref 71) (.int 112) (.int 97) (.int 114) (.int 116) (.int 0) (.int 0) (.int 0) (mk (TP 25 3 S T H (nI f) (nI (en p n f)) v 0)) = some (some (.int (bI (isw p n f 3 = true))), mk (TP 25 3 S T H (nI f) (nI (en p n f)) v 0)) := by
  have e : (isw p n f 3 = true) ↔ (en p n f - f = 4 ∧ p f = 112 ∧ p (f + 1) = 97 ∧ p (f + 2) = 114 ∧ p (f + 3) = 116) := by
    rw [isw_iff]
    constructor
    · rintro ⟨h1, h2⟩
      exact ⟨h1, h2 0 (by decide), h2 1 (by decide), h2 2 (by decide), h2 3 (by decide)⟩
    · rintro ⟨h1, c0, c1, c2, c3⟩
      refine ⟨h1, fun j hj => ?_⟩
      have hj : j < 4 := hj
      rcases (show j = 0 ∨ j = 1 ∨ j = 2 ∨ j = 3 by omega) with rfl | rfl | rfl | rfl
      · exact c0
      · exact c1
      · exact c2
      · exact c3
  rw [bI_iff e]
  exact md_isW4 E hp hb hn hl hf (l0 := 112) (l1 := 97) (l2 := 114) (l3 := 116) (by decide) (by decide) (by decide) (by decide) (by decide) (by decide) (by decide) (by decide)
theorem md_w4 (hp : ∀ j, p j < 256) (hb : ∀ j, S.2.2 24 j = nI (p j)) (hn : n ≤ 100) (hl : S.2.2 25 0 = nI n) {f : Nat} (hf : f ≤ n) : f_MD_isWord E (.ref 71) (.int 104) (.int 111) (.int 97) (.int 114) (.int 100) (.int 101) (.int 114) (mk (TP 25 3 S T H (nI f) (nI (en p n f)) v 0)) = some (some (.int (bI (isw p n f 4 = true))), mk (TP 25 3 S T H (nI f) (nI (en p n f)) v 0)) := by
  have e : (isw p n f 4 = true) ↔ (en p n f - f = 7 ∧ p f = 104 ∧ p (f + 1) = 111 ∧ p (f + 2) = 97 ∧ p (f + 3) = 114 ∧ p (f + 4) = 100 ∧ p (f + 5) = 101 ∧ p (f + 6) = 114) := by
    rw [isw_iff]
    constructor
    · rintro ⟨h1, h2⟩
      exact ⟨h1, h2 0 (by decide), h2 1 (by decide), h2 2 (by decide), h2 3 (by decide), h2 4 (by decide), h2 5 (by decide), h2 6 (by decide)⟩
    · rintro ⟨h1, c0, c1, c2, c3, c4, c5, c6⟩
      refine ⟨h1, fun j hj => ?_⟩
      have hj : j < 7 := hj
      rcases (show j = 0 ∨ j = 1 ∨ j = 2 ∨ j = 3 ∨ j = 4 ∨ j = 5 ∨ j = 6 by omega) with rfl | rfl | rfl | rfl | rfl | rfl | rfl
      · exact c0
      · exact c1
      · exact c2
      · exact c3
      · exact c4
      · exact c5
      · exact c6
  rw [bI_iff e]
  exact md_isW7 E hp hb hn hl hf (l0 := 104) (l1 := 111) (l2 := 97) (l3 := 114) (l4 := 100) (l5 := 101) (l6 := 114) (by decide) (by decide) (by decide) (by decide) (by decide) (by decide) (by decide) (by decide) (by decide) (by decide) (by decide) (by decide) (by decide) (by decide)
theorem md_w5 (hp : ∀ j, p j < 256) (hb : ∀ j, S.2.2 24 j = nI (p j)) (hn : n ≤ 100) (hl : S.2.2 25 0 = nI n) {f : Nat} (hf : f ≤ n) : f_MD_isWord E (.ref 71) (.int 108) (.int 101) (.int 110) (.int 100) (.int 101) (.int 114) (.int 0) (mk (TP 25 3 S T H (nI f) (nI (en p n f)) v 0)) = some (some (.int (bI (isw p n f 5 = true))), mk (TP 25 3 S T H (nI f) (nI (en p n f)) v 0)) := by
  have e : (isw p n f 5 = true) ↔ (en p n f - f = 6 ∧ p f = 108 ∧ p (f + 1) = 101 ∧ p (f + 2) = 110 ∧ p (f + 3) = 100 ∧ p (f + 4) = 101 ∧ p (f + 5) = 114) := by
    rw [isw_iff]
    constructor
    · rintro ⟨h1, h2⟩
      exact ⟨h1, h2 0 (by decide), h2 1 (by decide), h2 2 (by decide), h2 3 (by decide), h2 4 (by decide), h2 5 (by decide)⟩
    · rintro ⟨h1, c0, c1, c2, c3, c4, c5⟩
      refine ⟨h1, fun j hj => ?_⟩
      have hj : j < 6 := hj
      rcases (show j = 0 ∨ j = 1 ∨ j = 2 ∨ j = 3 ∨ j = 4 ∨ j = 5 by omega) with rfl | rfl | rfl | rfl | rfl | rfl
      · exact c0
      · exact c1
      · exact c2
      · exact c3
      · exact c4
      · exact c5
  rw [bI_iff e]
  exact md_isW6 E hp hb hn hl hf (l0 := 108) (l1 := 101) (l2 := 110) (l3 := 100) (l4 := 101) (l5 := 114) (by decide) (by decide) (by decide) (by decide) (by decide) (by decide) (by decide) (by decide) (by decide) (by decide) (by decide) (by decide)
theorem md_w6 (hp : ∀ j, p j < 256) (hb : ∀ j, S.2.2 24 j = nI (p j)) (hn : n ≤ 100) (hl : S.2.2 25 0 = nI n) {f : Nat} (hf : f ≤ n) : f_MD_isWord E (.ref 71) (.int 99) (.int 104) (.int 105) (.int 108) (.int 100) (.int 0) (.int 0) (mk (TP 25 3 S T H (nI f) (nI (en p n f)) v 0)) = some (some (.int (bI (isw p n f 6 = true))), mk (TP 25 3 S T H (nI f) (nI (en p n f)) v 0)) := by
  have e : (isw p n f 6 = true) ↔ (en p n f - f = 5 ∧ p f = 99 ∧ p (f + 1) = 104 ∧ p (f + 2) = 105 ∧ p (f + 3) = 108 ∧ p (f + 4) = 100) := by
    rw [isw_iff]
    constructor
    · rintro ⟨h1, h2⟩
      exact ⟨h1, h2 0 (by decide), h2 1 (by decide), h2 2 (by decide), h2 3 (by decide), h2 4 (by decide)⟩
    · rintro ⟨h1, c0, c1, c2, c3, c4⟩
      refine ⟨h1, fun j hj => ?_⟩
      have hj : j < 5 := hj
      rcases (show j = 0 ∨ j = 1 ∨ j = 2 ∨ j = 3 ∨ j = 4 by omega) with rfl | rfl | rfl | rfl | rfl
      · exact c0
      · exact c1
      · exact c2
      · exact c3
      · exact c4
  rw [bI_iff e]
  exact md_isW5 E hp hb hn hl hf (l0 := 99) (l1 := 104) (l2 := 105) (l3 := 108) (l4 := 100) (by decide) (by decide) (by decide) (by decide) (by decide) (by decide) (by decide) (by decide) (by decide) (by decide)
theorem md_w7 (hp : ∀ j, p j < 256) (hb : ∀ j, S.2.2 24 j = nI (p j)) (hn : n ≤ 100) (hl : S.2.2 25 0 = nI n) {f : Nat} (hf : f ≤ n) : f_MD_isWord E (.ref 71) (.int 116) (.int 114) (.int 97) (.int 100) (.int 101) (.int 114) (.int 0) (mk (TP 25 3 S T H (nI f) (nI (en p n f)) v 0)) = some (some (.int (bI (isw p n f 7 = true))), mk (TP 25 3 S T H (nI f) (nI (en p n f)) v 0)) := by
  have e : (isw p n f 7 = true) ↔ (en p n f - f = 6 ∧ p f = 116 ∧ p (f + 1) = 114 ∧ p (f + 2) = 97 ∧ p (f + 3) = 100 ∧ p (f + 4) = 101 ∧ p (f + 5) = 114) := by
    rw [isw_iff]
    constructor
    · rintro ⟨h1, h2⟩
      exact ⟨h1, h2 0 (by decide), h2 1 (by decide), h2 2 (by decide), h2 3 (by decide), h2 4 (by decide), h2 5 (by decide)⟩
    · rintro ⟨h1, c0, c1, c2, c3, c4, c5⟩
      refine ⟨h1, fun j hj => ?_⟩
      have hj : j < 6 := hj
      rcases (show j = 0 ∨ j = 1 ∨ j = 2 ∨ j = 3 ∨ j = 4 ∨ j = 5 by omega) with rfl | rfl | rfl | rfl | rfl | rfl
      · exact c0
      · exact c1
      · exact c2
      · exact c3
      · exact c4
      · exact c5
  rw [bI_iff e]
  exact md_isW6 E hp hb hn hl hf (l0 := 116) (l1 := 114) (l2 := 97) (l3 := 100) (l4 := 101) (l5 := 114) (by decide) (by decide) (by decide) (by decide) (by decide) (by decide) (by decide) (by decide) (by decide) (by decide) (by decide) (by decide)
theorem md_w8 (hp : ∀ j, p j < 256) (hb : ∀ j, S.2.2 24 j = nI (p j)) (hn : n ≤ 100) (hl : S.2.2 25 0 = nI n) {f : Nat} (hf : f ≤ n) : f_MD_isWord E (.ref 71) (.int 107) (.int 101) (.int 101) (.int 112) (.int 101) (.int 114) (.int 0) (mk (TP 25 3 S T H (nI f) (nI (en p n f)) v 0)) = some (some (.int (bI (isw p n f 8 = true))), mk (TP 25 3 S T H (nI f) (nI (en p n f)) v 0)) := by
  have e : (isw p n f 8 = true) ↔ (en p n f - f = 6 ∧ p f = 107 ∧ p (f + 1) = 101 ∧ p (f + 2) = 101 ∧ p (f + 3) = 112 ∧ p (f + 4) = 101 ∧ p (f + 5) = 114) := by
    rw [isw_iff]
    constructor
    · rintro ⟨h1, h2⟩
      exact ⟨h1, h2 0 (by decide), h2 1 (by decide), h2 2 (by decide), h2 3 (by decide), h2 4 (by decide), h2 5 (by decide)⟩
    · rintro ⟨h1, c0, c1, c2, c3, c4, c5⟩
      refine ⟨h1, fun j hj => ?_⟩
      have hj : j < 6 := hj
      rcases (show j = 0 ∨ j = 1 ∨ j = 2 ∨ j = 3 ∨ j = 4 ∨ j = 5 by omega) with rfl | rfl | rfl | rfl | rfl | rfl
      · exact c0
      · exact c1
      · exact c2
      · exact c3
      · exact c4
      · exact c5
  rw [bI_iff e]
  exact md_isW6 E hp hb hn hl hf (l0 := 107) (l1 := 101) (l2 := 101) (l3 := 112) (l4 := 101) (l5 := 114) (by decide) (by decide) (by decide) (by decide) (by decide) (by decide) (by decide) (by decide) (by decide) (by decide) (by decide) (by decide)
theorem md_w9 (hp : ∀ j, p j < 256) (hb : ∀ j, S.2.2 24 j = nI (p j)) (hn : n ≤ 100) (hl : S.2.2 25 0 = nI n) {f : Nat} (hf : f ≤ n) : f_MD_isWord E (.ref 71) (.int 112) (.int 101) (.int 114) (.int 115) (.int 111) (.int 110) (.int 0) (mk (TP 25 3 S T H (nI f) (nI (en p n f)) v 0)) = some (some (.int (bI (isw p n f 9 = true))), mk (TP 25 3 S T H (nI f) (nI (en p n f)) v 0)) := by
  have e : (isw p n f 9 = true) ↔ (en p n f - f = 6 ∧ p f = 112 ∧ p (f + 1) = 101 ∧ p (f + 2) = 114 ∧ p (f + 3) = 115 ∧ p (f + 4) = 111 ∧ p (f + 5) = 110) := by
    rw [isw_iff]
    constructor
    · rintro ⟨h1, h2⟩
      exact ⟨h1, h2 0 (by decide), h2 1 (by decide), h2 2 (by decide), h2 3 (by decide), h2 4 (by decide), h2 5 (by decide)⟩
    · rintro ⟨h1, c0, c1, c2, c3, c4, c5⟩
      refine ⟨h1, fun j hj => ?_⟩
      have hj : j < 6 := hj
      rcases (show j = 0 ∨ j = 1 ∨ j = 2 ∨ j = 3 ∨ j = 4 ∨ j = 5 by omega) with rfl | rfl | rfl | rfl | rfl | rfl
      · exact c0
      · exact c1
      · exact c2
      · exact c3
      · exact c4
      · exact c5
  rw [bI_iff e]
  exact md_isW6 E hp hb hn hl hf (l0 := 112) (l1 := 101) (l2 := 114) (l3 := 115) (l4 := 111) (l5 := 110) (by decide) (by decide) (by decide) (by decide) (by decide) (by decide) (by decide) (by decide) (by decide) (by decide) (by decide) (by decide)
set_option maxRecDepth 100000 in
set_option maxHeartbeats 4000000 in
theorem md_wW (x1 x2 x3 x4 x5 x6 x7 : Int32) : f_MD_isWord E (.ref 71) (.int x1) (.int x2) (.int x3) (.int x4) (.int x5) (.int x6) (.int x7) (mk (TP 25 3 S T H a b v 1)) = some (some (.int 0), mk (TP 25 3 S T H a b v 1)) := by
  simp (disch := first | omega | exact hB _ _ | assumption | decide) only [e_MD_isWord, st_MD_isWord, i_ne, ite_self, mr_md E _, mw_f59_1, mw_f59_2, mw_f59_3, mw_f59_4, mw_f59_5, mw_f71_11, mw_f71_12, mw_f71_13, mw_f71_14, mw_f71_15, TP_T, TP_H, TP_Tn, TP_Hn, TP_fn, TP_f0, TP_f1, TP_f2, TP_f3, TP_f4, TP_w1, TP_w2, TP_w3, TP_w4, TP_wT, TP_wH, Bool.false_eq_true, n_10, true_and, and_true, false_and, and_false, Nat.not_lt_zero, true_or, or_true, eq_self, mm_z, mm_rs, sw_xc_ite, sw_xv_ite, n_m1, Nat.lt_irrefl, not_false_eq_true, not_true_eq_false, inS_0, inS_1, ite_not, sw_xv_some, sw_xm_some, sw_xc_some, sw_xc_void, if_true, if_false, reduceIte, bI_0, bI_01, bI_1, nt_or, Nat.reduceAdd, n_add, n_mul, n_addL, n_Ladd, n_mulL, n_Lmul, n_sub, n_subL, n_lt, n_eq, n_ltL, n_Llt, n_eqL, n_Leq, n_nneg, n_pos]
end MT2
