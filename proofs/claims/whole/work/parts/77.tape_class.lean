/-! ===== the class's tape ===== -/
section CT
variable (E : sw_E) (M : sw_M)
set_option maxRecDepth 100000 in
set_option maxHeartbeats 4000000 in
theorem c_isLetter {b : Nat} (hb : b < 256) : f_Tape_isLetter E (.int (nI b)) M = some (some (.int (bI (isLt b = true))), M) := by
  by_cases h1 : b < 97
  · have h : (isLt b = true) ↔ False := by unfold isLt; simp; omega
    simp (disch := first | omega | exact hB _ _ | assumption | decide) only [e_Tape_isLetter, st_Tape_isLetter, h1, h, Bool.false_eq_true, n_10, true_and, and_true, false_and, and_false, Nat.not_lt_zero, true_or, or_true, eq_self, mm_z, mm_rs, sw_xc_ite, sw_xv_ite, n_m1, Nat.lt_irrefl, not_false_eq_true, not_true_eq_false, inS_0, inS_1, ite_not, sw_xv_some, sw_xm_some, sw_xc_some, sw_xc_void, if_true, if_false, reduceIte, bI_0, bI_01, n_add, n_mul, n_addL, n_Ladd, n_mulL, n_Lmul, n_sub, n_subL, n_lt, n_eq, n_ltL, n_Llt, n_eqL, n_Leq, n_nneg, n_pos]
    rfl
  · by_cases h2 : 122 < b
    · have h : (isLt b = true) ↔ False := by unfold isLt; simp; omega
      simp (disch := first | omega | exact hB _ _ | assumption | decide) only [e_Tape_isLetter, st_Tape_isLetter, h1, h2, h, Bool.false_eq_true, n_10, true_and, and_true, false_and, and_false, Nat.not_lt_zero, true_or, or_true, eq_self, mm_z, mm_rs, sw_xc_ite, sw_xv_ite, n_m1, Nat.lt_irrefl, not_false_eq_true, not_true_eq_false, inS_0, inS_1, ite_not, sw_xv_some, sw_xm_some, sw_xc_some, sw_xc_void, if_true, if_false, reduceIte, bI_0, bI_01, n_add, n_mul, n_addL, n_Ladd, n_mulL, n_Lmul, n_sub, n_subL, n_lt, n_eq, n_ltL, n_Llt, n_eqL, n_Leq, n_nneg, n_pos]
      rfl
    · have h : (isLt b = true) ↔ True := by unfold isLt; simp; omega
      simp (disch := first | omega | exact hB _ _ | assumption | decide) only [e_Tape_isLetter, st_Tape_isLetter, h1, h2, h, Bool.false_eq_true, n_10, true_and, and_true, false_and, and_false, Nat.not_lt_zero, true_or, or_true, eq_self, mm_z, mm_rs, sw_xc_ite, sw_xv_ite, n_m1, Nat.lt_irrefl, not_false_eq_true, not_true_eq_false, inS_0, inS_1, ite_not, sw_xv_some, sw_xm_some, sw_xc_some, sw_xc_void, if_true, if_false, reduceIte, bI_0, bI_01, n_add, n_mul, n_addL, n_Ladd, n_mulL, n_Lmul, n_sub, n_subL, n_lt, n_eq, n_ltL, n_Llt, n_eqL, n_Leq, n_nneg, n_pos]
      rfl
set_option maxRecDepth 100000 in
set_option maxHeartbeats 4000000 in
theorem c_isDigit {b : Nat} (hb : b < 256) : f_Tape_isDigit E (.int (nI b)) M = some (some (.int (bI (isDg b = true))), M) := by
  by_cases h1 : b < 48
  · have h : (isDg b = true) ↔ False := by unfold isDg; simp; omega
    simp (disch := first | omega | exact hB _ _ | assumption | decide) only [e_Tape_isDigit, st_Tape_isDigit, h1, h, Bool.false_eq_true, n_10, true_and, and_true, false_and, and_false, Nat.not_lt_zero, true_or, or_true, eq_self, mm_z, mm_rs, sw_xc_ite, sw_xv_ite, n_m1, Nat.lt_irrefl, not_false_eq_true, not_true_eq_false, inS_0, inS_1, ite_not, sw_xv_some, sw_xm_some, sw_xc_some, sw_xc_void, if_true, if_false, reduceIte, bI_0, bI_01, n_add, n_mul, n_addL, n_Ladd, n_mulL, n_Lmul, n_sub, n_subL, n_lt, n_eq, n_ltL, n_Llt, n_eqL, n_Leq, n_nneg, n_pos]
    rfl
  · by_cases h2 : 57 < b
    · have h : (isDg b = true) ↔ False := by unfold isDg; simp; omega
      simp (disch := first | omega | exact hB _ _ | assumption | decide) only [e_Tape_isDigit, st_Tape_isDigit, h1, h2, h, Bool.false_eq_true, n_10, true_and, and_true, false_and, and_false, Nat.not_lt_zero, true_or, or_true, eq_self, mm_z, mm_rs, sw_xc_ite, sw_xv_ite, n_m1, Nat.lt_irrefl, not_false_eq_true, not_true_eq_false, inS_0, inS_1, ite_not, sw_xv_some, sw_xm_some, sw_xc_some, sw_xc_void, if_true, if_false, reduceIte, bI_0, bI_01, n_add, n_mul, n_addL, n_Ladd, n_mulL, n_Lmul, n_sub, n_subL, n_lt, n_eq, n_ltL, n_Llt, n_eqL, n_Leq, n_nneg, n_pos]
      rfl
    · have h : (isDg b = true) ↔ True := by unfold isDg; simp; omega
      simp (disch := first | omega | exact hB _ _ | assumption | decide) only [e_Tape_isDigit, st_Tape_isDigit, h1, h2, h, Bool.false_eq_true, n_10, true_and, and_true, false_and, and_false, Nat.not_lt_zero, true_or, or_true, eq_self, mm_z, mm_rs, sw_xc_ite, sw_xv_ite, n_m1, Nat.lt_irrefl, not_false_eq_true, not_true_eq_false, inS_0, inS_1, ite_not, sw_xv_some, sw_xm_some, sw_xc_some, sw_xc_void, if_true, if_false, reduceIte, bI_0, bI_01, n_add, n_mul, n_addL, n_Ladd, n_mulL, n_Lmul, n_sub, n_subL, n_lt, n_eq, n_ltL, n_Llt, n_eqL, n_Leq, n_nneg, n_pos]
      rfl
end CT
section CT2
variable (E : sw_E) {S : sw_S} {T : Nat → Nat → Nat} {H : Nat → Int64} {a b c d : Int32} {p : Nat → Nat} {n : Nat}
set_option maxRecDepth 100000 in
set_option maxHeartbeats 4000000 in
theorem c_st0 (hp : ∀ j, p j < 256) (hb : ∀ j, S.2.2 4 j = nI (p j)) (hn : n ≤ 100) (hl : S.2.2 5 0 = nI n) : ∀ m i, n - i ≤ m → i ≤ n → h_Tape_step_0 E [.ref 59] (mk (TP 5 2 S T H a (nI i) c d)) = sw_ex E 34 46 [.ref 59] [] (mk (TP 5 2 S T H a (nI (sp p n i)) c d))
  | m, i, hm, hi => by
    have h45 : 4 ≠ 5 := by decide
    by_cases h1 : i < n
    · have hpi := hp i
      have hi100 : i < 100 := by omega
      by_cases h2 : p i = 32
      · cases m with
        | zero => omega
        | succ m =>
          have ih := c_st0 hp hb hn hl m (i + 1) (by omega) (by omega)
          have e : sp p n i = sp p n (i + 1) := run_y h1 (decide_eq_true h2)
          rw [u_Tape_step_0]
          simp (disch := first | omega | exact hB _ _ | assumption | decide) only [st_Tape_step, h1, h2, hb, hl, ih, e, mr_cl E _, mw_f59_1, mw_f59_2, mw_f59_3, mw_f59_4, mw_f59_5, mw_f71_11, mw_f71_12, mw_f71_13, mw_f71_14, mw_f71_15, TP_T, TP_H, TP_Tn, TP_Hn, TP_fn, TP_f0, TP_f1, TP_f2, TP_f3, TP_f4, TP_w1, TP_w2, TP_w3, TP_w4, TP_wT, TP_wH, Bool.false_eq_true, n_10, true_and, and_true, false_and, and_false, Nat.not_lt_zero, true_or, or_true, eq_self, mm_z, mm_rs, sw_xc_ite, sw_xv_ite, n_m1, Nat.lt_irrefl, not_false_eq_true, not_true_eq_false, inS_0, inS_1, ite_not, sw_xv_some, sw_xm_some, sw_xc_some, sw_xc_void, if_true, if_false, reduceIte, bI_0, bI_01, bI_1, nt_or, Nat.reduceAdd, n_add, n_mul, n_addL, n_Ladd, n_mulL, n_Lmul, n_sub, n_subL, n_lt, n_eq, n_ltL, n_Llt, n_eqL, n_Leq, n_nneg, n_pos]
      · have e : sp p n i = i := run_n h1 (by simpa using h2)
        rw [u_Tape_step_0]
        simp (disch := first | omega | exact hB _ _ | assumption | decide) only [st_Tape_step, h1, h2, hb, hl, e, mr_cl E _, mw_f59_1, mw_f59_2, mw_f59_3, mw_f59_4, mw_f59_5, mw_f71_11, mw_f71_12, mw_f71_13, mw_f71_14, mw_f71_15, TP_T, TP_H, TP_Tn, TP_Hn, TP_fn, TP_f0, TP_f1, TP_f2, TP_f3, TP_f4, TP_w1, TP_w2, TP_w3, TP_w4, TP_wT, TP_wH, Bool.false_eq_true, n_10, true_and, and_true, false_and, and_false, Nat.not_lt_zero, true_or, or_true, eq_self, mm_z, mm_rs, sw_xc_ite, sw_xv_ite, n_m1, Nat.lt_irrefl, not_false_eq_true, not_true_eq_false, inS_0, inS_1, ite_not, sw_xv_some, sw_xm_some, sw_xc_some, sw_xc_void, if_true, if_false, reduceIte, bI_0, bI_01, bI_1, nt_or, Nat.reduceAdd, n_add, n_mul, n_addL, n_Ladd, n_mulL, n_Lmul, n_sub, n_subL, n_lt, n_eq, n_ltL, n_Llt, n_eqL, n_Leq, n_nneg, n_pos]
    · have e : sp p n i = i := run_e h1
      rw [u_Tape_step_0]
      simp (disch := first | omega | exact hB _ _ | assumption | decide) only [st_Tape_step, h1, hb, hl, e, mr_cl E _, mw_f59_1, mw_f59_2, mw_f59_3, mw_f59_4, mw_f59_5, mw_f71_11, mw_f71_12, mw_f71_13, mw_f71_14, mw_f71_15, TP_T, TP_H, TP_Tn, TP_Hn, TP_fn, TP_f0, TP_f1, TP_f2, TP_f3, TP_f4, TP_w1, TP_w2, TP_w3, TP_w4, TP_wT, TP_wH, Bool.false_eq_true, n_10, true_and, and_true, false_and, and_false, Nat.not_lt_zero, true_or, or_true, eq_self, mm_z, mm_rs, sw_xc_ite, sw_xv_ite, n_m1, Nat.lt_irrefl, not_false_eq_true, not_true_eq_false, inS_0, inS_1, ite_not, sw_xv_some, sw_xm_some, sw_xc_some, sw_xc_void, if_true, if_false, reduceIte, bI_0, bI_01, bI_1, nt_or, Nat.reduceAdd, n_add, n_mul, n_addL, n_Ladd, n_mulL, n_Lmul, n_sub, n_subL, n_lt, n_eq, n_ltL, n_Llt, n_eqL, n_Leq, n_nneg, n_pos]
set_option maxRecDepth 100000 in
set_option maxHeartbeats 4000000 in
theorem c_st1 (hp : ∀ j, p j < 256) (hb : ∀ j, S.2.2 4 j = nI (p j)) (hn : n ≤ 100) (hl : S.2.2 5 0 = nI n) : ∀ m i, n - i ≤ m → i ≤ n → h_Tape_step_1 E [.ref 59] (mk (TP 5 2 S T H a b (nI i) d)) = some (none, mk (TP 5 2 S T H a b (nI (run (fun j => isLt (p j)) n i)) d))
  | m, i, hm, hi => by
    have h45 : 4 ≠ 5 := by decide
    by_cases h1 : i < n
    · have hpi := hp i
      have hi100 : i < 100 := by omega
      by_cases h2 : isLt (p i) = true
      · cases m with
        | zero => omega
        | succ m =>
          have ih := c_st1 hp hb hn hl m (i + 1) (by omega) (by omega)
          have e : run (fun j => isLt (p j)) n i = run (fun j => isLt (p j)) n (i + 1) := run_y h1 h2
          rw [u_Tape_step_1]
          simp (disch := first | omega | exact hB _ _ | assumption | decide) only [st_Tape_step, h1, h2, hb, hl, ih, e, c_isLetter, mr_cl E _, mw_f59_1, mw_f59_2, mw_f59_3, mw_f59_4, mw_f59_5, mw_f71_11, mw_f71_12, mw_f71_13, mw_f71_14, mw_f71_15, TP_T, TP_H, TP_Tn, TP_Hn, TP_fn, TP_f0, TP_f1, TP_f2, TP_f3, TP_f4, TP_w1, TP_w2, TP_w3, TP_w4, TP_wT, TP_wH, Bool.false_eq_true, n_10, true_and, and_true, false_and, and_false, Nat.not_lt_zero, true_or, or_true, eq_self, mm_z, mm_rs, sw_xc_ite, sw_xv_ite, n_m1, Nat.lt_irrefl, not_false_eq_true, not_true_eq_false, inS_0, inS_1, ite_not, sw_xv_some, sw_xm_some, sw_xc_some, sw_xc_void, if_true, if_false, reduceIte, bI_0, bI_01, bI_1, nt_or, Nat.reduceAdd, n_add, n_mul, n_addL, n_Ladd, n_mulL, n_Lmul, n_sub, n_subL, n_lt, n_eq, n_ltL, n_Llt, n_eqL, n_Leq, n_nneg, n_pos]
      · have e : run (fun j => isLt (p j)) n i = i := run_n h1 h2
        rw [u_Tape_step_1]
        simp (disch := first | omega | exact hB _ _ | assumption | decide) only [st_Tape_step, h1, h2, hb, hl, e, c_isLetter, mr_cl E _, mw_f59_1, mw_f59_2, mw_f59_3, mw_f59_4, mw_f59_5, mw_f71_11, mw_f71_12, mw_f71_13, mw_f71_14, mw_f71_15, TP_T, TP_H, TP_Tn, TP_Hn, TP_fn, TP_f0, TP_f1, TP_f2, TP_f3, TP_f4, TP_w1, TP_w2, TP_w3, TP_w4, TP_wT, TP_wH, Bool.false_eq_true, n_10, true_and, and_true, false_and, and_false, Nat.not_lt_zero, true_or, or_true, eq_self, mm_z, mm_rs, sw_xc_ite, sw_xv_ite, n_m1, Nat.lt_irrefl, not_false_eq_true, not_true_eq_false, inS_0, inS_1, ite_not, sw_xv_some, sw_xm_some, sw_xc_some, sw_xc_void, if_true, if_false, reduceIte, bI_0, bI_01, bI_1, nt_or, Nat.reduceAdd, n_add, n_mul, n_addL, n_Ladd, n_mulL, n_Lmul, n_sub, n_subL, n_lt, n_eq, n_ltL, n_Llt, n_eqL, n_Leq, n_nneg, n_pos]
    · have e : run (fun j => isLt (p j)) n i = i := run_e h1
      rw [u_Tape_step_1]
      simp (disch := first | omega | exact hB _ _ | assumption | decide) only [st_Tape_step, h1, hb, hl, e, mr_cl E _, mw_f59_1, mw_f59_2, mw_f59_3, mw_f59_4, mw_f59_5, mw_f71_11, mw_f71_12, mw_f71_13, mw_f71_14, mw_f71_15, TP_T, TP_H, TP_Tn, TP_Hn, TP_fn, TP_f0, TP_f1, TP_f2, TP_f3, TP_f4, TP_w1, TP_w2, TP_w3, TP_w4, TP_wT, TP_wH, Bool.false_eq_true, n_10, true_and, and_true, false_and, and_false, Nat.not_lt_zero, true_or, or_true, eq_self, mm_z, mm_rs, sw_xc_ite, sw_xv_ite, n_m1, Nat.lt_irrefl, not_false_eq_true, not_true_eq_false, inS_0, inS_1, ite_not, sw_xv_some, sw_xm_some, sw_xc_some, sw_xc_void, if_true, if_false, reduceIte, bI_0, bI_01, bI_1, nt_or, Nat.reduceAdd, n_add, n_mul, n_addL, n_Ladd, n_mulL, n_Lmul, n_sub, n_subL, n_lt, n_eq, n_ltL, n_Llt, n_eqL, n_Leq, n_nneg, n_pos]
set_option maxRecDepth 100000 in
set_option maxHeartbeats 4000000 in
theorem c_sd (hp : ∀ j, p j < 256) (hb : ∀ j, S.2.2 4 j = nI (p j)) (hn : n ≤ 100) (hl : S.2.2 5 0 = nI n) : ∀ m i v, n - i ≤ m → i ≤ n → v ≤ 100207 → h_Tape_stepOverDigits_0 E [.ref 59] (mk (TP 5 2 S T H a b (nI i) (nI v))) = some (none, mk (TP 5 2 S T H a b (nI (run (fun j => isDg (p j)) n i)) (nI (nv p (run (fun j => isDg (p j)) n i - i) i v))))
  | m, i, v, hm, hi, hv => by
    have h45 : 4 ≠ 5 := by decide
    by_cases h1 : i < n
    · have hpi := hp i
      have hi100 : i < 100 := by omega
      by_cases h2 : isDg (p i) = true
      · cases m with
        | zero => omega
        | succ m =>
          have h3 : 48 ≤ p i := by
            have := h2
            unfold isDg at this
            simp at this
            exact this.1
          have e : run (fun j => isDg (p j)) n i = run (fun j => isDg (p j)) n (i + 1) := run_y h1 h2
          have hr := run_le (q := fun j => isDg (p j)) (n := n) (i := i + 1) h1
          have e2 : run (fun j => isDg (p j)) n (i + 1) - i = run (fun j => isDg (p j)) n (i + 1) - (i + 1) + 1 := by omega
          rw [e, e2, u_Tape_stepOverDigits_0]
          by_cases h4 : 9999 < v
          · have ih := c_sd hp hb hn hl m (i + 1) v (by omega) (by omega) hv
            have e3 : nv p (run (fun j => isDg (p j)) n (i + 1) - (i + 1) + 1) i v = nv p (run (fun j => isDg (p j)) n (i + 1) - (i + 1)) (i + 1) v := by
              show nv p _ (i + 1) (if 9999 < v then v else v * 10 + p i - 48) = _
              rw [if_pos h4]
            simp (disch := first | omega | exact hB _ _ | assumption | decide) only [st_Tape_stepOverDigits, h1, h2, h4, hb, hl, ih, e3, c_isDigit, mr_cl E _, mw_f59_1, mw_f59_2, mw_f59_3, mw_f59_4, mw_f59_5, mw_f71_11, mw_f71_12, mw_f71_13, mw_f71_14, mw_f71_15, TP_T, TP_H, TP_Tn, TP_Hn, TP_fn, TP_f0, TP_f1, TP_f2, TP_f3, TP_f4, TP_w1, TP_w2, TP_w3, TP_w4, TP_wT, TP_wH, Bool.false_eq_true, n_10, true_and, and_true, false_and, and_false, Nat.not_lt_zero, true_or, or_true, eq_self, mm_z, mm_rs, sw_xc_ite, sw_xv_ite, n_m1, Nat.lt_irrefl, not_false_eq_true, not_true_eq_false, inS_0, inS_1, ite_not, sw_xv_some, sw_xm_some, sw_xc_some, sw_xc_void, if_true, if_false, reduceIte, bI_0, bI_01, bI_1, nt_or, Nat.reduceAdd, n_add, n_mul, n_addL, n_Ladd, n_mulL, n_Lmul, n_sub, n_subL, n_lt, n_eq, n_ltL, n_Llt, n_eqL, n_Leq, n_nneg, n_pos]
          · have ih := c_sd hp hb hn hl m (i + 1) (v * 10 + p i - 48) (by omega) (by omega) (by omega)
            have e3 : nv p (run (fun j => isDg (p j)) n (i + 1) - (i + 1) + 1) i v = nv p (run (fun j => isDg (p j)) n (i + 1) - (i + 1)) (i + 1) (v * 10 + p i - 48) := by
              show nv p _ (i + 1) (if 9999 < v then v else v * 10 + p i - 48) = _
              rw [if_neg h4]
            simp (disch := first | omega | exact hB _ _ | assumption | decide) only [st_Tape_stepOverDigits, h1, h2, h4, hb, hl, ih, e3, c_isDigit, mr_cl E _, mw_f59_1, mw_f59_2, mw_f59_3, mw_f59_4, mw_f59_5, mw_f71_11, mw_f71_12, mw_f71_13, mw_f71_14, mw_f71_15, TP_T, TP_H, TP_Tn, TP_Hn, TP_fn, TP_f0, TP_f1, TP_f2, TP_f3, TP_f4, TP_w1, TP_w2, TP_w3, TP_w4, TP_wT, TP_wH, Bool.false_eq_true, n_10, true_and, and_true, false_and, and_false, Nat.not_lt_zero, true_or, or_true, eq_self, mm_z, mm_rs, sw_xc_ite, sw_xv_ite, n_m1, Nat.lt_irrefl, not_false_eq_true, not_true_eq_false, inS_0, inS_1, ite_not, sw_xv_some, sw_xm_some, sw_xc_some, sw_xc_void, if_true, if_false, reduceIte, bI_0, bI_01, bI_1, nt_or, Nat.reduceAdd, n_add, n_mul, n_addL, n_Ladd, n_mulL, n_Lmul, n_sub, n_subL, n_lt, n_eq, n_ltL, n_Llt, n_eqL, n_Leq, n_nneg, n_pos]
      · have e : run (fun j => isDg (p j)) n i = i := run_n h1 h2
        rw [e, Nat.sub_self, u_Tape_stepOverDigits_0]
        simp (disch := first | omega | exact hB _ _ | assumption | decide) only [st_Tape_stepOverDigits, h1, h2, hb, hl, c_isDigit, mr_cl E _, mw_f59_1, mw_f59_2, mw_f59_3, mw_f59_4, mw_f59_5, mw_f71_11, mw_f71_12, mw_f71_13, mw_f71_14, mw_f71_15, TP_T, TP_H, TP_Tn, TP_Hn, TP_fn, TP_f0, TP_f1, TP_f2, TP_f3, TP_f4, TP_w1, TP_w2, TP_w3, TP_w4, TP_wT, TP_wH, Bool.false_eq_true, n_10, true_and, and_true, false_and, and_false, Nat.not_lt_zero, true_or, or_true, eq_self, mm_z, mm_rs, sw_xc_ite, sw_xv_ite, n_m1, Nat.lt_irrefl, not_false_eq_true, not_true_eq_false, inS_0, inS_1, ite_not, sw_xv_some, sw_xm_some, sw_xc_some, sw_xc_void, if_true, if_false, reduceIte, bI_0, bI_01, bI_1, nt_or, Nat.reduceAdd, n_add, n_mul, n_addL, n_Ladd, n_mulL, n_Lmul, n_sub, n_subL, n_lt, n_eq, n_ltL, n_Llt, n_eqL, n_Leq, n_nneg, n_pos]
        rfl
    · have e : run (fun j => isDg (p j)) n i = i := run_e h1
      rw [e, Nat.sub_self, u_Tape_stepOverDigits_0]
      simp (disch := first | omega | exact hB _ _ | assumption | decide) only [st_Tape_stepOverDigits, h1, hb, hl, mr_cl E _, mw_f59_1, mw_f59_2, mw_f59_3, mw_f59_4, mw_f59_5, mw_f71_11, mw_f71_12, mw_f71_13, mw_f71_14, mw_f71_15, TP_T, TP_H, TP_Tn, TP_Hn, TP_fn, TP_f0, TP_f1, TP_f2, TP_f3, TP_f4, TP_w1, TP_w2, TP_w3, TP_w4, TP_wT, TP_wH, Bool.false_eq_true, n_10, true_and, and_true, false_and, and_false, Nat.not_lt_zero, true_or, or_true, eq_self, mm_z, mm_rs, sw_xc_ite, sw_xv_ite, n_m1, Nat.lt_irrefl, not_false_eq_true, not_true_eq_false, inS_0, inS_1, ite_not, sw_xv_some, sw_xm_some, sw_xc_some, sw_xc_void, if_true, if_false, reduceIte, bI_0, bI_01, bI_1, nt_or, Nat.reduceAdd, n_add, n_mul, n_addL, n_Ladd, n_mulL, n_Lmul, n_sub, n_subL, n_lt, n_eq, n_ltL, n_Llt, n_eqL, n_Leq, n_nneg, n_pos]
      rfl
set_option maxRecDepth 100000 in
set_option maxHeartbeats 4000000 in
theorem c_step (hp : ∀ j, p j < 256) (hb : ∀ j, S.2.2 4 j = nI (p j)) (hn : n ≤ 100) (hl : S.2.2 5 0 = nI n) {i : Nat} (hi : i ≤ n) : f_Tape_step E (.ref 59) (mk (TP 5 2 S T H a b (nI i) d)) = some (none, mk (TP 5 2 S T H (nI (tk p n (sp p n i))) (nI (sp p n i)) (nI (en p n (sp p n i))) (dd p n (sp p n i) d))) := by
  have h45 : 4 ≠ 5 := by decide
  have k0 := c_st0 E (T := T) (H := H) (a := a) (c := nI i) (d := d) hp hb hn hl n i (by omega) hi
  have hf : sp p n i ≤ n := (run_le hi).2
  generalize sp p n i = f at *
  by_cases h1 : f < n
  · have hpi := hp f
    have hi100 : f < 100 := by omega
    by_cases h2 : isLt (p f) = true
    · have k1 := c_st1 E (T := T) (H := H) (a := 1) (b := nI f) (d := d) hp hb hn hl n f (by omega) hf
      have e1 : tk p n f = 1 := by unfold tk; rw [if_neg (not_not_intro h1), if_pos h2]
      have e2 : en p n f = run (fun j => isLt (p j)) n f := by unfold en; rw [if_neg (not_not_intro h1), if_pos h2]
      have e3 : dd p n f d = d := by unfold dd; rw [if_neg (by omega)]
      rw [e1, e2, e3]
      simp (disch := first | omega | exact hB _ _ | assumption | decide) only [e_Tape_step, st_Tape_step, k0, h1, h2, hb, hl, c_isLetter, k1, mr_cl E _, mw_f59_1, mw_f59_2, mw_f59_3, mw_f59_4, mw_f59_5, mw_f71_11, mw_f71_12, mw_f71_13, mw_f71_14, mw_f71_15, TP_T, TP_H, TP_Tn, TP_Hn, TP_fn, TP_f0, TP_f1, TP_f2, TP_f3, TP_f4, TP_w1, TP_w2, TP_w3, TP_w4, TP_wT, TP_wH, Bool.false_eq_true, n_10, true_and, and_true, false_and, and_false, Nat.not_lt_zero, true_or, or_true, eq_self, mm_z, mm_rs, sw_xc_ite, sw_xv_ite, n_m1, Nat.lt_irrefl, not_false_eq_true, not_true_eq_false, inS_0, inS_1, ite_not, sw_xv_some, sw_xm_some, sw_xc_some, sw_xc_void, if_true, if_false, reduceIte, bI_0, bI_01, bI_1, nt_or, Nat.reduceAdd, n_add, n_mul, n_addL, n_Ladd, n_mulL, n_Lmul, n_sub, n_subL, n_lt, n_eq, n_ltL, n_Llt, n_eqL, n_Leq, n_nneg, n_pos]
      rfl
    · by_cases h3 : isDg (p f) = true
      · have k1 := c_sd E (T := T) (H := H) (a := 2) (b := nI f) hp hb hn hl n f 0 (by omega) hf (by omega)
        have e1 : tk p n f = 2 := by unfold tk; rw [if_neg (not_not_intro h1), if_neg h2, if_pos h3]
        have e2 : en p n f = run (fun j => isDg (p j)) n f := by unfold en; rw [if_neg (not_not_intro h1), if_neg h2, if_pos h3]
        have e3 : dd p n f d = nI (nv p (run (fun j => isDg (p j)) n f - f) f 0) := by unfold dd; rw [if_pos e1]; unfold vl; rw [e2]
        have k2 : f_Tape_stepOverDigits E (.ref 59) (mk (TP 5 2 S T H 2 (nI f) (nI f) d)) = some (none, mk (TP 5 2 S T H 2 (nI f) (nI (run (fun j => isDg (p j)) n f)) (nI (nv p (run (fun j => isDg (p j)) n f - f) f 0)))) := by
          rw [← k1]
          simp (disch := first | omega | exact hB _ _ | assumption | decide) only [e_Tape_stepOverDigits, st_Tape_stepOverDigits, mr_cl E _, mw_f59_1, mw_f59_2, mw_f59_3, mw_f59_4, mw_f59_5, mw_f71_11, mw_f71_12, mw_f71_13, mw_f71_14, mw_f71_15, TP_T, TP_H, TP_Tn, TP_Hn, TP_fn, TP_f0, TP_f1, TP_f2, TP_f3, TP_f4, TP_w1, TP_w2, TP_w3, TP_w4, TP_wT, TP_wH, Bool.false_eq_true, n_10, true_and, and_true, false_and, and_false, Nat.not_lt_zero, true_or, or_true, eq_self, mm_z, mm_rs, sw_xc_ite, sw_xv_ite, n_m1, Nat.lt_irrefl, not_false_eq_true, not_true_eq_false, inS_0, inS_1, ite_not, sw_xv_some, sw_xm_some, sw_xc_some, sw_xc_void, if_true, if_false, reduceIte, bI_0, bI_01, bI_1, nt_or, Nat.reduceAdd, n_add, n_mul, n_addL, n_Ladd, n_mulL, n_Lmul, n_sub, n_subL, n_lt, n_eq, n_ltL, n_Llt, n_eqL, n_Leq, n_nneg, n_pos]
          rfl
        rw [e1, e2, e3]
        simp (disch := first | omega | exact hB _ _ | assumption | decide) only [e_Tape_step, st_Tape_step, k0, h1, h2, h3, hb, hl, c_isLetter, c_isDigit, k2, mr_cl E _, mw_f59_1, mw_f59_2, mw_f59_3, mw_f59_4, mw_f59_5, mw_f71_11, mw_f71_12, mw_f71_13, mw_f71_14, mw_f71_15, TP_T, TP_H, TP_Tn, TP_Hn, TP_fn, TP_f0, TP_f1, TP_f2, TP_f3, TP_f4, TP_w1, TP_w2, TP_w3, TP_w4, TP_wT, TP_wH, Bool.false_eq_true, n_10, true_and, and_true, false_and, and_false, Nat.not_lt_zero, true_or, or_true, eq_self, mm_z, mm_rs, sw_xc_ite, sw_xv_ite, n_m1, Nat.lt_irrefl, not_false_eq_true, not_true_eq_false, inS_0, inS_1, ite_not, sw_xv_some, sw_xm_some, sw_xc_some, sw_xc_void, if_true, if_false, reduceIte, bI_0, bI_01, bI_1, nt_or, Nat.reduceAdd, n_add, n_mul, n_addL, n_Ladd, n_mulL, n_Lmul, n_sub, n_subL, n_lt, n_eq, n_ltL, n_Llt, n_eqL, n_Leq, n_nneg, n_pos]
        rfl
      · have e2 : en p n f = f + 1 := by unfold en; rw [if_neg (not_not_intro h1), if_neg h2, if_neg h3]
        by_cases h4 : p f = 59
        · have e1 : tk p n f = 3 := by unfold tk; rw [if_neg (not_not_intro h1), if_neg h2, if_neg h3, if_pos h4]
          have e3 : dd p n f d = d := by unfold dd; rw [if_neg (by omega)]
          rw [e1, e2, e3]
          simp (disch := first | omega | exact hB _ _ | assumption | decide) only [e_Tape_step, st_Tape_step, k0, h1, h2, h3, h4, hb, hl, c_isLetter, c_isDigit, mr_cl E _, mw_f59_1, mw_f59_2, mw_f59_3, mw_f59_4, mw_f59_5, mw_f71_11, mw_f71_12, mw_f71_13, mw_f71_14, mw_f71_15, TP_T, TP_H, TP_Tn, TP_Hn, TP_fn, TP_f0, TP_f1, TP_f2, TP_f3, TP_f4, TP_w1, TP_w2, TP_w3, TP_w4, TP_wT, TP_wH, Bool.false_eq_true, n_10, true_and, and_true, false_and, and_false, Nat.not_lt_zero, true_or, or_true, eq_self, mm_z, mm_rs, sw_xc_ite, sw_xv_ite, n_m1, Nat.lt_irrefl, not_false_eq_true, not_true_eq_false, inS_0, inS_1, ite_not, sw_xv_some, sw_xm_some, sw_xc_some, sw_xc_void, if_true, if_false, reduceIte, bI_0, bI_01, bI_1, nt_or, Nat.reduceAdd, n_add, n_mul, n_addL, n_Ladd, n_mulL, n_Lmul, n_sub, n_subL, n_lt, n_eq, n_ltL, n_Llt, n_eqL, n_Leq, n_nneg, n_pos]
          rfl
        · have e1 : tk p n f = 4 := by unfold tk; rw [if_neg (not_not_intro h1), if_neg h2, if_neg h3, if_neg h4]
          have e3 : dd p n f d = d := by unfold dd; rw [if_neg (by omega)]
          rw [e1, e2, e3]
          simp (disch := first | omega | exact hB _ _ | assumption | decide) only [e_Tape_step, st_Tape_step, k0, h1, h2, h3, h4, hb, hl, c_isLetter, c_isDigit, mr_cl E _, mw_f59_1, mw_f59_2, mw_f59_3, mw_f59_4, mw_f59_5, mw_f71_11, mw_f71_12, mw_f71_13, mw_f71_14, mw_f71_15, TP_T, TP_H, TP_Tn, TP_Hn, TP_fn, TP_f0, TP_f1, TP_f2, TP_f3, TP_f4, TP_w1, TP_w2, TP_w3, TP_w4, TP_wT, TP_wH, Bool.false_eq_true, n_10, true_and, and_true, false_and, and_false, Nat.not_lt_zero, true_or, or_true, eq_self, mm_z, mm_rs, sw_xc_ite, sw_xv_ite, n_m1, Nat.lt_irrefl, not_false_eq_true, not_true_eq_false, inS_0, inS_1, ite_not, sw_xv_some, sw_xm_some, sw_xc_some, sw_xc_void, if_true, if_false, reduceIte, bI_0, bI_01, bI_1, nt_or, Nat.reduceAdd, n_add, n_mul, n_addL, n_Ladd, n_mulL, n_Lmul, n_sub, n_subL, n_lt, n_eq, n_ltL, n_Llt, n_eqL, n_Leq, n_nneg, n_pos]
          rfl
  · have e1 : tk p n f = 0 := by unfold tk; rw [if_pos h1]
    have e2 : en p n f = f := by unfold en; rw [if_pos h1]
    have e3 : dd p n f d = d := by unfold dd; rw [if_neg (by omega)]
    rw [e1, e2, e3]
    simp (disch := first | omega | exact hB _ _ | assumption | decide) only [e_Tape_step, st_Tape_step, k0, h1, hb, hl, mr_cl E _, mw_f59_1, mw_f59_2, mw_f59_3, mw_f59_4, mw_f59_5, mw_f71_11, mw_f71_12, mw_f71_13, mw_f71_14, mw_f71_15, TP_T, TP_H, TP_Tn, TP_Hn, TP_fn, TP_f0, TP_f1, TP_f2, TP_f3, TP_f4, TP_w1, TP_w2, TP_w3, TP_w4, TP_wT, TP_wH, Bool.false_eq_true, n_10, true_and, and_true, false_and, and_false, Nat.not_lt_zero, true_or, or_true, eq_self, mm_z, mm_rs, sw_xc_ite, sw_xv_ite, n_m1, Nat.lt_irrefl, not_false_eq_true, not_true_eq_false, inS_0, inS_1, ite_not, sw_xv_some, sw_xm_some, sw_xc_some, sw_xc_void, if_true, if_false, reduceIte, bI_0, bI_01, bI_1, nt_or, Nat.reduceAdd, n_add, n_mul, n_addL, n_Ladd, n_mulL, n_Lmul, n_sub, n_subL, n_lt, n_eq, n_ltL, n_Llt, n_eqL, n_Leq, n_nneg, n_pos]
    rfl
set_option maxRecDepth 100000 in
set_option maxHeartbeats 4000000 in
theorem c_isNum {f h : Nat} {x : Int32} (hx : x = nI h - 1) (hp : ∀ j, p j < 256) (hh : h < 2147483648) : f_Tape_isNumberUpTo E (.ref 59) (.int x) (mk (TP 5 2 S T H (nI (tk p n f)) b c (dd p n f d))) = some (some (.int (bI (tk p n f = 2 ∧ vl p n f < h))), mk (TP 5 2 S T H (nI (tk p n f)) b c (dd p n f d))) := by
  have h45 : 4 ≠ 5 := by decide
  have ht := tk_le p n f
  have hv : vl p n f < 2147483648 := Nat.lt_of_le_of_lt (vl_b hp f) (by decide)
  by_cases h1 : tk p n f = 2
  · have e : dd p n f d = nI (vl p n f) := by unfold dd; rw [if_pos h1]
    have e2 : (x < nI (vl p n f)) ↔ ¬ vl p n f < h := by
      have t1 : (1 : Int32).toInt = 1 := by decide
      have t2 : (nI h - 1).toInt = (h : Int) - 1 := by
        rw [fb_subI (by rw [nI_toInt hh, t1]; omega) (by rw [nI_toInt hh, t1]; omega), nI_toInt hh, t1]
      rw [hx, Int32.lt_iff_toInt_lt, t2, nI_toInt hv]
      omega
    rw [e]
    generalize vl p n f = v at *
    by_cases h2 : v < h
    · have h3 : ¬ h - 1 < v := by omega
      simp (disch := first | omega | exact hB _ _ | assumption | decide) only [e_Tape_isNumberUpTo, st_Tape_isNumberUpTo, h1, e2, h2, h3, mr_cl E _, mw_f59_1, mw_f59_2, mw_f59_3, mw_f59_4, mw_f59_5, mw_f71_11, mw_f71_12, mw_f71_13, mw_f71_14, mw_f71_15, TP_T, TP_H, TP_Tn, TP_Hn, TP_fn, TP_f0, TP_f1, TP_f2, TP_f3, TP_f4, TP_w1, TP_w2, TP_w3, TP_w4, TP_wT, TP_wH, Bool.false_eq_true, n_10, true_and, and_true, false_and, and_false, Nat.not_lt_zero, true_or, or_true, eq_self, mm_z, mm_rs, sw_xc_ite, sw_xv_ite, n_m1, Nat.lt_irrefl, not_false_eq_true, not_true_eq_false, inS_0, inS_1, ite_not, sw_xv_some, sw_xm_some, sw_xc_some, sw_xc_void, if_true, if_false, reduceIte, bI_0, bI_01, bI_1, nt_or, Nat.reduceAdd, n_add, n_mul, n_addL, n_Ladd, n_mulL, n_Lmul, n_sub, n_subL, n_lt, n_eq, n_ltL, n_Llt, n_eqL, n_Leq, n_nneg, n_pos]
      rfl
    · simp (disch := first | omega | exact hB _ _ | assumption | decide) only [e_Tape_isNumberUpTo, st_Tape_isNumberUpTo, h1, e2, h2, mr_cl E _, mw_f59_1, mw_f59_2, mw_f59_3, mw_f59_4, mw_f59_5, mw_f71_11, mw_f71_12, mw_f71_13, mw_f71_14, mw_f71_15, TP_T, TP_H, TP_Tn, TP_Hn, TP_fn, TP_f0, TP_f1, TP_f2, TP_f3, TP_f4, TP_w1, TP_w2, TP_w3, TP_w4, TP_wT, TP_wH, Bool.false_eq_true, n_10, true_and, and_true, false_and, and_false, Nat.not_lt_zero, true_or, or_true, eq_self, mm_z, mm_rs, sw_xc_ite, sw_xv_ite, n_m1, Nat.lt_irrefl, not_false_eq_true, not_true_eq_false, inS_0, inS_1, ite_not, sw_xv_some, sw_xm_some, sw_xc_some, sw_xc_void, if_true, if_false, reduceIte, bI_0, bI_01, bI_1, nt_or, Nat.reduceAdd, n_add, n_mul, n_addL, n_Ladd, n_mulL, n_Lmul, n_sub, n_subL, n_lt, n_eq, n_ltL, n_Llt, n_eqL, n_Leq, n_nneg, n_pos]
      rfl
  · simp (disch := first | omega | exact hB _ _ | assumption | decide) only [e_Tape_isNumberUpTo, st_Tape_isNumberUpTo, h1, mr_cl E _, mw_f59_1, mw_f59_2, mw_f59_3, mw_f59_4, mw_f59_5, mw_f71_11, mw_f71_12, mw_f71_13, mw_f71_14, mw_f71_15, TP_T, TP_H, TP_Tn, TP_Hn, TP_fn, TP_f0, TP_f1, TP_f2, TP_f3, TP_f4, TP_w1, TP_w2, TP_w3, TP_w4, TP_wT, TP_wH, Bool.false_eq_true, n_10, true_and, and_true, false_and, and_false, Nat.not_lt_zero, true_or, or_true, eq_self, mm_z, mm_rs, sw_xc_ite, sw_xv_ite, n_m1, Nat.lt_irrefl, not_false_eq_true, not_true_eq_false, inS_0, inS_1, ite_not, sw_xv_some, sw_xm_some, sw_xc_some, sw_xc_void, if_true, if_false, reduceIte, bI_0, bI_01, bI_1, nt_or, Nat.reduceAdd, n_add, n_mul, n_addL, n_Ladd, n_mulL, n_Lmul, n_sub, n_subL, n_lt, n_eq, n_ltL, n_Llt, n_eqL, n_Leq, n_nneg, n_pos]
    rfl
/-! the texts -/
def tbN : List (List Nat) := [[116, 104, 105, 110, 103], [114, 111, 116], [112, 97, 115, 115], [112, 97, 114, 116], [104, 111, 97, 114, 100, 101, 114], [108, 101, 110, 100, 101, 114], [99, 104, 105, 108, 100], [116, 114, 97, 100, 101, 114], [107, 101, 101, 112, 101, 114], [112, 101, 114, 115, 111, 110]]
def wl (k : Nat) : Nat := sw_tlen.getD k 0
def wb (k i : Nat) : Nat := (tbN.getD k []).getD i 0
theorem wl_b : ∀ k, k < 10 → 3 ≤ wl k ∧ wl k ≤ 7 ∧ (nI (wl k)) >>> ((0 : Int32) &&& 31) = nI (wl k) := by decide +kernel
theorem wb_b : ∀ k, k < 10 → ∀ i, i < wl k → (sw_tbyt.getD k []).getD i 0 = nI (wb k i) ∧ isLt (wb k i) = true ∧ wb k i < 256 ∧ ((nI (wb k i) &&& 255).toUInt32 % 65536).toInt32 = nI (wb k i) ∧ (nI (wb k i)).toUInt32.toUInt16.toUInt32.toInt32 = nI (wb k i) := by decide +kernel
theorem wk_1 : ∀ k, k < 10 → ∀ q, q < 10 → wl k = wl q → (∀ j, j < wl k → wb k j = wb q j) → k = q := by decide +kernel
theorem tx_rd {k : Nat} (hk : k < 10) : sw_rd E (mk S) (1010 + k) = some (.inr (9, [.ref (1030 + k), .int 0])) := by
  unfold sw_rd
  rw [if_neg (show ¬ 1010 + k < (mk S).2.2.1 from by show ¬ 1010 + k < 86; omega)]
  unfold sw_fr
  rw [if_neg (by omega), if_neg (by omega), if_pos (by omega), show 1010 + k + 20 = 1030 + k by omega]
theorem tb_fr {k : Nat} (hk : k < 10) : sw_fr E (1030 + k) = some (.inl (.byte, wl k, .inl (fun j => (sw_tbyt.getD k []).getD j 0))) := by
  unfold sw_fr
  rw [if_neg (by omega), if_neg (by omega), if_neg (by omega), if_pos (by omega), show 1030 + k - 1030 = k by omega]
  rfl
theorem tx_C {k : Nat} (hk : k < 10) : sw_isC E (mk S) (1010 + k) 9 = true ∧ sw_gF E (mk S) (1010 + k) 9 0 = some (.ref (1030 + k)) ∧ sw_gF E (mk S) (1010 + k) 9 1 = some (.int 0) := by
  unfold sw_isC sw_gF
  rw [tx_rd E hk]
  exact ⟨rfl, rfl, rfl⟩
theorem tb_ln {k : Nat} (hk : k < 10) : sw_ln E (mk S) (1030 + k) = some (.int (nI (wl k))) := by
  unfold sw_ln
  rw [if_neg (show ¬ 1030 + k < (mk S).2.2.1 from by show ¬ 1030 + k < 86; omega), tb_fr E hk]
  rfl
theorem tb_at {k i : Nat} (hk : k < 10) (hi : i < wl k) : sw_aB E (mk S) (1030 + k) (nI i) = some (.int (nI (wb k i))) := by
  have hw := wl_b k hk
  have h1 : (nI i).toNatClampNeg = i := nI_clamp (by omega)
  have h2 : ¬ nI i < 0 := nI_pos (by omega)
  unfold sw_aB
  rw [if_neg (show ¬ 1030 + k < (mk S).2.2.1 from by show ¬ 1030 + k < 86; omega), tb_fr E hk]
  simp only [h1]
  rw [if_neg (fun q => q.elim h2 (fun b => by omega)), (wb_b k hk i hi).1]
set_option maxRecDepth 100000 in
set_option maxHeartbeats 4000000 in
theorem c_strLen {k : Nat} (hk : k < 10) : f_strLength E (.ref (1010 + k)) (mk S) = some (some (.int (nI (wl k))), mk S) := by
  have st1 : sw_st E 1 = some (.int 1) := rfl
  have e := (wl_b k hk).2.2
  have z8 : ((0 : Int32).toInt8.toInt32 = 0) ↔ True := by decide
  simp (disch := first | omega | exact hB _ _ | assumption | decide) only [e_strLength, st_strLength, e_strCoder, st_strCoder, st1, tx_C E hk, tb_ln E hk, e, z8, i_ne, Bool.false_eq_true, n_10, true_and, and_true, false_and, and_false, Nat.not_lt_zero, true_or, or_true, eq_self, mm_z, mm_rs, sw_xc_ite, sw_xv_ite, n_m1, Nat.lt_irrefl, not_false_eq_true, not_true_eq_false, inS_0, inS_1, ite_not, sw_xv_some, sw_xm_some, sw_xc_some, sw_xc_void, if_true, if_false, reduceIte, bI_0, bI_01, n_add, n_mul, n_addL, n_Ladd, n_mulL, n_Lmul, n_sub, n_subL, n_lt, n_eq, n_ltL, n_Llt, n_eqL, n_Leq, n_nneg, n_pos]
set_option maxRecDepth 100000 in
set_option maxHeartbeats 4000000 in
theorem c_strAt (hE : E.2.2 = .null ∨ ∃ a, E.2.2 = .ref a) {k i : Nat} (hk : k < 10) (hi : i < wl k) : f_strCharAt E (.ref (1010 + k)) (.int (nI i)) (mk S) = some (some (.int (nI (wb k i))), mk S) := by
  have st1 : sw_st E 1 = some (.int 1) := rfl
  have hw := wl_b k hk
  obtain ⟨_, _, hb1, hb2, hb3⟩ := wb_b k hk i hi
  have ni0 : ¬ nI i < 0 := nI_pos (by omega)
  rcases hE with h | ⟨q, h⟩
  · have st2 : sw_st E 2 = some .null := by show some E.2.2 = _; rw [h]
    simp (disch := first | omega | exact hB _ _ | assumption | decide) only [e_strCharAt, st_strCharAt, e_strIsLatin1, st_strIsLatin1, e_strCharAtL, st_strCharAtL, e_checkIndex, st_checkIndex, e_checkIndexP, st_checkIndexP, st1, st2, tx_C E hk, tb_ln E hk, tb_at E hk hi, i_ne, hi, ni0, hb2, hb3, Bool.false_eq_true, n_10, true_and, and_true, false_and, and_false, Nat.not_lt_zero, true_or, or_true, eq_self, mm_z, mm_rs, sw_xc_ite, sw_xv_ite, n_m1, Nat.lt_irrefl, not_false_eq_true, not_true_eq_false, inS_0, inS_1, ite_not, sw_xv_some, sw_xm_some, sw_xc_some, sw_xc_void, if_true, if_false, reduceIte, bI_0, bI_01, n_add, n_mul, n_addL, n_Ladd, n_mulL, n_Lmul, n_sub, n_subL, n_lt, n_eq, n_ltL, n_Llt, n_eqL, n_Leq, n_nneg, n_pos]
  · have st2 : sw_st E 2 = some (.ref q) := by show some E.2.2 = _; rw [h]
    simp (disch := first | omega | exact hB _ _ | assumption | decide) only [e_strCharAt, st_strCharAt, e_strIsLatin1, st_strIsLatin1, e_strCharAtL, st_strCharAtL, e_checkIndex, st_checkIndex, e_checkIndexP, st_checkIndexP, st1, st2, tx_C E hk, tb_ln E hk, tb_at E hk hi, i_ne, hi, ni0, hb2, hb3, Bool.false_eq_true, n_10, true_and, and_true, false_and, and_false, Nat.not_lt_zero, true_or, or_true, eq_self, mm_z, mm_rs, sw_xc_ite, sw_xv_ite, n_m1, Nat.lt_irrefl, not_false_eq_true, not_true_eq_false, inS_0, inS_1, ite_not, sw_xv_some, sw_xm_some, sw_xc_some, sw_xc_void, if_true, if_false, reduceIte, bI_0, bI_01, n_add, n_mul, n_addL, n_Ladd, n_mulL, n_Lmul, n_sub, n_subL, n_lt, n_eq, n_ltL, n_Llt, n_eqL, n_Leq, n_nneg, n_pos]
def isw (p : Nat → Nat) (n f k : Nat) : Bool := decide (en p n f - f = wl k) && decide (∀ j, j < wl k → p (f + j) = wb k j)
theorem isw_iff {f k : Nat} : isw p n f k = true ↔ en p n f - f = wl k ∧ ∀ j, j < wl k → p (f + j) = wb k j := by
  unfold isw
  rw [Bool.and_eq_true, decide_eq_true_eq, decide_eq_true_eq]
theorem isw_tk {f k : Nat} (hk : k < 10) (h : isw p n f k = true) : tk p n f = 1 := by
  obtain ⟨h1, h2⟩ := isw_iff.mp h
  have hw := wl_b k hk
  have hf : f < n := by
    refine Classical.byContradiction (fun g => ?_)
    have : en p n f = f := by unfold en; rw [if_pos g]
    omega
  have h0 := h2 0 (by omega)
  unfold tk
  rw [if_neg (not_not_intro hf), if_pos (by rw [show p f = wb k 0 from h0]; exact (wb_b k hk 0 (by omega)).2.1)]
theorem isw_1 {f k q : Nat} (hk : k < 10) (hq : q < 10) (h : isw p n f k = true) (g : isw p n f q = true) : k = q := by
  obtain ⟨h1, h2⟩ := isw_iff.mp h
  obtain ⟨g1, g2⟩ := isw_iff.mp g
  exact wk_1 k hk q hq (h1.symm.trans g1) (fun j hj => (h2 j hj).symm.trans (g2 j (by rw [← g1, h1]; exact hj)))
set_option maxRecDepth 100000 in
set_option maxHeartbeats 4000000 in
theorem c_iswl (hE : E.2.2 = .null ∨ ∃ a, E.2.2 = .ref a) (hp : ∀ j, p j < 256) (hb : ∀ j, S.2.2 4 j = nI (p j)) {f k : Nat} (hk : k < 10) (hf : f + wl k ≤ 100) : ∀ m i, wl k - i ≤ m → i ≤ wl k → h_Tape_isWord_0 E [.ref 59, .ref (1010 + k), .int (nI i)] (mk (TP 5 2 S T H a (nI f) c d)) = some (some (.int (bI (∀ j, j < wl k → i ≤ j → p (f + j) = wb k j))), mk (TP 5 2 S T H a (nI f) c d))
  | m, i, hm, hi => by
    have h45 : 4 ≠ 5 := by decide
    have hw := wl_b k hk
    rw [u_Tape_isWord_0]
    by_cases h1 : i < wl k
    · have hpi := hp (f + i)
      obtain ⟨_, _, hwb, _⟩ := wb_b k hk i h1
      have hfi : f + i < 100 := by omega
      by_cases h2 : p (f + i) = wb k i
      · cases m with
        | zero => omega
        | succ m =>
          have ih := c_iswl hE hp hb hk hf m (i + 1) (by omega) (by omega)
          have e : (∀ j, j < wl k → i ≤ j → p (f + j) = wb k j) ↔ (∀ j, j < wl k → i + 1 ≤ j → p (f + j) = wb k j) := by
            constructor
            · intro h j hj hj2; exact h j hj (by omega)
            · intro h j hj hj2
              by_cases hji : j = i
              · rw [hji]; exact h2
              · exact h j hj (by omega)
          rw [bI_iff e]
          simp (disch := first | omega | exact hB _ _ | assumption | decide) only [st_Tape_isWord, c_strLen E hk, c_strAt E hE hk h1, tx_C E hk, hb, h1, h2, ih, mr_cl E _, mw_f59_1, mw_f59_2, mw_f59_3, mw_f59_4, mw_f59_5, mw_f71_11, mw_f71_12, mw_f71_13, mw_f71_14, mw_f71_15, TP_T, TP_H, TP_Tn, TP_Hn, TP_fn, TP_f0, TP_f1, TP_f2, TP_f3, TP_f4, TP_w1, TP_w2, TP_w3, TP_w4, TP_wT, TP_wH, Bool.false_eq_true, n_10, true_and, and_true, false_and, and_false, Nat.not_lt_zero, true_or, or_true, eq_self, mm_z, mm_rs, sw_xc_ite, sw_xv_ite, n_m1, Nat.lt_irrefl, not_false_eq_true, not_true_eq_false, inS_0, inS_1, ite_not, sw_xv_some, sw_xm_some, sw_xc_some, sw_xc_void, if_true, if_false, reduceIte, bI_0, bI_01, bI_1, nt_or, Nat.reduceAdd, n_add, n_mul, n_addL, n_Ladd, n_mulL, n_Lmul, n_sub, n_subL, n_lt, n_eq, n_ltL, n_Llt, n_eqL, n_Leq, n_nneg, n_pos]
      · rw [bI_f (fun h => h2 (h i h1 (Nat.le_refl _)))]
        simp (disch := first | omega | exact hB _ _ | assumption | decide) only [st_Tape_isWord, c_strLen E hk, c_strAt E hE hk h1, tx_C E hk, hb, h1, h2, mr_cl E _, mw_f59_1, mw_f59_2, mw_f59_3, mw_f59_4, mw_f59_5, mw_f71_11, mw_f71_12, mw_f71_13, mw_f71_14, mw_f71_15, TP_T, TP_H, TP_Tn, TP_Hn, TP_fn, TP_f0, TP_f1, TP_f2, TP_f3, TP_f4, TP_w1, TP_w2, TP_w3, TP_w4, TP_wT, TP_wH, Bool.false_eq_true, n_10, true_and, and_true, false_and, and_false, Nat.not_lt_zero, true_or, or_true, eq_self, mm_z, mm_rs, sw_xc_ite, sw_xv_ite, n_m1, Nat.lt_irrefl, not_false_eq_true, not_true_eq_false, inS_0, inS_1, ite_not, sw_xv_some, sw_xm_some, sw_xc_some, sw_xc_void, if_true, if_false, reduceIte, bI_0, bI_01, bI_1, nt_or, Nat.reduceAdd, n_add, n_mul, n_addL, n_Ladd, n_mulL, n_Lmul, n_sub, n_subL, n_lt, n_eq, n_ltL, n_Llt, n_eqL, n_Leq, n_nneg, n_pos]
    · rw [bI_t (fun j h3 h4 => absurd h4 (by omega))]
      simp (disch := first | omega | exact hB _ _ | assumption | decide) only [st_Tape_isWord, c_strLen E hk, tx_C E hk, hb, h1, i_ne, mr_cl E _, mw_f59_1, mw_f59_2, mw_f59_3, mw_f59_4, mw_f59_5, mw_f71_11, mw_f71_12, mw_f71_13, mw_f71_14, mw_f71_15, TP_T, TP_H, TP_Tn, TP_Hn, TP_fn, TP_f0, TP_f1, TP_f2, TP_f3, TP_f4, TP_w1, TP_w2, TP_w3, TP_w4, TP_wT, TP_wH, Bool.false_eq_true, n_10, true_and, and_true, false_and, and_false, Nat.not_lt_zero, true_or, or_true, eq_self, mm_z, mm_rs, sw_xc_ite, sw_xv_ite, n_m1, Nat.lt_irrefl, not_false_eq_true, not_true_eq_false, inS_0, inS_1, ite_not, sw_xv_some, sw_xm_some, sw_xc_some, sw_xc_void, if_true, if_false, reduceIte, bI_0, bI_01, bI_1, nt_or, Nat.reduceAdd, n_add, n_mul, n_addL, n_Ladd, n_mulL, n_Lmul, n_sub, n_subL, n_lt, n_eq, n_ltL, n_Llt, n_eqL, n_Leq, n_nneg, n_pos]
set_option maxRecDepth 100000 in
set_option maxHeartbeats 4000000 in
theorem c_isWord (hE : E.2.2 = .null ∨ ∃ a, E.2.2 = .ref a) (hp : ∀ j, p j < 256) (hb : ∀ j, S.2.2 4 j = nI (p j)) (hn : n ≤ 100) {f k : Nat} (hf : f ≤ n) (hk : k < 10) : f_Tape_isWord E (.ref 59) (.ref (1010 + k)) (mk (TP 5 2 S T H (nI (tk p n f)) (nI f) (nI (en p n f)) d)) = some (some (.int (bI (isw p n f k = true))), mk (TP 5 2 S T H (nI (tk p n f)) (nI f) (nI (en p n f)) d)) := by
  have h45 : 4 ≠ 5 := by decide
  have ht := tk_le p n f
  have hw := wl_b k hk
  have he := en_b (p := p) hf
  by_cases h1 : tk p n f = 1
  · by_cases h2 : en p n f - f = wl k
    · have ih := c_iswl E (T := T) (H := H) (a := nI (tk p n f)) (c := nI (en p n f)) (d := d) hE hp hb (f := f) hk (by omega) 7 0 (by omega) (by omega)
      have e : (isw p n f k = true) ↔ (∀ j, j < wl k → 0 ≤ j → p (f + j) = wb k j) := by
        rw [isw_iff]
        exact ⟨fun h j hj _ => h.2 j hj, fun h => ⟨h2, fun j hj => h j hj (Nat.zero_le _)⟩⟩
      rw [bI_iff e, ← ih]
      simp (disch := first | omega | exact hB _ _ | assumption | decide) only [e_Tape_isWord, st_Tape_isWord, c_strLen E hk, tx_C E hk, h1, h2, mr_cl E _, mw_f59_1, mw_f59_2, mw_f59_3, mw_f59_4, mw_f59_5, mw_f71_11, mw_f71_12, mw_f71_13, mw_f71_14, mw_f71_15, TP_T, TP_H, TP_Tn, TP_Hn, TP_fn, TP_f0, TP_f1, TP_f2, TP_f3, TP_f4, TP_w1, TP_w2, TP_w3, TP_w4, TP_wT, TP_wH, Bool.false_eq_true, n_10, true_and, and_true, false_and, and_false, Nat.not_lt_zero, true_or, or_true, eq_self, mm_z, mm_rs, sw_xc_ite, sw_xv_ite, n_m1, Nat.lt_irrefl, not_false_eq_true, not_true_eq_false, inS_0, inS_1, ite_not, sw_xv_some, sw_xm_some, sw_xc_some, sw_xc_void, if_true, if_false, reduceIte, bI_0, bI_01, bI_1, nt_or, Nat.reduceAdd, n_add, n_mul, n_addL, n_Ladd, n_mulL, n_Lmul, n_sub, n_subL, n_lt, n_eq, n_ltL, n_Llt, n_eqL, n_Leq, n_nneg, n_pos]
      rfl
    · rw [bI_f (fun h => h2 (isw_iff.mp h).1)]
      simp (disch := first | omega | exact hB _ _ | assumption | decide) only [e_Tape_isWord, st_Tape_isWord, c_strLen E hk, tx_C E hk, h1, h2, mr_cl E _, mw_f59_1, mw_f59_2, mw_f59_3, mw_f59_4, mw_f59_5, mw_f71_11, mw_f71_12, mw_f71_13, mw_f71_14, mw_f71_15, TP_T, TP_H, TP_Tn, TP_Hn, TP_fn, TP_f0, TP_f1, TP_f2, TP_f3, TP_f4, TP_w1, TP_w2, TP_w3, TP_w4, TP_wT, TP_wH, Bool.false_eq_true, n_10, true_and, and_true, false_and, and_false, Nat.not_lt_zero, true_or, or_true, eq_self, mm_z, mm_rs, sw_xc_ite, sw_xv_ite, n_m1, Nat.lt_irrefl, not_false_eq_true, not_true_eq_false, inS_0, inS_1, ite_not, sw_xv_some, sw_xm_some, sw_xc_some, sw_xc_void, if_true, if_false, reduceIte, bI_0, bI_01, bI_1, nt_or, Nat.reduceAdd, n_add, n_mul, n_addL, n_Ladd, n_mulL, n_Lmul, n_sub, n_subL, n_lt, n_eq, n_ltL, n_Llt, n_eqL, n_Leq, n_nneg, n_pos]
  · rw [bI_f (fun h => h1 (isw_tk hk h))]
    simp (disch := first | omega | exact hB _ _ | assumption | decide) only [e_Tape_isWord, st_Tape_isWord, h1, mr_cl E _, mw_f59_1, mw_f59_2, mw_f59_3, mw_f59_4, mw_f59_5, mw_f71_11, mw_f71_12, mw_f71_13, mw_f71_14, mw_f71_15, TP_T, TP_H, TP_Tn, TP_Hn, TP_fn, TP_f0, TP_f1, TP_f2, TP_f3, TP_f4, TP_w1, TP_w2, TP_w3, TP_w4, TP_wT, TP_wH, Bool.false_eq_true, n_10, true_and, and_true, false_and, and_false, Nat.not_lt_zero, true_or, or_true, eq_self, mm_z, mm_rs, sw_xc_ite, sw_xv_ite, n_m1, Nat.lt_irrefl, not_false_eq_true, not_true_eq_false, inS_0, inS_1, ite_not, sw_xv_some, sw_xm_some, sw_xc_some, sw_xc_void, if_true, if_false, reduceIte, bI_0, bI_01, bI_1, nt_or, Nat.reduceAdd, n_add, n_mul, n_addL, n_Ladd, n_mulL, n_Lmul, n_sub, n_subL, n_lt, n_eq, n_ltL, n_Llt, n_eqL, n_Leq, n_nneg, n_pos]
end CT2
