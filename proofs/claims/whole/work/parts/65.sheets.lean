/-! ===== sheets ===== -/
theorem u_at (f : Nat → Int32) (i : Nat) (x : Int32) : upd f i x i = x := by simp [upd]
theorem uL_at (f : Nat → Int64) (i : Nat) (x : Int64) : vp_updL f i x i = x := by simp [vp_updL]
/-- a row of 40, all 0 -/
def zr (H : Nat → Int64) : Nat → Int64 := lp (fun i a => vp_updL a i 0) 40 H
def inB (v : Int64) : Bool := decide (0 ≤ v) && decide (v ≤ 9999)
theorem inB_n {v : Int64} (h : inB v = true) : ∃ n, n ≤ 9999 ∧ v = lN n ∧ v.toInt.toNat = n := by
  unfold inB at h
  simp only [Bool.and_eq_true, decide_eq_true_eq] at h
  rw [Int64.le_iff_toInt_le, Int64.le_iff_toInt_le] at h
  have e0 : (0 : Int64).toInt = 0 := by decide
  have e1 : (9999 : Int64).toInt = 9999 := by decide
  refine ⟨v.toInt.toNat, by omega, ?_, rfl⟩
  apply Int64.toInt_inj.mp
  rw [lN_toInt (by omega)]
  omega
/-- numbers of a sheet are bases -/
def ly1 (R : Nat → Int64) (i : Nat) (a : Nat × (Nat → Nat → Nat)) : Nat × (Nat → Nat → Nat) := if inB (R i) = true then (a.1 + 1, mm_u a.2 4 i (R i).toInt.toNat) else a
def tw_ly (T : Nat → Nat → Nat) (R : Nat → Int64) (n : Nat) : Nat × (Nat → Nat → Nat) := lp (ly1 R) (min n (T 0 1)) (0, T)
theorem ly1_IT {R : Nat → Int64} {a : Nat × (Nat → Nat → Nat)} {i : Nat} (h : IT a.2) : IT (ly1 R i a).2 ∧ (ly1 R i a).2 0 = a.2 0 := by
  unfold ly1
  split
  · next hq =>
    obtain ⟨n, hn, _, e⟩ := inB_n hq
    exact ⟨IT_u4 h (by omega), by show mm_u a.2 4 i (R i).toInt.toNat 0 = _; exact mm_u_fn (by decide)⟩
  · exact ⟨h, rfl⟩
theorem IT_ly {T : Nat → Nat → Nat} {R : Nat → Int64} (h : IT T) {n : Nat} : IT (tw_ly T R n).2 := by
  have key := lp_inv (f := ly1 R) (P := fun _ a => IT a.2) (n := min n (T 0 1)) (a := (0, T)) h (fun i a _ hP => (ly1_IT hP).1)
  exact key
/-- numbers of a sheet are promises that are kept -/
def inP (v : Int64) (P : Nat) : Bool := decide (0 ≤ v) && decide (v < lN P)
theorem inP_n {v : Int64} {P : Nat} (hP : P ≤ 24) (h : inP v P = true) : ∃ k, k < P ∧ v = lN k ∧ v.toInt.toNat = k := by
  unfold inP at h
  simp only [Bool.and_eq_true, decide_eq_true_eq] at h
  rw [Int64.le_iff_toInt_le, Int64.lt_iff_toInt_lt, lN_toInt (by omega)] at h
  have e0 : (0 : Int64).toInt = 0 := by decide
  refine ⟨v.toInt.toNat, by omega, ?_, rfl⟩
  apply Int64.toInt_inj.mp
  rw [lN_toInt (by omega)]
  omega
def ks1 (R : Nat → Int64) (i : Nat) (a : Nat × (Nat → Nat → Nat)) : Nat × (Nat → Nat → Nat) := if inP (R i) (a.2 0 2) = true ∧ tw_can a.2 (R i).toInt.toNat = true then (a.1 + 1, (tw_kp a.2 (R i).toInt.toNat).2) else a
def tw_ks (T : Nat → Nat → Nat) (R : Nat → Int64) (n : Nat) : Nat × (Nat → Nat → Nat) := lp (ks1 R) n (0, T)
theorem ks1_IT {R : Nat → Int64} {a : Nat × (Nat → Nat → Nat)} {i : Nat} (h : IT a.2) : IT (ks1 R i a).2 ∧ (ks1 R i a).2 0 = a.2 0 := by
  unfold ks1
  split
  · next hq =>
    obtain ⟨k, hk, _, e⟩ := inP_n h.k hq.1
    rw [e]
    exact IT_kp h hk
  · exact ⟨h, rfl⟩
theorem IT_ks {T : Nat → Nat → Nat} {R : Nat → Int64} (h : IT T) {n : Nat} : IT (tw_ks T R n).2 :=
  lp_inv (f := ks1 R) (P := fun _ a => IT a.2) (n := n) (a := (0, T)) h (fun i a _ hP => (ks1_IT hP).1)
section SHT
variable (E : sw_E) (S : sw_S)
set_option maxRecDepth 100000 in
set_option maxHeartbeats 4000000 in
theorem c_sheetAt {s : Nat} (hs : s < 4) : f_SW_sheetAt E (.ref 0) (.int (nI s)) (mk S) = some (some (.ref (mm_sh s)), mk S) := by
  simp (disch := first | omega | exact hB _ _ | assumption | decide) only [e_SW_sheetAt, st_SW_sheetAt, hs, mr_sheet E S s hs, mr_cl E _, mm_pI_at, mm_pI_pI, mm_pI_2, mm_pL_1, mm_pL_at, mm_pL_pL, mm_pL_3, mm_pM_1, mm_pM_2, mm_pM_at, mm_pM_pM, mm_pI_pL, mm_pI_pM, mm_pL_pM, Bool.false_eq_true, n_10, true_and, and_true, false_and, and_false, Nat.not_lt_zero, true_or, or_true, eq_self, mm_z, mm_rs, sw_xc_ite, sw_xv_ite, n_m1, Nat.lt_irrefl, not_false_eq_true, not_true_eq_false, inS_0, inS_1, ite_not, sw_xv_some, sw_xm_some, sw_xc_some, sw_xc_void, if_true, if_false, reduceIte, bI_0, bI_01, bI_1, nt_or, Nat.reduceAdd, n_add, n_mul, n_addL, n_Ladd, n_mulL, n_Lmul, n_sub, n_subL, n_lt, n_eq, n_ltL, n_Llt, n_eqL, n_Leq, n_nneg, n_pos]
set_option maxRecDepth 100000 in
set_option maxHeartbeats 4000000 in
theorem c_sheetAtN {x : Int32} (h : ¬ ok x 4 = true) : f_SW_sheetAt E (.ref 0) (.int x) (mk S) = some (some .null, mk S) := by
  unfold ok at h
  by_cases h1 : x < 0
  · simp (disch := first | omega | exact hB _ _ | assumption | decide) only [e_SW_sheetAt, st_SW_sheetAt, h1, mr_cl E _, mm_pI_at, mm_pI_pI, mm_pI_2, mm_pL_1, mm_pL_at, mm_pL_pL, mm_pL_3, mm_pM_1, mm_pM_2, mm_pM_at, mm_pM_pM, mm_pI_pL, mm_pI_pM, mm_pL_pM, Bool.false_eq_true, n_10, true_and, and_true, false_and, and_false, Nat.not_lt_zero, true_or, or_true, eq_self, mm_z, mm_rs, sw_xc_ite, sw_xv_ite, n_m1, Nat.lt_irrefl, not_false_eq_true, not_true_eq_false, inS_0, inS_1, ite_not, sw_xv_some, sw_xm_some, sw_xc_some, sw_xc_void, if_true, if_false, reduceIte, bI_0, bI_01, bI_1, nt_or, Nat.reduceAdd, n_add, n_mul, n_addL, n_Ladd, n_mulL, n_Lmul, n_sub, n_subL, n_lt, n_eq, n_ltL, n_Llt, n_eqL, n_Leq, n_nneg, n_pos]
  · by_cases h2 : x < 4
    · exact absurd (show (decide (¬ x < 0) && decide (x < nI 4)) = true by rw [show nI 4 = 4 from rfl]; simp [h1, h2]) h
    · simp (disch := first | omega | exact hB _ _ | assumption | decide) only [e_SW_sheetAt, st_SW_sheetAt, h1, h2, mr_cl E _, mm_pI_at, mm_pI_pI, mm_pI_2, mm_pL_1, mm_pL_at, mm_pL_pL, mm_pL_3, mm_pM_1, mm_pM_2, mm_pM_at, mm_pM_pM, mm_pI_pL, mm_pI_pM, mm_pL_pM, Bool.false_eq_true, n_10, true_and, and_true, false_and, and_false, Nat.not_lt_zero, true_or, or_true, eq_self, mm_z, mm_rs, sw_xc_ite, sw_xv_ite, n_m1, Nat.lt_irrefl, not_false_eq_true, not_true_eq_false, inS_0, inS_1, ite_not, sw_xv_some, sw_xm_some, sw_xc_some, sw_xc_void, if_true, if_false, reduceIte, bI_0, bI_01, bI_1, nt_or, Nat.reduceAdd, n_add, n_mul, n_addL, n_Ladd, n_mulL, n_Lmul, n_sub, n_subL, n_lt, n_eq, n_ltL, n_Llt, n_eqL, n_Leq, n_nneg, n_pos]
theorem md_isOne (x : Int32) (M : sw_M) : f_MD_isOne E (.int x) M = some (some (.int (bI (ok x 4 = true))), M) := by
  have e := in_ok E (sw_z M) x (n := 3) (by decide)
  have e2 : ∀ p : Prop, (p ∨ ¬ p) ↔ True := fun p => ⟨fun _ => trivial, fun _ => Classical.em p⟩
  simp only [e_MD_isOne, st_MD_isOne]
  rw [show (3 : Int64) = OfNat.ofNat 3 from rfl, e]
  simp only [sw_xc_some]
  rw [st_MD_isOne E |>.2.2.2.2.2]
  rw [if_pos (bI_01.mpr trivial)]
  rfl
set_option maxRecDepth 100000 in
set_option maxHeartbeats 4000000 in
theorem md_wrong_n {x : Int32} (h : ¬ ok x 4 = true) : f_MD_wrong E (.ref 71) (.int x) (mk S) = some (some (.int (-1000000001)), mk S) := by
  simp (disch := first | omega | exact hB _ _ | assumption | decide) only [e_MD_wrong, st_MD_wrong, md_isOne, h, mr_md E _, mm_pI_at, mm_pI_pI, mm_pI_2, mm_pL_1, mm_pL_at, mm_pL_pL, mm_pL_3, mm_pM_1, mm_pM_2, mm_pM_at, mm_pM_pM, mm_pI_pL, mm_pI_pM, mm_pL_pM, Bool.false_eq_true, n_10, true_and, and_true, false_and, and_false, Nat.not_lt_zero, true_or, or_true, eq_self, mm_z, mm_rs, sw_xc_ite, sw_xv_ite, n_m1, Nat.lt_irrefl, not_false_eq_true, not_true_eq_false, inS_0, inS_1, ite_not, sw_xv_some, sw_xm_some, sw_xc_some, sw_xc_void, if_true, if_false, reduceIte, bI_0, bI_01, bI_1, nt_or, Nat.reduceAdd, n_add, n_mul, n_addL, n_Ladd, n_mulL, n_Lmul, n_sub, n_subL, n_lt, n_eq, n_ltL, n_Llt, n_eqL, n_Leq, n_nneg, n_pos]
set_option maxRecDepth 100000 in
set_option maxHeartbeats 4000000 in
theorem md_wrong_m {s : Nat} (hs : s < 4) (h : S.2.2 26 s = 0) : f_MD_wrong E (.ref 71) (.int (nI s)) (mk S) = some (some (.int (-1000000006)), mk S) := by
  have h1 : ok (nI s) 4 = true := (ok_nI (by omega) (by decide)).mpr hs
  simp (disch := first | omega | exact hB _ _ | assumption | decide) only [e_MD_wrong, st_MD_wrong, md_isOne, h1, h, mr_md E _, mm_pI_at, mm_pI_pI, mm_pI_2, mm_pL_1, mm_pL_at, mm_pL_pL, mm_pL_3, mm_pM_1, mm_pM_2, mm_pM_at, mm_pM_pM, mm_pI_pL, mm_pI_pM, mm_pL_pM, Bool.false_eq_true, n_10, true_and, and_true, false_and, and_false, Nat.not_lt_zero, true_or, or_true, eq_self, mm_z, mm_rs, sw_xc_ite, sw_xv_ite, n_m1, Nat.lt_irrefl, not_false_eq_true, not_true_eq_false, inS_0, inS_1, ite_not, sw_xv_some, sw_xm_some, sw_xc_some, sw_xc_void, if_true, if_false, reduceIte, bI_0, bI_01, bI_1, nt_or, Nat.reduceAdd, n_add, n_mul, n_addL, n_Ladd, n_mulL, n_Lmul, n_sub, n_subL, n_lt, n_eq, n_ltL, n_Llt, n_eqL, n_Leq, n_nneg, n_pos]
set_option maxRecDepth 100000 in
set_option maxHeartbeats 4000000 in
theorem md_wrong_0 {s : Nat} (hs : s < 4) (h : ¬ S.2.2 26 s = 0) : f_MD_wrong E (.ref 71) (.int (nI s)) (mk S) = some (some (.int 0), mk S) := by
  have h1 : ok (nI s) 4 = true := (ok_nI (by omega) (by decide)).mpr hs
  simp (disch := first | omega | exact hB _ _ | assumption | decide) only [e_MD_wrong, st_MD_wrong, md_isOne, h1, h, mr_md E _, mm_pI_at, mm_pI_pI, mm_pI_2, mm_pL_1, mm_pL_at, mm_pL_pL, mm_pL_3, mm_pM_1, mm_pM_2, mm_pM_at, mm_pM_pM, mm_pI_pL, mm_pI_pM, mm_pL_pM, Bool.false_eq_true, n_10, true_and, and_true, false_and, and_false, Nat.not_lt_zero, true_or, or_true, eq_self, mm_z, mm_rs, sw_xc_ite, sw_xv_ite, n_m1, Nat.lt_irrefl, not_false_eq_true, not_true_eq_false, inS_0, inS_1, ite_not, sw_xv_some, sw_xm_some, sw_xc_some, sw_xc_void, if_true, if_false, reduceIte, bI_0, bI_01, bI_1, nt_or, Nat.reduceAdd, n_add, n_mul, n_addL, n_Ladd, n_mulL, n_Lmul, n_sub, n_subL, n_lt, n_eq, n_ltL, n_Llt, n_eqL, n_Leq, n_nneg, n_pos]
set_option maxRecDepth 100000 in
set_option maxHeartbeats 4000000 in
theorem c_lay_l {s : Nat} (hs : s < 4) (a1 a2 : Value) : h_Sheet_lay_0 E [.ref (mm_sh s), a1, a2, .int 0] (mk S) = some (some (.int (S.2.2 7 s)), mk (mm_pL S (6 + s) (zr (S.2.1 (6 + s))))) := by
  have key := lp_up' (G := fun i a => h_Sheet_lay_0 E [.ref (mm_sh s), a1, a2, .int (nI i)] (mk (mm_pL S (6 + s) a))) (f := fun i a => vp_updL a i 0) (fin := fun a => some (some (.int (S.2.2 7 s)), mk (mm_pL S (6 + s) a))) (n := 40) (a0 := S.2.1 (6 + s)) (fun i a hi => ?_) (fun a => ?_)
  · rw [mm_pL_id] at key
    exact key
  · rw [u_Sheet_lay_0]
    simp (disch := first | omega | exact hB _ _ | assumption | decide) only [st_Sheet_lay, hi, mr_sheet E _ s hs, mw_sr _ hs, mr_cl E _, mm_pI_at, mm_pI_pI, mm_pI_2, mm_pL_1, mm_pL_at, mm_pL_pL, mm_pL_3, mm_pM_1, mm_pM_2, mm_pM_at, mm_pM_pM, mm_pI_pL, mm_pI_pM, mm_pL_pM, Bool.false_eq_true, n_10, true_and, and_true, false_and, and_false, Nat.not_lt_zero, true_or, or_true, eq_self, mm_z, mm_rs, sw_xc_ite, sw_xv_ite, n_m1, Nat.lt_irrefl, not_false_eq_true, not_true_eq_false, inS_0, inS_1, ite_not, sw_xv_some, sw_xm_some, sw_xc_some, sw_xc_void, if_true, if_false, reduceIte, bI_0, bI_01, bI_1, nt_or, Nat.reduceAdd, n_add, n_mul, n_addL, n_Ladd, n_mulL, n_Lmul, n_sub, n_subL, n_lt, n_eq, n_ltL, n_Llt, n_eqL, n_Leq, n_nneg, n_pos]
  · rw [u_Sheet_lay_0]
    simp (disch := first | omega | exact hB _ _ | assumption | decide) only [st_Sheet_lay, mr_sheet E _ s hs, mr_cl E _, mm_pI_at, mm_pI_pI, mm_pI_2, mm_pL_1, mm_pL_at, mm_pL_pL, mm_pL_3, mm_pM_1, mm_pM_2, mm_pM_at, mm_pM_pM, mm_pI_pL, mm_pI_pM, mm_pL_pM, Bool.false_eq_true, n_10, true_and, and_true, false_and, and_false, Nat.not_lt_zero, true_or, or_true, eq_self, mm_z, mm_rs, sw_xc_ite, sw_xv_ite, n_m1, Nat.lt_irrefl, not_false_eq_true, not_true_eq_false, inS_0, inS_1, ite_not, sw_xv_some, sw_xm_some, sw_xc_some, sw_xc_void, if_true, if_false, reduceIte, bI_0, bI_01, bI_1, nt_or, Nat.reduceAdd, n_add, n_mul, n_addL, n_Ladd, n_mulL, n_Lmul, n_sub, n_subL, n_lt, n_eq, n_ltL, n_Llt, n_eqL, n_Leq, n_nneg, n_pos]
set_option maxRecDepth 100000 in
set_option maxHeartbeats 4000000 in
theorem md_sheet_l {s : Nat} (hs : s < 4) (a2 a3 : Value) : h_MD_sheet_0 E [.ref 71, .int (nI s), a2, a3, .int 0] (mk S) = some (some (.int (S.2.2 27 s)), mk (mm_pL S (10 + s) (zr (S.2.1 (10 + s))))) := by
  have key := lp_up' (G := fun i a => h_MD_sheet_0 E [.ref 71, .int (nI s), a2, a3, .int (nI i)] (mk (mm_pL S (10 + s) a))) (f := fun i a => vp_updL a i 0) (fin := fun a => some (some (.int (S.2.2 27 s)), mk (mm_pL S (10 + s) a))) (n := 40) (a0 := S.2.1 (10 + s)) (fun i a hi => ?_) (fun a => ?_)
  · rw [mm_pL_id] at key
    exact key
  · rw [u_MD_sheet_0]
    simp (disch := first | omega | exact hB _ _ | assumption | decide) only [st_MD_sheet, hi, mw_l84 _ hs hi, mr_md E _, mm_pI_at, mm_pI_pI, mm_pI_2, mm_pL_1, mm_pL_at, mm_pL_pL, mm_pL_3, mm_pM_1, mm_pM_2, mm_pM_at, mm_pM_pM, mm_pI_pL, mm_pI_pM, mm_pL_pM, Bool.false_eq_true, n_10, true_and, and_true, false_and, and_false, Nat.not_lt_zero, true_or, or_true, eq_self, mm_z, mm_rs, sw_xc_ite, sw_xv_ite, n_m1, Nat.lt_irrefl, not_false_eq_true, not_true_eq_false, inS_0, inS_1, ite_not, sw_xv_some, sw_xm_some, sw_xc_some, sw_xc_void, if_true, if_false, reduceIte, bI_0, bI_01, bI_1, nt_or, Nat.reduceAdd, n_add, n_mul, n_addL, n_Ladd, n_mulL, n_Lmul, n_sub, n_subL, n_lt, n_eq, n_ltL, n_Llt, n_eqL, n_Leq, n_nneg, n_pos]
  · rw [u_MD_sheet_0]
    simp (disch := first | omega | exact hB _ _ | assumption | decide) only [st_MD_sheet, mr_md E _, mm_pI_at, mm_pI_pI, mm_pI_2, mm_pL_1, mm_pL_at, mm_pL_pL, mm_pL_3, mm_pM_1, mm_pM_2, mm_pM_at, mm_pM_pM, mm_pI_pL, mm_pI_pM, mm_pL_pM, Bool.false_eq_true, n_10, true_and, and_true, false_and, and_false, Nat.not_lt_zero, true_or, or_true, eq_self, mm_z, mm_rs, sw_xc_ite, sw_xv_ite, n_m1, Nat.lt_irrefl, not_false_eq_true, not_true_eq_false, inS_0, inS_1, ite_not, sw_xv_some, sw_xm_some, sw_xc_some, sw_xc_void, if_true, if_false, reduceIte, bI_0, bI_01, bI_1, nt_or, Nat.reduceAdd, n_add, n_mul, n_addL, n_Ladd, n_mulL, n_Lmul, n_sub, n_subL, n_lt, n_eq, n_ltL, n_Llt, n_eqL, n_Leq, n_nneg, n_pos]
/-- what a number of a sheet becomes -/
def nrw (b : Int32) (v : Int64) : Int64 := if b = 8 then v.toInt32.toInt8.toInt32.toInt64 else if b = 16 then v.toInt32.toInt16.toInt32.toInt64 else v
set_option maxRecDepth 100000 in
set_option maxHeartbeats 4000000 in
theorem c_put {s i : Nat} (hs : s < 4) (hi : i < 40) (v : Int64) : f_Sheet_put E (.ref (mm_sh s)) (.int (nI i)) (.long v) (mk S) = some (some (.long (S.2.1 (6 + s) i)), mk (mm_pL S (6 + s) (vp_updL (S.2.1 (6 + s)) i (nrw (S.2.2 6 s) v)))) := by
  unfold nrw
  by_cases h1 : S.2.2 6 s = 8
  · simp (disch := first | omega | exact hB _ _ | assumption | decide) only [e_Sheet_put, st_Sheet_put, mr_sheet E _ s hs, mw_sr _ hs hi, h1, mr_cl E _, mm_pI_at, mm_pI_pI, mm_pI_2, mm_pL_1, mm_pL_at, mm_pL_pL, mm_pL_3, mm_pM_1, mm_pM_2, mm_pM_at, mm_pM_pM, mm_pI_pL, mm_pI_pM, mm_pL_pM, Bool.false_eq_true, n_10, true_and, and_true, false_and, and_false, Nat.not_lt_zero, true_or, or_true, eq_self, mm_z, mm_rs, sw_xc_ite, sw_xv_ite, n_m1, Nat.lt_irrefl, not_false_eq_true, not_true_eq_false, inS_0, inS_1, ite_not, sw_xv_some, sw_xm_some, sw_xc_some, sw_xc_void, if_true, if_false, reduceIte, bI_0, bI_01, bI_1, nt_or, Nat.reduceAdd, n_add, n_mul, n_addL, n_Ladd, n_mulL, n_Lmul, n_sub, n_subL, n_lt, n_eq, n_ltL, n_Llt, n_eqL, n_Leq, n_nneg, n_pos]
  · by_cases h2 : S.2.2 6 s = 16
    · simp (disch := first | omega | exact hB _ _ | assumption | decide) only [e_Sheet_put, st_Sheet_put, mr_sheet E _ s hs, mw_sr _ hs hi, h2, show ((16 : Int32) = 8) ↔ False from by decide, mr_cl E _, mm_pI_at, mm_pI_pI, mm_pI_2, mm_pL_1, mm_pL_at, mm_pL_pL, mm_pL_3, mm_pM_1, mm_pM_2, mm_pM_at, mm_pM_pM, mm_pI_pL, mm_pI_pM, mm_pL_pM, Bool.false_eq_true, n_10, true_and, and_true, false_and, and_false, Nat.not_lt_zero, true_or, or_true, eq_self, mm_z, mm_rs, sw_xc_ite, sw_xv_ite, n_m1, Nat.lt_irrefl, not_false_eq_true, not_true_eq_false, inS_0, inS_1, ite_not, sw_xv_some, sw_xm_some, sw_xc_some, sw_xc_void, if_true, if_false, reduceIte, bI_0, bI_01, bI_1, nt_or, Nat.reduceAdd, n_add, n_mul, n_addL, n_Ladd, n_mulL, n_Lmul, n_sub, n_subL, n_lt, n_eq, n_ltL, n_Llt, n_eqL, n_Leq, n_nneg, n_pos]
    · simp (disch := first | omega | exact hB _ _ | assumption | decide) only [e_Sheet_put, st_Sheet_put, mr_sheet E _ s hs, mw_sr _ hs hi, h1, h2, mr_cl E _, mm_pI_at, mm_pI_pI, mm_pI_2, mm_pL_1, mm_pL_at, mm_pL_pL, mm_pL_3, mm_pM_1, mm_pM_2, mm_pM_at, mm_pM_pM, mm_pI_pL, mm_pI_pM, mm_pL_pM, Bool.false_eq_true, n_10, true_and, and_true, false_and, and_false, Nat.not_lt_zero, true_or, or_true, eq_self, mm_z, mm_rs, sw_xc_ite, sw_xv_ite, n_m1, Nat.lt_irrefl, not_false_eq_true, not_true_eq_false, inS_0, inS_1, ite_not, sw_xv_some, sw_xm_some, sw_xc_some, sw_xc_void, if_true, if_false, reduceIte, bI_0, bI_01, bI_1, nt_or, Nat.reduceAdd, n_add, n_mul, n_addL, n_Ladd, n_mulL, n_Lmul, n_sub, n_subL, n_lt, n_eq, n_ltL, n_Llt, n_eqL, n_Leq, n_nneg, n_pos]
theorem md_narrowed (b : Int32) (v : Int64) (M : sw_M) : f_MD_narrowed E (.int b) (.long v) M = some (some (.long (nrw b v)), M) := by
  unfold nrw
  simp only [e_MD_narrowed, st_MD_narrowed]
  by_cases h1 : b = 8
  · simp [h1]
  · by_cases h2 : b = 16
    · simp [h2]
    · simp [h1, h2]
set_option maxRecDepth 100000 in
set_option maxHeartbeats 4000000 in
theorem c_lays_l (hI : IT (S.1 0)) {s n : Nat} (hs : s < 4) (hn : n ≤ 40) (hz : S.2.2 7 s = nI n) (a1 : Value) : h_SW_lays_0 E [.ref 0, a1, .ref (mm_sh s), .int 0, .int 0, sw_J, sw_J] (mk S) = some (some (.int (nI (tw_ly (S.1 0) (S.2.1 (6 + s)) n).1)), mk (mm_pI S 0 (tw_ly (S.1 0) (S.2.1 (6 + s)) n).2)) := by
  have h03 : 0 < 3 := by decide
  have hth := hI.n
  have key := lp_upD (δ := Value × Value) (G := fun i d a => h_SW_lays_0 E [.ref 0, a1, .ref (mm_sh s), .int (nI a.1), .int (nI i), d.1, d.2] (mk (mm_pI S 0 a.2))) (P := fun _ a => IT a.2 ∧ a.2 0 = S.1 0 0) (f := ly1 (S.2.1 (6 + s))) (fin := fun a => some (some (.int (nI a.1)), mk (mm_pI S 0 a.2))) (n := min n (S.1 0 0 1)) (a0 := (0, S.1 0)) ⟨hI, rfl⟩ (fun i d a hi hP => ?_) (fun d a hP => ?_) (sw_J, sw_J)
  · simp only [mm_pI_id] at key
    exact key
  · obtain ⟨h1, h2⟩ := hP
    obtain ⟨g1, g2⟩ := ly1_IT (R := S.2.1 (6 + s)) (i := i) h1
    refine ⟨⟨(.long (S.2.1 (6 + s) i), sw_J), ?_⟩, g1, g2.trans h2⟩
    have hB := h1.b
    have hin : i < n := by omega
    have hit : i < S.1 0 0 1 := by omega
    have e1 : a.2 0 1 = S.1 0 0 1 := by rw [h2]
    rw [u_SW_lays_0]
    unfold ly1
    by_cases hq : inB (S.2.1 (6 + s) i) = true
    · obtain ⟨v, hv, ev, en⟩ := inB_n hq
      have hq' := hq
      unfold inB at hq'
      simp only [Bool.and_eq_true, decide_eq_true_eq] at hq'
      have q1 : ¬ S.2.1 (6 + s) i < 0 := Int64.not_lt.mpr hq'.1
      have q2 : ¬ 9999 < S.2.1 (6 + s) i := Int64.not_lt.mpr hq'.2
      have q3 : (S.2.1 (6 + s) i).toInt32 = nI v := by rw [ev, lN_i]
      rw [if_pos hq, en]
      simp (disch := first | omega | exact hB _ _ | assumption | decide) only [st_SW_lays, mr_town E _ 0 h03, mr_sheet E _ s hs, hz, hin, e1, hit, lg_cmp_lt, lg_cmp_gt, q1, q2, q3, mw_t7 _ h03, mr_cl E _, mm_pI_at, mm_pI_pI, mm_pI_2, mm_pL_1, mm_pL_at, mm_pL_pL, mm_pL_3, mm_pM_1, mm_pM_2, mm_pM_at, mm_pM_pM, mm_pI_pL, mm_pI_pM, mm_pL_pM, Bool.false_eq_true, n_10, true_and, and_true, false_and, and_false, Nat.not_lt_zero, true_or, or_true, eq_self, mm_z, mm_rs, sw_xc_ite, sw_xv_ite, n_m1, Nat.lt_irrefl, not_false_eq_true, not_true_eq_false, inS_0, inS_1, ite_not, sw_xv_some, sw_xm_some, sw_xc_some, sw_xc_void, if_true, if_false, reduceIte, bI_0, bI_01, bI_1, nt_or, Nat.reduceAdd, n_add, n_mul, n_addL, n_Ladd, n_mulL, n_Lmul, n_sub, n_subL, n_lt, n_eq, n_ltL, n_Llt, n_eqL, n_Leq, n_nneg, n_pos]
    · rw [if_neg hq]
      by_cases q1 : S.2.1 (6 + s) i < 0
      · simp (disch := first | omega | exact hB _ _ | assumption | decide) only [st_SW_lays, mr_town E _ 0 h03, mr_sheet E _ s hs, hz, hin, e1, hit, lg_cmp_lt, lg_cmp_gt, q1, mr_cl E _, mm_pI_at, mm_pI_pI, mm_pI_2, mm_pL_1, mm_pL_at, mm_pL_pL, mm_pL_3, mm_pM_1, mm_pM_2, mm_pM_at, mm_pM_pM, mm_pI_pL, mm_pI_pM, mm_pL_pM, Bool.false_eq_true, n_10, true_and, and_true, false_and, and_false, Nat.not_lt_zero, true_or, or_true, eq_self, mm_z, mm_rs, sw_xc_ite, sw_xv_ite, n_m1, Nat.lt_irrefl, not_false_eq_true, not_true_eq_false, inS_0, inS_1, ite_not, sw_xv_some, sw_xm_some, sw_xc_some, sw_xc_void, if_true, if_false, reduceIte, bI_0, bI_01, bI_1, nt_or, Nat.reduceAdd, n_add, n_mul, n_addL, n_Ladd, n_mulL, n_Lmul, n_sub, n_subL, n_lt, n_eq, n_ltL, n_Llt, n_eqL, n_Leq, n_nneg, n_pos]
      · have q2 : 9999 < S.2.1 (6 + s) i := by
          refine Classical.byContradiction (fun g => hq ?_)
          unfold inB
          simp only [Bool.and_eq_true, decide_eq_true_eq]
          exact ⟨Int64.not_lt.mp q1, Int64.not_lt.mp g⟩
        simp (disch := first | omega | exact hB _ _ | assumption | decide) only [st_SW_lays, mr_town E _ 0 h03, mr_sheet E _ s hs, hz, hin, e1, hit, lg_cmp_lt, lg_cmp_gt, q1, q2, mr_cl E _, mm_pI_at, mm_pI_pI, mm_pI_2, mm_pL_1, mm_pL_at, mm_pL_pL, mm_pL_3, mm_pM_1, mm_pM_2, mm_pM_at, mm_pM_pM, mm_pI_pL, mm_pI_pM, mm_pL_pM, Bool.false_eq_true, n_10, true_and, and_true, false_and, and_false, Nat.not_lt_zero, true_or, or_true, eq_self, mm_z, mm_rs, sw_xc_ite, sw_xv_ite, n_m1, Nat.lt_irrefl, not_false_eq_true, not_true_eq_false, inS_0, inS_1, ite_not, sw_xv_some, sw_xm_some, sw_xc_some, sw_xc_void, if_true, if_false, reduceIte, bI_0, bI_01, bI_1, nt_or, Nat.reduceAdd, n_add, n_mul, n_addL, n_Ladd, n_mulL, n_Lmul, n_sub, n_subL, n_lt, n_eq, n_ltL, n_Llt, n_eqL, n_Leq, n_nneg, n_pos]
  · obtain ⟨h1, h2⟩ := hP
    have hB := h1.b
    have e1 : a.2 0 1 = S.1 0 0 1 := by rw [h2]
    rw [u_SW_lays_0]
    by_cases hmn : n ≤ S.1 0 0 1
    · have e2 : min n (S.1 0 0 1) = n := Nat.min_eq_left hmn
      rw [e2]
      simp (disch := first | omega | exact hB _ _ | assumption | decide) only [st_SW_lays, mr_town E _ 0 h03, mr_sheet E _ s hs, hz, e1, mr_cl E _, mm_pI_at, mm_pI_pI, mm_pI_2, mm_pL_1, mm_pL_at, mm_pL_pL, mm_pL_3, mm_pM_1, mm_pM_2, mm_pM_at, mm_pM_pM, mm_pI_pL, mm_pI_pM, mm_pL_pM, Bool.false_eq_true, n_10, true_and, and_true, false_and, and_false, Nat.not_lt_zero, true_or, or_true, eq_self, mm_z, mm_rs, sw_xc_ite, sw_xv_ite, n_m1, Nat.lt_irrefl, not_false_eq_true, not_true_eq_false, inS_0, inS_1, ite_not, sw_xv_some, sw_xm_some, sw_xc_some, sw_xc_void, if_true, if_false, reduceIte, bI_0, bI_01, bI_1, nt_or, Nat.reduceAdd, n_add, n_mul, n_addL, n_Ladd, n_mulL, n_Lmul, n_sub, n_subL, n_lt, n_eq, n_ltL, n_Llt, n_eqL, n_Leq, n_nneg, n_pos]
    · have e2 : min n (S.1 0 0 1) = S.1 0 0 1 := Nat.min_eq_right (by omega)
      have e3 : S.1 0 0 1 < n := by omega
      rw [e2]
      simp (disch := first | omega | exact hB _ _ | assumption | decide) only [st_SW_lays, mr_town E _ 0 h03, mr_sheet E _ s hs, hz, e1, e3, mr_cl E _, mm_pI_at, mm_pI_pI, mm_pI_2, mm_pL_1, mm_pL_at, mm_pL_pL, mm_pL_3, mm_pM_1, mm_pM_2, mm_pM_at, mm_pM_pM, mm_pI_pL, mm_pI_pM, mm_pL_pM, Bool.false_eq_true, n_10, true_and, and_true, false_and, and_false, Nat.not_lt_zero, true_or, or_true, eq_self, mm_z, mm_rs, sw_xc_ite, sw_xv_ite, n_m1, Nat.lt_irrefl, not_false_eq_true, not_true_eq_false, inS_0, inS_1, ite_not, sw_xv_some, sw_xm_some, sw_xc_some, sw_xc_void, if_true, if_false, reduceIte, bI_0, bI_01, bI_1, nt_or, Nat.reduceAdd, n_add, n_mul, n_addL, n_Ladd, n_mulL, n_Lmul, n_sub, n_subL, n_lt, n_eq, n_ltL, n_Llt, n_eqL, n_Leq, n_nneg, n_pos]
set_option maxRecDepth 100000 in
set_option maxHeartbeats 4000000 in
theorem md_lays_l (hI : IT (S.1 3)) {s n : Nat} (hs : s < 4) (hn : n ≤ 40) (hz : S.2.2 27 s = nI n) (b2 : Int32) : h_MD_lays_0 E [.ref 71, .int (nI s), .int b2, .int 0, .int 0, sw_J, sw_J] (mk S) = some (some (.int (nI (tw_ly (S.1 3) (S.2.1 (10 + s)) n).1)), mk (mm_pI S 3 (tw_ly (S.1 3) (S.2.1 (10 + s)) n).2)) := by
  have hth := hI.n
  have key := lp_upD (δ := Value × Value) (G := fun i d a => h_MD_lays_0 E [.ref 71, .int (nI s), .int b2, .int (nI a.1), .int (nI i), d.1, d.2] (mk (mm_pI S 3 a.2))) (P := fun _ a => IT a.2 ∧ a.2 0 = S.1 3 0) (f := ly1 (S.2.1 (10 + s))) (fin := fun a => some (some (.int (nI a.1)), mk (mm_pI S 3 a.2))) (n := min n (S.1 3 0 1)) (a0 := (0, S.1 3)) ⟨hI, rfl⟩ (fun i d a hi hP => ?_) (fun d a hP => ?_) (sw_J, sw_J)
  · simp only [mm_pI_id] at key
    exact key
  · obtain ⟨h1, h2⟩ := hP
    obtain ⟨g1, g2⟩ := ly1_IT (R := S.2.1 (10 + s)) (i := i) h1
    refine ⟨⟨(.long (S.2.1 (10 + s) i), sw_J), ?_⟩, g1, g2.trans h2⟩
    have hB := h1.b
    have hin : i < n := by omega
    have hi40 : i < 40 := by omega
    have hit : i < S.1 3 0 1 := by omega
    have hi16 : i < 16 := by omega
    have e1 : a.2 0 1 = S.1 3 0 1 := by rw [h2]
    rw [u_MD_lays_0]
    unfold ly1
    by_cases hq : inB (S.2.1 (10 + s) i) = true
    · obtain ⟨v, hv, ev, en⟩ := inB_n hq
      have hq' := hq
      unfold inB at hq'
      simp only [Bool.and_eq_true, decide_eq_true_eq] at hq'
      have q3 : (S.2.1 (10 + s) i).toInt32 = nI v := by rw [ev, lN_i]
      rw [if_pos hq, en]
      simp (disch := first | omega | exact hB _ _ | assumption | decide) only [st_MD_lays, rs_L, hz, hin, e1, hit, rs_num _ hs hi40, md_in, hq', q3, ws_t _ hi16, mr_md E _, mm_pI_at, mm_pI_pI, mm_pI_2, mm_pL_1, mm_pL_at, mm_pL_pL, mm_pL_3, mm_pM_1, mm_pM_2, mm_pM_at, mm_pM_pM, mm_pI_pL, mm_pI_pM, mm_pL_pM, Bool.false_eq_true, n_10, true_and, and_true, false_and, and_false, Nat.not_lt_zero, true_or, or_true, eq_self, mm_z, mm_rs, sw_xc_ite, sw_xv_ite, n_m1, Nat.lt_irrefl, not_false_eq_true, not_true_eq_false, inS_0, inS_1, ite_not, sw_xv_some, sw_xm_some, sw_xc_some, sw_xc_void, if_true, if_false, reduceIte, bI_0, bI_01, bI_1, nt_or, Nat.reduceAdd, n_add, n_mul, n_addL, n_Ladd, n_mulL, n_Lmul, n_sub, n_subL, n_lt, n_eq, n_ltL, n_Llt, n_eqL, n_Leq, n_nneg, n_pos]
    · rw [if_neg hq]
      have hq' : ¬ (0 ≤ S.2.1 (10 + s) i ∧ S.2.1 (10 + s) i ≤ 9999) := fun g => hq (by unfold inB; simp [g.1, g.2])
      simp (disch := first | omega | exact hB _ _ | assumption | decide) only [st_MD_lays, rs_L, hz, hin, e1, hit, rs_num _ hs hi40, md_in, hq', mr_md E _, mm_pI_at, mm_pI_pI, mm_pI_2, mm_pL_1, mm_pL_at, mm_pL_pL, mm_pL_3, mm_pM_1, mm_pM_2, mm_pM_at, mm_pM_pM, mm_pI_pL, mm_pI_pM, mm_pL_pM, Bool.false_eq_true, n_10, true_and, and_true, false_and, and_false, Nat.not_lt_zero, true_or, or_true, eq_self, mm_z, mm_rs, sw_xc_ite, sw_xv_ite, n_m1, Nat.lt_irrefl, not_false_eq_true, not_true_eq_false, inS_0, inS_1, ite_not, sw_xv_some, sw_xm_some, sw_xc_some, sw_xc_void, if_true, if_false, reduceIte, bI_0, bI_01, bI_1, nt_or, Nat.reduceAdd, n_add, n_mul, n_addL, n_Ladd, n_mulL, n_Lmul, n_sub, n_subL, n_lt, n_eq, n_ltL, n_Llt, n_eqL, n_Leq, n_nneg, n_pos]
  · obtain ⟨h1, h2⟩ := hP
    have hB := h1.b
    have e1 : a.2 0 1 = S.1 3 0 1 := by rw [h2]
    rw [u_MD_lays_0]
    by_cases hmn : n ≤ S.1 3 0 1
    · have e2 : min n (S.1 3 0 1) = n := Nat.min_eq_left hmn
      rw [e2]
      simp (disch := first | omega | exact hB _ _ | assumption | decide) only [st_MD_lays, rs_L, hz, e1, mr_md E _, mm_pI_at, mm_pI_pI, mm_pI_2, mm_pL_1, mm_pL_at, mm_pL_pL, mm_pL_3, mm_pM_1, mm_pM_2, mm_pM_at, mm_pM_pM, mm_pI_pL, mm_pI_pM, mm_pL_pM, Bool.false_eq_true, n_10, true_and, and_true, false_and, and_false, Nat.not_lt_zero, true_or, or_true, eq_self, mm_z, mm_rs, sw_xc_ite, sw_xv_ite, n_m1, Nat.lt_irrefl, not_false_eq_true, not_true_eq_false, inS_0, inS_1, ite_not, sw_xv_some, sw_xm_some, sw_xc_some, sw_xc_void, if_true, if_false, reduceIte, bI_0, bI_01, bI_1, nt_or, Nat.reduceAdd, n_add, n_mul, n_addL, n_Ladd, n_mulL, n_Lmul, n_sub, n_subL, n_lt, n_eq, n_ltL, n_Llt, n_eqL, n_Leq, n_nneg, n_pos]
    · have e2 : min n (S.1 3 0 1) = S.1 3 0 1 := Nat.min_eq_right (by omega)
      have e3 : S.1 3 0 1 < n := by omega
      rw [e2]
      simp (disch := first | omega | exact hB _ _ | assumption | decide) only [st_MD_lays, rs_L, hz, e1, e3, mr_md E _, mm_pI_at, mm_pI_pI, mm_pI_2, mm_pL_1, mm_pL_at, mm_pL_pL, mm_pL_3, mm_pM_1, mm_pM_2, mm_pM_at, mm_pM_pM, mm_pI_pL, mm_pI_pM, mm_pL_pM, Bool.false_eq_true, n_10, true_and, and_true, false_and, and_false, Nat.not_lt_zero, true_or, or_true, eq_self, mm_z, mm_rs, sw_xc_ite, sw_xv_ite, n_m1, Nat.lt_irrefl, not_false_eq_true, not_true_eq_false, inS_0, inS_1, ite_not, sw_xv_some, sw_xm_some, sw_xc_some, sw_xc_void, if_true, if_false, reduceIte, bI_0, bI_01, bI_1, nt_or, Nat.reduceAdd, n_add, n_mul, n_addL, n_Ladd, n_mulL, n_Lmul, n_sub, n_subL, n_lt, n_eq, n_ltL, n_Llt, n_eqL, n_Leq, n_nneg, n_pos]
set_option maxRecDepth 100000 in
set_option maxHeartbeats 4000000 in
theorem c_keeps_l (hI : IT (S.1 0)) {s n : Nat} (hs : s < 4) (hn : n ≤ 40) (hz : S.2.2 7 s = nI n) (a1 : Value) : h_SW_keeps_0 E [.ref 0, a1, .ref (mm_sh s), .int 0, .int 0, sw_J, sw_J] (mk S) = some (some (.int (nI (tw_ks (S.1 0) (S.2.1 (6 + s)) n).1)), mk (mm_pI S 0 (tw_ks (S.1 0) (S.2.1 (6 + s)) n).2)) := by
  have h03 : 0 < 3 := by decide
  have key := lp_upD (δ := Value × Value) (G := fun i d a => h_SW_keeps_0 E [.ref 0, a1, .ref (mm_sh s), .int (nI a.1), .int (nI i), d.1, d.2] (mk (mm_pI S 0 a.2))) (P := fun _ a => IT a.2 ∧ a.2 0 = S.1 0 0) (f := ks1 (S.2.1 (6 + s))) (fin := fun a => some (some (.int (nI a.1)), mk (mm_pI S 0 a.2))) (n := n) (a0 := (0, S.1 0)) ⟨hI, rfl⟩ (fun i d a hi hP => ?_) (fun d a hP => ?_) (sw_J, sw_J)
  · simp only [mm_pI_id] at key
    exact key
  · obtain ⟨h1, h2⟩ := hP
    obtain ⟨g1, g2⟩ := ks1_IT (R := S.2.1 (6 + s)) (i := i) h1
    refine ⟨⟨(.long (S.2.1 (6 + s) i), sw_J), ?_⟩, g1, g2.trans h2⟩
    have hB := h1.b
    have hk24 := h1.k
    have eP : (nI (a.2 0 2)).toInt64 = lN (a.2 0 2) := nI_l (hB _ _)
    rw [u_SW_keeps_0]
    unfold ks1
    by_cases q1 : S.2.1 (6 + s) i < 0
    · have hq : ¬ (inP (S.2.1 (6 + s) i) (a.2 0 2) = true ∧ tw_can a.2 (S.2.1 (6 + s) i).toInt.toNat = true) := fun g => by
        have := g.1
        unfold inP at this
        simp only [Bool.and_eq_true, decide_eq_true_eq] at this
        exact absurd this.1 (Int64.not_le.mpr q1)
      rw [if_neg hq]
      simp (disch := first | omega | exact hB _ _ | assumption | decide) only [st_SW_keeps, mr_town E _ 0 h03, mr_sheet E _ s hs, hz, hi, lg_cmp_lt, lg_cmp_gt, q1, mr_cl E _, mm_pI_at, mm_pI_pI, mm_pI_2, mm_pL_1, mm_pL_at, mm_pL_pL, mm_pL_3, mm_pM_1, mm_pM_2, mm_pM_at, mm_pM_pM, mm_pI_pL, mm_pI_pM, mm_pL_pM, Bool.false_eq_true, n_10, true_and, and_true, false_and, and_false, Nat.not_lt_zero, true_or, or_true, eq_self, mm_z, mm_rs, sw_xc_ite, sw_xv_ite, n_m1, Nat.lt_irrefl, not_false_eq_true, not_true_eq_false, inS_0, inS_1, ite_not, sw_xv_some, sw_xm_some, sw_xc_some, sw_xc_void, if_true, if_false, reduceIte, bI_0, bI_01, bI_1, nt_or, Nat.reduceAdd, n_add, n_mul, n_addL, n_Ladd, n_mulL, n_Lmul, n_sub, n_subL, n_lt, n_eq, n_ltL, n_Llt, n_eqL, n_Leq, n_nneg, n_pos]
    · by_cases q2 : S.2.1 (6 + s) i < lN (a.2 0 2)
      · have hp : inP (S.2.1 (6 + s) i) (a.2 0 2) = true := by
          unfold inP
          simp only [Bool.and_eq_true, decide_eq_true_eq]
          exact ⟨Int64.not_lt.mp q1, q2⟩
        obtain ⟨k, hk, ev, en⟩ := inP_n hk24 hp
        have q3 : (S.2.1 (6 + s) i).toInt32 = nI k := by rw [ev, lN_i]
        have hI' : IT ((mm_pI S 0 a.2).1 0) := by rw [mm_pI_at]; exact h1
        have hk' : k < (mm_pI S 0 a.2).1 0 0 2 := by rw [mm_pI_at]; exact hk
        rw [en]
        simp (disch := first | omega | exact hB _ _ | assumption | decide) only [st_SW_keeps, mr_town E _ 0 h03, mr_sheet E _ s hs, hz, hi, lg_cmp_lt, lg_cmp_gt, q1, q2, q3, eP, hp, c_Town_canSettle E _ 0 h03 hI' hk', c_Town_settle E _ 0 h03 hI' hk', mr_cl E _, mm_pI_at, mm_pI_pI, mm_pI_2, mm_pL_1, mm_pL_at, mm_pL_pL, mm_pL_3, mm_pM_1, mm_pM_2, mm_pM_at, mm_pM_pM, mm_pI_pL, mm_pI_pM, mm_pL_pM, Bool.false_eq_true, n_10, true_and, and_true, false_and, and_false, Nat.not_lt_zero, true_or, or_true, eq_self, mm_z, mm_rs, sw_xc_ite, sw_xv_ite, n_m1, Nat.lt_irrefl, not_false_eq_true, not_true_eq_false, inS_0, inS_1, ite_not, sw_xv_some, sw_xm_some, sw_xc_some, sw_xc_void, if_true, if_false, reduceIte, bI_0, bI_01, bI_1, nt_or, Nat.reduceAdd, n_add, n_mul, n_addL, n_Ladd, n_mulL, n_Lmul, n_sub, n_subL, n_lt, n_eq, n_ltL, n_Llt, n_eqL, n_Leq, n_nneg, n_pos]
        by_cases hc : tw_can a.2 k = true <;> simp [hc]
      · have hq : ¬ (inP (S.2.1 (6 + s) i) (a.2 0 2) = true ∧ tw_can a.2 (S.2.1 (6 + s) i).toInt.toNat = true) := fun g => by
          have := g.1
          unfold inP at this
          simp only [Bool.and_eq_true, decide_eq_true_eq] at this
          exact q2 this.2
        rw [if_neg hq]
        simp (disch := first | omega | exact hB _ _ | assumption | decide) only [st_SW_keeps, mr_town E _ 0 h03, mr_sheet E _ s hs, hz, hi, lg_cmp_lt, lg_cmp_gt, q1, q2, eP, mr_cl E _, mm_pI_at, mm_pI_pI, mm_pI_2, mm_pL_1, mm_pL_at, mm_pL_pL, mm_pL_3, mm_pM_1, mm_pM_2, mm_pM_at, mm_pM_pM, mm_pI_pL, mm_pI_pM, mm_pL_pM, Bool.false_eq_true, n_10, true_and, and_true, false_and, and_false, Nat.not_lt_zero, true_or, or_true, eq_self, mm_z, mm_rs, sw_xc_ite, sw_xv_ite, n_m1, Nat.lt_irrefl, not_false_eq_true, not_true_eq_false, inS_0, inS_1, ite_not, sw_xv_some, sw_xm_some, sw_xc_some, sw_xc_void, if_true, if_false, reduceIte, bI_0, bI_01, bI_1, nt_or, Nat.reduceAdd, n_add, n_mul, n_addL, n_Ladd, n_mulL, n_Lmul, n_sub, n_subL, n_lt, n_eq, n_ltL, n_Llt, n_eqL, n_Leq, n_nneg, n_pos]
  · rw [u_SW_keeps_0]
    simp (disch := first | omega | exact hB _ _ | assumption | decide) only [st_SW_keeps, mr_town E _ 0 h03, mr_sheet E _ s hs, hz, mr_cl E _, mm_pI_at, mm_pI_pI, mm_pI_2, mm_pL_1, mm_pL_at, mm_pL_pL, mm_pL_3, mm_pM_1, mm_pM_2, mm_pM_at, mm_pM_pM, mm_pI_pL, mm_pI_pM, mm_pL_pM, Bool.false_eq_true, n_10, true_and, and_true, false_and, and_false, Nat.not_lt_zero, true_or, or_true, eq_self, mm_z, mm_rs, sw_xc_ite, sw_xv_ite, n_m1, Nat.lt_irrefl, not_false_eq_true, not_true_eq_false, inS_0, inS_1, ite_not, sw_xv_some, sw_xm_some, sw_xc_some, sw_xc_void, if_true, if_false, reduceIte, bI_0, bI_01, bI_1, nt_or, Nat.reduceAdd, n_add, n_mul, n_addL, n_Ladd, n_mulL, n_Lmul, n_sub, n_subL, n_lt, n_eq, n_ltL, n_Llt, n_eqL, n_Leq, n_nneg, n_pos]
set_option maxRecDepth 100000 in
set_option maxHeartbeats 4000000 in
theorem md_keeps_l (hI : IT (S.1 3)) {s n : Nat} (hs : s < 4) (hn : n ≤ 40) (hz : S.2.2 27 s = nI n) (b2 : Int32) : h_MD_keeps_0 E [.ref 71, .int (nI s), .int b2, .int 0, .int 0, sw_J, sw_J, sw_J, sw_J] (mk S) = some (some (.int (nI (tw_ks (S.1 3) (S.2.1 (10 + s)) n).1)), mk (mm_pI S 3 (tw_ks (S.1 3) (S.2.1 (10 + s)) n).2)) := by
  have key := lp_upD (δ := Value × Value × Value × Value) (G := fun i d a => h_MD_keeps_0 E [.ref 71, .int (nI s), .int b2, .int (nI a.1), .int (nI i), d.1, d.2.1, d.2.2.1, d.2.2.2] (mk (mm_pI S 3 a.2))) (P := fun _ a => IT a.2 ∧ a.2 0 = S.1 3 0) (f := ks1 (S.2.1 (10 + s))) (fin := fun a => some (some (.int (nI a.1)), mk (mm_pI S 3 a.2))) (n := n) (a0 := (0, S.1 3)) ⟨hI, rfl⟩ (fun i d a hi hP => ?_) (fun d a hP => ?_) (sw_J, sw_J, sw_J, sw_J)
  · simp only [mm_pI_id] at key
    exact key
  · obtain ⟨h1, h2⟩ := hP
    obtain ⟨g1, g2⟩ := ks1_IT (R := S.2.1 (10 + s)) (i := i) h1
    refine ⟨?_, g1, g2.trans h2⟩
    have hB := h1.b
    have hk24 := h1.k
    have hi40 : i < 40 := by omega
    have hB' : ∀ f i, (mm_pI S 3 a.2).1 3 f i < 2147483648 := by rw [mm_pI_at]; exact hB
    have hI' : IT ((mm_pI S 3 a.2).1 3) := by rw [mm_pI_at]; exact h1
    have iP : ∀ (M : sw_M), f_MD_in E (.long (S.2.1 (10 + s) i)) (.long 0) (.long (nI (a.2 0 2) - 1).toInt64) M = some (some (.int (bI (inP (S.2.1 (10 + s) i) (a.2 0 2) = true))), M) := fun M => by
      rw [md_in]
      refine congrArg (fun v => some (some (Value.int v), M)) (bI_iff ?_)
      unfold inP
      simp only [Bool.and_eq_true, decide_eq_true_eq]
      rw [Int64.le_iff_toInt_le, Int64.le_iff_toInt_le, Int64.lt_iff_toInt_lt, Int32.toInt_toInt64, lN_toInt (hB _ _)]
      have e1 : (1 : Int32).toInt = 1 := by decide
      rw [fb_subI (by rw [nI_toInt (hB _ _), e1]; omega) (by rw [nI_toInt (hB _ _), e1]; omega), nI_toInt (hB _ _), e1]
      omega
    rw [u_MD_keeps_0]
    unfold ks1
    by_cases hp : inP (S.2.1 (10 + s) i) (a.2 0 2) = true
    · obtain ⟨k, hk, ev, en⟩ := inP_n hk24 hp
      have q3 : (S.2.1 (10 + s) i).toInt32 = nI k := by rw [ev, lN_i]
      have hk' : k < (mm_pI S 3 a.2).1 3 0 2 := by rw [mm_pI_at]; exact hk
      have hk24' : k < 24 := by omega
      have eS : nI (a.2 0 2) - 1 = nI (a.2 0 2 - 1) := n_sub (b := 1) (by omega)
      rw [eS] at iP
      rw [en]
      by_cases hc : tw_can a.2 k = true
      · have hc' := hc
        unfold tw_can at hc'
        simp only [Bool.and_eq_true, beq_iff_eq] at hc'
        refine ⟨(.long (S.2.1 (10 + s) i), sw_J, .int (nI k), .int (nI (tw_kp a.2 k).1)), ?_⟩
        simp (disch := first | omega | exact hB _ _ | assumption | decide) only [st_MD_keeps, rs_L, hz, hi, rs_num _ hs hi40, iP, hp, q3, md_isOpen E _ hB' hk24', hc', md_isLast E _ hI' (k := k) (by omega), md_keeping E _ hI' hk', hc, mr_md E _, mm_pI_at, mm_pI_pI, mm_pI_2, mm_pL_1, mm_pL_at, mm_pL_pL, mm_pL_3, mm_pM_1, mm_pM_2, mm_pM_at, mm_pM_pM, mm_pI_pL, mm_pI_pM, mm_pL_pM, Bool.false_eq_true, n_10, true_and, and_true, false_and, and_false, Nat.not_lt_zero, true_or, or_true, eq_self, mm_z, mm_rs, sw_xc_ite, sw_xv_ite, n_m1, Nat.lt_irrefl, not_false_eq_true, not_true_eq_false, inS_0, inS_1, ite_not, sw_xv_some, sw_xm_some, sw_xc_some, sw_xc_void, if_true, if_false, reduceIte, bI_0, bI_01, bI_1, nt_or, Nat.reduceAdd, n_add, n_mul, n_addL, n_Ladd, n_mulL, n_Lmul, n_sub, n_subL, n_lt, n_eq, n_ltL, n_Llt, n_eqL, n_Leq, n_nneg, n_pos]
      · refine ⟨(.long (S.2.1 (10 + s) i), sw_J, .int (nI k), d.2.2.2), ?_⟩
        have hc' : ¬ (a.2 13 k = 0 ∧ tw_last a.2 k = true) := fun g => hc (by unfold tw_can; simp [g.1, g.2])
        by_cases h13 : a.2 13 k = 0
        · have hl : ¬ tw_last a.2 k = true := fun g => hc' ⟨h13, g⟩
          simp (disch := first | omega | exact hB _ _ | assumption | decide) only [st_MD_keeps, rs_L, hz, hi, rs_num _ hs hi40, iP, hp, q3, md_isOpen E _ hB' hk24', h13, md_isLast E _ hI' (k := k) (by omega), hl, hc, mr_md E _, mm_pI_at, mm_pI_pI, mm_pI_2, mm_pL_1, mm_pL_at, mm_pL_pL, mm_pL_3, mm_pM_1, mm_pM_2, mm_pM_at, mm_pM_pM, mm_pI_pL, mm_pI_pM, mm_pL_pM, Bool.false_eq_true, n_10, true_and, and_true, false_and, and_false, Nat.not_lt_zero, true_or, or_true, eq_self, mm_z, mm_rs, sw_xc_ite, sw_xv_ite, n_m1, Nat.lt_irrefl, not_false_eq_true, not_true_eq_false, inS_0, inS_1, ite_not, sw_xv_some, sw_xm_some, sw_xc_some, sw_xc_void, if_true, if_false, reduceIte, bI_0, bI_01, bI_1, nt_or, Nat.reduceAdd, n_add, n_mul, n_addL, n_Ladd, n_mulL, n_Lmul, n_sub, n_subL, n_lt, n_eq, n_ltL, n_Llt, n_eqL, n_Leq, n_nneg, n_pos]
        · simp (disch := first | omega | exact hB _ _ | assumption | decide) only [st_MD_keeps, rs_L, hz, hi, rs_num _ hs hi40, iP, hp, q3, md_isOpen E _ hB' hk24', h13, hc, mr_md E _, mm_pI_at, mm_pI_pI, mm_pI_2, mm_pL_1, mm_pL_at, mm_pL_pL, mm_pL_3, mm_pM_1, mm_pM_2, mm_pM_at, mm_pM_pM, mm_pI_pL, mm_pI_pM, mm_pL_pM, Bool.false_eq_true, n_10, true_and, and_true, false_and, and_false, Nat.not_lt_zero, true_or, or_true, eq_self, mm_z, mm_rs, sw_xc_ite, sw_xv_ite, n_m1, Nat.lt_irrefl, not_false_eq_true, not_true_eq_false, inS_0, inS_1, ite_not, sw_xv_some, sw_xm_some, sw_xc_some, sw_xc_void, if_true, if_false, reduceIte, bI_0, bI_01, bI_1, nt_or, Nat.reduceAdd, n_add, n_mul, n_addL, n_Ladd, n_mulL, n_Lmul, n_sub, n_subL, n_lt, n_eq, n_ltL, n_Llt, n_eqL, n_Leq, n_nneg, n_pos]
    · refine ⟨(.long (S.2.1 (10 + s) i), sw_J, .int (-1), d.2.2.2), ?_⟩
      rw [if_neg (fun g => hp g.1)]
      simp (disch := first | omega | exact hB _ _ | assumption | decide) only [st_MD_keeps, rs_L, hz, hi, rs_num _ hs hi40, iP, hp, mr_md E _, mm_pI_at, mm_pI_pI, mm_pI_2, mm_pL_1, mm_pL_at, mm_pL_pL, mm_pL_3, mm_pM_1, mm_pM_2, mm_pM_at, mm_pM_pM, mm_pI_pL, mm_pI_pM, mm_pL_pM, Bool.false_eq_true, n_10, true_and, and_true, false_and, and_false, Nat.not_lt_zero, true_or, or_true, eq_self, mm_z, mm_rs, sw_xc_ite, sw_xv_ite, n_m1, Nat.lt_irrefl, not_false_eq_true, not_true_eq_false, inS_0, inS_1, ite_not, sw_xv_some, sw_xm_some, sw_xc_some, sw_xc_void, if_true, if_false, reduceIte, bI_0, bI_01, bI_1, nt_or, Nat.reduceAdd, n_add, n_mul, n_addL, n_Ladd, n_mulL, n_Lmul, n_sub, n_subL, n_lt, n_eq, n_ltL, n_Llt, n_eqL, n_Leq, n_nneg, n_pos]
  · rw [u_MD_keeps_0]
    simp (disch := first | omega | exact hB _ _ | assumption | decide) only [st_MD_keeps, rs_L, hz, mr_md E _, mm_pI_at, mm_pI_pI, mm_pI_2, mm_pL_1, mm_pL_at, mm_pL_pL, mm_pL_3, mm_pM_1, mm_pM_2, mm_pM_at, mm_pM_pM, mm_pI_pL, mm_pI_pM, mm_pL_pM, Bool.false_eq_true, n_10, true_and, and_true, false_and, and_false, Nat.not_lt_zero, true_or, or_true, eq_self, mm_z, mm_rs, sw_xc_ite, sw_xv_ite, n_m1, Nat.lt_irrefl, not_false_eq_true, not_true_eq_false, inS_0, inS_1, ite_not, sw_xv_some, sw_xm_some, sw_xc_some, sw_xc_void, if_true, if_false, reduceIte, bI_0, bI_01, bI_1, nt_or, Nat.reduceAdd, n_add, n_mul, n_addL, n_Ladd, n_mulL, n_Lmul, n_sub, n_subL, n_lt, n_eq, n_ltL, n_Llt, n_eqL, n_Leq, n_nneg, n_pos]
/-- the first place of a sheet that isn't right -/
def tw_rp (T : Nat → Nat → Nat) (R : Nat → Int64) (i : Nat) : Bool := !(decide (i < T 0 1) && decide (R i = lN (T 3 i)))
def tw_rd (T : Nat → Nat → Nat) (R : Nat → Int64) (n : Nat) : Nat := if fa_first (tw_rp T R) n < n then 1 + fa_first (tw_rp T R) n else 0
set_option maxRecDepth 100000 in
set_option maxHeartbeats 4000000 in
theorem c_read_l (hI : IT (S.1 0)) {s n : Nat} (hs : s < 4) (hn : n ≤ 40) (hz : S.2.2 7 s = nI n) (a1 : Value) : h_SW_read_0 E [.ref 0, a1, .ref (mm_sh s), .int 0] (mk S) = some (some (.int (nI (tw_rd (S.1 0) (S.2.1 (6 + s)) n))), mk S) := by
  have h03 : 0 < 3 := by decide
  have hB := hI.b
  have hth := hI.n
  have key := lp_find (G := fun i => h_SW_read_0 E [.ref 0, a1, .ref (mm_sh s), .int (nI i)] (mk S)) (p := tw_rp (S.1 0) (S.2.1 (6 + s))) (yes := fun i => some (some (.int (nI (1 + i))), mk S)) (no := some (some (.int (nI 0)), mk S)) (n := n) (fun i hi => ?_) ?_
  · refine key.trans ?_
    unfold tw_rd
    split <;> rfl
  · rw [u_SW_read_0]
    unfold tw_rp
    have eP : (nI (S.1 0 3 i)).toInt64 = lN (S.1 0 3 i) := nI_l (hB _ _)
    by_cases h1 : i < S.1 0 0 1
    · simp (disch := first | omega | exact hB _ _ | assumption | decide) only [st_SW_read, mr_town E _ 0 h03, mr_sheet E _ s hs, hz, hi, h1, lg_cmp_eq, eP, mr_cl E _, mm_pI_at, mm_pI_pI, mm_pI_2, mm_pL_1, mm_pL_at, mm_pL_pL, mm_pL_3, mm_pM_1, mm_pM_2, mm_pM_at, mm_pM_pM, mm_pI_pL, mm_pI_pM, mm_pL_pM, Bool.false_eq_true, n_10, true_and, and_true, false_and, and_false, Nat.not_lt_zero, true_or, or_true, eq_self, mm_z, mm_rs, sw_xc_ite, sw_xv_ite, n_m1, Nat.lt_irrefl, not_false_eq_true, not_true_eq_false, inS_0, inS_1, ite_not, sw_xv_some, sw_xm_some, sw_xc_some, sw_xc_void, if_true, if_false, reduceIte, bI_0, bI_01, bI_1, nt_or, Nat.reduceAdd, n_add, n_mul, n_addL, n_Ladd, n_mulL, n_Lmul, n_sub, n_subL, n_lt, n_eq, n_ltL, n_Llt, n_eqL, n_Leq, n_nneg, n_pos]
      by_cases h2 : S.2.1 (6 + s) i = lN (S.1 0 3 i) <;> simp [h1, h2]
    · simp (disch := first | omega | exact hB _ _ | assumption | decide) only [st_SW_read, mr_town E _ 0 h03, mr_sheet E _ s hs, hz, hi, h1, mr_cl E _, mm_pI_at, mm_pI_pI, mm_pI_2, mm_pL_1, mm_pL_at, mm_pL_pL, mm_pL_3, mm_pM_1, mm_pM_2, mm_pM_at, mm_pM_pM, mm_pI_pL, mm_pI_pM, mm_pL_pM, Bool.false_eq_true, n_10, true_and, and_true, false_and, and_false, Nat.not_lt_zero, true_or, or_true, eq_self, mm_z, mm_rs, sw_xc_ite, sw_xv_ite, n_m1, Nat.lt_irrefl, not_false_eq_true, not_true_eq_false, inS_0, inS_1, ite_not, sw_xv_some, sw_xm_some, sw_xc_some, sw_xc_void, if_true, if_false, reduceIte, bI_0, bI_01, bI_1, nt_or, Nat.reduceAdd, n_add, n_mul, n_addL, n_Ladd, n_mulL, n_Lmul, n_sub, n_subL, n_lt, n_eq, n_ltL, n_Llt, n_eqL, n_Leq, n_nneg, n_pos]
      simp [h1]
  · rw [u_SW_read_0]
    simp (disch := first | omega | exact hB _ _ | assumption | decide) only [st_SW_read, mr_town E _ 0 h03, mr_sheet E _ s hs, hz, mr_cl E _, mm_pI_at, mm_pI_pI, mm_pI_2, mm_pL_1, mm_pL_at, mm_pL_pL, mm_pL_3, mm_pM_1, mm_pM_2, mm_pM_at, mm_pM_pM, mm_pI_pL, mm_pI_pM, mm_pL_pM, Bool.false_eq_true, n_10, true_and, and_true, false_and, and_false, Nat.not_lt_zero, true_or, or_true, eq_self, mm_z, mm_rs, sw_xc_ite, sw_xv_ite, n_m1, Nat.lt_irrefl, not_false_eq_true, not_true_eq_false, inS_0, inS_1, ite_not, sw_xv_some, sw_xm_some, sw_xc_some, sw_xc_void, if_true, if_false, reduceIte, bI_0, bI_01, bI_1, nt_or, Nat.reduceAdd, n_add, n_mul, n_addL, n_Ladd, n_mulL, n_Lmul, n_sub, n_subL, n_lt, n_eq, n_ltL, n_Llt, n_eqL, n_Leq, n_nneg, n_pos]
    rfl
set_option maxRecDepth 100000 in
set_option maxHeartbeats 4000000 in
theorem md_read_l (hI : IT (S.1 3)) {s n : Nat} (hs : s < 4) (hn : n ≤ 40) (hz : S.2.2 27 s = nI n) (a2 : Value) : h_MD_read_0 E [.ref 71, .int (nI s), a2, .int 0] (mk S) = some (some (.int (nI (tw_rd (S.1 3) (S.2.1 (10 + s)) n))), mk S) := by
  have hB := hI.b
  have hth := hI.n
  have key := lp_find (G := fun i => h_MD_read_0 E [.ref 71, .int (nI s), a2, .int (nI i)] (mk S)) (p := tw_rp (S.1 3) (S.2.1 (10 + s))) (yes := fun i => some (some (.int (nI (1 + i))), mk S)) (no := some (some (.int (nI 0)), mk S)) (n := n) (fun i hi => ?_) ?_
  · refine key.trans ?_
    unfold tw_rd
    split <;> rfl
  · have hi40 : i < 40 := by omega
    rw [u_MD_read_0]
    unfold tw_rp
    have eP : (nI (S.1 3 3 i)).toInt64 = lN (S.1 3 3 i) := nI_l (hB _ _)
    by_cases h1 : i < S.1 3 0 1
    · have hi16 : i < 16 := by omega
      simp (disch := first | omega | exact hB _ _ | assumption | decide) only [st_MD_read, rs_L, hz, hi, md_isThing E S hB (p := i) (by omega), h1, rs_num _ hs hi40, md_has1 E S hi16, lg_cmp_eq, eP, Nat.add_comm i 1, mr_md E _, mm_pI_at, mm_pI_pI, mm_pI_2, mm_pL_1, mm_pL_at, mm_pL_pL, mm_pL_3, mm_pM_1, mm_pM_2, mm_pM_at, mm_pM_pM, mm_pI_pL, mm_pI_pM, mm_pL_pM, Bool.false_eq_true, n_10, true_and, and_true, false_and, and_false, Nat.not_lt_zero, true_or, or_true, eq_self, mm_z, mm_rs, sw_xc_ite, sw_xv_ite, n_m1, Nat.lt_irrefl, not_false_eq_true, not_true_eq_false, inS_0, inS_1, ite_not, sw_xv_some, sw_xm_some, sw_xc_some, sw_xc_void, if_true, if_false, reduceIte, bI_0, bI_01, bI_1, nt_or, Nat.reduceAdd, n_add, n_mul, n_addL, n_Ladd, n_mulL, n_Lmul, n_sub, n_subL, n_lt, n_eq, n_ltL, n_Llt, n_eqL, n_Leq, n_nneg, n_pos]
      by_cases h2 : S.2.1 (10 + s) i = lN (S.1 3 3 i) <;> simp [h1, h2, Nat.add_comm]
    · simp (disch := first | omega | exact hB _ _ | assumption | decide) only [st_MD_read, rs_L, hz, hi, md_isThing E S hB (p := i) (by omega), h1, Nat.add_comm i 1, mr_md E _, mm_pI_at, mm_pI_pI, mm_pI_2, mm_pL_1, mm_pL_at, mm_pL_pL, mm_pL_3, mm_pM_1, mm_pM_2, mm_pM_at, mm_pM_pM, mm_pI_pL, mm_pI_pM, mm_pL_pM, Bool.false_eq_true, n_10, true_and, and_true, false_and, and_false, Nat.not_lt_zero, true_or, or_true, eq_self, mm_z, mm_rs, sw_xc_ite, sw_xv_ite, n_m1, Nat.lt_irrefl, not_false_eq_true, not_true_eq_false, inS_0, inS_1, ite_not, sw_xv_some, sw_xm_some, sw_xc_some, sw_xc_void, if_true, if_false, reduceIte, bI_0, bI_01, bI_1, nt_or, Nat.reduceAdd, n_add, n_mul, n_addL, n_Ladd, n_mulL, n_Lmul, n_sub, n_subL, n_lt, n_eq, n_ltL, n_Llt, n_eqL, n_Leq, n_nneg, n_pos]
      simp [h1]
  · rw [u_MD_read_0]
    simp (disch := first | omega | exact hB _ _ | assumption | decide) only [st_MD_read, rs_L, hz, mr_md E _, mm_pI_at, mm_pI_pI, mm_pI_2, mm_pL_1, mm_pL_at, mm_pL_pL, mm_pL_3, mm_pM_1, mm_pM_2, mm_pM_at, mm_pM_pM, mm_pI_pL, mm_pI_pM, mm_pL_pM, Bool.false_eq_true, n_10, true_and, and_true, false_and, and_false, Nat.not_lt_zero, true_or, or_true, eq_self, mm_z, mm_rs, sw_xc_ite, sw_xv_ite, n_m1, Nat.lt_irrefl, not_false_eq_true, not_true_eq_false, inS_0, inS_1, ite_not, sw_xv_some, sw_xm_some, sw_xc_some, sw_xc_void, if_true, if_false, reduceIte, bI_0, bI_01, bI_1, nt_or, Nat.reduceAdd, n_add, n_mul, n_addL, n_Ladd, n_mulL, n_Lmul, n_sub, n_subL, n_lt, n_eq, n_ltL, n_Llt, n_eqL, n_Leq, n_nneg, n_pos]
    rfl
end SHT
