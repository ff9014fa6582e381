/-! ===== fewest, the night, the least part ===== -/
/-- a set below 24 is a number -/
theorem set_nat {x : Int32} (h : ∀ i, 24 ≤ i → i < 32 → bt x i = false) : ∃ a, a < 16777216 ∧ x = nI a := by
  have hl : x.toUInt32.toNat < 16777216 := by
    have e : x.toUInt32.toNat = x.toBitVec.toNat := rfl
    rw [e]
    apply Nat.lt_pow_two_of_testBit (n := 24)
    intro i hi
    rcases Nat.lt_or_ge i 32 with g | g
    · exact h i hi g
    · exact Nat.testBit_lt_two_pow (Nat.lt_of_lt_of_le x.toBitVec.isLt (Nat.pow_le_pow_right (by decide) g))
  refine ⟨x.toUInt32.toNat, hl, ?_⟩
  apply Int32.toInt_inj.mp
  rw [nI_toInt (by omega), i32_nat, if_pos (by omega)]
theorem set_nat16 {n : Nat} (hn : n ≤ 16) (p : Nat → Bool) : ∃ a, a < 65536 ∧ tw_set n p = nI a := by
  have hb : ∀ i, 16 ≤ i → i < 32 → bt (tw_set n p) i = false := fun i h1 h2 => by
    rw [bt_set (by omega) h2, decide_eq_false (by omega), Bool.false_and]
  have hl : (tw_set n p).toUInt32.toNat < 65536 := by
    have e : (tw_set n p).toUInt32.toNat = (tw_set n p).toBitVec.toNat := rfl
    rw [e]
    apply Nat.lt_pow_two_of_testBit (n := 16)
    intro i hi
    rcases Nat.lt_or_ge i 32 with g | g
    · exact hb i hi g
    · exact Nat.testBit_lt_two_pow (Nat.lt_of_lt_of_le (tw_set n p).toBitVec.isLt (Nat.pow_le_pow_right (by decide) g))
  refine ⟨(tw_set n p).toUInt32.toNat, hl, ?_⟩
  apply Int32.toInt_inj.mp
  rw [nI_toInt (by omega), i32_nat, if_pos (by omega)]
/-- does a set count the sum -/
def qf (T : Nat → Nat → Nat) (y z s : Nat) : Bool := decide (z ≤ tw_wa T (nI s) y (T 0 5))
theorem inS_nI {s i : Nat} (hi : i < 16) : inS (nI s) i = s.testBit i := by
  rw [inS_bt (by omega)]
  show (BitVec.ofNat 32 s).getLsbD i = _
  rw [BitVec.getLsbD_ofNat]
  simp [show i < 32 by omega]
theorem tw_sum_mono {n : Nat} {p q : Nat → Bool} {v : Nat → Nat} (h : ∀ i, i < n → p i = true → q i = true) : tw_sum n p v ≤ tw_sum n q v := by
  unfold tw_sum
  induction n with
  | zero => exact Nat.le_refl _
  | succ n ih =>
    have := ih (fun i hi => h i (by omega))
    rw [lp_s, lp_s]
    by_cases hp : p n = true
    · rw [if_pos hp, if_pos (h n (by omega) hp)]; omega
    · rw [if_neg hp]
      split <;> omega
theorem wa_mono {T : Nat → Nat → Nat} (h : IT T) {s C y part : Nat} (hs : s &&& C = s) : tw_wa T (nI s) y part ≤ tw_wa T (nI C) y part := by
  have hn := h.n
  refine tw_sum_mono (fun i hi hp => ?_)
  rw [inS_nI (by omega)] at hp ⊢
  rw [← hs, Nat.testBit_and] at hp
  simp at hp
  exact hp.2
section FW
variable (E : sw_E) (S : sw_S)
set_option maxRecDepth 100000 in
set_option maxHeartbeats 4000000 in
theorem c_fewestOf (hI : IT (S.1 0)) {C y z : Nat} (hC : C < 65536) (hy : y < 10) (hz : z ≤ 9999) : f_Town_fewestOf E (.ref (mm_tn 0 0)) (.int (nI C)) (.int (nI y)) (.int (nI z)) (mk S) = some (some (.int (nI (tw_fw C (qf (S.1 0) y z)))), mk S) := by
  have h03 : 0 < 3 := by decide
  have hB := hI.b
  have key := lp_up (G := fun i b => h_Town_fewestOf_0 E [.ref (mm_tn 0 0), .int (nI C), .int (nI y), .int (nI z), .int (nI b), .int (nI (es C i)), .int (nI i)] (mk S)) (P := fun _ b => b ≤ C) (f := fww1 C (qf (S.1 0) y z)) (fin := fun b => some (some (.int (nI b)), mk S)) (n := 1024) (a0 := C) (Nat.le_refl C) (fun i b hi hb => ⟨?_, ?_⟩) (fun b hb => ?_)
  · simp only [e_Town_fewestOf, st_Town_fewestOf]
    exact key
  · have hle := es_le (C := C) i
    have hw := tw_wa_le hI (s := nI (es C i)) (p := y) hI.part
    have e1 : nxk 32 C (es C i) = es C (i + 1) := rfl
    have p1 := pcN_le 32 (es C i)
    have p2 := pcN_le 32 b
    rw [u_Town_fewestOf_0]
    unfold fww1
    by_cases q1 : pcN 32 (es C i) < pcN 32 b
    · by_cases q2 : tw_wa (S.1 0) (nI (es C i)) y (S.1 0 0 5) < z
      · have q3 : ¬ (pcN 32 (es C i) < pcN 32 b ∧ qf (S.1 0) y z (es C i) = true) := fun g => by
          have := g.2
          unfold qf at this
          rw [decide_eq_true_eq] at this
          omega
        rw [if_neg q3]
        simp (disch := first | omega | exact hB _ _ | assumption | decide) only [st_Town_fewestOf, mr_town E _ 0 h03, hi, c_bitCount E (show es C i < 16777216 by omega), c_bitCount E (show b < 16777216 by omega), q1, c_Town_worthOfAll E S 0 h03 hI (nI (es C i)) hy hI.part, q2, n_nx hC, e1, mr_cl E _, mm_pI_at, mm_pI_pI, mm_pI_2, mm_pL_1, mm_pL_at, mm_pL_pL, mm_pL_3, mm_pM_1, mm_pM_2, mm_pM_at, mm_pM_pM, mm_pI_pL, mm_pI_pM, mm_pL_pM, Bool.false_eq_true, n_10, true_and, and_true, false_and, and_false, Nat.not_lt_zero, true_or, or_true, eq_self, mm_z, mm_rs, sw_xc_ite, sw_xv_ite, n_m1, Nat.lt_irrefl, not_false_eq_true, not_true_eq_false, inS_0, inS_1, ite_not, sw_xv_some, sw_xm_some, sw_xc_some, sw_xc_void, if_true, if_false, reduceIte, bI_0, bI_01, bI_1, nt_or, Nat.reduceAdd, n_add, n_mul, n_addL, n_Ladd, n_mulL, n_Lmul, n_sub, n_subL, n_lt, n_eq, n_ltL, n_Llt, n_eqL, n_Leq, n_nneg, n_pos]
      · have q3 : pcN 32 (es C i) < pcN 32 b ∧ qf (S.1 0) y z (es C i) = true := ⟨q1, by unfold qf; rw [decide_eq_true_eq]; omega⟩
        rw [if_pos q3]
        simp (disch := first | omega | exact hB _ _ | assumption | decide) only [st_Town_fewestOf, mr_town E _ 0 h03, hi, c_bitCount E (show es C i < 16777216 by omega), c_bitCount E (show b < 16777216 by omega), q1, c_Town_worthOfAll E S 0 h03 hI (nI (es C i)) hy hI.part, q2, n_nx hC, e1, mr_cl E _, mm_pI_at, mm_pI_pI, mm_pI_2, mm_pL_1, mm_pL_at, mm_pL_pL, mm_pL_3, mm_pM_1, mm_pM_2, mm_pM_at, mm_pM_pM, mm_pI_pL, mm_pI_pM, mm_pL_pM, Bool.false_eq_true, n_10, true_and, and_true, false_and, and_false, Nat.not_lt_zero, true_or, or_true, eq_self, mm_z, mm_rs, sw_xc_ite, sw_xv_ite, n_m1, Nat.lt_irrefl, not_false_eq_true, not_true_eq_false, inS_0, inS_1, ite_not, sw_xv_some, sw_xm_some, sw_xc_some, sw_xc_void, if_true, if_false, reduceIte, bI_0, bI_01, bI_1, nt_or, Nat.reduceAdd, n_add, n_mul, n_addL, n_Ladd, n_mulL, n_Lmul, n_sub, n_subL, n_lt, n_eq, n_ltL, n_Llt, n_eqL, n_Leq, n_nneg, n_pos]
    · rw [if_neg (fun g => q1 g.1)]
      simp (disch := first | omega | exact hB _ _ | assumption | decide) only [st_Town_fewestOf, mr_town E _ 0 h03, hi, c_bitCount E (show es C i < 16777216 by omega), c_bitCount E (show b < 16777216 by omega), q1, n_nx hC, e1, mr_cl E _, mm_pI_at, mm_pI_pI, mm_pI_2, mm_pL_1, mm_pL_at, mm_pL_pL, mm_pL_3, mm_pM_1, mm_pM_2, mm_pM_at, mm_pM_pM, mm_pI_pL, mm_pI_pM, mm_pL_pM, Bool.false_eq_true, n_10, true_and, and_true, false_and, and_false, Nat.not_lt_zero, true_or, or_true, eq_self, mm_z, mm_rs, sw_xc_ite, sw_xv_ite, n_m1, Nat.lt_irrefl, not_false_eq_true, not_true_eq_false, inS_0, inS_1, ite_not, sw_xv_some, sw_xm_some, sw_xc_some, sw_xc_void, if_true, if_false, reduceIte, bI_0, bI_01, bI_1, nt_or, Nat.reduceAdd, n_add, n_mul, n_addL, n_Ladd, n_mulL, n_Lmul, n_sub, n_subL, n_lt, n_eq, n_ltL, n_Llt, n_eqL, n_Leq, n_nneg, n_pos]
  · have hle := es_le (C := C) i
    unfold fww1
    split <;> omega
  · rw [u_Town_fewestOf_0]
    simp (disch := first | omega | exact hB _ _ | assumption | decide) only [st_Town_fewestOf, mr_cl E _, mm_pI_at, mm_pI_pI, mm_pI_2, mm_pL_1, mm_pL_at, mm_pL_pL, mm_pL_3, mm_pM_1, mm_pM_2, mm_pM_at, mm_pM_pM, mm_pI_pL, mm_pI_pM, mm_pL_pM, Bool.false_eq_true, n_10, true_and, and_true, false_and, and_false, Nat.not_lt_zero, true_or, or_true, eq_self, mm_z, mm_rs, sw_xc_ite, sw_xv_ite, n_m1, Nat.lt_irrefl, not_false_eq_true, not_true_eq_false, inS_0, inS_1, ite_not, sw_xv_some, sw_xm_some, sw_xc_some, sw_xc_void, if_true, if_false, reduceIte, bI_0, bI_01, bI_1, nt_or, Nat.reduceAdd, n_add, n_mul, n_addL, n_Ladd, n_mulL, n_Lmul, n_sub, n_subL, n_lt, n_eq, n_ltL, n_Llt, n_eqL, n_Leq, n_nneg, n_pos]
set_option maxRecDepth 100000 in
set_option maxHeartbeats 4000000 in
theorem md_few_l (hI : IT (S.1 3)) {C y z : Nat} (hC : C < 65536) (hy : y < 10) (hz : z ≤ 9999) (a1 : Value) : ∃ d6, h_MD_fewest_0 E [.ref 71, a1, .int (nI y), .int (nI z), .int (nI C), .int (-1), .int 0, .int 1] (mk S) = sw_ex E 184 126 [.ref 71, a1, .int (nI y), .int (nI z), .int (nI C), .int (oI (tw_fm C (qf (S.1 3) y z))), d6, .int 0] [] (mk S) ∧ ∀ b, tw_fm C (qf (S.1 3) y z) = some b → b ≤ C := by
  have hB := hI.b
  have hK : ∀ i, i < 2 ^ pcN 32 C → (es C i = C ↔ i + 1 = 2 ^ pcN 32 C) := fun i hi => es_all hC hi
  have hK0 : 0 < 2 ^ pcN 32 C := Nat.two_pow_pos _
  unfold tw_fm
  generalize 2 ^ pcN 32 C = K at *
  have hP0 := lp_inv (f := fmm1 C (qf (S.1 3) y z)) (P := fun _ o => ∀ b, o = some b → b ≤ C) (n := K) (a := none) (fun b e => by cases e) (fun i o hi hP b e => by
    have hle := es_le (C := C) i
    cases o with
    | none =>
      simp only [fmm1] at e
      split at e
      · injection e with e; omega
      · cases e
    | some c =>
      have := hP c rfl
      simp only [fmm1] at e
      split at e <;> (injection e with e; omega))
  have key := lp_up (G := fun i o => h_MD_fewest_0 E [.ref 71, a1, .int (nI y), .int (nI z), .int (nI C), .int (oI o), .int (nI (es C i)), .int (bI (i < K))] (mk S)) (P := fun _ o => ∀ b, o = some b → b ≤ C) (f := fmm1 C (qf (S.1 3) y z)) (fin := fun o => sw_ex E 184 126 [.ref 71, a1, .int (nI y), .int (nI z), .int (nI C), .int (oI o), .int (nI (es C K)), .int 0] [] (mk S)) (n := K) (a0 := none) (fun b e => by cases e) (fun i o hi hP => ⟨?_, ?_⟩) (fun o hP => ?_)
  · refine ⟨.int (nI (es C K)), ?_, hP0⟩
    rw [bI_t hK0] at key
    exact key
  · have hle := es_le (C := C) i
    have hw := tw_wa_le hI (s := nI (es C i)) (p := y) hI.part
    have e1 : nxk 32 C (es C i) = es C (i + 1) := rfl
    have p1 := pcN_le 32 (es C i)
    have eK := hK i hi
    rw [u_MD_fewest_0, bI_t hi]
    have gg : ∃ m : Int32, bI (i + 1 < K) = m ∧ ((es C i = C ∧ m = 0) ∨ (¬ es C i = C ∧ m = 1)) := by
      by_cases g : i + 1 = K
      · exact ⟨0, bI_f (by omega), Or.inl ⟨eK.mpr g, rfl⟩⟩
      · exact ⟨1, bI_t (by omega), Or.inr ⟨fun e => g (eK.mp e), rfl⟩⟩
    obtain ⟨m, em, gg⟩ := gg
    rw [em]
    by_cases q2 : tw_wa (S.1 3) (nI (es C i)) y (S.1 3 0 5) < z
    · have q3 : ¬ qf (S.1 3) y z (es C i) = true := fun g => by
        unfold qf at g
        rw [decide_eq_true_eq] at g
        omega
      have et : fmm1 C (qf (S.1 3) y z) i o = o := by
        cases o with
        | none => simp only [fmm1]; rw [if_neg q3]
        | some b => simp only [fmm1]; rw [if_neg (fun g => q3 g.1)]
      rw [et]
      rcases gg with ⟨g1, rfl⟩ | ⟨g1, rfl⟩
      · have g1' : (es C i = C) ↔ True := by simp [g1]
        have e9 : nI (es C i - C) &&& nI C = nI (es C (i + 1)) := by rw [← n_sub (by omega), n_nx hC]; rfl
        simp (disch := first | omega | exact hB _ _ | assumption | decide) only [st_MD_fewest, md_countsAll E S hI (nI (es C i)) hy, q2, n_nx hC, e1, g1', e9, mr_md E _, mm_pI_at, mm_pI_pI, mm_pI_2, mm_pL_1, mm_pL_at, mm_pL_pL, mm_pL_3, mm_pM_1, mm_pM_2, mm_pM_at, mm_pM_pM, mm_pI_pL, mm_pI_pM, mm_pL_pM, Bool.false_eq_true, n_10, true_and, and_true, false_and, and_false, Nat.not_lt_zero, true_or, or_true, eq_self, mm_z, mm_rs, sw_xc_ite, sw_xv_ite, n_m1, Nat.lt_irrefl, not_false_eq_true, not_true_eq_false, inS_0, inS_1, ite_not, sw_xv_some, sw_xm_some, sw_xc_some, sw_xc_void, if_true, if_false, reduceIte, bI_0, bI_01, bI_1, nt_or, Nat.reduceAdd, n_add, n_mul, n_addL, n_Ladd, n_mulL, n_Lmul, n_sub, n_subL, n_lt, n_eq, n_ltL, n_Llt, n_eqL, n_Leq, n_nneg, n_pos]
      · simp (disch := first | omega | exact hB _ _ | assumption | decide) only [st_MD_fewest, md_countsAll E S hI (nI (es C i)) hy, q2, n_nx hC, e1, g1, mr_md E _, mm_pI_at, mm_pI_pI, mm_pI_2, mm_pL_1, mm_pL_at, mm_pL_pL, mm_pL_3, mm_pM_1, mm_pM_2, mm_pM_at, mm_pM_pM, mm_pI_pL, mm_pI_pM, mm_pL_pM, Bool.false_eq_true, n_10, true_and, and_true, false_and, and_false, Nat.not_lt_zero, true_or, or_true, eq_self, mm_z, mm_rs, sw_xc_ite, sw_xv_ite, n_m1, Nat.lt_irrefl, not_false_eq_true, not_true_eq_false, inS_0, inS_1, ite_not, sw_xv_some, sw_xm_some, sw_xc_some, sw_xc_void, if_true, if_false, reduceIte, bI_0, bI_01, bI_1, nt_or, Nat.reduceAdd, n_add, n_mul, n_addL, n_Ladd, n_mulL, n_Lmul, n_sub, n_subL, n_lt, n_eq, n_ltL, n_Llt, n_eqL, n_Leq, n_nneg, n_pos]
    · have q3 : qf (S.1 3) y z (es C i) = true := by unfold qf; rw [decide_eq_true_eq]; omega
      cases o with
      | none =>
        have et : fmm1 C (qf (S.1 3) y z) i none = some (es C i) := by simp only [fmm1]; rw [if_pos q3]
        rw [et]
        rcases gg with ⟨g1, rfl⟩ | ⟨g1, rfl⟩
        · have g1' : (es C i = C) ↔ True := by simp [g1]
          have e9 : nI (es C i - C) &&& nI C = nI (es C (i + 1)) := by rw [← n_sub (by omega), n_nx hC]; rfl
          simp (disch := first | omega | exact hB _ _ | assumption | decide) only [st_MD_fewest, md_countsAll E S hI (nI (es C i)) hy, q2, n_nx hC, e1, g1', e9, oI, mr_md E _, mm_pI_at, mm_pI_pI, mm_pI_2, mm_pL_1, mm_pL_at, mm_pL_pL, mm_pL_3, mm_pM_1, mm_pM_2, mm_pM_at, mm_pM_pM, mm_pI_pL, mm_pI_pM, mm_pL_pM, Bool.false_eq_true, n_10, true_and, and_true, false_and, and_false, Nat.not_lt_zero, true_or, or_true, eq_self, mm_z, mm_rs, sw_xc_ite, sw_xv_ite, n_m1, Nat.lt_irrefl, not_false_eq_true, not_true_eq_false, inS_0, inS_1, ite_not, sw_xv_some, sw_xm_some, sw_xc_some, sw_xc_void, if_true, if_false, reduceIte, bI_0, bI_01, bI_1, nt_or, Nat.reduceAdd, n_add, n_mul, n_addL, n_Ladd, n_mulL, n_Lmul, n_sub, n_subL, n_lt, n_eq, n_ltL, n_Llt, n_eqL, n_Leq, n_nneg, n_pos]
        · simp (disch := first | omega | exact hB _ _ | assumption | decide) only [st_MD_fewest, md_countsAll E S hI (nI (es C i)) hy, q2, n_nx hC, e1, g1, oI, mr_md E _, mm_pI_at, mm_pI_pI, mm_pI_2, mm_pL_1, mm_pL_at, mm_pL_pL, mm_pL_3, mm_pM_1, mm_pM_2, mm_pM_at, mm_pM_pM, mm_pI_pL, mm_pI_pM, mm_pL_pM, Bool.false_eq_true, n_10, true_and, and_true, false_and, and_false, Nat.not_lt_zero, true_or, or_true, eq_self, mm_z, mm_rs, sw_xc_ite, sw_xv_ite, n_m1, Nat.lt_irrefl, not_false_eq_true, not_true_eq_false, inS_0, inS_1, ite_not, sw_xv_some, sw_xm_some, sw_xc_some, sw_xc_void, if_true, if_false, reduceIte, bI_0, bI_01, bI_1, nt_or, Nat.reduceAdd, n_add, n_mul, n_addL, n_Ladd, n_mulL, n_Lmul, n_sub, n_subL, n_lt, n_eq, n_ltL, n_Llt, n_eqL, n_Leq, n_nneg, n_pos]
      | some b =>
        have hb := hP b rfl
        have p2 := pcN_le 32 b
        by_cases q4 : pcN 32 (es C i) < pcN 32 b
        · have et : fmm1 C (qf (S.1 3) y z) i (some b) = some (es C i) := by simp only [fmm1]; rw [if_pos ⟨q3, q4⟩]
          rw [et]
          rcases gg with ⟨g1, rfl⟩ | ⟨g1, rfl⟩
          · have g1' : (es C i = C) ↔ True := by simp [g1]
            have e9 : nI (es C i - C) &&& nI C = nI (es C (i + 1)) := by rw [← n_sub (by omega), n_nx hC]; rfl
            simp (disch := first | omega | exact hB _ _ | assumption | decide) only [st_MD_fewest, md_countsAll E S hI (nI (es C i)) hy, q2, n_nx hC, e1, g1', e9, oI, md_ones E S (show es C i < 2147483648 by omega), md_ones E S (show b < 2147483648 by omega), q4, mr_md E _, mm_pI_at, mm_pI_pI, mm_pI_2, mm_pL_1, mm_pL_at, mm_pL_pL, mm_pL_3, mm_pM_1, mm_pM_2, mm_pM_at, mm_pM_pM, mm_pI_pL, mm_pI_pM, mm_pL_pM, Bool.false_eq_true, n_10, true_and, and_true, false_and, and_false, Nat.not_lt_zero, true_or, or_true, eq_self, mm_z, mm_rs, sw_xc_ite, sw_xv_ite, n_m1, Nat.lt_irrefl, not_false_eq_true, not_true_eq_false, inS_0, inS_1, ite_not, sw_xv_some, sw_xm_some, sw_xc_some, sw_xc_void, if_true, if_false, reduceIte, bI_0, bI_01, bI_1, nt_or, Nat.reduceAdd, n_add, n_mul, n_addL, n_Ladd, n_mulL, n_Lmul, n_sub, n_subL, n_lt, n_eq, n_ltL, n_Llt, n_eqL, n_Leq, n_nneg, n_pos]
          · simp (disch := first | omega | exact hB _ _ | assumption | decide) only [st_MD_fewest, md_countsAll E S hI (nI (es C i)) hy, q2, n_nx hC, e1, g1, oI, md_ones E S (show es C i < 2147483648 by omega), md_ones E S (show b < 2147483648 by omega), q4, mr_md E _, mm_pI_at, mm_pI_pI, mm_pI_2, mm_pL_1, mm_pL_at, mm_pL_pL, mm_pL_3, mm_pM_1, mm_pM_2, mm_pM_at, mm_pM_pM, mm_pI_pL, mm_pI_pM, mm_pL_pM, Bool.false_eq_true, n_10, true_and, and_true, false_and, and_false, Nat.not_lt_zero, true_or, or_true, eq_self, mm_z, mm_rs, sw_xc_ite, sw_xv_ite, n_m1, Nat.lt_irrefl, not_false_eq_true, not_true_eq_false, inS_0, inS_1, ite_not, sw_xv_some, sw_xm_some, sw_xc_some, sw_xc_void, if_true, if_false, reduceIte, bI_0, bI_01, bI_1, nt_or, Nat.reduceAdd, n_add, n_mul, n_addL, n_Ladd, n_mulL, n_Lmul, n_sub, n_subL, n_lt, n_eq, n_ltL, n_Llt, n_eqL, n_Leq, n_nneg, n_pos]
        · have et : fmm1 C (qf (S.1 3) y z) i (some b) = some b := by simp only [fmm1]; rw [if_neg (fun g => q4 g.2)]
          rw [et]
          rcases gg with ⟨g1, rfl⟩ | ⟨g1, rfl⟩
          · have g1' : (es C i = C) ↔ True := by simp [g1]
            have e9 : nI (es C i - C) &&& nI C = nI (es C (i + 1)) := by rw [← n_sub (by omega), n_nx hC]; rfl
            simp (disch := first | omega | exact hB _ _ | assumption | decide) only [st_MD_fewest, md_countsAll E S hI (nI (es C i)) hy, q2, n_nx hC, e1, g1', e9, oI, md_ones E S (show es C i < 2147483648 by omega), md_ones E S (show b < 2147483648 by omega), q4, mr_md E _, mm_pI_at, mm_pI_pI, mm_pI_2, mm_pL_1, mm_pL_at, mm_pL_pL, mm_pL_3, mm_pM_1, mm_pM_2, mm_pM_at, mm_pM_pM, mm_pI_pL, mm_pI_pM, mm_pL_pM, Bool.false_eq_true, n_10, true_and, and_true, false_and, and_false, Nat.not_lt_zero, true_or, or_true, eq_self, mm_z, mm_rs, sw_xc_ite, sw_xv_ite, n_m1, Nat.lt_irrefl, not_false_eq_true, not_true_eq_false, inS_0, inS_1, ite_not, sw_xv_some, sw_xm_some, sw_xc_some, sw_xc_void, if_true, if_false, reduceIte, bI_0, bI_01, bI_1, nt_or, Nat.reduceAdd, n_add, n_mul, n_addL, n_Ladd, n_mulL, n_Lmul, n_sub, n_subL, n_lt, n_eq, n_ltL, n_Llt, n_eqL, n_Leq, n_nneg, n_pos]
          · simp (disch := first | omega | exact hB _ _ | assumption | decide) only [st_MD_fewest, md_countsAll E S hI (nI (es C i)) hy, q2, n_nx hC, e1, g1, oI, md_ones E S (show es C i < 2147483648 by omega), md_ones E S (show b < 2147483648 by omega), q4, mr_md E _, mm_pI_at, mm_pI_pI, mm_pI_2, mm_pL_1, mm_pL_at, mm_pL_pL, mm_pL_3, mm_pM_1, mm_pM_2, mm_pM_at, mm_pM_pM, mm_pI_pL, mm_pI_pM, mm_pL_pM, Bool.false_eq_true, n_10, true_and, and_true, false_and, and_false, Nat.not_lt_zero, true_or, or_true, eq_self, mm_z, mm_rs, sw_xc_ite, sw_xv_ite, n_m1, Nat.lt_irrefl, not_false_eq_true, not_true_eq_false, inS_0, inS_1, ite_not, sw_xv_some, sw_xm_some, sw_xc_some, sw_xc_void, if_true, if_false, reduceIte, bI_0, bI_01, bI_1, nt_or, Nat.reduceAdd, n_add, n_mul, n_addL, n_Ladd, n_mulL, n_Lmul, n_sub, n_subL, n_lt, n_eq, n_ltL, n_Llt, n_eqL, n_Leq, n_nneg, n_pos]
  · intro b e
    have hle := es_le (C := C) i
    cases o with
    | none =>
      simp only [fmm1] at e
      split at e
      · injection e with e; omega
      · cases e
    | some c =>
      have := hP c rfl
      simp only [fmm1] at e
      split at e <;> (injection e with e; omega)
  · rw [u_MD_fewest_0, bI_f (Nat.lt_irrefl K)]
    simp (disch := first | omega | exact hB _ _ | assumption | decide) only [st_MD_fewest, mr_md E _, mm_pI_at, mm_pI_pI, mm_pI_2, mm_pL_1, mm_pL_at, mm_pL_pL, mm_pL_3, mm_pM_1, mm_pM_2, mm_pM_at, mm_pM_pM, mm_pI_pL, mm_pI_pM, mm_pL_pM, Bool.false_eq_true, n_10, true_and, and_true, false_and, and_false, Nat.not_lt_zero, true_or, or_true, eq_self, mm_z, mm_rs, sw_xc_ite, sw_xv_ite, n_m1, Nat.lt_irrefl, not_false_eq_true, not_true_eq_false, inS_0, inS_1, ite_not, sw_xv_some, sw_xm_some, sw_xc_some, sw_xc_void, if_true, if_false, reduceIte, bI_0, bI_01, bI_1, nt_or, Nat.reduceAdd, n_add, n_mul, n_addL, n_Ladd, n_mulL, n_Lmul, n_sub, n_subL, n_lt, n_eq, n_ltL, n_Llt, n_eqL, n_Leq, n_nneg, n_pos]
end FW
/-! the night -/
/-- how many are open -/
def opn (T : Nat → Nat → Nat) : Nat := tw_cnt (T 0 2) (fun k => T 13 k == 0)
theorem cnt_off {p q : Nat → Bool} {k : Nat} (hk : p k = true) (hq : q k = false) (he : ∀ j, j ≠ k → q j = p j) : ∀ n, k < n → tw_cnt n q + 1 = tw_cnt n p := by
  intro n
  induction n with
  | zero => intro h; omega
  | succ n ih =>
    intro h
    unfold tw_cnt at ih ⊢
    rw [lp_s, lp_s]
    by_cases e : n = k
    · subst e
      rw [if_pos hk, if_neg (by rw [hq]; decide)]
      have : lp (fun i a => if q i = true then a + 1 else a) n 0 = lp (fun i a => if p i = true then a + 1 else a) n 0 := lp_cong (fun i hi b => by rw [he i (by omega)])
      rw [this]
    · rw [he n e]
      have := ih (by omega)
      split <;> omega
theorem kp_13 {T : Nat → Nat → Nat} {k : Nat} : (kpL T k).2 13 = T 13 :=
  lp_inv (f := kp1 k) (P := fun _ a => a.2 13 = T 13) (n := T 0 1) (a := (0, T)) rfl (fun i a _ hP => by
    unfold kp1
    split
    · show mm_u (mm_u a.2 7 i (a.2 7 i - 1)) 3 i (a.2 9 k) 13 = _
      rw [mm_u_fn (by decide), mm_u_fn (by decide)]
      exact hP
    · exact hP)
theorem kp_opn {T : Nat → Nat → Nat} (h : IT T) {k : Nat} (hk : k < T 0 2) (hc : tw_can T k = true) : opn (tw_kp T k).2 + 1 = opn T := by
  have e0 := (IT_kp h hk).2
  unfold opn
  rw [e0]
  have hc' := hc
  unfold tw_can at hc'
  simp only [Bool.and_eq_true, beq_iff_eq] at hc'
  refine cnt_off (k := k) (by simp [hc'.1]) ?_ (fun j hj => ?_) _ hk
  · show ((mm_u (kpL T k).2 13 k 1) 13 k == 0) = false
    rw [mm_u_at]; rfl
  · show ((mm_u (kpL T k).2 13 k 1) 13 j == 0) = (T 13 j == 0)
    rw [mm_u_ne _ (fun g => hj g.2), kp_13]
theorem sr_opn {T : Nat → Nat → Nat} (h : IT T) : opn (tw_sr T).2 + (tw_sr T).1 = opn T ∧ ((tw_sr T).1 = 0 → (tw_sr T).2 = T) := by
  have key := lp_inv (f := sr1) (P := fun _ a => (IT a.2 ∧ a.2 0 = T 0) ∧ opn a.2 + a.1 = opn T ∧ (a.1 = 0 → a.2 = T)) (n := T 0 2) (a := (0, T)) ⟨⟨h, rfl⟩, rfl, fun _ => rfl⟩ (fun i a hi hP => by
    obtain ⟨⟨h1, h2⟩, h3, h4⟩ := hP
    obtain ⟨g1, g2⟩ := sr1_IT (k := i) h1 (by rw [h2]; exact hi)
    refine ⟨⟨g1, g2.trans h2⟩, ?_⟩
    unfold sr1
    split
    · next hc =>
      have := kp_opn h1 (by rw [h2]; exact hi) hc
      refine ⟨?_, fun e => ?_⟩
      · show opn (tw_kp a.2 i).2 + (a.1 + 1) = _
        omega
      · exact absurd (show a.1 + 1 = 0 from e) (by omega)
    · exact ⟨h3, h4⟩)
  exact key.2
/-- a round of the night -/
def nr1 (_ : Nat) (a : Nat × Nat × (Nat → Nat → Nat)) : Nat × Nat × (Nat → Nat → Nat) := if (tw_sr a.2.2).1 = 0 then a else (a.1 + (tw_sr a.2.2).1, a.2.1 + 1, (tw_sr a.2.2).2)
def tw_ng (T : Nat → Nat → Nat) : Nat × Nat × (Nat → Nat → Nat) := lp nr1 24 (0, 0, T)
theorem nr1_IT {i : Nat} {a : Nat × Nat × (Nat → Nat → Nat)} (h : IT a.2.2) : IT (nr1 i a).2.2 ∧ (nr1 i a).2.2 0 = a.2.2 0 := by
  unfold nr1
  split
  · exact ⟨h, rfl⟩
  · exact IT_sr h
theorem IT_ngn {T : Nat → Nat → Nat} (h : IT T) (n : Nat) : IT (lp nr1 n (0, 0, T)).2.2 ∧ (lp nr1 n (0, 0, T)).2.2 0 = T 0 := by
  have key := lp_inv (f := nr1) (P := fun _ a => IT a.2.2 ∧ a.2.2 0 = T 0) (n := n) (a := (0, 0, T)) ⟨h, rfl⟩ (fun i a _ hP => by
    obtain ⟨g1, g2⟩ := nr1_IT (i := i) hP.1
    exact ⟨g1, g2.trans hP.2⟩)
  exact key
theorem IT_ng {T : Nat → Nat → Nat} (h : IT T) : IT (tw_ng T).2.2 ∧ (tw_ng T).2.2 0 = T 0 := by
  unfold tw_ng
  exact IT_ngn h 24
theorem nr_front : ∀ n a, lp nr1 (n + 1) a = lp nr1 n (nr1 0 a)
  | 0, _ => rfl
  | n + 1, a => by rw [lp_s, nr_front n a, lp_s]; rfl
theorem nr_fix {a : Nat × Nat × (Nat → Nat → Nat)} (h : (tw_sr a.2.2).1 = 0) : ∀ n, lp nr1 n a = a
  | 0 => rfl
  | n + 1 => by rw [lp_s, nr_fix h n]; unfold nr1; rw [if_pos h]
theorem opn_le {T : Nat → Nat → Nat} (h : IT T) : opn T ≤ 24 := Nat.le_trans tw_cnt_le h.k
def home (T : Nat → Nat → Nat) : Nat := tw_cnt (T 0 1) (fun x => T 6 x == 0 && T 3 x == T 2 x)
/-- the three answers -/
def nga (w : Nat) (a : Nat × Nat × (Nat → Nat → Nat)) : Int32 := if w = 0 then nI a.1 else if w = 1 then nI a.2.1 else nI (home a.2.2)
section NG
variable (E : sw_E) (S : sw_S)
set_option maxRecDepth 100000 in
set_option maxHeartbeats 4000000 in
theorem c_night_e (hI : IT (S.1 2)) {w : Nat} (hw : w ≤ 2) (m r : Nat) (d4 d5 : Value) : sw_ex E 104 71 [.ref 0, .int (nI w), .int (nI m), .int (nI r), d4, d5] [] (mk S) = some (some (.int (nga w (m, r, S.1 2))), mk S) := by
  have h23 : 2 < 3 := by decide
  rcases (show w = 0 ∨ w = 1 ∨ w = 2 by omega) with rfl | rfl | rfl
  · simp (disch := first | omega | exact hB _ _ | assumption | decide) only [st_SW_night, show nI 0 = 0 from rfl, mr_cl E _, mm_pI_at, mm_pI_pI, mm_pI_2, mm_pL_1, mm_pL_at, mm_pL_pL, mm_pL_3, mm_pM_1, mm_pM_2, mm_pM_at, mm_pM_pM, mm_pI_pL, mm_pI_pM, mm_pL_pM, Bool.false_eq_true, n_10, true_and, and_true, false_and, and_false, Nat.not_lt_zero, true_or, or_true, eq_self, mm_z, mm_rs, sw_xc_ite, sw_xv_ite, n_m1, Nat.lt_irrefl, not_false_eq_true, not_true_eq_false, inS_0, inS_1, ite_not, sw_xv_some, sw_xm_some, sw_xc_some, sw_xc_void, if_true, if_false, reduceIte, bI_0, bI_01, bI_1, nt_or, Nat.reduceAdd, n_add, n_mul, n_addL, n_Ladd, n_mulL, n_Lmul, n_sub, n_subL, n_lt, n_eq, n_ltL, n_Llt, n_eqL, n_Leq, n_nneg, n_pos]
    rfl
  · simp (disch := first | omega | exact hB _ _ | assumption | decide) only [st_SW_night, show nI 1 = 1 from rfl, n_10, mr_cl E _, mm_pI_at, mm_pI_pI, mm_pI_2, mm_pL_1, mm_pL_at, mm_pL_pL, mm_pL_3, mm_pM_1, mm_pM_2, mm_pM_at, mm_pM_pM, mm_pI_pL, mm_pI_pM, mm_pL_pM, Bool.false_eq_true, n_10, true_and, and_true, false_and, and_false, Nat.not_lt_zero, true_or, or_true, eq_self, mm_z, mm_rs, sw_xc_ite, sw_xv_ite, n_m1, Nat.lt_irrefl, not_false_eq_true, not_true_eq_false, inS_0, inS_1, ite_not, sw_xv_some, sw_xm_some, sw_xc_some, sw_xc_void, if_true, if_false, reduceIte, bI_0, bI_01, bI_1, nt_or, Nat.reduceAdd, n_add, n_mul, n_addL, n_Ladd, n_mulL, n_Lmul, n_sub, n_subL, n_lt, n_eq, n_ltL, n_Llt, n_eqL, n_Leq, n_nneg, n_pos]
    rfl
  · simp (disch := first | omega | exact hB _ _ | assumption | decide) only [st_SW_night, show nI 2 = 2 from rfl, i_ne, mr_town E _ 2 h23, c_Things_atHome E S 2 h23 hI, mr_cl E _, mm_pI_at, mm_pI_pI, mm_pI_2, mm_pL_1, mm_pL_at, mm_pL_pL, mm_pL_3, mm_pM_1, mm_pM_2, mm_pM_at, mm_pM_pM, mm_pI_pL, mm_pI_pM, mm_pL_pM, Bool.false_eq_true, n_10, true_and, and_true, false_and, and_false, Nat.not_lt_zero, true_or, or_true, eq_self, mm_z, mm_rs, sw_xc_ite, sw_xv_ite, n_m1, Nat.lt_irrefl, not_false_eq_true, not_true_eq_false, inS_0, inS_1, ite_not, sw_xv_some, sw_xm_some, sw_xc_some, sw_xc_void, if_true, if_false, reduceIte, bI_0, bI_01, bI_1, nt_or, Nat.reduceAdd, n_add, n_mul, n_addL, n_Ladd, n_mulL, n_Lmul, n_sub, n_subL, n_lt, n_eq, n_ltL, n_Llt, n_eqL, n_Leq, n_nneg, n_pos]
    rfl
set_option maxRecDepth 100000 in
set_option maxHeartbeats 4000000 in
theorem c_night_l (hI : IT (S.1 2)) {w : Nat} (hw : w ≤ 2) : h_SW_night_0 E [.ref 0, .int (nI w), .int 0, .int 0, .int 0, sw_J] (mk S) = some (some (.int (nga w (tw_ng (S.1 2)))), mk (mm_pI S 2 (tw_ng (S.1 2)).2.2)) := by
  have h23 : 2 < 3 := by decide
  unfold tw_ng
  generalize hK : (24 : Nat) = K
  have key := lp_upX (δ := Value) (G := fun i d a => h_SW_night_0 E [.ref 0, .int (nI w), .int (nI a.1), .int (nI a.2.1), .int (nI i), d] (mk (mm_pI S 2 a.2.2))) (P := fun _ a => IT a.2.2) (live := fun a => ¬ (tw_sr a.2.2).1 = 0) (f := nr1) (fin := fun a => some (some (.int (nga w a)), mk (mm_pI S 2 a.2.2))) (n := K) (a0 := (0, 0, S.1 2)) hI (fun i d a hi hP => ⟨fun hl => ?_, fun hd => ⟨?_, ?_⟩, (nr1_IT hP).1⟩) (fun d a hP => ?_) sw_J
  · simp only [mm_pI_id] at key
    exact key
  · refine ⟨.int (nI (tw_sr a.2.2).1), ?_⟩
    have hI' : IT ((mm_pI S 2 a.2.2).1 2) := by rw [mm_pI_at]; exact hP
    have so := (sr_opn hP).1
    have ol := opn_le hP
    rw [u_SW_night_0]
    unfold nr1
    rw [if_neg hl]
    subst hK
    simp (disch := first | omega | exact hB _ _ | assumption | decide) only [st_SW_night, hi, mr_town E _ 2 h23, c_Town_settleRound E _ 2 h23 hI', hl, mr_cl E _, mm_pI_at, mm_pI_pI, mm_pI_2, mm_pL_1, mm_pL_at, mm_pL_pL, mm_pL_3, mm_pM_1, mm_pM_2, mm_pM_at, mm_pM_pM, mm_pI_pL, mm_pI_pM, mm_pL_pM, Bool.false_eq_true, n_10, true_and, and_true, false_and, and_false, Nat.not_lt_zero, true_or, or_true, eq_self, mm_z, mm_rs, sw_xc_ite, sw_xv_ite, n_m1, Nat.lt_irrefl, not_false_eq_true, not_true_eq_false, inS_0, inS_1, ite_not, sw_xv_some, sw_xm_some, sw_xc_some, sw_xc_void, if_true, if_false, reduceIte, bI_0, bI_01, bI_1, nt_or, Nat.reduceAdd, n_add, n_mul, n_addL, n_Ladd, n_mulL, n_Lmul, n_sub, n_subL, n_lt, n_eq, n_ltL, n_Llt, n_eqL, n_Leq, n_nneg, n_pos]
  · have hd' : (tw_sr a.2.2).1 = 0 := Classical.not_not.mp hd
    have hI' : IT ((mm_pI S 2 a.2.2).1 2) := by rw [mm_pI_at]; exact hP
    have e2 := (sr_opn hP).2 hd'
    have ce := fun d4 d5 => c_night_e E (mm_pI S 2 a.2.2) hI' hw a.1 a.2.1 d4 d5
    rw [mm_pI_at] at ce
    rw [u_SW_night_0]
    subst hK
    simp (disch := first | omega | exact hB _ _ | assumption | decide) only [st_SW_night, hi, mr_town E _ 2 h23, c_Town_settleRound E _ 2 h23 hI', hd', show nI 0 = 0 from rfl, e2, ce, mr_cl E _, mm_pI_at, mm_pI_pI, mm_pI_2, mm_pL_1, mm_pL_at, mm_pL_pL, mm_pL_3, mm_pM_1, mm_pM_2, mm_pM_at, mm_pM_pM, mm_pI_pL, mm_pI_pM, mm_pL_pM, Bool.false_eq_true, n_10, true_and, and_true, false_and, and_false, Nat.not_lt_zero, true_or, or_true, eq_self, mm_z, mm_rs, sw_xc_ite, sw_xv_ite, n_m1, Nat.lt_irrefl, not_false_eq_true, not_true_eq_false, inS_0, inS_1, ite_not, sw_xv_some, sw_xm_some, sw_xc_some, sw_xc_void, if_true, if_false, reduceIte, bI_0, bI_01, bI_1, nt_or, Nat.reduceAdd, n_add, n_mul, n_addL, n_Ladd, n_mulL, n_Lmul, n_sub, n_subL, n_lt, n_eq, n_ltL, n_Llt, n_eqL, n_Leq, n_nneg, n_pos]
  · unfold nr1
    rw [if_pos (Classical.not_not.mp hd)]
  · have hI' : IT ((mm_pI S 2 a.2.2).1 2) := by rw [mm_pI_at]; exact hP
    have ce := fun d4 d5 => c_night_e E (mm_pI S 2 a.2.2) hI' hw a.1 a.2.1 d4 d5
    rw [mm_pI_at] at ce
    rw [u_SW_night_0]
    subst hK
    simp (disch := first | omega | exact hB _ _ | assumption | decide) only [st_SW_night, ce, mr_cl E _, mm_pI_at, mm_pI_pI, mm_pI_2, mm_pL_1, mm_pL_at, mm_pL_pL, mm_pL_3, mm_pM_1, mm_pM_2, mm_pM_at, mm_pM_pM, mm_pI_pL, mm_pI_pM, mm_pL_pM, Bool.false_eq_true, n_10, true_and, and_true, false_and, and_false, Nat.not_lt_zero, true_or, or_true, eq_self, mm_z, mm_rs, sw_xc_ite, sw_xv_ite, n_m1, Nat.lt_irrefl, not_false_eq_true, not_true_eq_false, inS_0, inS_1, ite_not, sw_xv_some, sw_xm_some, sw_xc_some, sw_xc_void, if_true, if_false, reduceIte, bI_0, bI_01, bI_1, nt_or, Nat.reduceAdd, n_add, n_mul, n_addL, n_Ladd, n_mulL, n_Lmul, n_sub, n_subL, n_lt, n_eq, n_ltL, n_Llt, n_eqL, n_Leq, n_nneg, n_pos]
set_option maxRecDepth 100000 in
set_option maxHeartbeats 4000000 in
theorem md_night_r (hI : IT (S.1 3)) {m r : Nat} (a1 a6 : Value) : ∃ d5 d6, h_MD_night_1 E [.ref 71, a1, .int (nI m), .int (nI r), .int 0, .int 0, a6] (mk S) = h_MD_night_0 E [.ref 71, a1, .int (nI (m + (tw_sr (S.1 3)).1)), .int (nI (if (tw_sr (S.1 3)).1 = 0 then r else r + 1)), .int (bI (¬ (tw_sr (S.1 3)).1 = 0)), d5, d6] (mk (mm_pI S 3 (tw_sr (S.1 3)).2)) := by
  have hk := hI.k
  have key := lp_inv (f := fun i (a : (Nat × (Nat → Nat → Nat))) => sr1 i a) (P := fun i a => i ≤ S.1 3 0 2 → (IT a.2 ∧ a.2 0 = S.1 3 0) ∧ ∃ d, h_MD_night_1 E [.ref 71, a1, .int (nI m), .int (nI r), .int 0, .int 0, a6] (mk S) = h_MD_night_1 E [.ref 71, a1, .int (nI (m + a.1)), .int (nI r), .int (bI (¬ a.1 = 0)), .int (nI i), d] (mk (mm_pI S 3 a.2))) (n := S.1 3 0 2) (a := (0, S.1 3)) (fun _ => ⟨⟨hI, rfl⟩, a6, by rw [mm_pI_id, bI_f (by simp)]; rfl⟩) (fun i a hi hP hle => by
    obtain ⟨⟨h1, h2⟩, d, e⟩ := hP (by omega)
    obtain ⟨g1, g2⟩ := sr1_IT (k := i) h1 (by rw [h2]; exact hi)
    refine ⟨⟨g1, g2.trans h2⟩, ?_⟩
    have hB := h1.b
    have hi24 : i < 24 := by omega
    have e02 : a.2 0 2 = S.1 3 0 2 := by rw [h2]
    have hI' : IT ((mm_pI S 3 a.2).1 3) := by rw [mm_pI_at]; exact h1
    have hB' := hI'.b
    have hi' : i < (mm_pI S 3 a.2).1 3 0 2 := by rw [mm_pI_at, e02]; exact hi
    rw [e, u_MD_night_1]
    unfold sr1
    by_cases hc : tw_can a.2 i = true
    · have hc' := hc
      unfold tw_can at hc'
      simp only [Bool.and_eq_true, beq_iff_eq] at hc'
      rw [if_pos hc]
      refine ⟨.int (nI (tw_kp a.2 i).1), ?_⟩
      rw [bI_t (show ¬ a.1 + 1 = 0 by omega)]
      simp (disch := first | omega | exact hB _ _ | assumption | decide) only [st_MD_night, rs_L, e02, hi, md_isOpen E _ hB' hi24, hc', md_isLast E _ hI' (k := i) (by omega), md_keeping E _ hI' hi', Nat.add_assoc m a.1 1, mr_md E _, mm_pI_at, mm_pI_pI, mm_pI_2, mm_pL_1, mm_pL_at, mm_pL_pL, mm_pL_3, mm_pM_1, mm_pM_2, mm_pM_at, mm_pM_pM, mm_pI_pL, mm_pI_pM, mm_pL_pM, Bool.false_eq_true, n_10, true_and, and_true, false_and, and_false, Nat.not_lt_zero, true_or, or_true, eq_self, mm_z, mm_rs, sw_xc_ite, sw_xv_ite, n_m1, Nat.lt_irrefl, not_false_eq_true, not_true_eq_false, inS_0, inS_1, ite_not, sw_xv_some, sw_xm_some, sw_xc_some, sw_xc_void, if_true, if_false, reduceIte, bI_0, bI_01, bI_1, nt_or, Nat.reduceAdd, n_add, n_mul, n_addL, n_Ladd, n_mulL, n_Lmul, n_sub, n_subL, n_lt, n_eq, n_ltL, n_Llt, n_eqL, n_Leq, n_nneg, n_pos]
    · rw [if_neg hc]
      refine ⟨d, ?_⟩
      have hc' : ¬ (a.2 13 i = 0 ∧ tw_last a.2 i = true) := fun g => hc (by unfold tw_can; simp [g.1, g.2])
      by_cases h13 : a.2 13 i = 0
      · have hl : ¬ tw_last a.2 i = true := fun g => hc' ⟨h13, g⟩
        simp (disch := first | omega | exact hB _ _ | assumption | decide) only [st_MD_night, rs_L, e02, hi, md_isOpen E _ hB' hi24, h13, md_isLast E _ hI' (k := i) (by omega), hl, mr_md E _, mm_pI_at, mm_pI_pI, mm_pI_2, mm_pL_1, mm_pL_at, mm_pL_pL, mm_pL_3, mm_pM_1, mm_pM_2, mm_pM_at, mm_pM_pM, mm_pI_pL, mm_pI_pM, mm_pL_pM, Bool.false_eq_true, n_10, true_and, and_true, false_and, and_false, Nat.not_lt_zero, true_or, or_true, eq_self, mm_z, mm_rs, sw_xc_ite, sw_xv_ite, n_m1, Nat.lt_irrefl, not_false_eq_true, not_true_eq_false, inS_0, inS_1, ite_not, sw_xv_some, sw_xm_some, sw_xc_some, sw_xc_void, if_true, if_false, reduceIte, bI_0, bI_01, bI_1, nt_or, Nat.reduceAdd, n_add, n_mul, n_addL, n_Ladd, n_mulL, n_Lmul, n_sub, n_subL, n_lt, n_eq, n_ltL, n_Llt, n_eqL, n_Leq, n_nneg, n_pos]
      · simp (disch := first | omega | exact hB _ _ | assumption | decide) only [st_MD_night, rs_L, e02, hi, md_isOpen E _ hB' hi24, h13, mr_md E _, mm_pI_at, mm_pI_pI, mm_pI_2, mm_pL_1, mm_pL_at, mm_pL_pL, mm_pL_3, mm_pM_1, mm_pM_2, mm_pM_at, mm_pM_pM, mm_pI_pL, mm_pI_pM, mm_pL_pM, Bool.false_eq_true, n_10, true_and, and_true, false_and, and_false, Nat.not_lt_zero, true_or, or_true, eq_self, mm_z, mm_rs, sw_xc_ite, sw_xv_ite, n_m1, Nat.lt_irrefl, not_false_eq_true, not_true_eq_false, inS_0, inS_1, ite_not, sw_xv_some, sw_xm_some, sw_xc_some, sw_xc_void, if_true, if_false, reduceIte, bI_0, bI_01, bI_1, nt_or, Nat.reduceAdd, n_add, n_mul, n_addL, n_Ladd, n_mulL, n_Lmul, n_sub, n_subL, n_lt, n_eq, n_ltL, n_Llt, n_eqL, n_Leq, n_nneg, n_pos])
  obtain ⟨⟨h1, h2⟩, d, e⟩ := key (Nat.le_refl _)
  have ef : lp (fun i a => sr1 i a) (S.1 3 0 2) (0, S.1 3) = tw_sr (S.1 3) := rfl
  rw [ef] at h1 h2 e
  have hB := h1.b
  have e02 : (tw_sr (S.1 3)).2 0 2 = S.1 3 0 2 := by rw [h2]
  refine ⟨.int (nI (S.1 3 0 2)), d, ?_⟩
  rw [e, u_MD_night_1]
  by_cases hz : (tw_sr (S.1 3)).1 = 0
  · rw [if_pos hz, bI_f (by simp [hz])]
    simp (disch := first | omega | exact hB _ _ | assumption | decide) only [st_MD_night, rs_L, e02, mr_md E _, mm_pI_at, mm_pI_pI, mm_pI_2, mm_pL_1, mm_pL_at, mm_pL_pL, mm_pL_3, mm_pM_1, mm_pM_2, mm_pM_at, mm_pM_pM, mm_pI_pL, mm_pI_pM, mm_pL_pM, Bool.false_eq_true, n_10, true_and, and_true, false_and, and_false, Nat.not_lt_zero, true_or, or_true, eq_self, mm_z, mm_rs, sw_xc_ite, sw_xv_ite, n_m1, Nat.lt_irrefl, not_false_eq_true, not_true_eq_false, inS_0, inS_1, ite_not, sw_xv_some, sw_xm_some, sw_xc_some, sw_xc_void, if_true, if_false, reduceIte, bI_0, bI_01, bI_1, nt_or, Nat.reduceAdd, n_add, n_mul, n_addL, n_Ladd, n_mulL, n_Lmul, n_sub, n_subL, n_lt, n_eq, n_ltL, n_Llt, n_eqL, n_Leq, n_nneg, n_pos]
    rfl
  · rw [if_neg hz, bI_t hz]
    simp (disch := first | omega | exact hB _ _ | assumption | decide) only [st_MD_night, rs_L, e02, mr_md E _, mm_pI_at, mm_pI_pI, mm_pI_2, mm_pL_1, mm_pL_at, mm_pL_pL, mm_pL_3, mm_pM_1, mm_pM_2, mm_pM_at, mm_pM_pM, mm_pI_pL, mm_pI_pM, mm_pL_pM, Bool.false_eq_true, n_10, true_and, and_true, false_and, and_false, Nat.not_lt_zero, true_or, or_true, eq_self, mm_z, mm_rs, sw_xc_ite, sw_xv_ite, n_m1, Nat.lt_irrefl, not_false_eq_true, not_true_eq_false, inS_0, inS_1, ite_not, sw_xv_some, sw_xm_some, sw_xc_some, sw_xc_void, if_true, if_false, reduceIte, bI_0, bI_01, bI_1, nt_or, Nat.reduceAdd, n_add, n_mul, n_addL, n_Ladd, n_mulL, n_Lmul, n_sub, n_subL, n_lt, n_eq, n_ltL, n_Llt, n_eqL, n_Leq, n_nneg, n_pos]
set_option maxRecDepth 100000 in
set_option maxHeartbeats 4000000 in
theorem md_night_l {w : Nat} : ∀ n (S : sw_S) m r (d5 d6 : Value), IT (S.1 3) → opn (S.1 3) ≤ n → h_MD_night_0 E [.ref 71, .int (nI w), .int (nI m), .int (nI r), .int 1, d5, d6] (mk S) = h_MD_night_2 E [.ref 71, .int (nI w), .int (nI (lp nr1 n (m, r, S.1 3)).1), .int (nI (lp nr1 n (m, r, S.1 3)).2.1), .int 0, .int 0, .int 0] (mk (mm_pI S 3 (lp nr1 n (m, r, S.1 3)).2.2)) := by
  have zero : ∀ (S : sw_S) m r (d5 d6 : Value), IT (S.1 3) → (tw_sr (S.1 3)).1 = 0 → h_MD_night_0 E [.ref 71, .int (nI w), .int (nI m), .int (nI r), .int 1, d5, d6] (mk S) = h_MD_night_2 E [.ref 71, .int (nI w), .int (nI m), .int (nI r), .int 0, .int 0, .int 0] (mk S) := by
    intro S m r d5 d6 hI hz
    obtain ⟨e5, e6, e⟩ := md_night_r E S hI (m := m) (r := r) (.int (nI w)) d6
    rw [if_pos hz, bI_f (by simp [hz]), hz, (sr_opn hI).2 hz, mm_pI_id] at e
    rw [u_MD_night_0]
    simp (disch := first | omega | exact hB _ _ | assumption | decide) only [st_MD_night, mr_md E _, mm_pI_at, mm_pI_pI, mm_pI_2, mm_pL_1, mm_pL_at, mm_pL_pL, mm_pL_3, mm_pM_1, mm_pM_2, mm_pM_at, mm_pM_pM, mm_pI_pL, mm_pI_pM, mm_pL_pM, Bool.false_eq_true, n_10, true_and, and_true, false_and, and_false, Nat.not_lt_zero, true_or, or_true, eq_self, mm_z, mm_rs, sw_xc_ite, sw_xv_ite, n_m1, Nat.lt_irrefl, not_false_eq_true, not_true_eq_false, inS_0, inS_1, ite_not, sw_xv_some, sw_xm_some, sw_xc_some, sw_xc_void, if_true, if_false, reduceIte, bI_0, bI_01, bI_1, nt_or, Nat.reduceAdd, n_add, n_mul, n_addL, n_Ladd, n_mulL, n_Lmul, n_sub, n_subL, n_lt, n_eq, n_ltL, n_Llt, n_eqL, n_Leq, n_nneg, n_pos]
    rw [e, u_MD_night_0]
    simp (disch := first | omega | exact hB _ _ | assumption | decide) only [st_MD_night, mr_md E _, mm_pI_at, mm_pI_pI, mm_pI_2, mm_pL_1, mm_pL_at, mm_pL_pL, mm_pL_3, mm_pM_1, mm_pM_2, mm_pM_at, mm_pM_pM, mm_pI_pL, mm_pI_pM, mm_pL_pM, Bool.false_eq_true, n_10, true_and, and_true, false_and, and_false, Nat.not_lt_zero, true_or, or_true, eq_self, mm_z, mm_rs, sw_xc_ite, sw_xv_ite, n_m1, Nat.lt_irrefl, not_false_eq_true, not_true_eq_false, inS_0, inS_1, ite_not, sw_xv_some, sw_xm_some, sw_xc_some, sw_xc_void, if_true, if_false, reduceIte, bI_0, bI_01, bI_1, nt_or, Nat.reduceAdd, n_add, n_mul, n_addL, n_Ladd, n_mulL, n_Lmul, n_sub, n_subL, n_lt, n_eq, n_ltL, n_Llt, n_eqL, n_Leq, n_nneg, n_pos]
    rfl
  intro n
  induction n with
  | zero =>
    intro S m r d5 d6 hI ho
    have so := sr_opn hI
    have hz : (tw_sr (S.1 3)).1 = 0 := by omega
    rw [zero S m r d5 d6 hI hz, lp_0, mm_pI_id]
  | succ n ih =>
    intro S m r d5 d6 hI ho
    have so := sr_opn hI
    by_cases hz : (tw_sr (S.1 3)).1 = 0
    · rw [zero S m r d5 d6 hI hz, nr_fix (a := (m, r, S.1 3)) hz, mm_pI_id]
    · obtain ⟨e5, e6, e⟩ := md_night_r E S hI (m := m) (r := r) (.int (nI w)) d6
      rw [if_neg hz, bI_t hz] at e
      have hI' : IT ((mm_pI S 3 (tw_sr (S.1 3)).2).1 3) := by rw [mm_pI_at]; exact (IT_sr hI).1
      have i1 := ih (mm_pI S 3 (tw_sr (S.1 3)).2) (m + (tw_sr (S.1 3)).1) (r + 1) e5 e6 hI' (by rw [mm_pI_at]; omega)
      rw [mm_pI_at, mm_pI_pI] at i1
      have en : nr1 0 (m, r, S.1 3) = (m + (tw_sr (S.1 3)).1, r + 1, (tw_sr (S.1 3)).2) := by unfold nr1; rw [if_neg hz]
      rw [nr_front, en, ← i1, ← e, u_MD_night_0]
      simp (disch := first | omega | exact hB _ _ | assumption | decide) only [st_MD_night, mr_md E _, mm_pI_at, mm_pI_pI, mm_pI_2, mm_pL_1, mm_pL_at, mm_pL_pL, mm_pL_3, mm_pM_1, mm_pM_2, mm_pM_at, mm_pM_pM, mm_pI_pL, mm_pI_pM, mm_pL_pM, Bool.false_eq_true, n_10, true_and, and_true, false_and, and_false, Nat.not_lt_zero, true_or, or_true, eq_self, mm_z, mm_rs, sw_xc_ite, sw_xv_ite, n_m1, Nat.lt_irrefl, not_false_eq_true, not_true_eq_false, inS_0, inS_1, ite_not, sw_xv_some, sw_xm_some, sw_xc_some, sw_xc_void, if_true, if_false, reduceIte, bI_0, bI_01, bI_1, nt_or, Nat.reduceAdd, n_add, n_mul, n_addL, n_Ladd, n_mulL, n_Lmul, n_sub, n_subL, n_lt, n_eq, n_ltL, n_Llt, n_eqL, n_Leq, n_nneg, n_pos]
set_option maxRecDepth 100000 in
set_option maxHeartbeats 4000000 in
theorem md_home (hI : IT (S.1 3)) (a1 a2 a3 a4 : Value) : h_MD_night_2 E [.ref 71, a1, a2, a3, a4, .int 0, .int 0] (mk S) = sw_ex E 190 166 [.ref 71, a1, a2, a3, a4, .int (nI (home (S.1 3))), .int (nI (S.1 3 0 1))] [] (mk S) := by
  have hB := hI.b
  have hn := hI.n
  have key := lp_up' (G := fun i c => h_MD_night_2 E [.ref 71, a1, a2, a3, a4, .int (nI c), .int (nI i)] (mk S)) (f := fun i c => if (S.1 3 6 i == 0 && S.1 3 3 i == S.1 3 2 i) = true then c + 1 else c) (fin := fun c => sw_ex E 190 166 [.ref 71, a1, a2, a3, a4, .int (nI c), .int (nI (S.1 3 0 1))] [] (mk S)) (n := S.1 3 0 1) (a0 := 0) (fun i c hi => ?_) (fun c => ?_)
  · exact key
  · have hi16 : i < 16 := by omega
    rw [u_MD_night_2]
    simp (disch := first | omega | exact hB _ _ | assumption | decide) only [st_MD_night, rs_L, hi, md_has4 E S hi16, md_has0 E S hi16, md_has1 E S hi16, mr_md E _, mm_pI_at, mm_pI_pI, mm_pI_2, mm_pL_1, mm_pL_at, mm_pL_pL, mm_pL_3, mm_pM_1, mm_pM_2, mm_pM_at, mm_pM_pM, mm_pI_pL, mm_pI_pM, mm_pL_pM, Bool.false_eq_true, n_10, true_and, and_true, false_and, and_false, Nat.not_lt_zero, true_or, or_true, eq_self, mm_z, mm_rs, sw_xc_ite, sw_xv_ite, n_m1, Nat.lt_irrefl, not_false_eq_true, not_true_eq_false, inS_0, inS_1, ite_not, sw_xv_some, sw_xm_some, sw_xc_some, sw_xc_void, if_true, if_false, reduceIte, bI_0, bI_01, bI_1, nt_or, Nat.reduceAdd, n_add, n_mul, n_addL, n_Ladd, n_mulL, n_Lmul, n_sub, n_subL, n_lt, n_eq, n_ltL, n_Llt, n_eqL, n_Leq, n_nneg, n_pos]
    by_cases h1 : S.1 3 6 i = 0 <;> by_cases h2 : S.1 3 3 i = S.1 3 2 i
    · simp [h1, h2, n_addL]
    · have h3 : ¬ S.1 3 2 i = S.1 3 3 i := fun e => h2 e.symm
      simp [h1, h2, h3]
    · simp [h1, h2]
    · simp [h1, h2]
  · rw [u_MD_night_2]
    simp (disch := first | omega | exact hB _ _ | assumption | decide) only [st_MD_night, rs_L, mr_md E _, mm_pI_at, mm_pI_pI, mm_pI_2, mm_pL_1, mm_pL_at, mm_pL_pL, mm_pL_3, mm_pM_1, mm_pM_2, mm_pM_at, mm_pM_pM, mm_pI_pL, mm_pI_pM, mm_pL_pM, Bool.false_eq_true, n_10, true_and, and_true, false_and, and_false, Nat.not_lt_zero, true_or, or_true, eq_self, mm_z, mm_rs, sw_xc_ite, sw_xv_ite, n_m1, Nat.lt_irrefl, not_false_eq_true, not_true_eq_false, inS_0, inS_1, ite_not, sw_xv_some, sw_xm_some, sw_xc_some, sw_xc_void, if_true, if_false, reduceIte, bI_0, bI_01, bI_1, nt_or, Nat.reduceAdd, n_add, n_mul, n_addL, n_Ladd, n_mulL, n_Lmul, n_sub, n_subL, n_lt, n_eq, n_ltL, n_Llt, n_eqL, n_Leq, n_nneg, n_pos]
end NG
