/-! ===== the ring, by the class ===== -/
def ed (T : Nat → Nat → Nat) (u v : Nat) : Bool := decide (0 < tw_owed T u v)
theorem sum_pos {n : Nat} {q : Nat → Bool} {w : Nat → Nat} : 0 < tw_sum n q w ↔ ∃ k, k < n ∧ q k = true ∧ 0 < w k := by
  induction n with
  | zero => exact ⟨fun h => absurd h (Nat.lt_irrefl 0), fun ⟨k, hk, _⟩ => absurd hk (Nat.not_lt_zero k)⟩
  | succ n ih =>
    show 0 < (if q n = true then tw_sum n q w + w n else tw_sum n q w) ↔ _
    constructor
    · intro h
      by_cases hq : q n = true
      · rw [if_pos hq] at h
        rcases Nat.eq_zero_or_pos (w n) with g | g
        · obtain ⟨k, hk, h1, h2⟩ := ih.mp (by omega)
          exact ⟨k, by omega, h1, h2⟩
        · exact ⟨n, by omega, hq, g⟩
      · rw [if_neg hq] at h
        obtain ⟨k, hk, h1, h2⟩ := ih.mp h
        exact ⟨k, by omega, h1, h2⟩
    · rintro ⟨k, hk, h1, h2⟩
      rcases Nat.lt_or_ge k n with g | g
      · have := ih.mpr ⟨k, g, h1, h2⟩
        split <;> omega
      · rw [show k = n by omega] at h1 h2
        rw [if_pos h1]; omega
theorem ed_iff {T : Nat → Nat → Nat} {u v : Nat} : ed T u v = true ↔ ∃ k, k < T 0 2 ∧ (T 13 k = 0 ∧ 0 < T 11 k) ∧ T 9 k = u ∧ T 10 k = v := by
  unfold ed tw_owed
  rw [decide_eq_true_eq, sum_pos]
  simp only [Bool.and_eq_true, beq_iff_eq]
  exact ⟨fun ⟨k, h1, ⟨h2, h3, h4⟩, h5⟩ => ⟨k, h1, ⟨h2, h5⟩, h3, h4⟩, fun ⟨k, h1, ⟨h2, h5⟩, h3, h4⟩ => ⟨k, h1, ⟨h2, h3, h4⟩, h5⟩⟩
theorem ed_irr {T : Nat → Nat → Nat} (h : IT T) (u : Nat) : ed T u u = false := by
  cases he : ed T u u with
  | false => rfl
  | true =>
    obtain ⟨k, hk, _, h1, h2⟩ := ed_iff.mp he
    exact absurd (h1.trans h2.symm) (h.pr k hk).2.2.1
theorem ed_lt {T : Nat → Nat → Nat} (h : IT T) {u v : Nat} (he : ed T u v = true) : u < T 0 0 ∧ v < T 0 0 := by
  obtain ⟨k, hk, _, h1, h2⟩ := ed_iff.mp he
  have := h.pr k hk
  rw [h1, h2] at this
  exact ⟨this.1, this.2.1⟩
/-- the class's rows for a ring -/
def R4 (S : sw_S) (m o l : Nat → Int32) (n : Int32) : sw_S := mm_pM (mm_pM (mm_pM (mm_pM S 0 m) 1 o) 2 l) 3 (upd (S.2.2 3) 0 n)
section R4S
variable (S : sw_S) (m o l m' : Nat → Int32) (n n' : Int32)
theorem R4_1 : (R4 S m o l n).1 = S.1 := rfl
theorem R4_2 : (R4 S m o l n).2.1 = S.2.1 := rfl
theorem R4_f0 : (R4 S m o l n).2.2 0 = m := rfl
theorem R4_f1 : (R4 S m o l n).2.2 1 = o := rfl
theorem R4_f2 : (R4 S m o l n).2.2 2 = l := rfl
theorem R4_f3 : (R4 S m o l n).2.2 3 0 = n := rfl
theorem R4_ne {f : Nat} (h : 4 ≤ f) : (R4 S m o l n).2.2 f = S.2.2 f := by
  unfold R4
  rw [mm_pM_ne _ _ (by omega), mm_pM_ne _ _ (by omega), mm_pM_ne _ _ (by omega), mm_pM_ne _ _ (by omega)]
theorem R4_w0 : mm_pM (R4 S m o l n) 0 m' = R4 S m' o l n := by
  refine Prod.ext rfl (Prod.ext rfl (funext fun f => ?_))
  simp only [R4, mm_pM]
  by_cases h : f = 0
  · subst h; rfl
  · simp [h]
theorem R4_w1 : mm_pM (R4 S m o l n) 1 m' = R4 S m m' l n := by
  refine Prod.ext rfl (Prod.ext rfl (funext fun f => ?_))
  simp only [R4, mm_pM]
  by_cases h : f = 1
  · subst h; rfl
  · simp [h]
theorem R4_w2 : mm_pM (R4 S m o l n) 2 m' = R4 S m o m' n := by
  refine Prod.ext rfl (Prod.ext rfl (funext fun f => ?_))
  simp only [R4, mm_pM]
  by_cases h : f = 2
  · subst h; rfl
  · simp [h]
theorem R4_w3 : mm_pM (R4 S m o l n) 3 (upd ((R4 S m o l n).2.2 3) 0 n') = R4 S m o l n' := by
  refine Prod.ext rfl (Prod.ext rfl (funext fun f => ?_))
  by_cases h : f = 3
  · subst h
    show upd (upd (S.2.2 3) 0 n) 0 n' = upd (S.2.2 3) 0 n'
    exact fa_upd_twice _ _ _ _
  · simp only [R4, mm_pM, h, if_false]
theorem R4_id : R4 S (S.2.2 0) (S.2.2 1) (S.2.2 2) (S.2.2 3 0) = S := by
  unfold R4
  rw [fa_upd_same rfl, mm_pM_id, mm_pM_id, mm_pM_id, mm_pM_id]
end R4S
def ow1 (T : Nat → Nat → Nat) (k : Nat) (a : Nat → Int32) : Nat → Int32 := if T 13 k = 0 ∧ 0 < T 11 k then upd a (T 9 k) (a (T 9 k) ||| sb (T 10 k)) else a
def zo (o : Nat → Int32) : Nat → Int32 := lp (fun i a => upd a i 0) 10 o
def owF (T : Nat → Nat → Nat) (o : Nat → Int32) : Nat → Int32 := lp (ow1 T) (T 0 2) (zo o)
theorem zo_0 (o : Nat → Int32) {i : Nat} (h : i < 10) : zo o i = 0 := by
  have key := lp_inv (f := fun i (a : Nat → Int32) => upd a i 0) (P := fun n a => ∀ j, j < n → a j = 0) (n := 10) (a := o) (fun j hj => absurd hj (Nat.not_lt_zero j)) (fun n a _ hP j hj => by
    unfold upd
    by_cases g : j = n
    · rw [if_pos g]
    · rw [if_neg g]; exact hP j (by omega))
  exact key i h
theorem ow_bt {T : Nat → Nat → Nat} (h : IT T) (o : Nat → Int32) {u v : Nat} (hu : u < 10) (hv : v < 32) : bt (owF T o u) v = ed T u v := by
  have hp := h.p
  have key := lp_inv (f := ow1 T) (P := fun n a => n ≤ T 0 2 → ∀ u, u < 10 → ∀ v, v < 32 → (bt (a u) v = true ↔ ∃ k, k < n ∧ (T 13 k = 0 ∧ 0 < T 11 k) ∧ T 9 k = u ∧ T 10 k = v)) (n := T 0 2) (a := zo o) (fun _ u hu v hv => by
    rw [zo_0 o hu, b_0]
    exact ⟨fun h => (by cases h), fun ⟨k, hk, _⟩ => absurd hk (Nat.not_lt_zero k)⟩) (fun n a hn hP _ u hu v hv => by
    have hQ := hP (by omega)
    have hto := (h.pr n hn).2.1
    have hfr := (h.pr n hn).1
    unfold ow1
    by_cases hc : T 13 n = 0 ∧ 0 < T 11 n
    · rw [if_pos hc]
      unfold upd
      by_cases hun : u = T 9 n
      · rw [if_pos hun, b_or, Bool.or_eq_true, hQ _ (by omega) v hv, bt_sb (by omega) hv, decide_eq_true_eq, ← hun]
        constructor
        · rintro (⟨k, hk, h1, h2, h3⟩ | g)
          · exact ⟨k, by omega, h1, h2, h3⟩
          · exact ⟨n, by omega, hc, hun.symm, g.symm⟩
        · rintro ⟨k, hk, h1, h2, h3⟩
          rcases Nat.lt_or_ge k n with g | g
          · exact Or.inl ⟨k, g, h1, h2, h3⟩
          · rw [show k = n by omega] at h3
            exact Or.inr h3.symm
      · rw [if_neg hun, hQ u hu v hv]
        constructor
        · rintro ⟨k, hk, h1⟩
          exact ⟨k, by omega, h1⟩
        · rintro ⟨k, hk, h1, h2, h3⟩
          rcases Nat.lt_or_ge k n with g | g
          · exact ⟨k, g, h1, h2, h3⟩
          · rw [show k = n by omega] at h2
            exact absurd h2.symm hun
    · rw [if_neg hc, hQ u hu v hv]
      constructor
      · rintro ⟨k, hk, h1⟩
        exact ⟨k, by omega, h1⟩
      · rintro ⟨k, hk, h1, h2⟩
        rcases Nat.lt_or_ge k n with g | g
        · exact ⟨k, g, h1, h2⟩
        · rw [show k = n by omega] at h1
          exact absurd h1 hc)
  have := key (Nat.le_refl _) u hu v hv
  rw [Bool.eq_iff_iff]
  exact this.trans ed_iff.symm
def lyr1 (O : Nat → Int32) (P j : Nat) (a : (Nat → Int32) × Int32) : (Nat → Int32) × Int32 := (upd a.1 (j + 1) (tw_set P (fun i => !inS a.2 i && !decide (O i &&& a.1 j = 0))), a.2 ||| tw_set P (fun i => !inS a.2 i && !decide (O i &&& a.1 j = 0)))
def lyF (O : Nat → Int32) (P p : Nat) (l : Nat → Int32) : Nat → Int32 := (lp (lyr1 O P) 9 (upd l 0 (sb p), sb p)).1
theorem and_ne {x y : Int32} : (¬ x &&& y = 0) ↔ ∃ v, v < 32 ∧ bt x v = true ∧ bt y v = true := by
  constructor
  · intro h
    refine Classical.byContradiction (fun g => h (b_ext (fun i hi => ?_)))
    rw [b_and, b_0]
    cases h1 : bt x i with
    | false => rfl
    | true =>
      cases h2 : bt y i with
      | false => rfl
      | true => exact absurd ⟨i, hi, h1, h2⟩ g
  · rintro ⟨v, hv, h1, h2⟩ e
    have := congrArg (fun z => bt z v) e
    simp only [b_and, b_0, h1, h2] at this
    cases this
theorem ly_bt {T : Nat → Nat → Nat} (h : IT T) (o l : Nat → Int32) {p : Nat} (hp : p < T 0 0) : ∀ k, k < 10 → ∀ i, i < 32 → bt (lyF (owF T o) (T 0 0) p l k) i = (Dl (ed T) (T 0 0) p k i).1 := by
  have hp10 := h.p
  have key : ∀ K, K ≤ 9 → (∀ k, k ≤ K → ∀ i, i < 32 → bt ((lp (lyr1 (owF T o) (T 0 0)) K (upd l 0 (sb p), sb p)).1 k) i = (Dl (ed T) (T 0 0) p k i).1) ∧ ∀ i, i < 32 → bt (lp (lyr1 (owF T o) (T 0 0)) K (upd l 0 (sb p), sb p)).2 i = (Dl (ed T) (T 0 0) p K i).2 := by
    intro K
    induction K with
    | zero =>
      intro _
      refine ⟨fun k hk i hi => ?_, fun i hi => ?_⟩
      · rw [show k = 0 by omega]
        show bt (upd l 0 (sb p) 0) i = (i == p)
        rw [u_at, bt_sb (by omega) hi]
        rw [Bool.eq_iff_iff]; simp
      · show bt (sb p) i = (i == p)
        rw [bt_sb (by omega) hi]
        rw [Bool.eq_iff_iff]; simp
    | succ K ih =>
      intro hK
      obtain ⟨h1, h2⟩ := ih (by omega)
      rw [lp_s]
      generalize hA : lp (lyr1 (owF T o) (T 0 0)) K (upd l 0 (sb p), sb p) = A at *
      have hla : ∀ i, i < 32 → bt (tw_set (T 0 0) (fun i => !inS A.2 i && !decide (owF T o i &&& A.1 K = 0))) i = (Dl (ed T) (T 0 0) p (K + 1) i).1 := fun i hi => by
        rw [bt_set (by omega) hi]
        rw [Bool.eq_iff_iff, Dl_succ]
        simp only [Bool.and_eq_true, decide_eq_true_eq, Bool.not_eq_true', decide_eq_false_iff_not]
        constructor
        · rintro ⟨g1, g2, g3⟩
          rw [inS_bt (by omega), h2 i hi] at g2
          refine ⟨g1, g2, ?_⟩
          obtain ⟨v, hv, q1, q2⟩ := and_ne.mp g3
          rw [ow_bt h o (by omega) hv] at q1
          rw [h1 K (Nat.le_refl K) v hv] at q2
          exact ⟨v, (ed_lt h q1).2, q1, q2⟩
        · rintro ⟨g1, g2, v, hv, q1, q2⟩
          refine ⟨g1, ?_, ?_⟩
          · rw [inS_bt (by omega), h2 i hi]; exact g2
          · refine and_ne.mpr ⟨v, by omega, ?_, ?_⟩
            · rw [ow_bt h o (by omega) (by omega)]; exact q1
            · rw [h1 K (Nat.le_refl K) v (by omega)]; exact q2
      refine ⟨fun k hk i hi => ?_, fun i hi => ?_⟩
      · show bt (upd A.1 (K + 1) _ k) i = _
        unfold upd
        by_cases g : k = K + 1
        · rw [if_pos g, g]; exact hla i hi
        · rw [if_neg g]; exact h1 k (by omega) i hi
      · show bt (A.2 ||| _) i = ((Dl (ed T) (T 0 0) p K i).2 || (Dl (ed T) (T 0 0) p (K + 1) i).1)
        rw [b_or, h2 i hi, hla i hi]
  intro k hk i hi
  exact (key 9 (Nat.le_refl 9)).1 k (by omega) i hi
section RC
variable (E : sw_E) (S : sw_S)
set_option maxRecDepth 100000 in
set_option maxHeartbeats 4000000 in
theorem c_fillOwes (hI : IT (S.1 0)) (m o l : Nat → Int32) (n : Int32) : f_Ring_fillOwes E (.ref 55) (.ref (mm_tn 0 12)) (mk (R4 S m o l n)) = some (none, mk (R4 S m (owF (S.1 0) o) l n)) := by
  have h03 : 0 < 3 := by decide
  have hB := hI.b
  have hk := hI.k
  have hp := hI.p
  have k1 := lp_up' (G := fun i a => h_Ring_fillOwes_0 E [.ref 55, .ref (mm_tn 0 12), .int (nI i)] (mk (R4 S m a l n))) (f := fun i a => upd a i 0) (fin := fun a => h_Ring_fillOwes_1 E [.ref 55, .ref (mm_tn 0 12), .int (nI 0)] (mk (R4 S m a l n))) (n := 10) (a0 := o) (fun i a hi => ?_) (fun a => ?_)
  · have k2 := lp_up' (G := fun i a => h_Ring_fillOwes_1 E [.ref 55, .ref (mm_tn 0 12), .int (nI i)] (mk (R4 S m a l n))) (f := ow1 (S.1 0)) (fin := fun a => some (none, mk (R4 S m a l n))) (n := S.1 0 0 2) (a0 := zo o) (fun i a hi => ?_) (fun a => ?_)
    · simp only [e_Ring_fillOwes, st_Ring_fillOwes]
      exact k1.trans k2
    · have hf := (hI.pr i hi).1
      rw [u_Ring_fillOwes_1]
      unfold ow1
      by_cases h1 : S.1 0 13 i = 0
      · by_cases h2 : 0 < S.1 0 11 i
        · rw [if_pos ⟨h1, h2⟩]
          simp (disch := first | omega | exact hB _ _ | assumption | decide) only [st_Ring_fillOwes, mr_town E _ 0 h03, R4_1, hi, e_Promises_isOpen, st_Promises_isOpen, h1, h2, R4_f1, mw_m57, R4_w1, mr_cl E _, mm_pI_at, mm_pI_pI, mm_pI_2, mm_pL_1, mm_pL_at, mm_pL_pL, mm_pL_3, mm_pM_1, mm_pM_2, mm_pM_at, mm_pM_pM, mm_pI_pL, mm_pI_pM, mm_pL_pM, Bool.false_eq_true, n_10, true_and, and_true, false_and, and_false, Nat.not_lt_zero, true_or, or_true, eq_self, mm_z, mm_rs, sw_xc_ite, sw_xv_ite, n_m1, Nat.lt_irrefl, not_false_eq_true, not_true_eq_false, inS_0, inS_1, ite_not, sw_xv_some, sw_xm_some, sw_xc_some, sw_xc_void, if_true, if_false, reduceIte, bI_0, bI_01, bI_1, nt_or, Nat.reduceAdd, n_add, n_mul, n_addL, n_Ladd, n_mulL, n_Lmul, n_sub, n_subL, n_lt, n_eq, n_ltL, n_Llt, n_eqL, n_Leq, n_nneg, n_pos]
          rfl
        · rw [if_neg (fun g => h2 g.2)]
          simp (disch := first | omega | exact hB _ _ | assumption | decide) only [st_Ring_fillOwes, mr_town E _ 0 h03, R4_1, hi, e_Promises_isOpen, st_Promises_isOpen, h1, h2, mr_cl E _, mm_pI_at, mm_pI_pI, mm_pI_2, mm_pL_1, mm_pL_at, mm_pL_pL, mm_pL_3, mm_pM_1, mm_pM_2, mm_pM_at, mm_pM_pM, mm_pI_pL, mm_pI_pM, mm_pL_pM, Bool.false_eq_true, n_10, true_and, and_true, false_and, and_false, Nat.not_lt_zero, true_or, or_true, eq_self, mm_z, mm_rs, sw_xc_ite, sw_xv_ite, n_m1, Nat.lt_irrefl, not_false_eq_true, not_true_eq_false, inS_0, inS_1, ite_not, sw_xv_some, sw_xm_some, sw_xc_some, sw_xc_void, if_true, if_false, reduceIte, bI_0, bI_01, bI_1, nt_or, Nat.reduceAdd, n_add, n_mul, n_addL, n_Ladd, n_mulL, n_Lmul, n_sub, n_subL, n_lt, n_eq, n_ltL, n_Llt, n_eqL, n_Leq, n_nneg, n_pos]
      · rw [if_neg (fun g => h1 g.1)]
        simp (disch := first | omega | exact hB _ _ | assumption | decide) only [st_Ring_fillOwes, mr_town E _ 0 h03, R4_1, hi, e_Promises_isOpen, st_Promises_isOpen, h1, mr_cl E _, mm_pI_at, mm_pI_pI, mm_pI_2, mm_pL_1, mm_pL_at, mm_pL_pL, mm_pL_3, mm_pM_1, mm_pM_2, mm_pM_at, mm_pM_pM, mm_pI_pL, mm_pI_pM, mm_pL_pM, Bool.false_eq_true, n_10, true_and, and_true, false_and, and_false, Nat.not_lt_zero, true_or, or_true, eq_self, mm_z, mm_rs, sw_xc_ite, sw_xv_ite, n_m1, Nat.lt_irrefl, not_false_eq_true, not_true_eq_false, inS_0, inS_1, ite_not, sw_xv_some, sw_xm_some, sw_xc_some, sw_xc_void, if_true, if_false, reduceIte, bI_0, bI_01, bI_1, nt_or, Nat.reduceAdd, n_add, n_mul, n_addL, n_Ladd, n_mulL, n_Lmul, n_sub, n_subL, n_lt, n_eq, n_ltL, n_Llt, n_eqL, n_Leq, n_nneg, n_pos]
    · rw [u_Ring_fillOwes_1]
      simp (disch := first | omega | exact hB _ _ | assumption | decide) only [st_Ring_fillOwes, mr_town E _ 0 h03, R4_1, mr_cl E _, mm_pI_at, mm_pI_pI, mm_pI_2, mm_pL_1, mm_pL_at, mm_pL_pL, mm_pL_3, mm_pM_1, mm_pM_2, mm_pM_at, mm_pM_pM, mm_pI_pL, mm_pI_pM, mm_pL_pM, Bool.false_eq_true, n_10, true_and, and_true, false_and, and_false, Nat.not_lt_zero, true_or, or_true, eq_self, mm_z, mm_rs, sw_xc_ite, sw_xv_ite, n_m1, Nat.lt_irrefl, not_false_eq_true, not_true_eq_false, inS_0, inS_1, ite_not, sw_xv_some, sw_xm_some, sw_xc_some, sw_xc_void, if_true, if_false, reduceIte, bI_0, bI_01, bI_1, nt_or, Nat.reduceAdd, n_add, n_mul, n_addL, n_Ladd, n_mulL, n_Lmul, n_sub, n_subL, n_lt, n_eq, n_ltL, n_Llt, n_eqL, n_Leq, n_nneg, n_pos]
  · rw [u_Ring_fillOwes_0]
    simp (disch := first | omega | exact hB _ _ | assumption | decide) only [st_Ring_fillOwes, hi, mw_m57, R4_f1, R4_w1, mr_cl E _, mm_pI_at, mm_pI_pI, mm_pI_2, mm_pL_1, mm_pL_at, mm_pL_pL, mm_pL_3, mm_pM_1, mm_pM_2, mm_pM_at, mm_pM_pM, mm_pI_pL, mm_pI_pM, mm_pL_pM, Bool.false_eq_true, n_10, true_and, and_true, false_and, and_false, Nat.not_lt_zero, true_or, or_true, eq_self, mm_z, mm_rs, sw_xc_ite, sw_xv_ite, n_m1, Nat.lt_irrefl, not_false_eq_true, not_true_eq_false, inS_0, inS_1, ite_not, sw_xv_some, sw_xm_some, sw_xc_some, sw_xc_void, if_true, if_false, reduceIte, bI_0, bI_01, bI_1, nt_or, Nat.reduceAdd, n_add, n_mul, n_addL, n_Ladd, n_mulL, n_Lmul, n_sub, n_subL, n_lt, n_eq, n_ltL, n_Llt, n_eqL, n_Leq, n_nneg, n_pos]
  · rw [u_Ring_fillOwes_0]
    simp (disch := first | omega | exact hB _ _ | assumption | decide) only [st_Ring_fillOwes, mr_cl E _, mm_pI_at, mm_pI_pI, mm_pI_2, mm_pL_1, mm_pL_at, mm_pL_pL, mm_pL_3, mm_pM_1, mm_pM_2, mm_pM_at, mm_pM_pM, mm_pI_pL, mm_pI_pM, mm_pL_pM, Bool.false_eq_true, n_10, true_and, and_true, false_and, and_false, Nat.not_lt_zero, true_or, or_true, eq_self, mm_z, mm_rs, sw_xc_ite, sw_xv_ite, n_m1, Nat.lt_irrefl, not_false_eq_true, not_true_eq_false, inS_0, inS_1, ite_not, sw_xv_some, sw_xm_some, sw_xc_some, sw_xc_void, if_true, if_false, reduceIte, bI_0, bI_01, bI_1, nt_or, Nat.reduceAdd, n_add, n_mul, n_addL, n_Ladd, n_mulL, n_Lmul, n_sub, n_subL, n_lt, n_eq, n_ltL, n_Llt, n_eqL, n_Leq, n_nneg, n_pos]
    rfl
set_option maxRecDepth 100000 in
set_option maxHeartbeats 4000000 in
theorem c_layer1 {P j : Nat} (hP : P ≤ 10) (hj : j < 9) (m O l : Nat → Int32) (n seen : Int32) (a2 : Value) : h_Ring_fillLayers_1 E [.ref 55, .int (nI P), a2, .int seen, .int (nI (j + 1)), .int 0, .int 0] (mk (R4 S m O l n)) = sw_ex E 19 77 [.ref 55, .int (nI P), a2, .int seen, .int (nI (j + 1)), .int (tw_set P (fun i => !inS seen i && !decide (O i &&& l j = 0))), .int (nI P)] [] (mk (R4 S m O l n)) := by
  have key := lp_up' (G := fun i a => h_Ring_fillLayers_1 E [.ref 55, .int (nI P), a2, .int seen, .int (nI (j + 1)), .int a, .int (nI i)] (mk (R4 S m O l n))) (f := fun i a => if (!inS seen i && !decide (O i &&& l j = 0)) = true then a ||| sb i else a) (fin := fun a => sw_ex E 19 77 [.ref 55, .int (nI P), a2, .int seen, .int (nI (j + 1)), .int a, .int (nI P)] [] (mk (R4 S m O l n))) (n := P) (a0 := 0) (fun i a hi => ?_) (fun a => ?_)
  · exact key
  · have e1 : nI (j + 1) - 1 = nI j := n_sub (b := 1) (by omega)
    rw [u_Ring_fillLayers_1]
    simp (disch := first | omega | exact hB _ _ | assumption | decide) only [st_Ring_fillLayers, hi, e_SW_isInSet, st_SW_isInSet, R4_f1, R4_f2, Nat.add_sub_cancel, mr_cl E _, mm_pI_at, mm_pI_pI, mm_pI_2, mm_pL_1, mm_pL_at, mm_pL_pL, mm_pL_3, mm_pM_1, mm_pM_2, mm_pM_at, mm_pM_pM, mm_pI_pL, mm_pI_pM, mm_pL_pM, Bool.false_eq_true, n_10, true_and, and_true, false_and, and_false, Nat.not_lt_zero, true_or, or_true, eq_self, mm_z, mm_rs, sw_xc_ite, sw_xv_ite, n_m1, Nat.lt_irrefl, not_false_eq_true, not_true_eq_false, inS_0, inS_1, ite_not, sw_xv_some, sw_xm_some, sw_xc_some, sw_xc_void, if_true, if_false, reduceIte, bI_0, bI_01, bI_1, nt_or, Nat.reduceAdd, n_add, n_mul, n_addL, n_Ladd, n_mulL, n_Lmul, n_sub, n_subL, n_lt, n_eq, n_ltL, n_Llt, n_eqL, n_Leq, n_nneg, n_pos]
    by_cases h1 : inS seen i = true <;> by_cases h2 : O i &&& l j = 0 <;> simp [h1, h2, sb]
  · rw [u_Ring_fillLayers_1]
    simp (disch := first | omega | exact hB _ _ | assumption | decide) only [st_Ring_fillLayers, mr_cl E _, mm_pI_at, mm_pI_pI, mm_pI_2, mm_pL_1, mm_pL_at, mm_pL_pL, mm_pL_3, mm_pM_1, mm_pM_2, mm_pM_at, mm_pM_pM, mm_pI_pL, mm_pI_pM, mm_pL_pM, Bool.false_eq_true, n_10, true_and, and_true, false_and, and_false, Nat.not_lt_zero, true_or, or_true, eq_self, mm_z, mm_rs, sw_xc_ite, sw_xv_ite, n_m1, Nat.lt_irrefl, not_false_eq_true, not_true_eq_false, inS_0, inS_1, ite_not, sw_xv_some, sw_xm_some, sw_xc_some, sw_xc_void, if_true, if_false, reduceIte, bI_0, bI_01, bI_1, nt_or, Nat.reduceAdd, n_add, n_mul, n_addL, n_Ladd, n_mulL, n_Lmul, n_sub, n_subL, n_lt, n_eq, n_ltL, n_Llt, n_eqL, n_Leq, n_nneg, n_pos]
set_option maxRecDepth 100000 in
set_option maxHeartbeats 4000000 in
theorem c_fillLayers {P p : Nat} (hP : P ≤ 10) (hp : p < P) (m O l : Nat → Int32) (n : Int32) : f_Ring_fillLayers E (.ref 55) (.int (nI P)) (.int (nI p)) (mk (R4 S m O l n)) = some (none, mk (R4 S m O (lyF O P p l) n)) := by
  unfold lyF
  have key := lp_upD (δ := Value × Value) (G := fun j d a => h_Ring_fillLayers_0 E [.ref 55, .int (nI P), .int (nI p), .int a.2, .int (nI (j + 1)), d.1, d.2] (mk (R4 S m O a.1 n))) (P := fun _ _ => True) (f := lyr1 O P) (fin := fun a => some (none, mk (R4 S m O a.1 n))) (n := 9) (a0 := (upd l 0 (sb p), sb p)) trivial (fun j d a hj _ => ⟨⟨(.int (tw_set P (fun i => !inS a.2 i && !decide (O i &&& a.1 j = 0))), .int (nI P)), ?_⟩, trivial⟩) (fun d a _ => ?_) (sw_J, sw_J)
  · have e0 : (1 : Int32) <<< (nI p &&& 31) = sb p := rfl
    have w0 : ∀ x, sw_sI (mk (R4 S m O l n)) 58 0 x = some (mk (R4 S m O (upd l 0 x) n)) := fun x => by
      have := mw_m58 (R4 S m O l n) (i := 0) (x := x) (by decide)
      rw [R4_f2, R4_w2] at this
      exact this
    simp (disch := first | omega | exact hB _ _ | assumption | decide) only [e_Ring_fillLayers, st_Ring_fillLayers, e0, w0, mr_cl E _, mm_pI_at, mm_pI_pI, mm_pI_2, mm_pL_1, mm_pL_at, mm_pL_pL, mm_pL_3, mm_pM_1, mm_pM_2, mm_pM_at, mm_pM_pM, mm_pI_pL, mm_pI_pM, mm_pL_pM, Bool.false_eq_true, n_10, true_and, and_true, false_and, and_false, Nat.not_lt_zero, true_or, or_true, eq_self, mm_z, mm_rs, sw_xc_ite, sw_xv_ite, n_m1, Nat.lt_irrefl, not_false_eq_true, not_true_eq_false, inS_0, inS_1, ite_not, sw_xv_some, sw_xm_some, sw_xc_some, sw_xc_void, if_true, if_false, reduceIte, bI_0, bI_01, bI_1, nt_or, Nat.reduceAdd, n_add, n_mul, n_addL, n_Ladd, n_mulL, n_Lmul, n_sub, n_subL, n_lt, n_eq, n_ltL, n_Llt, n_eqL, n_Leq, n_nneg, n_pos]
    exact key
  · have cl := c_layer1 E S hP hj m O a.1 n a.2 (.int (nI p))
    have h10 : j + 1 < 10 := by omega
    rw [u_Ring_fillLayers_0]
    unfold lyr1
    simp (disch := first | omega | exact hB _ _ | assumption | decide) only [st_Ring_fillLayers, h10, cl, mw_m58, R4_f2, R4_w2, mr_cl E _, mm_pI_at, mm_pI_pI, mm_pI_2, mm_pL_1, mm_pL_at, mm_pL_pL, mm_pL_3, mm_pM_1, mm_pM_2, mm_pM_at, mm_pM_pM, mm_pI_pL, mm_pI_pM, mm_pL_pM, Bool.false_eq_true, n_10, true_and, and_true, false_and, and_false, Nat.not_lt_zero, true_or, or_true, eq_self, mm_z, mm_rs, sw_xc_ite, sw_xv_ite, n_m1, Nat.lt_irrefl, not_false_eq_true, not_true_eq_false, inS_0, inS_1, ite_not, sw_xv_some, sw_xm_some, sw_xc_some, sw_xc_void, if_true, if_false, reduceIte, bI_0, bI_01, bI_1, nt_or, Nat.reduceAdd, n_add, n_mul, n_addL, n_Ladd, n_mulL, n_Lmul, n_sub, n_subL, n_lt, n_eq, n_ltL, n_Llt, n_eqL, n_Leq, n_nneg, n_pos]
  · rw [u_Ring_fillLayers_0]
    simp (disch := first | omega | exact hB _ _ | assumption | decide) only [st_Ring_fillLayers, mr_cl E _, mm_pI_at, mm_pI_pI, mm_pI_2, mm_pL_1, mm_pL_at, mm_pL_pL, mm_pL_3, mm_pM_1, mm_pM_2, mm_pM_at, mm_pM_pM, mm_pI_pL, mm_pI_pM, mm_pL_pM, Bool.false_eq_true, n_10, true_and, and_true, false_and, and_false, Nat.not_lt_zero, true_or, or_true, eq_self, mm_z, mm_rs, sw_xc_ite, sw_xv_ite, n_m1, Nat.lt_irrefl, not_false_eq_true, not_true_eq_false, inS_0, inS_1, ite_not, sw_xv_some, sw_xm_some, sw_xc_some, sw_xc_void, if_true, if_false, reduceIte, bI_0, bI_01, bI_1, nt_or, Nat.reduceAdd, n_add, n_mul, n_addL, n_Ladd, n_mulL, n_Lmul, n_sub, n_subL, n_lt, n_eq, n_ltL, n_Llt, n_eqL, n_Leq, n_nneg, n_pos]
theorem first_eq {q r : Nat → Bool} {P : Nat} (hP : P ≤ 10) (h : ∀ v, v < 10 → q v = r v) (hr : ∀ v, v < 10 → r v = true → v < P) (hx : ∃ v, v < P ∧ r v = true) : fa_first q 10 = fa_first r P ∧ fa_first q 10 < 10 := by
  have h1 := first_ex hx
  have h2 : fa_first q 10 < 10 := first_ex (by
    obtain ⟨v, hv, hrv⟩ := hx
    exact ⟨v, by omega, by rw [h v (by omega)]; exact hrv⟩)
  have y1 := fa_first_yes r P h1
  have y2 := fa_first_yes q 10 h2
  refine ⟨?_, h2⟩
  rcases Nat.lt_trichotomy (fa_first q 10) (fa_first r P) with g | g | g
  · have := fa_first_no r P _ g
    rw [h _ h2] at y2
    rw [y2] at this; cases this
  · exact g
  · have := fa_first_no q 10 _ g
    rw [h _ (by omega), y1] at this; cases this
set_option maxRecDepth 100000 in
set_option maxHeartbeats 4000000 in
theorem c_leastIn (s : Int32) (h : fa_first (inS s) 10 < 10) : f_Ring_leastIn E (.int s) (mk S) = some (some (.int (nI (fa_first (inS s) 10))), mk S) := by
  have key := lp_find (G := fun i => h_Ring_leastIn_0 E [.int s, .int (nI i)] (mk S)) (p := inS s) (yes := fun i => some (some (.int (nI i)), mk S)) (no := some (some (.int 0), mk S)) (n := 10) (fun i hi => ?_) ?_
  · simp only [e_Ring_leastIn, st_Ring_leastIn]
    refine key.trans ?_
    rw [if_pos h]
  · rw [u_Ring_leastIn_0]
    simp (disch := first | omega | exact hB _ _ | assumption | decide) only [st_Ring_leastIn, hi, e_SW_isInSet, st_SW_isInSet, mr_cl E _, mm_pI_at, mm_pI_pI, mm_pI_2, mm_pL_1, mm_pL_at, mm_pL_pL, mm_pL_3, mm_pM_1, mm_pM_2, mm_pM_at, mm_pM_pM, mm_pI_pL, mm_pI_pM, mm_pL_pM, Bool.false_eq_true, n_10, true_and, and_true, false_and, and_false, Nat.not_lt_zero, true_or, or_true, eq_self, mm_z, mm_rs, sw_xc_ite, sw_xv_ite, n_m1, Nat.lt_irrefl, not_false_eq_true, not_true_eq_false, inS_0, inS_1, ite_not, sw_xv_some, sw_xm_some, sw_xc_some, sw_xc_void, if_true, if_false, reduceIte, bI_0, bI_01, bI_1, nt_or, Nat.reduceAdd, n_add, n_mul, n_addL, n_Ladd, n_mulL, n_Lmul, n_sub, n_subL, n_lt, n_eq, n_ltL, n_Llt, n_eqL, n_Leq, n_nneg, n_pos]
  · rw [u_Ring_leastIn_0]
    simp (disch := first | omega | exact hB _ _ | assumption | decide) only [st_Ring_leastIn, mr_cl E _, mm_pI_at, mm_pI_pI, mm_pI_2, mm_pL_1, mm_pL_at, mm_pL_pL, mm_pL_3, mm_pM_1, mm_pM_2, mm_pM_at, mm_pM_pM, mm_pI_pL, mm_pI_pM, mm_pL_pM, Bool.false_eq_true, n_10, true_and, and_true, false_and, and_false, Nat.not_lt_zero, true_or, or_true, eq_self, mm_z, mm_rs, sw_xc_ite, sw_xv_ite, n_m1, Nat.lt_irrefl, not_false_eq_true, not_true_eq_false, inS_0, inS_1, ite_not, sw_xv_some, sw_xm_some, sw_xc_some, sw_xc_void, if_true, if_false, reduceIte, bI_0, bI_01, bI_1, nt_or, Nat.reduceAdd, n_add, n_mul, n_addL, n_Ladd, n_mulL, n_Lmul, n_sub, n_subL, n_lt, n_eq, n_ltL, n_Llt, n_eqL, n_Leq, n_nneg, n_pos]
/-- the members one by one -/
def fmF (g : Nat → Nat) (L : Nat) (m : Nat → Int32) : Nat → Int32 := lp (fun j a => upd a (j + 1) (nI (g (j + 1)))) (L - 1) (upd m 0 (nI (g 0)))
theorem fmF_at {g : Nat → Nat} {L : Nat} {m : Nat → Int32} : ∀ i, i < L → fmF g L m i = nI (g i) := by
  have key := lp_inv (f := fun j (a : Nat → Int32) => upd a (j + 1) (nI (g (j + 1)))) (P := fun n a => ∀ i, i ≤ n → a i = nI (g i)) (n := L - 1) (a := upd m 0 (nI (g 0))) (fun i hi => by rw [show i = 0 by omega, u_at]) (fun n a _ hP i hi => by
    unfold upd
    by_cases e : i = n + 1
    · rw [if_pos e, e]
    · rw [if_neg e]; exact hP i (by omega))
  intro i hi
  exact key i (by omega)
set_option maxRecDepth 100000 in
set_option maxHeartbeats 4000000 in
theorem c_fillMembers {T : Nat → Nat → Nat} (hI : IT T) {p : Nat} (hp : p < T 0 0) (hL : 0 < rgl (ed T) (T 0 0) p) (m o l : Nat → Int32) : f_Ring_fillMembers E (.ref 55) (.int (nI p)) (mk (R4 S m (owF T o) (lyF (owF T o) (T 0 0) p l) (nI (rgl (ed T) (T 0 0) p)))) = some (none, mk (R4 S (fmF (rgm (ed T) (T 0 0) p (rgl (ed T) (T 0 0) p)) (rgl (ed T) (T 0 0) p) m) (owF T o) (lyF (owF T o) (T 0 0) p l) (nI (rgl (ed T) (T 0 0) p)))) := by
  have hp10 := hI.p
  have hle := rgl_le (e := ed T) (P := T 0 0) (p := p)
  have hok := rgm_ok hp hL
  have hob := fun u v hu hv => ow_bt hI o (u := u) (v := v) hu hv
  have hlb := ly_bt hI o l hp
  have h2 := (rgl_2 hL).1
  have hg0 : rgm (ed T) (T 0 0) p (rgl (ed T) (T 0 0) p) 0 = p := rfl
  have hgs : ∀ i, rgm (ed T) (T 0 0) p (rgl (ed T) (T 0 0) p) (i + 1) = fa_first (fun v => ed T (rgm (ed T) (T 0 0) p (rgl (ed T) (T 0 0) p) i) v && (Dl (ed T) (T 0 0) p (rgl (ed T) (T 0 0) p - (i + 1)) v).1) (T 0 0) := fun i => rfl
  generalize rgl (ed T) (T 0 0) p = L at *
  generalize rgm (ed T) (T 0 0) p L = g at *
  generalize owF T o = O at *
  generalize lyF O (T 0 0) p l = Y at *
  unfold fmF
  have key := lp_up (G := fun j a => h_Ring_fillMembers_0 E [.ref 55, .int (nI p), .int (nI (j + 1))] (mk (R4 S a O Y (nI L)))) (P := fun n a => ∀ i, i ≤ n → a i = nI (g i)) (f := fun j a => upd a (j + 1) (nI (g (j + 1)))) (fin := fun a => some (none, mk (R4 S a O Y (nI L)))) (n := L - 1) (a0 := upd m 0 (nI (g 0))) (fun i hi => by rw [show i = 0 by omega, u_at]) (fun j a hj hP => ⟨?_, ?_⟩) (fun a hP => ?_)
  · have w0 : ∀ x, sw_sI (mk (R4 S m O Y (nI L))) 56 0 x = some (mk (R4 S (upd m 0 x) O Y (nI L))) := fun x => by
      have := mw_m56 (R4 S m O Y (nI L)) (i := 0) (x := x) (by decide)
      rw [R4_f0, R4_w0] at this
      exact this
    simp (disch := first | omega | exact hB _ _ | assumption | decide) only [e_Ring_fillMembers, st_Ring_fillMembers, w0, mr_cl E _, mm_pI_at, mm_pI_pI, mm_pI_2, mm_pL_1, mm_pL_at, mm_pL_pL, mm_pL_3, mm_pM_1, mm_pM_2, mm_pM_at, mm_pM_pM, mm_pI_pL, mm_pI_pM, mm_pL_pM, Bool.false_eq_true, n_10, true_and, and_true, false_and, and_false, Nat.not_lt_zero, true_or, or_true, eq_self, mm_z, mm_rs, sw_xc_ite, sw_xv_ite, n_m1, Nat.lt_irrefl, not_false_eq_true, not_true_eq_false, inS_0, inS_1, ite_not, sw_xv_some, sw_xm_some, sw_xc_some, sw_xc_void, if_true, if_false, reduceIte, bI_0, bI_01, bI_1, nt_or, Nat.reduceAdd, n_add, n_mul, n_addL, n_Ladd, n_mulL, n_Lmul, n_sub, n_subL, n_lt, n_eq, n_ltL, n_Llt, n_eqL, n_Leq, n_nneg, n_pos]
    rw [hg0] at key ⊢
    exact key
  · obtain ⟨q1, q2, q3⟩ := hok j (by omega)
    have hjL : j + 1 < L := by omega
    have hx := q3 hjL
    have hpj : a j = nI (g j) := hP j (Nat.le_refl j)
    have hfe := first_eq (q := inS (O (g j) &&& Y (L - (j + 1)))) (r := fun v => ed T (g j) v && (Dl (ed T) (T 0 0) p (L - (j + 1)) v).1) (P := T 0 0) hp10 (fun v hv => by
      rw [inS_bt (by omega), b_and, hob (g j) v (by omega) (by omega), hlb (L - (j + 1)) (by omega) v (by omega)]) (fun v hv hr => by
      simp only [Bool.and_eq_true] at hr
      exact (ed_lt hI hr.1).2) hx
    have cl := fun S' => c_leastIn E S' (O (g j) &&& Y (L - (j + 1))) hfe.2
    have hgj : g j < 10 := by omega
    have hLj : L - (j + 1) < 10 := by omega
    rw [u_Ring_fillMembers_0]
    simp (disch := first | omega | exact hB _ _ | assumption | decide) only [st_Ring_fillMembers, R4_f3, hjL, R4_f0, R4_f1, R4_f2, Nat.add_sub_cancel, hpj, cl, mw_m56, R4_w0, mr_cl E _, mm_pI_at, mm_pI_pI, mm_pI_2, mm_pL_1, mm_pL_at, mm_pL_pL, mm_pL_3, mm_pM_1, mm_pM_2, mm_pM_at, mm_pM_pM, mm_pI_pL, mm_pI_pM, mm_pL_pM, Bool.false_eq_true, n_10, true_and, and_true, false_and, and_false, Nat.not_lt_zero, true_or, or_true, eq_self, mm_z, mm_rs, sw_xc_ite, sw_xv_ite, n_m1, Nat.lt_irrefl, not_false_eq_true, not_true_eq_false, inS_0, inS_1, ite_not, sw_xv_some, sw_xm_some, sw_xc_some, sw_xc_void, if_true, if_false, reduceIte, bI_0, bI_01, bI_1, nt_or, Nat.reduceAdd, n_add, n_mul, n_addL, n_Ladd, n_mulL, n_Lmul, n_sub, n_subL, n_lt, n_eq, n_ltL, n_Llt, n_eqL, n_Leq, n_nneg, n_pos]
    rw [hgs j, hfe.1]
  · intro i hi
    unfold upd
    by_cases e : i = j + 1
    · rw [if_pos e, e]
    · rw [if_neg e]; exact hP i (by omega)
  · have e1 : L - 1 + 1 = L := by omega
    rw [u_Ring_fillMembers_0, e1]
    simp (disch := first | omega | exact hB _ _ | assumption | decide) only [st_Ring_fillMembers, R4_f3, mr_cl E _, mm_pI_at, mm_pI_pI, mm_pI_2, mm_pL_1, mm_pL_at, mm_pL_pL, mm_pL_3, mm_pM_1, mm_pM_2, mm_pM_at, mm_pM_pM, mm_pI_pL, mm_pI_pM, mm_pL_pM, Bool.false_eq_true, n_10, true_and, and_true, false_and, and_false, Nat.not_lt_zero, true_or, or_true, eq_self, mm_z, mm_rs, sw_xc_ite, sw_xv_ite, n_m1, Nat.lt_irrefl, not_false_eq_true, not_true_eq_false, inS_0, inS_1, ite_not, sw_xv_some, sw_xm_some, sw_xc_some, sw_xc_void, if_true, if_false, reduceIte, bI_0, bI_01, bI_1, nt_or, Nat.reduceAdd, n_add, n_mul, n_addL, n_Ladd, n_mulL, n_Lmul, n_sub, n_subL, n_lt, n_eq, n_ltL, n_Llt, n_eqL, n_Leq, n_nneg, n_pos]
def ln1 (q : Nat → Bool) (j n : Nat) : Nat := if n = 0 then (if q (j + 1) = true then j + 2 else 0) else n
set_option maxRecDepth 100000 in
set_option maxHeartbeats 4000000 in
theorem c_find (hI : IT (S.1 0)) {p : Nat} (hp : p < S.1 0 0 0) : ∃ m o l, f_Ring_find E (.ref 55) (.ref (mm_tn 0 0)) (.int (nI p)) (mk S) = some (none, mk (R4 S m o l (nI (rgl (ed (S.1 0)) (S.1 0 0 0) p)))) ∧ ∀ i, i < rgl (ed (S.1 0)) (S.1 0 0 0) p → m i = nI (rgm (ed (S.1 0)) (S.1 0 0 0) p (rgl (ed (S.1 0)) (S.1 0 0 0) p) i) := by
  have h03 : 0 < 3 := by decide
  have hB := hI.b
  have hp10 := hI.p
  have hle := rgl_le (e := ed (S.1 0)) (P := S.1 0 0 0) (p := p)
  refine ⟨if 0 < rgl (ed (S.1 0)) (S.1 0 0 0) p then fmF (rgm (ed (S.1 0)) (S.1 0 0 0) p (rgl (ed (S.1 0)) (S.1 0 0 0) p)) (rgl (ed (S.1 0)) (S.1 0 0 0) p) (S.2.2 0) else S.2.2 0, owF (S.1 0) (S.2.2 1), lyF (owF (S.1 0) (S.2.2 1)) (S.1 0 0 0) p (S.2.2 2), ?_, ?_⟩
  · have hob := fun u v hu hv => ow_bt hI (S.2.2 1) (u := u) (v := v) hu hv
    have hlb := ly_bt hI (S.2.2 1) (S.2.2 2) hp
    have hrk : ∀ k, k < 10 → ((owF (S.1 0) (S.2.2 1) p &&& lyF (owF (S.1 0) (S.2.2 1)) (S.1 0 0 0) p (S.2.2 2) k = 0) ↔ ¬ rgk (ed (S.1 0)) (S.1 0 0 0) p k = true) := fun k hk => by
      rw [← Classical.not_not (a := (owF (S.1 0) (S.2.2 1) p &&& lyF (owF (S.1 0) (S.2.2 1)) (S.1 0 0 0) p (S.2.2 2) k = 0)), and_ne]
      unfold rgk
      rw [exV_iff]
      constructor
      · rintro h ⟨v, hv, g⟩
        simp only [Bool.and_eq_true] at g
        exact h ⟨v, by omega, by rw [hob p v (by omega) (by omega)]; exact g.1, by rw [hlb k hk v (by omega)]; exact g.2⟩
      · rintro h ⟨v, hv, g1, g2⟩
        rw [hob p v (by omega) hv] at g1
        rw [hlb k hk v hv] at g2
        exact h ⟨v, (ed_lt hI g1).2, by rw [g1, g2]; rfl⟩
    have cm := fun hL m => c_fillMembers E S hI hp hL m (S.2.2 1) (S.2.2 2)
    have co := c_fillOwes E S hI (S.2.2 0) (S.2.2 1) (S.2.2 2) (S.2.2 3 0)
    have cl := c_fillLayers E S hp10 hp (S.2.2 0) (owF (S.1 0) (S.2.2 1)) (S.2.2 2) (S.2.2 3 0)
    rw [R4_id] at co
    generalize rgm (ed (S.1 0)) (S.1 0 0 0) p (rgl (ed (S.1 0)) (S.1 0 0 0) p) = g at *
    generalize owF (S.1 0) (S.2.2 1) = O at *
    generalize lyF O (S.1 0 0 0) p (S.2.2 2) = Y at *
    have tail : ∀ d, sw_ex E 15 69 [.ref 55, .ref (mm_tn 0 0), .int (nI p), d] [] (mk (R4 S (S.2.2 0) O Y (nI (rgl (ed (S.1 0)) (S.1 0 0 0) p)))) = some (none, mk (R4 S (if 0 < rgl (ed (S.1 0)) (S.1 0 0 0) p then fmF g (rgl (ed (S.1 0)) (S.1 0 0 0) p) (S.2.2 0) else S.2.2 0) O Y (nI (rgl (ed (S.1 0)) (S.1 0 0 0) p)))) := fun d => by
      by_cases hL : 0 < rgl (ed (S.1 0)) (S.1 0 0 0) p
      · rw [if_pos hL]
        simp (disch := first | omega | exact hB _ _ | assumption | decide) only [st_Ring_find, R4_f3, hL, cm hL, mr_cl E _, mm_pI_at, mm_pI_pI, mm_pI_2, mm_pL_1, mm_pL_at, mm_pL_pL, mm_pL_3, mm_pM_1, mm_pM_2, mm_pM_at, mm_pM_pM, mm_pI_pL, mm_pI_pM, mm_pL_pM, Bool.false_eq_true, n_10, true_and, and_true, false_and, and_false, Nat.not_lt_zero, true_or, or_true, eq_self, mm_z, mm_rs, sw_xc_ite, sw_xv_ite, n_m1, Nat.lt_irrefl, not_false_eq_true, not_true_eq_false, inS_0, inS_1, ite_not, sw_xv_some, sw_xm_some, sw_xc_some, sw_xc_void, if_true, if_false, reduceIte, bI_0, bI_01, bI_1, nt_or, Nat.reduceAdd, n_add, n_mul, n_addL, n_Ladd, n_mulL, n_Lmul, n_sub, n_subL, n_lt, n_eq, n_ltL, n_Llt, n_eqL, n_Leq, n_nneg, n_pos]
      · rw [if_neg hL]
        simp (disch := first | omega | exact hB _ _ | assumption | decide) only [st_Ring_find, R4_f3, hL, mr_cl E _, mm_pI_at, mm_pI_pI, mm_pI_2, mm_pL_1, mm_pL_at, mm_pL_pL, mm_pL_3, mm_pM_1, mm_pM_2, mm_pM_at, mm_pM_pM, mm_pI_pL, mm_pI_pM, mm_pL_pM, Bool.false_eq_true, n_10, true_and, and_true, false_and, and_false, Nat.not_lt_zero, true_or, or_true, eq_self, mm_z, mm_rs, sw_xc_ite, sw_xv_ite, n_m1, Nat.lt_irrefl, not_false_eq_true, not_true_eq_false, inS_0, inS_1, ite_not, sw_xv_some, sw_xm_some, sw_xc_some, sw_xc_void, if_true, if_false, reduceIte, bI_0, bI_01, bI_1, nt_or, Nat.reduceAdd, n_add, n_mul, n_addL, n_Ladd, n_mulL, n_Lmul, n_sub, n_subL, n_lt, n_eq, n_ltL, n_Llt, n_eqL, n_Leq, n_nneg, n_pos]
    have hr0 : (∀ j, j < 9 → rgk (ed (S.1 0)) (S.1 0 0 0) p (j + 1) = false) → rgl (ed (S.1 0)) (S.1 0 0 0) p = 0 := fun h => by
      unfold rgl
      rw [if_neg]
      intro g
      have := fa_first_yes _ _ g
      rw [h _ g] at this; cases this
    have hr1 : ∀ j, j < 9 → (∀ j', j' < j → rgk (ed (S.1 0)) (S.1 0 0 0) p (j' + 1) = false) → rgk (ed (S.1 0)) (S.1 0 0 0) p (j + 1) = true → rgl (ed (S.1 0)) (S.1 0 0 0) p = j + 2 := fun j hj h1 h2 => by
      have hlt : fa_first (fun j => rgk (ed (S.1 0)) (S.1 0 0 0) p (j + 1)) 9 < 9 := first_ex ⟨j, hj, h2⟩
      have hy := fa_first_yes _ _ hlt
      have hf : fa_first (fun j => rgk (ed (S.1 0)) (S.1 0 0 0) p (j + 1)) 9 = j := by
        rcases Nat.lt_trichotomy (fa_first (fun j => rgk (ed (S.1 0)) (S.1 0 0 0) p (j + 1)) 9) j with g | g | g
        · rw [h1 _ g] at hy; cases hy
        · exact g
        · have := fa_first_no (fun j => rgk (ed (S.1 0)) (S.1 0 0 0) p (j + 1)) 9 j g
          rw [h2] at this; cases this
      unfold rgl
      rw [if_pos hlt, hf]
    generalize rgl (ed (S.1 0)) (S.1 0 0 0) p = L at *
    generalize rgk (ed (S.1 0)) (S.1 0 0 0) p = q at *
    have key := lp_upX (δ := Unit) (G := fun j _ n => h_Ring_find_0 E [.ref 55, .ref (mm_tn 0 0), .int (nI p), .int (nI (j + 1))] (mk (R4 S (S.2.2 0) O Y (nI n)))) (P := fun i n => (n = 0 ∧ ∀ j, j < i → q (j + 1) = false) ∨ (n = L ∧ 0 < n)) (live := fun n => n = 0) (f := ln1 q) (fin := fun n => some (none, mk (R4 S (if 0 < L then fmF g L (S.2.2 0) else S.2.2 0) O Y (nI L)))) (n := 9) (a0 := 0) (Or.inl ⟨rfl, fun j hj => absurd hj (Nat.not_lt_zero j)⟩) (fun j d n hj hP => ⟨fun hl => ⟨(), ?_⟩, fun hd => ⟨?_, ?_⟩, ?_⟩) (fun d n hP => ?_) ()
    · simp (disch := first | omega | exact hB _ _ | assumption | decide) only [e_Ring_find, st_Ring_find, mr_town E _ 0 h03, co, R4_1, cl, mw_f55_3, R4_w3, mr_cl E _, mm_pI_at, mm_pI_pI, mm_pI_2, mm_pL_1, mm_pL_at, mm_pL_pL, mm_pL_3, mm_pM_1, mm_pM_2, mm_pM_at, mm_pM_pM, mm_pI_pL, mm_pI_pM, mm_pL_pM, Bool.false_eq_true, n_10, true_and, and_true, false_and, and_false, Nat.not_lt_zero, true_or, or_true, eq_self, mm_z, mm_rs, sw_xc_ite, sw_xv_ite, n_m1, Nat.lt_irrefl, not_false_eq_true, not_true_eq_false, inS_0, inS_1, ite_not, sw_xv_some, sw_xm_some, sw_xc_some, sw_xc_void, if_true, if_false, reduceIte, bI_0, bI_01, bI_1, nt_or, Nat.reduceAdd, n_add, n_mul, n_addL, n_Ladd, n_mulL, n_Lmul, n_sub, n_subL, n_lt, n_eq, n_ltL, n_Llt, n_eqL, n_Leq, n_nneg, n_pos]
      exact key
    · have hl' : n = 0 := hl
      subst hl'
      have h10 : j + 1 < 10 := by omega
      have hq := hrk (j + 1) h10
      rw [u_Ring_find_0]
      unfold ln1
      by_cases hc : q (j + 1) = true
      · simp (disch := first | omega | exact hB _ _ | assumption | decide) only [st_Ring_find, h10, R4_f3, show nI 0 = 0 from rfl, R4_f1, R4_f2, hq, hc, mw_f55_3, R4_w3, Nat.add_assoc j 1 1, mr_cl E _, mm_pI_at, mm_pI_pI, mm_pI_2, mm_pL_1, mm_pL_at, mm_pL_pL, mm_pL_3, mm_pM_1, mm_pM_2, mm_pM_at, mm_pM_pM, mm_pI_pL, mm_pI_pM, mm_pL_pM, Bool.false_eq_true, n_10, true_and, and_true, false_and, and_false, Nat.not_lt_zero, true_or, or_true, eq_self, mm_z, mm_rs, sw_xc_ite, sw_xv_ite, n_m1, Nat.lt_irrefl, not_false_eq_true, not_true_eq_false, inS_0, inS_1, ite_not, sw_xv_some, sw_xm_some, sw_xc_some, sw_xc_void, if_true, if_false, reduceIte, bI_0, bI_01, bI_1, nt_or, Nat.reduceAdd, n_add, n_mul, n_addL, n_Ladd, n_mulL, n_Lmul, n_sub, n_subL, n_lt, n_eq, n_ltL, n_Llt, n_eqL, n_Leq, n_nneg, n_pos]
      · simp (disch := first | omega | exact hB _ _ | assumption | decide) only [st_Ring_find, h10, R4_f3, show nI 0 = 0 from rfl, R4_f1, R4_f2, hq, hc, mr_cl E _, mm_pI_at, mm_pI_pI, mm_pI_2, mm_pL_1, mm_pL_at, mm_pL_pL, mm_pL_3, mm_pM_1, mm_pM_2, mm_pM_at, mm_pM_pM, mm_pI_pL, mm_pI_pM, mm_pL_pM, Bool.false_eq_true, n_10, true_and, and_true, false_and, and_false, Nat.not_lt_zero, true_or, or_true, eq_self, mm_z, mm_rs, sw_xc_ite, sw_xv_ite, n_m1, Nat.lt_irrefl, not_false_eq_true, not_true_eq_false, inS_0, inS_1, ite_not, sw_xv_some, sw_xm_some, sw_xc_some, sw_xc_void, if_true, if_false, reduceIte, bI_0, bI_01, bI_1, nt_or, Nat.reduceAdd, n_add, n_mul, n_addL, n_Ladd, n_mulL, n_Lmul, n_sub, n_subL, n_lt, n_eq, n_ltL, n_Llt, n_eqL, n_Leq, n_nneg, n_pos]
    · rcases hP with ⟨h0, _⟩ | ⟨h1, h2⟩
      · exact absurd h0 hd
      · subst h1
        have h10 : j + 1 < 10 := by omega
        have hne : ¬ n = 0 := by omega
        rw [u_Ring_find_0]
        simp (disch := first | omega | exact hB _ _ | assumption | decide) only [st_Ring_find, h10, R4_f3, hne, tail, mr_cl E _, mm_pI_at, mm_pI_pI, mm_pI_2, mm_pL_1, mm_pL_at, mm_pL_pL, mm_pL_3, mm_pM_1, mm_pM_2, mm_pM_at, mm_pM_pM, mm_pI_pL, mm_pI_pM, mm_pL_pM, Bool.false_eq_true, n_10, true_and, and_true, false_and, and_false, Nat.not_lt_zero, true_or, or_true, eq_self, mm_z, mm_rs, sw_xc_ite, sw_xv_ite, n_m1, Nat.lt_irrefl, not_false_eq_true, not_true_eq_false, inS_0, inS_1, ite_not, sw_xv_some, sw_xm_some, sw_xc_some, sw_xc_void, if_true, if_false, reduceIte, bI_0, bI_01, bI_1, nt_or, Nat.reduceAdd, n_add, n_mul, n_addL, n_Ladd, n_mulL, n_Lmul, n_sub, n_subL, n_lt, n_eq, n_ltL, n_Llt, n_eqL, n_Leq, n_nneg, n_pos]
    · unfold ln1
      rw [if_neg hd]
    · unfold ln1
      rcases hP with ⟨h0, hn⟩ | ⟨h1, h2⟩
      · rw [if_pos h0]
        by_cases hc : q (j + 1) = true
        · rw [if_pos hc]
          exact Or.inr ⟨(hr1 j hj hn hc).symm, by omega⟩
        · rw [if_neg hc]
          refine Or.inl ⟨rfl, fun j' hj' => ?_⟩
          rcases Nat.lt_or_ge j' j with g1 | g1
          · exact hn j' g1
          · rw [show j' = j by omega]; simpa using hc
      · rw [if_neg (by omega)]
        exact Or.inr ⟨h1, h2⟩
    · have hnL : n = L := by
        rcases hP with ⟨h0, hn⟩ | ⟨h1, _⟩
        · rw [h0, hr0 hn]
        · exact h1
      subst hnL
      rw [u_Ring_find_0]
      simp (disch := first | omega | exact hB _ _ | assumption | decide) only [st_Ring_find, tail, mr_cl E _, mm_pI_at, mm_pI_pI, mm_pI_2, mm_pL_1, mm_pL_at, mm_pL_pL, mm_pL_3, mm_pM_1, mm_pM_2, mm_pM_at, mm_pM_pM, mm_pI_pL, mm_pI_pM, mm_pL_pM, Bool.false_eq_true, n_10, true_and, and_true, false_and, and_false, Nat.not_lt_zero, true_or, or_true, eq_self, mm_z, mm_rs, sw_xc_ite, sw_xv_ite, n_m1, Nat.lt_irrefl, not_false_eq_true, not_true_eq_false, inS_0, inS_1, ite_not, sw_xv_some, sw_xm_some, sw_xc_some, sw_xc_void, if_true, if_false, reduceIte, bI_0, bI_01, bI_1, nt_or, Nat.reduceAdd, n_add, n_mul, n_addL, n_Ladd, n_mulL, n_Lmul, n_sub, n_subL, n_lt, n_eq, n_ltL, n_Llt, n_eqL, n_Leq, n_nneg, n_pos]
  · intro i hi
    rw [if_pos (by omega)]
    exact fmF_at i hi
end RC
