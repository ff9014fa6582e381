/-! ===== the ring, by the reference ===== -/
def R2 (S : sw_S) (f r : Nat → Int32) : sw_S := mm_pM (mm_pM S 22 f) 23 r
section R2S
variable (S : sw_S) (f r f' : Nat → Int32)
theorem R2_1 : (R2 S f r).1 = S.1 := rfl
theorem R2_2 : (R2 S f r).2.1 = S.2.1 := rfl
theorem R2_f : (R2 S f r).2.2 22 = f := rfl
theorem R2_r : (R2 S f r).2.2 23 = r := rfl
theorem R2_wf : mm_pM (R2 S f r) 22 f' = R2 S f' r := by
  refine Prod.ext rfl (Prod.ext rfl (funext fun q => ?_))
  simp only [R2, mm_pM]
  by_cases h : q = 22
  · subst h; rfl
  · simp [h]
theorem R2_wr : mm_pM (R2 S f r) 23 f' = R2 S f f' := by
  refine Prod.ext rfl (Prod.ext rfl (funext fun q => ?_))
  simp only [R2, mm_pM]
  by_cases h : q = 23
  · subst h; rfl
  · simp [h]
theorem R2_id : R2 S (S.2.2 22) (S.2.2 23) = S := by
  unfold R2
  rw [mm_pM_id, mm_pM_id]
end R2S
/-- a row of ten numbers, what lies behind it -/
def fg (g : Nat → Int32) (f : Nat → Nat) : Nat → Int32 := fun i => if i < 10 then nI (f i) else g i
theorem fg_at {g : Nat → Int32} {f : Nat → Nat} {i : Nat} (h : i < 10) : fg g f i = nI (f i) := if_pos h
theorem fg_upd {g : Nat → Int32} {f : Nat → Nat} {u x : Nat} (h : u < 10) : upd (fg g f) u (nI x) = fg g (fun i => if i = u then x else f i) := by
  funext i
  unfold upd fg
  by_cases e : i = u
  · subst e; simp [h]
  · simp [e]
theorem fg_init (g : Nat → Int32) (f : Nat → Nat) : lp (fun i a => upd a i (nI (f i))) 10 g = fg g f := by
  have key := lp_inv (f := fun i (a : Nat → Int32) => upd a i (nI (f i))) (P := fun n a => a = fun i => if i < n then nI (f i) else g i) (n := 10) (a := g) (by funext i; simp) (fun n a _ hP => by
    rw [hP]
    funext i
    unfold upd
    by_cases e : i = n
    · subst e; simp
    · have : (i < n + 1) ↔ (i < n) := by omega
      simp [e, this])
  exact key
/-- the least of those that are told from the last on -/
def ds1 (P : Nat) (q : Nat → Bool) (j : Nat) (a : Int32) : Int32 := if q (P - 1 - j) = true then nI (P - 1 - j) else a
theorem ds_first (P : Nat) (q : Nat → Bool) : lp (ds1 P q) P (-1) = if fa_first q P < P then nI (fa_first q P) else -1 := by
  have key := lp_inv (f := ds1 P q) (P := fun i a => i ≤ P → (∀ c, P - i ≤ c → c < P → q c = true → (∀ d, P - i ≤ d → d < c → q d = false) → a = nI c) ∧ ((∀ c, P - i ≤ c → c < P → q c = false) → a = -1)) (n := P) (a := -1) (fun _ => ⟨fun c h1 h2 => by omega, fun _ => rfl⟩) (fun i a hi hP hle => by
    obtain ⟨h1, h2⟩ := hP (by omega)
    unfold ds1
    by_cases hp : q (P - 1 - i) = true
    · rw [if_pos hp]
      refine ⟨fun c hc1 hc2 hc3 hc4 => ?_, fun hn => ?_⟩
      · by_cases e : c = P - 1 - i
        · rw [e]
        · have := hc4 (P - 1 - i) (by omega) (by omega)
          rw [hp] at this; cases this
      · have := hn (P - 1 - i) (by omega) (by omega)
        rw [hp] at this; cases this
    · rw [if_neg hp]
      refine ⟨fun c hc1 hc2 hc3 hc4 => ?_, fun hn => h2 (fun c hc1 hc2 => hn c (by omega) hc2)⟩
      by_cases e : c = P - 1 - i
      · rw [e] at hc3; exact absurd hc3 hp
      · exact h1 c (by omega) hc2 hc3 (fun d hd1 hd2 => hc4 d (by omega) hd2))
  obtain ⟨k1, k2⟩ := key (Nat.le_refl P)
  split
  · next hf => exact k1 _ (by omega) hf (fa_first_yes q P hf) (fun d _ hd => fa_first_no q P d hd)
  · next hf => exact k2 (fun c _ hc => fa_first_no q P c (by omega))
/-- the least distance of one to whom something is owed -/
def le1 (e : Nat → Nat → Bool) (p : Nat) (f : Nat → Nat) (v a : Nat) : Nat := if v ≠ p ∧ e p v = true ∧ f v < a then f v else a
theorem le_rgl {e : Nat → Nat → Bool} {P p : Nat} (hP : P ≤ 10) (hp : p < P) : lp (le1 e p (far e P p)) P 99 = if rgl e P p = 0 then 99 else rgl e P p - 1 := by
  have key := lp_inv (f := le1 e p (far e P p)) (P := fun n a => n ≤ P → a ≤ 99 ∧ (∀ v, v < n → v ≠ p → e p v = true → a ≤ far e P p v) ∧ (a = 99 ∨ ∃ v, v < n ∧ v ≠ p ∧ e p v = true ∧ far e P p v = a)) (n := P) (a := 99) (fun _ => ⟨Nat.le_refl _, fun v hv => by omega, Or.inl rfl⟩) (fun n a hn hQ _ => by
    obtain ⟨h1, h2, h3⟩ := hQ (by omega)
    unfold le1
    by_cases hc : n ≠ p ∧ e p n = true ∧ far e P p n < a
    · rw [if_pos hc]
      refine ⟨by omega, fun v hv hvp he => ?_, Or.inr ⟨n, by omega, hc.1, hc.2.1, rfl⟩⟩
      rcases Nat.lt_or_ge v n with g | g
      · have := h2 v g hvp he; omega
      · rw [show v = n by omega]; exact Nat.le_refl _
    · rw [if_neg hc]
      refine ⟨h1, fun v hv hvp he => ?_, ?_⟩
      · rcases Nat.lt_or_ge v n with g | g
        · exact h2 v g hvp he
        · rw [show v = n by omega] at hvp he ⊢
          exact Nat.not_lt.mp (fun g => hc ⟨hvp, he, g⟩)
      · rcases h3 with h3 | ⟨v, hv, h4⟩
        · exact Or.inl h3
        · exact Or.inr ⟨v, by omega, h4⟩)
  obtain ⟨h1, h2, h3⟩ := key (Nat.le_refl P)
  generalize lp (le1 e p (far e P p)) P 99 = a at *
  -- one that isn't 99 is a number of steps that a ring takes
  have hlev : a ≠ 99 → 1 ≤ a ∧ a ≤ 9 ∧ rgk e P p a = true := fun hne => by
    rcases h3 with h3 | ⟨v, hv, hvp, he, hf⟩
    · exact absurd h3 hne
    · have hd := (far_iff hP hp hv (by omega)).mp hf
      have h0 : a ≠ 0 := fun g => by
        rw [g] at hd
        exact hvp (Dl_0.mp hd)
      have hl := Dl_lev hp hd
      refine ⟨by omega, by omega, ?_⟩
      unfold rgk
      exact exV_iff.mpr ⟨v, hv, by rw [he, hd]; rfl⟩
  by_cases hr : rgl e P p = 0
  · rw [if_pos hr]
    refine Classical.byContradiction (fun g => ?_)
    obtain ⟨g1, g2, g3⟩ := hlev g
    unfold rgl at hr
    by_cases hf : fa_first (fun j => rgk e P p (j + 1)) 9 < 9
    · rw [if_pos hf] at hr; omega
    · have := fa_first_no (fun j => rgk e P p (j + 1)) 9 (a - 1) (by omega)
      rw [show a - 1 + 1 = a by omega, g3] at this
      cases this
  · rw [if_neg hr]
    obtain ⟨q1, q2⟩ := rgl_2 (e := e) (P := P) (p := p) (by omega)
    have hle := rgl_le (e := e) (P := P) (p := p)
    obtain ⟨v, hv, hvd⟩ := exV_iff.mp (show exV P (fun v => e p v && (Dl e P p (rgl e P p - 1) v).1) = true from q2)
    simp only [Bool.and_eq_true] at hvd
    have hvp : v ≠ p := fun g => by
      have := Dl_uniq hvd.2 (Dl_0.mpr g)
      omega
    have hfv := (far_ok (e := e) hP hp).2 v _ hvd.2
    have hav := h2 v hv hvp hvd.1
    rw [hfv] at hav
    obtain ⟨g1, g2, g3⟩ := hlev (by omega)
    -- it is no less
    have hmin : rgl e P p - 1 ≤ a := by
      unfold rgl at hr ⊢
      by_cases hf : fa_first (fun j => rgk e P p (j + 1)) 9 < 9
      · rw [if_pos hf]
        refine Nat.not_lt.mp (fun g => ?_)
        have := fa_first_no (fun j => rgk e P p (j + 1)) 9 (a - 1) (by omega)
        rw [show a - 1 + 1 = a by omega, g3] at this
        cases this
      · rw [if_neg hf] at hr; exact absurd rfl hr
    omega
section RM
variable (E : sw_E) (S : sw_S)
set_option maxRecDepth 100000 in
set_option maxHeartbeats 4000000 in
theorem md_far_v (hI : IT (S.1 3)) {p u : Nat} (hp : p < S.1 3 0 0) (hu : u < S.1 3 0 0) (hup : u ≠ p) (g r : Nat → Int32) (f : Nat → Nat) (hf : ∀ i, f i ≤ 99) (a2 a5 a6 : Value) : h_MD_findRing_3 E [.ref 71, .int (nI p), a2, .int (nI u), .int (nI 0), a5, a6] (mk (R2 S (fg g f) r)) = h_MD_findRing_2 E [.ref 71, .int (nI p), a2, .int (nI (u + 1)), .int (nI (S.1 3 0 0)), a5, a6] (mk (R2 S (fg g (lp (fr1 (ed (S.1 3)) u) (S.1 3 0 0) f)) r)) ∧ ∀ i, lp (fr1 (ed (S.1 3)) u) (S.1 3 0 0) f i ≤ 99 := by
  have hB := hI.b
  have hP := hI.p
  have hstep : ∀ v f, (∀ i, f i ≤ 99) → ∀ i, fr1 (ed (S.1 3)) u v f i ≤ 99 := fun v f hf i => by
    unfold fr1
    split
    · next hc =>
      show (if i = u then f v + 1 else f i) ≤ 99
      have := hf u
      split
      · omega
      · exact hf i
    · exact hf i
  refine ⟨lp_up (G := fun v f => h_MD_findRing_3 E [.ref 71, .int (nI p), a2, .int (nI u), .int (nI v), a5, a6] (mk (R2 S (fg g f) r))) (P := fun _ f => ∀ i, f i ≤ 99) (f := fr1 (ed (S.1 3)) u) (fin := fun f => h_MD_findRing_2 E [.ref 71, .int (nI p), a2, .int (nI (u + 1)), .int (nI (S.1 3 0 0)), a5, a6] (mk (R2 S (fg g f) r))) (n := S.1 3 0 0) (a0 := f) hf (fun v f hv hf => ⟨?_, hstep v f hf⟩) (fun f hf => ?_), lp_inv (f := fr1 (ed (S.1 3)) u) (P := fun _ f => ∀ i, f i ≤ 99) (n := S.1 3 0 0) (a := f) hf (fun v f _ hf => hstep v f hf)⟩
  · have hI' : IT ((R2 S (fg g f) r).1 3) := hI
    have mo := md_owes E (R2 S (fg g f) r) hI' (a := u) (b := v) (by omega) (by omega)
    rw [R2_1] at mo
    have hu10 : u < 10 := by omega
    have hv10 : v < 10 := by omega
    have hob := tw_sum_le (n := S.1 3 0 2) (c := 9999) (p := fun k => S.1 3 13 k == 0 && (S.1 3 9 k == u && S.1 3 10 k == v)) (v := S.1 3 11) (fun i hi _ => (hI.pr i hi).2.2.2.1)
    have hk24 := hI.k
    have hob2 : tw_owed (S.1 3) u v ≤ 24 * 9999 := Nat.le_trans hob (Nat.mul_le_mul_right _ hk24)
    have f1 := hf u
    have f2 := hf v
    rw [u_MD_findRing_3]
    unfold fr1 ed
    by_cases h1 : v = u
    · rw [if_neg (fun q => q.1 h1)]
      subst h1
      simp (disch := first | omega | exact hB _ _ | assumption | decide) only [st_MD_findRing, rs_L, R2_1, hv, hup, mr_md E _, mm_pI_at, mm_pI_pI, mm_pI_2, mm_pL_1, mm_pL_at, mm_pL_pL, mm_pL_3, mm_pM_1, mm_pM_2, mm_pM_at, mm_pM_pM, mm_pI_pL, mm_pI_pM, mm_pL_pM, Bool.false_eq_true, n_10, true_and, and_true, false_and, and_false, Nat.not_lt_zero, true_or, or_true, eq_self, mm_z, mm_rs, sw_xc_ite, sw_xv_ite, n_m1, Nat.lt_irrefl, not_false_eq_true, not_true_eq_false, inS_0, inS_1, ite_not, sw_xv_some, sw_xm_some, sw_xc_some, sw_xc_void, if_true, if_false, reduceIte, bI_0, bI_01, bI_1, nt_or, Nat.reduceAdd, n_add, n_mul, n_addL, n_Ladd, n_mulL, n_Lmul, n_sub, n_subL, n_lt, n_eq, n_ltL, n_Llt, n_eqL, n_Leq, n_nneg, n_pos]
    · by_cases h2 : 0 < tw_owed (S.1 3) u v
      · by_cases h3 : f v + 1 < f u
        · rw [if_pos ⟨h1, by rw [decide_eq_true_eq]; exact h2, h3⟩]
          simp (disch := first | omega | exact hB _ _ | assumption | decide) only [st_MD_findRing, rs_L, R2_1, hv, hup, h1, mo, h2, R2_f, fg_at hu10, fg_at hv10, h3, mw_m79, R2_wf, fg_upd hu10, mr_md E _, mm_pI_at, mm_pI_pI, mm_pI_2, mm_pL_1, mm_pL_at, mm_pL_pL, mm_pL_3, mm_pM_1, mm_pM_2, mm_pM_at, mm_pM_pM, mm_pI_pL, mm_pI_pM, mm_pL_pM, Bool.false_eq_true, n_10, true_and, and_true, false_and, and_false, Nat.not_lt_zero, true_or, or_true, eq_self, mm_z, mm_rs, sw_xc_ite, sw_xv_ite, n_m1, Nat.lt_irrefl, not_false_eq_true, not_true_eq_false, inS_0, inS_1, ite_not, sw_xv_some, sw_xm_some, sw_xc_some, sw_xc_void, if_true, if_false, reduceIte, bI_0, bI_01, bI_1, nt_or, Nat.reduceAdd, n_add, n_mul, n_addL, n_Ladd, n_mulL, n_Lmul, n_sub, n_subL, n_lt, n_eq, n_ltL, n_Llt, n_eqL, n_Leq, n_nneg, n_pos]
        · rw [if_neg (fun q => h3 q.2.2)]
          simp (disch := first | omega | exact hB _ _ | assumption | decide) only [st_MD_findRing, rs_L, R2_1, hv, hup, h1, mo, h2, R2_f, fg_at hu10, fg_at hv10, h3, mr_md E _, mm_pI_at, mm_pI_pI, mm_pI_2, mm_pL_1, mm_pL_at, mm_pL_pL, mm_pL_3, mm_pM_1, mm_pM_2, mm_pM_at, mm_pM_pM, mm_pI_pL, mm_pI_pM, mm_pL_pM, Bool.false_eq_true, n_10, true_and, and_true, false_and, and_false, Nat.not_lt_zero, true_or, or_true, eq_self, mm_z, mm_rs, sw_xc_ite, sw_xv_ite, n_m1, Nat.lt_irrefl, not_false_eq_true, not_true_eq_false, inS_0, inS_1, ite_not, sw_xv_some, sw_xm_some, sw_xc_some, sw_xc_void, if_true, if_false, reduceIte, bI_0, bI_01, bI_1, nt_or, Nat.reduceAdd, n_add, n_mul, n_addL, n_Ladd, n_mulL, n_Lmul, n_sub, n_subL, n_lt, n_eq, n_ltL, n_Llt, n_eqL, n_Leq, n_nneg, n_pos]
      · rw [if_neg (fun q => h2 (by have := q.2.1; rw [decide_eq_true_eq] at this; exact this))]
        simp (disch := first | omega | exact hB _ _ | assumption | decide) only [st_MD_findRing, rs_L, R2_1, hv, hup, h1, mo, h2, mr_md E _, mm_pI_at, mm_pI_pI, mm_pI_2, mm_pL_1, mm_pL_at, mm_pL_pL, mm_pL_3, mm_pM_1, mm_pM_2, mm_pM_at, mm_pM_pM, mm_pI_pL, mm_pI_pM, mm_pL_pM, Bool.false_eq_true, n_10, true_and, and_true, false_and, and_false, Nat.not_lt_zero, true_or, or_true, eq_self, mm_z, mm_rs, sw_xc_ite, sw_xv_ite, n_m1, Nat.lt_irrefl, not_false_eq_true, not_true_eq_false, inS_0, inS_1, ite_not, sw_xv_some, sw_xm_some, sw_xc_some, sw_xc_void, if_true, if_false, reduceIte, bI_0, bI_01, bI_1, nt_or, Nat.reduceAdd, n_add, n_mul, n_addL, n_Ladd, n_mulL, n_Lmul, n_sub, n_subL, n_lt, n_eq, n_ltL, n_Llt, n_eqL, n_Leq, n_nneg, n_pos]
  · rw [u_MD_findRing_3]
    simp (disch := first | omega | exact hB _ _ | assumption | decide) only [st_MD_findRing, rs_L, R2_1, mr_md E _, mm_pI_at, mm_pI_pI, mm_pI_2, mm_pL_1, mm_pL_at, mm_pL_pL, mm_pL_3, mm_pM_1, mm_pM_2, mm_pM_at, mm_pM_pM, mm_pI_pL, mm_pI_pM, mm_pL_pM, Bool.false_eq_true, n_10, true_and, and_true, false_and, and_false, Nat.not_lt_zero, true_or, or_true, eq_self, mm_z, mm_rs, sw_xc_ite, sw_xv_ite, n_m1, Nat.lt_irrefl, not_false_eq_true, not_true_eq_false, inS_0, inS_1, ite_not, sw_xv_some, sw_xm_some, sw_xc_some, sw_xc_void, if_true, if_false, reduceIte, bI_0, bI_01, bI_1, nt_or, Nat.reduceAdd, n_add, n_mul, n_addL, n_Ladd, n_mulL, n_Lmul, n_sub, n_subL, n_lt, n_eq, n_ltL, n_Llt, n_eqL, n_Leq, n_nneg, n_pos]
set_option maxRecDepth 100000 in
set_option maxHeartbeats 4000000 in
theorem md_far_u (hI : IT (S.1 3)) {p : Nat} (hp : p < S.1 3 0 0) (g r : Nat → Int32) (f : Nat → Nat) (hf : ∀ i, f i ≤ 99) {t : Nat} (a4 a5 a6 : Value) : (∃ d3 d4, h_MD_findRing_2 E [.ref 71, .int (nI p), .int (nI t), .int (nI 0), a4, a5, a6] (mk (R2 S (fg g f) r)) = h_MD_findRing_1 E [.ref 71, .int (nI p), .int (nI (t + 1)), d3, d4, a5, a6] (mk (R2 S (fg g (fr3 (ed (S.1 3)) (S.1 3 0 0) p t f)) r))) ∧ ∀ i, fr3 (ed (S.1 3)) (S.1 3 0 0) p t f i ≤ 99 := by
  have hB := hI.b
  have hP := hI.p
  have key := lp_inv (f := fr2 (ed (S.1 3)) (S.1 3 0 0) p) (P := fun u f' => u ≤ S.1 3 0 0 → (∀ i, f' i ≤ 99) ∧ ∃ d, h_MD_findRing_2 E [.ref 71, .int (nI p), .int (nI t), .int (nI 0), a4, a5, a6] (mk (R2 S (fg g f) r)) = h_MD_findRing_2 E [.ref 71, .int (nI p), .int (nI t), .int (nI u), d, a5, a6] (mk (R2 S (fg g f') r))) (n := S.1 3 0 0) (a := f) (fun _ => ⟨hf, a4, rfl⟩) (fun u f' hu hQ _ => by
    obtain ⟨h1, d, e⟩ := hQ (by omega)
    unfold fr2
    by_cases hup : u = p
    · rw [if_pos hup]
      refine ⟨h1, .int 0, ?_⟩
      rw [e, u_MD_findRing_2]
      subst hup
      have h0 : 0 < S.1 3 0 0 := by omega
      simp (disch := first | omega | exact hB _ _ | assumption | decide) only [st_MD_findRing, rs_L, R2_1, hu, mr_md E _, mm_pI_at, mm_pI_pI, mm_pI_2, mm_pL_1, mm_pL_at, mm_pL_pL, mm_pL_3, mm_pM_1, mm_pM_2, mm_pM_at, mm_pM_pM, mm_pI_pL, mm_pI_pM, mm_pL_pM, Bool.false_eq_true, n_10, true_and, and_true, false_and, and_false, Nat.not_lt_zero, true_or, or_true, eq_self, mm_z, mm_rs, sw_xc_ite, sw_xv_ite, n_m1, Nat.lt_irrefl, not_false_eq_true, not_true_eq_false, inS_0, inS_1, ite_not, sw_xv_some, sw_xm_some, sw_xc_some, sw_xc_void, if_true, if_false, reduceIte, bI_0, bI_01, bI_1, nt_or, Nat.reduceAdd, n_add, n_mul, n_addL, n_Ladd, n_mulL, n_Lmul, n_sub, n_subL, n_lt, n_eq, n_ltL, n_Llt, n_eqL, n_Leq, n_nneg, n_pos]
      rw [u_MD_findRing_3]
      simp (disch := first | omega | exact hB _ _ | assumption | decide) only [st_MD_findRing, rs_L, R2_1, h0, mr_md E _, mm_pI_at, mm_pI_pI, mm_pI_2, mm_pL_1, mm_pL_at, mm_pL_pL, mm_pL_3, mm_pM_1, mm_pM_2, mm_pM_at, mm_pM_pM, mm_pI_pL, mm_pI_pM, mm_pL_pM, Bool.false_eq_true, n_10, true_and, and_true, false_and, and_false, Nat.not_lt_zero, true_or, or_true, eq_self, mm_z, mm_rs, sw_xc_ite, sw_xv_ite, n_m1, Nat.lt_irrefl, not_false_eq_true, not_true_eq_false, inS_0, inS_1, ite_not, sw_xv_some, sw_xm_some, sw_xc_some, sw_xc_void, if_true, if_false, reduceIte, bI_0, bI_01, bI_1, nt_or, Nat.reduceAdd, n_add, n_mul, n_addL, n_Ladd, n_mulL, n_Lmul, n_sub, n_subL, n_lt, n_eq, n_ltL, n_Llt, n_eqL, n_Leq, n_nneg, n_pos]
    · rw [if_neg hup]
      obtain ⟨m1, m2⟩ := md_far_v E S hI hp hu hup g r f' h1 (.int (nI t)) a5 a6
      refine ⟨m2, .int (nI (S.1 3 0 0)), ?_⟩
      rw [e, u_MD_findRing_2]
      simp (disch := first | omega | exact hB _ _ | assumption | decide) only [st_MD_findRing, rs_L, R2_1, hu, mr_md E _, mm_pI_at, mm_pI_pI, mm_pI_2, mm_pL_1, mm_pL_at, mm_pL_pL, mm_pL_3, mm_pM_1, mm_pM_2, mm_pM_at, mm_pM_pM, mm_pI_pL, mm_pI_pM, mm_pL_pM, Bool.false_eq_true, n_10, true_and, and_true, false_and, and_false, Nat.not_lt_zero, true_or, or_true, eq_self, mm_z, mm_rs, sw_xc_ite, sw_xv_ite, n_m1, Nat.lt_irrefl, not_false_eq_true, not_true_eq_false, inS_0, inS_1, ite_not, sw_xv_some, sw_xm_some, sw_xc_some, sw_xc_void, if_true, if_false, reduceIte, bI_0, bI_01, bI_1, nt_or, Nat.reduceAdd, n_add, n_mul, n_addL, n_Ladd, n_mulL, n_Lmul, n_sub, n_subL, n_lt, n_eq, n_ltL, n_Llt, n_eqL, n_Leq, n_nneg, n_pos]
      exact m1)
  obtain ⟨h1, d, e⟩ := key (Nat.le_refl _)
  refine ⟨⟨.int (nI (S.1 3 0 0)), d, ?_⟩, h1⟩
  rw [e, u_MD_findRing_2]
  simp (disch := first | omega | exact hB _ _ | assumption | decide) only [st_MD_findRing, rs_L, R2_1, mr_md E _, mm_pI_at, mm_pI_pI, mm_pI_2, mm_pL_1, mm_pL_at, mm_pL_pL, mm_pL_3, mm_pM_1, mm_pM_2, mm_pM_at, mm_pM_pM, mm_pI_pL, mm_pI_pM, mm_pL_pM, Bool.false_eq_true, n_10, true_and, and_true, false_and, and_false, Nat.not_lt_zero, true_or, or_true, eq_self, mm_z, mm_rs, sw_xc_ite, sw_xv_ite, n_m1, Nat.lt_irrefl, not_false_eq_true, not_true_eq_false, inS_0, inS_1, ite_not, sw_xv_some, sw_xm_some, sw_xc_some, sw_xc_void, if_true, if_false, reduceIte, bI_0, bI_01, bI_1, nt_or, Nat.reduceAdd, n_add, n_mul, n_addL, n_Ladd, n_mulL, n_Lmul, n_sub, n_subL, n_lt, n_eq, n_ltL, n_Llt, n_eqL, n_Leq, n_nneg, n_pos]
  rfl
set_option maxRecDepth 100000 in
set_option maxHeartbeats 4000000 in
theorem md_far (hI : IT (S.1 3)) {p : Nat} (hp : p < S.1 3 0 0) (g r : Nat → Int32) (a3 a4 a5 a6 : Value) : (∃ d3 d4, h_MD_findRing_0 E [.ref 71, .int (nI p), .int 0, a3, a4, a5, a6] (mk (R2 S g r)) = h_MD_findRing_4 E [.ref 71, .int (nI p), .int 99, .int 0, d4, a5, a6] (mk (R2 S (fg g (far (ed (S.1 3)) (S.1 3 0 0) p)) r)) ∧ d3 = d4) ∧ ∀ i, far (ed (S.1 3)) (S.1 3 0 0) p i ≤ 99 := by
  have hB := hI.b
  have hP := hI.p
  have k0 := lp_up' (G := fun i a => h_MD_findRing_0 E [.ref 71, .int (nI p), .int (nI i), a3, a4, a5, a6] (mk (R2 S a r))) (f := fun i a => upd a i (nI (if i = p then 0 else 99))) (fin := fun a => h_MD_findRing_1 E [.ref 71, .int (nI p), .int (nI 0), a3, a4, a5, a6] (mk (R2 S a r))) (n := 10) (a0 := g) (fun i a hi => ?_) (fun a => ?_)
  · rw [fg_init g (fun i => if i = p then 0 else 99)] at k0
    have key := lp_inv (f := fr3 (ed (S.1 3)) (S.1 3 0 0) p) (P := fun t f' => t ≤ S.1 3 0 0 → (∀ i, f' i ≤ 99) ∧ ∃ d3 d4, h_MD_findRing_1 E [.ref 71, .int (nI p), .int (nI 0), a3, a4, a5, a6] (mk (R2 S (fg g (fun i => if i = p then 0 else 99)) r)) = h_MD_findRing_1 E [.ref 71, .int (nI p), .int (nI t), d3, d4, a5, a6] (mk (R2 S (fg g f') r))) (n := S.1 3 0 0) (a := fun i => if i = p then 0 else 99) (fun _ => ⟨fun i => by show (if i = p then 0 else 99) ≤ 99; split <;> omega, a3, a4, rfl⟩) (fun t f' ht hQ _ => by
      obtain ⟨h1, d3, d4, e⟩ := hQ (by omega)
      obtain ⟨⟨d3', d4', m1⟩, m2⟩ := md_far_u E S hI hp g r f' h1 (t := t) d4 a5 a6
      refine ⟨m2, d3', d4', ?_⟩
      rw [e, u_MD_findRing_1]
      simp (disch := first | omega | exact hB _ _ | assumption | decide) only [st_MD_findRing, rs_L, R2_1, ht, mr_md E _, mm_pI_at, mm_pI_pI, mm_pI_2, mm_pL_1, mm_pL_at, mm_pL_pL, mm_pL_3, mm_pM_1, mm_pM_2, mm_pM_at, mm_pM_pM, mm_pI_pL, mm_pI_pM, mm_pL_pM, Bool.false_eq_true, n_10, true_and, and_true, false_and, and_false, Nat.not_lt_zero, true_or, or_true, eq_self, mm_z, mm_rs, sw_xc_ite, sw_xv_ite, n_m1, Nat.lt_irrefl, not_false_eq_true, not_true_eq_false, inS_0, inS_1, ite_not, sw_xv_some, sw_xm_some, sw_xc_some, sw_xc_void, if_true, if_false, reduceIte, bI_0, bI_01, bI_1, nt_or, Nat.reduceAdd, n_add, n_mul, n_addL, n_Ladd, n_mulL, n_Lmul, n_sub, n_subL, n_lt, n_eq, n_ltL, n_Llt, n_eqL, n_Leq, n_nneg, n_pos]
      exact m1)
    obtain ⟨h1, d3, d4, e⟩ := key (Nat.le_refl _)
    refine ⟨⟨d4, d4, ?_, rfl⟩, h1⟩
    refine k0.trans (e.trans ?_)
    rw [u_MD_findRing_1]
    simp (disch := first | omega | exact hB _ _ | assumption | decide) only [st_MD_findRing, rs_L, R2_1, mr_md E _, mm_pI_at, mm_pI_pI, mm_pI_2, mm_pL_1, mm_pL_at, mm_pL_pL, mm_pL_3, mm_pM_1, mm_pM_2, mm_pM_at, mm_pM_pM, mm_pI_pL, mm_pI_pM, mm_pL_pM, Bool.false_eq_true, n_10, true_and, and_true, false_and, and_false, Nat.not_lt_zero, true_or, or_true, eq_self, mm_z, mm_rs, sw_xc_ite, sw_xv_ite, n_m1, Nat.lt_irrefl, not_false_eq_true, not_true_eq_false, inS_0, inS_1, ite_not, sw_xv_some, sw_xm_some, sw_xc_some, sw_xc_void, if_true, if_false, reduceIte, bI_0, bI_01, bI_1, nt_or, Nat.reduceAdd, n_add, n_mul, n_addL, n_Ladd, n_mulL, n_Lmul, n_sub, n_subL, n_lt, n_eq, n_ltL, n_Llt, n_eqL, n_Leq, n_nneg, n_pos]
    rfl
  · rw [u_MD_findRing_0]
    by_cases h1 : i = p
    · rw [if_pos h1]
      subst h1
      have e0 : nI 0 = 0 := rfl
      simp (disch := first | omega | exact hB _ _ | assumption | decide) only [st_MD_findRing, hi, mw_m79, R2_f, R2_wf, e0, mr_md E _, mm_pI_at, mm_pI_pI, mm_pI_2, mm_pL_1, mm_pL_at, mm_pL_pL, mm_pL_3, mm_pM_1, mm_pM_2, mm_pM_at, mm_pM_pM, mm_pI_pL, mm_pI_pM, mm_pL_pM, Bool.false_eq_true, n_10, true_and, and_true, false_and, and_false, Nat.not_lt_zero, true_or, or_true, eq_self, mm_z, mm_rs, sw_xc_ite, sw_xv_ite, n_m1, Nat.lt_irrefl, not_false_eq_true, not_true_eq_false, inS_0, inS_1, ite_not, sw_xv_some, sw_xm_some, sw_xc_some, sw_xc_void, if_true, if_false, reduceIte, bI_0, bI_01, bI_1, nt_or, Nat.reduceAdd, n_add, n_mul, n_addL, n_Ladd, n_mulL, n_Lmul, n_sub, n_subL, n_lt, n_eq, n_ltL, n_Llt, n_eqL, n_Leq, n_nneg, n_pos]
    · rw [if_neg h1]
      have e0 : nI 99 = 99 := rfl
      simp (disch := first | omega | exact hB _ _ | assumption | decide) only [st_MD_findRing, hi, h1, mw_m79, R2_f, R2_wf, e0, mr_md E _, mm_pI_at, mm_pI_pI, mm_pI_2, mm_pL_1, mm_pL_at, mm_pL_pL, mm_pL_3, mm_pM_1, mm_pM_2, mm_pM_at, mm_pM_pM, mm_pI_pL, mm_pI_pM, mm_pL_pM, Bool.false_eq_true, n_10, true_and, and_true, false_and, and_false, Nat.not_lt_zero, true_or, or_true, eq_self, mm_z, mm_rs, sw_xc_ite, sw_xv_ite, n_m1, Nat.lt_irrefl, not_false_eq_true, not_true_eq_false, inS_0, inS_1, ite_not, sw_xv_some, sw_xm_some, sw_xc_some, sw_xc_void, if_true, if_false, reduceIte, bI_0, bI_01, bI_1, nt_or, Nat.reduceAdd, n_add, n_mul, n_addL, n_Ladd, n_mulL, n_Lmul, n_sub, n_subL, n_lt, n_eq, n_ltL, n_Llt, n_eqL, n_Leq, n_nneg, n_pos]
  · rw [u_MD_findRing_0]
    simp (disch := first | omega | exact hB _ _ | assumption | decide) only [st_MD_findRing, mr_md E _, mm_pI_at, mm_pI_pI, mm_pI_2, mm_pL_1, mm_pL_at, mm_pL_pL, mm_pL_3, mm_pM_1, mm_pM_2, mm_pM_at, mm_pM_pM, mm_pI_pL, mm_pI_pM, mm_pL_pM, Bool.false_eq_true, n_10, true_and, and_true, false_and, and_false, Nat.not_lt_zero, true_or, or_true, eq_self, mm_z, mm_rs, sw_xc_ite, sw_xv_ite, n_m1, Nat.lt_irrefl, not_false_eq_true, not_true_eq_false, inS_0, inS_1, ite_not, sw_xv_some, sw_xm_some, sw_xc_some, sw_xc_void, if_true, if_false, reduceIte, bI_0, bI_01, bI_1, nt_or, Nat.reduceAdd, n_add, n_mul, n_addL, n_Ladd, n_mulL, n_Lmul, n_sub, n_subL, n_lt, n_eq, n_ltL, n_Llt, n_eqL, n_Leq, n_nneg, n_pos]
    rfl
set_option maxRecDepth 100000 in
set_option maxHeartbeats 4000000 in
theorem md_near (hI : IT (S.1 3)) {p : Nat} (hp : p < S.1 3 0 0) (g r : Nat → Int32) (f : Nat → Nat) (hf : ∀ i, f i ≤ 99) (a4 a5 a6 : Value) : h_MD_findRing_4 E [.ref 71, .int (nI p), .int 99, .int 0, a4, a5, a6] (mk (R2 S (fg g f) r)) = sw_ex E 178 193 [.ref 71, .int (nI p), .int (nI (lp (le1 (ed (S.1 3)) p f) (S.1 3 0 0) 99)), .int (nI (S.1 3 0 0)), a4, a5, a6] [] (mk (R2 S (fg g f) r)) := by
  have hB := hI.b
  have hP := hI.p
  have key := lp_up (G := fun v a => h_MD_findRing_4 E [.ref 71, .int (nI p), .int (nI a), .int (nI v), a4, a5, a6] (mk (R2 S (fg g f) r))) (P := fun _ a => a ≤ 99) (f := le1 (ed (S.1 3)) p f) (fin := fun a => sw_ex E 178 193 [.ref 71, .int (nI p), .int (nI a), .int (nI (S.1 3 0 0)), a4, a5, a6] [] (mk (R2 S (fg g f) r))) (n := S.1 3 0 0) (a0 := 99) (Nat.le_refl _) (fun v a hv ha => ⟨?_, ?_⟩) (fun a ha => ?_)
  · exact key
  · have hI' : IT ((R2 S (fg g f) r).1 3) := hI
    have mo := md_owes E (R2 S (fg g f) r) hI' (a := p) (b := v) (by omega) (by omega)
    rw [R2_1] at mo
    have hv10 : v < 10 := by omega
    have hob := tw_sum_le (n := S.1 3 0 2) (c := 9999) (p := fun k => S.1 3 13 k == 0 && (S.1 3 9 k == p && S.1 3 10 k == v)) (v := S.1 3 11) (fun i hi _ => (hI.pr i hi).2.2.2.1)
    have hk24 := hI.k
    have hob2 : tw_owed (S.1 3) p v ≤ 24 * 9999 := Nat.le_trans hob (Nat.mul_le_mul_right _ hk24)
    have f2 := hf v
    rw [u_MD_findRing_4]
    unfold le1 ed
    by_cases h1 : v = p
    · rw [if_neg (fun q => q.1 h1)]
      subst h1
      simp (disch := first | omega | exact hB _ _ | assumption | decide) only [st_MD_findRing, rs_L, R2_1, hv, mr_md E _, mm_pI_at, mm_pI_pI, mm_pI_2, mm_pL_1, mm_pL_at, mm_pL_pL, mm_pL_3, mm_pM_1, mm_pM_2, mm_pM_at, mm_pM_pM, mm_pI_pL, mm_pI_pM, mm_pL_pM, Bool.false_eq_true, n_10, true_and, and_true, false_and, and_false, Nat.not_lt_zero, true_or, or_true, eq_self, mm_z, mm_rs, sw_xc_ite, sw_xv_ite, n_m1, Nat.lt_irrefl, not_false_eq_true, not_true_eq_false, inS_0, inS_1, ite_not, sw_xv_some, sw_xm_some, sw_xc_some, sw_xc_void, if_true, if_false, reduceIte, bI_0, bI_01, bI_1, nt_or, Nat.reduceAdd, n_add, n_mul, n_addL, n_Ladd, n_mulL, n_Lmul, n_sub, n_subL, n_lt, n_eq, n_ltL, n_Llt, n_eqL, n_Leq, n_nneg, n_pos]
    · by_cases h2 : 0 < tw_owed (S.1 3) p v
      · by_cases h3 : f v < a
        · rw [if_pos ⟨h1, by rw [decide_eq_true_eq]; exact h2, h3⟩]
          simp (disch := first | omega | exact hB _ _ | assumption | decide) only [st_MD_findRing, rs_L, R2_1, hv, h1, mo, h2, R2_f, fg_at hv10, h3, mr_md E _, mm_pI_at, mm_pI_pI, mm_pI_2, mm_pL_1, mm_pL_at, mm_pL_pL, mm_pL_3, mm_pM_1, mm_pM_2, mm_pM_at, mm_pM_pM, mm_pI_pL, mm_pI_pM, mm_pL_pM, Bool.false_eq_true, n_10, true_and, and_true, false_and, and_false, Nat.not_lt_zero, true_or, or_true, eq_self, mm_z, mm_rs, sw_xc_ite, sw_xv_ite, n_m1, Nat.lt_irrefl, not_false_eq_true, not_true_eq_false, inS_0, inS_1, ite_not, sw_xv_some, sw_xm_some, sw_xc_some, sw_xc_void, if_true, if_false, reduceIte, bI_0, bI_01, bI_1, nt_or, Nat.reduceAdd, n_add, n_mul, n_addL, n_Ladd, n_mulL, n_Lmul, n_sub, n_subL, n_lt, n_eq, n_ltL, n_Llt, n_eqL, n_Leq, n_nneg, n_pos]
        · rw [if_neg (fun q => h3 q.2.2)]
          simp (disch := first | omega | exact hB _ _ | assumption | decide) only [st_MD_findRing, rs_L, R2_1, hv, h1, mo, h2, R2_f, fg_at hv10, h3, mr_md E _, mm_pI_at, mm_pI_pI, mm_pI_2, mm_pL_1, mm_pL_at, mm_pL_pL, mm_pL_3, mm_pM_1, mm_pM_2, mm_pM_at, mm_pM_pM, mm_pI_pL, mm_pI_pM, mm_pL_pM, Bool.false_eq_true, n_10, true_and, and_true, false_and, and_false, Nat.not_lt_zero, true_or, or_true, eq_self, mm_z, mm_rs, sw_xc_ite, sw_xv_ite, n_m1, Nat.lt_irrefl, not_false_eq_true, not_true_eq_false, inS_0, inS_1, ite_not, sw_xv_some, sw_xm_some, sw_xc_some, sw_xc_void, if_true, if_false, reduceIte, bI_0, bI_01, bI_1, nt_or, Nat.reduceAdd, n_add, n_mul, n_addL, n_Ladd, n_mulL, n_Lmul, n_sub, n_subL, n_lt, n_eq, n_ltL, n_Llt, n_eqL, n_Leq, n_nneg, n_pos]
      · rw [if_neg (fun q => h2 (by have := q.2.1; rw [decide_eq_true_eq] at this; exact this))]
        simp (disch := first | omega | exact hB _ _ | assumption | decide) only [st_MD_findRing, rs_L, R2_1, hv, h1, mo, h2, mr_md E _, mm_pI_at, mm_pI_pI, mm_pI_2, mm_pL_1, mm_pL_at, mm_pL_pL, mm_pL_3, mm_pM_1, mm_pM_2, mm_pM_at, mm_pM_pM, mm_pI_pL, mm_pI_pM, mm_pL_pM, Bool.false_eq_true, n_10, true_and, and_true, false_and, and_false, Nat.not_lt_zero, true_or, or_true, eq_self, mm_z, mm_rs, sw_xc_ite, sw_xv_ite, n_m1, Nat.lt_irrefl, not_false_eq_true, not_true_eq_false, inS_0, inS_1, ite_not, sw_xv_some, sw_xm_some, sw_xc_some, sw_xc_void, if_true, if_false, reduceIte, bI_0, bI_01, bI_1, nt_or, Nat.reduceAdd, n_add, n_mul, n_addL, n_Ladd, n_mulL, n_Lmul, n_sub, n_subL, n_lt, n_eq, n_ltL, n_Llt, n_eqL, n_Leq, n_nneg, n_pos]
  · have f2 := hf v
    unfold le1
    split <;> omega
  · rw [u_MD_findRing_4]
    simp (disch := first | omega | exact hB _ _ | assumption | decide) only [st_MD_findRing, rs_L, R2_1, mr_md E _, mm_pI_at, mm_pI_pI, mm_pI_2, mm_pL_1, mm_pL_at, mm_pL_pL, mm_pL_3, mm_pM_1, mm_pM_2, mm_pM_at, mm_pM_pM, mm_pI_pL, mm_pI_pM, mm_pL_pM, Bool.false_eq_true, n_10, true_and, and_true, false_and, and_false, Nat.not_lt_zero, true_or, or_true, eq_self, mm_z, mm_rs, sw_xc_ite, sw_xv_ite, n_m1, Nat.lt_irrefl, not_false_eq_true, not_true_eq_false, inS_0, inS_1, ite_not, sw_xv_some, sw_xm_some, sw_xc_some, sw_xc_void, if_true, if_false, reduceIte, bI_0, bI_01, bI_1, nt_or, Nat.reduceAdd, n_add, n_mul, n_addL, n_Ladd, n_mulL, n_Lmul, n_sub, n_subL, n_lt, n_eq, n_ltL, n_Llt, n_eqL, n_Leq, n_nneg, n_pos]
set_option maxRecDepth 100000 in
set_option maxHeartbeats 4000000 in
theorem md_next (hI : IT (S.1 3)) {p at_ i k : Nat} (hp : p < S.1 3 0 0) (hat : at_ < S.1 3 0 0) (hk : 1 ≤ k) (hk9 : k ≤ 9) (hi1 : 1 ≤ i) (hik : i ≤ k) (g r : Nat → Int32) : h_MD_findRing_6 E [.ref 71, .int (nI p), .int (nI k), .int (nI at_), .int (nI i), .int (-1), .int (nI (S.1 3 0 0) - 1)] (mk (R2 S (fg g (far (ed (S.1 3)) (S.1 3 0 0) p)) r)) = sw_ex E 178 290 [.ref 71, .int (nI p), .int (nI k), .int (nI at_), .int (nI i), .int (if fa_first (fun v => ed (S.1 3) at_ v && (Dl (ed (S.1 3)) (S.1 3 0 0) p (k + 1 - i) v).1) (S.1 3 0 0) < S.1 3 0 0 then nI (fa_first (fun v => ed (S.1 3) at_ v && (Dl (ed (S.1 3)) (S.1 3 0 0) p (k + 1 - i) v).1) (S.1 3 0 0)) else -1), .int (-1)] [] (mk (R2 S (fg g (far (ed (S.1 3)) (S.1 3 0 0) p)) r)) := by
  have hB := hI.b
  have hP := hI.p
  have hfar := (far_ok (e := ed (S.1 3)) hP hp).1.1
  have hfi := fun v hv => far_iff (e := ed (S.1 3)) hP hp (i := v) (k := k + 1 - i) hv (by omega)
  have hirr := ed_irr hI at_
  rw [← ds_first]
  generalize hfr : far (ed (S.1 3)) (S.1 3 0 0) p = f at *
  have key := lp_up' (G := fun j a => h_MD_findRing_6 E [.ref 71, .int (nI p), .int (nI k), .int (nI at_), .int (nI i), .int a, .int (vdn (S.1 3 0 0) j)] (mk (R2 S (fg g f) r))) (f := ds1 (S.1 3 0 0) (fun v => ed (S.1 3) at_ v && (Dl (ed (S.1 3)) (S.1 3 0 0) p (k + 1 - i) v).1)) (fin := fun a => sw_ex E 178 290 [.ref 71, .int (nI p), .int (nI k), .int (nI at_), .int (nI i), .int a, .int (-1)] [] (mk (R2 S (fg g f) r))) (n := S.1 3 0 0) (a0 := -1) (fun j a hj => ?_) (fun a => ?_)
  · have e0 : vdn (S.1 3 0 0) 0 = nI (S.1 3 0 0) - 1 := by
      unfold vdn
      rw [if_pos (by omega)]
      exact (n_sub (b := 1) (by omega)).symm
    rw [e0] at key
    exact key
  · have ev : vdn (S.1 3 0 0) j = nI (S.1 3 0 0 - 1 - j) := if_pos hj
    have es := vdn_s hj
    have hv : S.1 3 0 0 - 1 - j < S.1 3 0 0 := by omega
    generalize hvv : S.1 3 0 0 - 1 - j = v at *
    have hI' : IT ((R2 S (fg g f) r).1 3) := hI
    have mo := md_owes E (R2 S (fg g f) r) hI' (a := at_) (b := v) (by omega) (by omega)
    rw [R2_1] at mo
    have hv10 : v < 10 := by omega
    have hob := tw_sum_le (n := S.1 3 0 2) (c := 9999) (p := fun k => S.1 3 13 k == 0 && (S.1 3 9 k == at_ && S.1 3 10 k == v)) (v := S.1 3 11) (fun i hi _ => (hI.pr i hi).2.2.2.1)
    have hk24 := hI.k
    have hob2 : tw_owed (S.1 3) at_ v ≤ 24 * 9999 := Nat.le_trans hob (Nat.mul_le_mul_right _ hk24)
    have f2 := hfar v
    have hd := hfi v hv
    have hki : i ≤ k + 1 := by omega
    rw [u_MD_findRing_6, ev]
    unfold ds1
    rw [hvv]
    by_cases h0 : v = at_
    · rw [if_neg (by simp [h0, hirr])]
      have h0' : (v = at_) ↔ True := by simp [h0]
      simp (disch := first | omega | exact hB _ _ | assumption | decide) only [st_MD_findRing, h0', es, mr_md E _, mm_pI_at, mm_pI_pI, mm_pI_2, mm_pL_1, mm_pL_at, mm_pL_pL, mm_pL_3, mm_pM_1, mm_pM_2, mm_pM_at, mm_pM_pM, mm_pI_pL, mm_pI_pM, mm_pL_pM, Bool.false_eq_true, n_10, true_and, and_true, false_and, and_false, Nat.not_lt_zero, true_or, or_true, eq_self, mm_z, mm_rs, sw_xc_ite, sw_xv_ite, n_m1, Nat.lt_irrefl, not_false_eq_true, not_true_eq_false, inS_0, inS_1, ite_not, sw_xv_some, sw_xm_some, sw_xc_some, sw_xc_void, if_true, if_false, reduceIte, bI_0, bI_01, bI_1, nt_or, Nat.reduceAdd, n_add, n_mul, n_addL, n_Ladd, n_mulL, n_Lmul, n_sub, n_subL, n_lt, n_eq, n_ltL, n_Llt, n_eqL, n_Leq, n_nneg, n_pos]
    · by_cases h1 : v = p
      · have hnd : ¬ (Dl (ed (S.1 3)) (S.1 3 0 0) p (k + 1 - i) v).1 = true := fun q => by
          have := Dl_uniq q (Dl_0.mpr h1)
          omega
        rw [if_neg (by rw [Bool.and_eq_true]; exact fun q => hnd q.2)]
        have h1' : (v = p) ↔ True := by simp [h1]
        simp (disch := first | omega | exact hB _ _ | assumption | decide) only [st_MD_findRing, h0, h1', es, mr_md E _, mm_pI_at, mm_pI_pI, mm_pI_2, mm_pL_1, mm_pL_at, mm_pL_pL, mm_pL_3, mm_pM_1, mm_pM_2, mm_pM_at, mm_pM_pM, mm_pI_pL, mm_pI_pM, mm_pL_pM, Bool.false_eq_true, n_10, true_and, and_true, false_and, and_false, Nat.not_lt_zero, true_or, or_true, eq_self, mm_z, mm_rs, sw_xc_ite, sw_xv_ite, n_m1, Nat.lt_irrefl, not_false_eq_true, not_true_eq_false, inS_0, inS_1, ite_not, sw_xv_some, sw_xm_some, sw_xc_some, sw_xc_void, if_true, if_false, reduceIte, bI_0, bI_01, bI_1, nt_or, Nat.reduceAdd, n_add, n_mul, n_addL, n_Ladd, n_mulL, n_Lmul, n_sub, n_subL, n_lt, n_eq, n_ltL, n_Llt, n_eqL, n_Leq, n_nneg, n_pos]
      · by_cases h2 : 0 < tw_owed (S.1 3) at_ v
        · by_cases h3 : f v = k + 1 - i
          · rw [if_pos (by rw [Bool.and_eq_true]; exact ⟨by unfold ed; rw [decide_eq_true_eq]; exact h2, hd.mp h3⟩)]
            simp (disch := first | omega | exact hB _ _ | assumption | decide) only [st_MD_findRing, h0, h1, mo, h2, R2_f, fg_at hv10, h3, es, mr_md E _, mm_pI_at, mm_pI_pI, mm_pI_2, mm_pL_1, mm_pL_at, mm_pL_pL, mm_pL_3, mm_pM_1, mm_pM_2, mm_pM_at, mm_pM_pM, mm_pI_pL, mm_pI_pM, mm_pL_pM, Bool.false_eq_true, n_10, true_and, and_true, false_and, and_false, Nat.not_lt_zero, true_or, or_true, eq_self, mm_z, mm_rs, sw_xc_ite, sw_xv_ite, n_m1, Nat.lt_irrefl, not_false_eq_true, not_true_eq_false, inS_0, inS_1, ite_not, sw_xv_some, sw_xm_some, sw_xc_some, sw_xc_void, if_true, if_false, reduceIte, bI_0, bI_01, bI_1, nt_or, Nat.reduceAdd, n_add, n_mul, n_addL, n_Ladd, n_mulL, n_Lmul, n_sub, n_subL, n_lt, n_eq, n_ltL, n_Llt, n_eqL, n_Leq, n_nneg, n_pos]
          · rw [if_neg (by rw [Bool.and_eq_true]; exact fun q => h3 (hd.mpr q.2))]
            simp (disch := first | omega | exact hB _ _ | assumption | decide) only [st_MD_findRing, h0, h1, mo, h2, R2_f, fg_at hv10, h3, es, mr_md E _, mm_pI_at, mm_pI_pI, mm_pI_2, mm_pL_1, mm_pL_at, mm_pL_pL, mm_pL_3, mm_pM_1, mm_pM_2, mm_pM_at, mm_pM_pM, mm_pI_pL, mm_pI_pM, mm_pL_pM, Bool.false_eq_true, n_10, true_and, and_true, false_and, and_false, Nat.not_lt_zero, true_or, or_true, eq_self, mm_z, mm_rs, sw_xc_ite, sw_xv_ite, n_m1, Nat.lt_irrefl, not_false_eq_true, not_true_eq_false, inS_0, inS_1, ite_not, sw_xv_some, sw_xm_some, sw_xc_some, sw_xc_void, if_true, if_false, reduceIte, bI_0, bI_01, bI_1, nt_or, Nat.reduceAdd, n_add, n_mul, n_addL, n_Ladd, n_mulL, n_Lmul, n_sub, n_subL, n_lt, n_eq, n_ltL, n_Llt, n_eqL, n_Leq, n_nneg, n_pos]
        · rw [if_neg (by rw [Bool.and_eq_true]; exact fun q => h2 (by have := q.1; unfold ed at this; rw [decide_eq_true_eq] at this; exact this))]
          simp (disch := first | omega | exact hB _ _ | assumption | decide) only [st_MD_findRing, h0, h1, mo, h2, es, mr_md E _, mm_pI_at, mm_pI_pI, mm_pI_2, mm_pL_1, mm_pL_at, mm_pL_pL, mm_pL_3, mm_pM_1, mm_pM_2, mm_pM_at, mm_pM_pM, mm_pI_pL, mm_pI_pM, mm_pL_pM, Bool.false_eq_true, n_10, true_and, and_true, false_and, and_false, Nat.not_lt_zero, true_or, or_true, eq_self, mm_z, mm_rs, sw_xc_ite, sw_xv_ite, n_m1, Nat.lt_irrefl, not_false_eq_true, not_true_eq_false, inS_0, inS_1, ite_not, sw_xv_some, sw_xm_some, sw_xc_some, sw_xc_void, if_true, if_false, reduceIte, bI_0, bI_01, bI_1, nt_or, Nat.reduceAdd, n_add, n_mul, n_addL, n_Ladd, n_mulL, n_Lmul, n_sub, n_subL, n_lt, n_eq, n_ltL, n_Llt, n_eqL, n_Leq, n_nneg, n_pos]
  · have ev : vdn (S.1 3 0 0) (S.1 3 0 0) = -1 := if_neg (Nat.lt_irrefl _)
    rw [u_MD_findRing_6, ev]
    simp (disch := first | omega | exact hB _ _ | assumption | decide) only [st_MD_findRing, mr_md E _, mm_pI_at, mm_pI_pI, mm_pI_2, mm_pL_1, mm_pL_at, mm_pL_pL, mm_pL_3, mm_pM_1, mm_pM_2, mm_pM_at, mm_pM_pM, mm_pI_pL, mm_pI_pM, mm_pL_pM, Bool.false_eq_true, n_10, true_and, and_true, false_and, and_false, Nat.not_lt_zero, true_or, or_true, eq_self, mm_z, mm_rs, sw_xc_ite, sw_xv_ite, n_m1, Nat.lt_irrefl, not_false_eq_true, not_true_eq_false, inS_0, inS_1, ite_not, sw_xv_some, sw_xm_some, sw_xc_some, sw_xc_void, if_true, if_false, reduceIte, bI_0, bI_01, bI_1, nt_or, Nat.reduceAdd, n_add, n_mul, n_addL, n_Ladd, n_mulL, n_Lmul, n_sub, n_subL, n_lt, n_eq, n_ltL, n_Llt, n_eqL, n_Leq, n_nneg, n_pos]
set_option maxRecDepth 100000 in
set_option maxHeartbeats 4000000 in
theorem md_findRing (hI : IT (S.1 3)) {p : Nat} (hp : p < S.1 3 0 0) : ∃ f r, f_MD_findRing E (.ref 71) (.int (nI p)) (mk S) = some (some (.int (nI (rgl (ed (S.1 3)) (S.1 3 0 0) p))), mk (R2 S f r)) ∧ ∀ i, i < rgl (ed (S.1 3)) (S.1 3 0 0) p → r i = nI (rgm (ed (S.1 3)) (S.1 3 0 0) p (rgl (ed (S.1 3)) (S.1 3 0 0) p) i) := by
  have hB := hI.b
  have hP := hI.p
  obtain ⟨⟨d3, d4, m1, _⟩, hfar⟩ := md_far E S hI hp (S.2.2 22) (S.2.2 23) sw_J sw_J sw_J sw_J
  rw [R2_id] at m1
  have m2 := md_near E S hI hp (S.2.2 22) (S.2.2 23) (far (ed (S.1 3)) (S.1 3 0 0) p) hfar d4 sw_J sw_J
  rw [le_rgl hP hp] at m2
  have hle := rgl_le (e := ed (S.1 3)) (P := S.1 3 0 0) (p := p)
  by_cases hr : rgl (ed (S.1 3)) (S.1 3 0 0) p = 0
  · refine ⟨fg (S.2.2 22) (far (ed (S.1 3)) (S.1 3 0 0) p), S.2.2 23, ?_, fun i hi => by omega⟩
    rw [if_pos hr] at m2
    rw [hr]
    have e99 : nI 99 = 99 := rfl
    simp (disch := first | omega | exact hB _ _ | assumption | decide) only [e_MD_findRing, st_MD_findRing, m1, m2, e99, mr_md E _, mm_pI_at, mm_pI_pI, mm_pI_2, mm_pL_1, mm_pL_at, mm_pL_pL, mm_pL_3, mm_pM_1, mm_pM_2, mm_pM_at, mm_pM_pM, mm_pI_pL, mm_pI_pM, mm_pL_pM, Bool.false_eq_true, n_10, true_and, and_true, false_and, and_false, Nat.not_lt_zero, true_or, or_true, eq_self, mm_z, mm_rs, sw_xc_ite, sw_xv_ite, n_m1, Nat.lt_irrefl, not_false_eq_true, not_true_eq_false, inS_0, inS_1, ite_not, sw_xv_some, sw_xm_some, sw_xc_some, sw_xc_void, if_true, if_false, reduceIte, bI_0, bI_01, bI_1, nt_or, Nat.reduceAdd, n_add, n_mul, n_addL, n_Ladd, n_mulL, n_Lmul, n_sub, n_subL, n_lt, n_eq, n_ltL, n_Llt, n_eqL, n_Leq, n_nneg, n_pos]
    rfl
  · rw [if_neg hr] at m2
    have hL : 0 < rgl (ed (S.1 3)) (S.1 3 0 0) p := by omega
    have h2 := (rgl_2 hL).1
    have hok := rgm_ok hp hL
    refine ⟨fg (S.2.2 22) (far (ed (S.1 3)) (S.1 3 0 0) p), fmF (rgm (ed (S.1 3)) (S.1 3 0 0) p (rgl (ed (S.1 3)) (S.1 3 0 0) p)) (rgl (ed (S.1 3)) (S.1 3 0 0) p) (S.2.2 23), ?_, fmF_at⟩
    have hnx := fun at_ i (hat : at_ < S.1 3 0 0) hi1 hik r => md_next E S hI hp hat (k := rgl (ed (S.1 3)) (S.1 3 0 0) p - 1) (i := i) (by omega) (by omega) hi1 hik (S.2.2 22) r
    have hg0 : rgm (ed (S.1 3)) (S.1 3 0 0) p (rgl (ed (S.1 3)) (S.1 3 0 0) p) 0 = p := rfl
    have hgs : ∀ i, rgm (ed (S.1 3)) (S.1 3 0 0) p (rgl (ed (S.1 3)) (S.1 3 0 0) p) (i + 1) = fa_first (fun v => ed (S.1 3) (rgm (ed (S.1 3)) (S.1 3 0 0) p (rgl (ed (S.1 3)) (S.1 3 0 0) p) i) v && (Dl (ed (S.1 3)) (S.1 3 0 0) p (rgl (ed (S.1 3)) (S.1 3 0 0) p - (i + 1)) v).1) (S.1 3 0 0) := fun i => rfl
    generalize rgl (ed (S.1 3)) (S.1 3 0 0) p = L at *
    generalize rgm (ed (S.1 3)) (S.1 3 0 0) p L = gm at *
    generalize fg (S.2.2 22) (far (ed (S.1 3)) (S.1 3 0 0) p) = F at *
    unfold fmF
    have key := lp_upD (δ := Value × Value) (G := fun j d a => h_MD_findRing_5 E [.ref 71, .int (nI p), .int (nI (L - 1)), .int (nI (gm j)), .int (nI (j + 1)), d.1, d.2] (mk (R2 S F a))) (P := fun _ _ => True) (f := fun j a => upd a (j + 1) (nI (gm (j + 1)))) (fin := fun a => some (some (.int (nI L)), mk (R2 S F a))) (n := L - 1) (a0 := upd (S.2.2 23) 0 (nI (gm 0))) trivial (fun j d a hj _ => ⟨⟨(.int (nI (gm (j + 1))), .int (-1)), ?_⟩, trivial⟩) (fun d a _ => ?_) (sw_J, sw_J)
    · have w0 : ∀ x, sw_sI (mk (R2 S F (S.2.2 23))) 80 0 x = some (mk (R2 S F (upd (S.2.2 23) 0 x))) := fun x => by
        have := mw_m80 (R2 S F (S.2.2 23)) (i := 0) (x := x) (by decide)
        rw [R2_r, R2_wr] at this
        exact this
      have hn99 : ¬ L - 1 = 99 := by omega
      simp (disch := first | omega | exact hB _ _ | assumption | decide) only [e_MD_findRing, st_MD_findRing, m1, m2, hn99, w0, mr_md E _, mm_pI_at, mm_pI_pI, mm_pI_2, mm_pL_1, mm_pL_at, mm_pL_pL, mm_pL_3, mm_pM_1, mm_pM_2, mm_pM_at, mm_pM_pM, mm_pI_pL, mm_pI_pM, mm_pL_pM, Bool.false_eq_true, n_10, true_and, and_true, false_and, and_false, Nat.not_lt_zero, true_or, or_true, eq_self, mm_z, mm_rs, sw_xc_ite, sw_xv_ite, n_m1, Nat.lt_irrefl, not_false_eq_true, not_true_eq_false, inS_0, inS_1, ite_not, sw_xv_some, sw_xm_some, sw_xc_some, sw_xc_void, if_true, if_false, reduceIte, bI_0, bI_01, bI_1, nt_or, Nat.reduceAdd, n_add, n_mul, n_addL, n_Ladd, n_mulL, n_Lmul, n_sub, n_subL, n_lt, n_eq, n_ltL, n_Llt, n_eqL, n_Leq, n_nneg, n_pos]
      rw [hg0] at key ⊢
      exact key
    · have hjL : j + 1 < L := by omega
      have hle1 : ¬ L - 1 < j + 1 := by omega
      have eS : nI (S.1 3 0 0) - 1 = nI (S.1 3 0 0 - 1) := n_sub (b := 1) (by omega)
      have eL : L - 1 + 1 = L := by omega
      obtain ⟨q1, q2, q3⟩ := hok j (by omega)
      have hfx := first_ex (q3 hjL)
      clear q3
      have nx := hnx (gm j) (j + 1) q1 (Nat.le_add_left 1 j) (show j + 1 ≤ L - 1 by omega) a
      rw [eS, eL, if_pos hfx, ← hgs j] at nx
      have hj10 : j + 1 < 10 := by omega
      rw [u_MD_findRing_5]
      simp (disch := first | omega | exact hB _ _ | assumption | decide) only [st_MD_findRing, hle1, rs_L, R2_1, nx, R2_r, mw_m80, R2_wr, mr_md E _, mm_pI_at, mm_pI_pI, mm_pI_2, mm_pL_1, mm_pL_at, mm_pL_pL, mm_pL_3, mm_pM_1, mm_pM_2, mm_pM_at, mm_pM_pM, mm_pI_pL, mm_pI_pM, mm_pL_pM, Bool.false_eq_true, n_10, true_and, and_true, false_and, and_false, Nat.not_lt_zero, true_or, or_true, eq_self, mm_z, mm_rs, sw_xc_ite, sw_xv_ite, n_m1, Nat.lt_irrefl, not_false_eq_true, not_true_eq_false, inS_0, inS_1, ite_not, sw_xv_some, sw_xm_some, sw_xc_some, sw_xc_void, if_true, if_false, reduceIte, bI_0, bI_01, bI_1, nt_or, Nat.reduceAdd, n_add, n_mul, n_addL, n_Ladd, n_mulL, n_Lmul, n_sub, n_subL, n_lt, n_eq, n_ltL, n_Llt, n_eqL, n_Leq, n_nneg, n_pos]
    · have hlt : L - 1 < L := by omega
      have eL : L - 1 + 1 = L := by omega
      rw [u_MD_findRing_5]
      simp (disch := first | omega | exact hB _ _ | assumption | decide) only [st_MD_findRing, hlt, eL, mr_md E _, mm_pI_at, mm_pI_pI, mm_pI_2, mm_pL_1, mm_pL_at, mm_pL_pL, mm_pL_3, mm_pM_1, mm_pM_2, mm_pM_at, mm_pM_pM, mm_pI_pL, mm_pI_pM, mm_pL_pM, Bool.false_eq_true, n_10, true_and, and_true, false_and, and_false, Nat.not_lt_zero, true_or, or_true, eq_self, mm_z, mm_rs, sw_xc_ite, sw_xv_ite, n_m1, Nat.lt_irrefl, not_false_eq_true, not_true_eq_false, inS_0, inS_1, ite_not, sw_xv_some, sw_xm_some, sw_xc_some, sw_xc_void, if_true, if_false, reduceIte, bI_0, bI_01, bI_1, nt_or, Nat.reduceAdd, n_add, n_mul, n_addL, n_Ladd, n_mulL, n_Lmul, n_sub, n_subL, n_lt, n_eq, n_ltL, n_Llt, n_eqL, n_Leq, n_nneg, n_pos]
end RM
