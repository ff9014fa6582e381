/-! ===== the class and the reference, new ===== -/
def gfL (L : List sw_AC) (i ci k : Nat) : Option Value := match L.getD i (.inr (99, [])) with
  | .inr (c, fs) => if c = ci then fs[k]? else none
  | _ => none
theorem gF_pt {E : sw_E} {f : Nat → sw_AC} {r n x a b ci k : Nat} {L : List sw_AC} (w : Nat) (hx : x < n) (h1 : r ≤ x) (h2 : x < r + L.length) (h : gfL L (x - r) ci k = some (.ref w)) : sw_gF E (a, b, n, pt f r L) x ci k = some (.ref w) := by
  rw [← h]
  unfold sw_gF sw_rd gfL
  rw [if_pos (show x < (a, b, n, pt f r L).2.2.1 from hx)]
  show (match some (pt f r L x) with | some (.inr (c, fs)) => if c = ci then fs[k]? else none | _ => none) = _
  rw [pt_at h1 h2]
  cases L.getD (x - r) (.inr (99, [])) <;> rfl
def okA (L : List sw_AC) (i v j : Nat) : Bool := match L.getD i (.inr (99, [])), L.getD v (.inr (99, [])) with
  | .inl (.object C, n, .inr (.inr (.inr (.inr _)))), .inr (c, _) => decide (C = RX3) && decide (c = 3) && decide (j < n) && decide (i < L.length) && decide (v < L.length)
  | _, _ => false
def saL (L : List sw_AC) (i v j : Nat) : List sw_AC := match L.getD i (.inr (99, [])) with
  | .inl (.object C, n, .inr (.inr (.inr (.inr f)))) => L.set i (.inl (.object C, n, .inr (.inr (.inr (.inr (va_up f j (some v)))))))
  | _ => L
theorem sA_pt {f : Nat → sw_AC} {n x a b v : Nat} {L : List sw_AC} {i : Int32} (hx : x < n) (hv : v < n) (hi : ¬ i < 0) (ho : okA L x v i.toNatClampNeg = true) : sw_sA (a, b, n, pt f 0 L) x i v = some (a, b, n, pt f 0 (saL L x v i.toNatClampNeg)) := by
  unfold okA at ho
  split at ho
  · next C m g c fs e1 e2 =>
    simp only [Bool.and_eq_true, decide_eq_true_eq] at ho
    obtain ⟨⟨⟨⟨g1, g2⟩, g3⟩, g4⟩, g5⟩ := ho
    have q1 : pt f 0 L x = .inl (.object C, m, .inr (.inr (.inr (.inr g)))) := by
      rw [pt_at (Nat.zero_le _) (by omega), Nat.sub_zero, e1]
    have q2 : pt f 0 L v = .inr (c, fs) := by
      rw [pt_at (Nat.zero_le _) (by omega), Nat.sub_zero, e2]
    unfold sw_sA saL
    rw [if_pos (show x < (a, b, n, pt f 0 L).2.2.1 ∧ v < (a, b, n, pt f 0 L).2.2.1 from ⟨hx, hv⟩), e1]
    show (match pt f 0 L x, pt f 0 L v with | .inl (.object C, n, .inr (.inr (.inr (.inr f')))), .inr (c, _) => _ | _, _ => _) = _
    rw [q1, q2]
    simp only
    rw [if_pos ⟨g1, g2⟩, if_neg (fun q => q.elim hi (fun b => by omega))]
    unfold sw_sC
    simp only
    rw [pt_set (Nat.zero_le _) (by omega), Nat.sub_zero]
  · cases ho
def okI (L : List sw_AC) (i j : Nat) : Bool := match L.getD i (.inr (99, [])) with
  | .inl (.int, n, .inl _) => decide (j < n) && decide (i < L.length)
  | _ => false
def siL (L : List sw_AC) (i j : Nat) (y : Int32) : List sw_AC := match L.getD i (.inr (99, [])) with
  | .inl (.int, n, .inl f) => L.set i (.inl (.int, n, .inl (upd f j y)))
  | _ => L
theorem sI_pt {f : Nat → sw_AC} {n x a b r : Nat} {L : List sw_AC} {i y : Int32} (hx : x < n) (h1 : r ≤ x) (hi : ¬ i < 0) (ho : okI L (x - r) i.toNatClampNeg = true) : sw_sI (a, b, n, pt f r L) x i y = some (a, b, n, pt f r (siL L (x - r) i.toNatClampNeg y)) := by
  unfold okI at ho
  split at ho
  · next m g e1 =>
    simp only [Bool.and_eq_true, decide_eq_true_eq] at ho
    obtain ⟨g3, g4⟩ := ho
    have q1 : pt f r L x = .inl (.int, m, .inl g) := by
      rw [pt_at h1 (by omega), e1]
    unfold sw_sI siL
    rw [if_pos (show x < (a, b, n, pt f r L).2.2.1 from hx), e1]
    show (match pt f r L x with | .inl (.int, n, .inl f') => _ | _ => _) = _
    rw [q1]
    simp only
    rw [if_neg (fun q => q.elim hi (fun b => by omega))]
    unfold sw_sC
    simp only
    rw [pt_set h1 (by omega)]
  · cases ho
section CN2
variable (E : sw_E) (f : Nat → sw_AC)
theorem i4s : (0 : Int32) + 1 = 1 ∧ (1 : Int32) + 1 = 2 ∧ (2 : Int32) + 1 = 3 ∧ (3 : Int32) + 1 = 4 := by decide
theorem tn_z : (0 : Int32).toNatClampNeg = 0 ∧ (1 : Int32).toNatClampNeg = 1 ∧ (2 : Int32).toNatClampNeg = 2 ∧ (3 : Int32).toNatClampNeg = 3 ∧ (5 : Int32).toNatClampNeg = 5 := by decide
def L71 : List sw_AC := [.inr (7, [.ref 1, .ref 19, .ref 37, .ref 55, .ref 59, .ref 61, .ref 70, .int 0]), .inr (6, [.ref 2, .ref 5, .ref 13, .int 1, .int 66, .int 0]), .inr (0, [.ref 3, .ref 4, .int 0]), rI 10, rL 10, .inr (5, [.ref 6, .ref 7, .ref 8, .ref 9, .ref 10, .ref 11, .ref 12, .int 0]), rI 16, rI 16, rI 16, rI 16, rZ 16, rI 16, rI 96, .inr (1, [.ref 14, .ref 15, .ref 16, .ref 17, .ref 18, .int 0]), rI 24, rI 24, rI 24, rI 24, rI 24, .inr (6, [.ref 20, .ref 23, .ref 31, .int 1, .int 66, .int 0]), .inr (0, [.ref 21, .ref 22, .int 0]), rI 10, rL 10, .inr (5, [.ref 24, .ref 25, .ref 26, .ref 27, .ref 28, .ref 29, .ref 30, .int 0]), rI 16, rI 16, rI 16, rI 16, rZ 16, rI 16, rI 96, .inr (1, [.ref 32, .ref 33, .ref 34, .ref 35, .ref 36, .int 0]), rI 24, rI 24, rI 24, rI 24, rI 24, .inr (6, [.ref 38, .ref 41, .ref 49, .int 1, .int 66, .int 0]), .inr (0, [.ref 39, .ref 40, .int 0]), rI 10, rL 10, .inr (5, [.ref 42, .ref 43, .ref 44, .ref 45, .ref 46, .ref 47, .ref 48, .int 0]), rI 16, rI 16, rI 16, rI 16, rZ 16, rI 16, rI 96, .inr (1, [.ref 50, .ref 51, .ref 52, .ref 53, .ref 54, .int 0]), rI 24, rI 24, rI 24, rI 24, rI 24, .inr (2, [.ref 56, .ref 57, .ref 58, .int 0]), rI 10, rI 10, rI 10, .inr (4, [.ref 60, .int 0, .int 0, .int 0, .int 0, .int 0]), rI 100, .inl (.object RX3, 4, .inr (.inr (.inr (.inr (va_up (va_up (va_up (va_up (fun _ => none) 0 (some 62)) 1 (some 64)) 2 (some 66)) 3 (some 68)))))), .inr (3, [.ref 63, .int 0, .int 0]), rL 40, .inr (3, [.ref 65, .int 0, .int 0]), rL 40, .inr (3, [.ref 67, .int 0, .int 0]), rL 40, .inr (3, [.ref 69, .int 0, .int 0]), rL 40, rI 7]
def L15 : List sw_AC := [.inr (8, [.ref 72, .ref 73, .ref 74, .ref 75, .ref 76, .ref 77, .ref 78, .int 0, .ref 79, .ref 80, .ref 81, .int 0, .int 0, .int 0, .int 0, .int 0, .ref 82, .ref 83, .ref 84, .ref 85]), .inl (.int, 328, .inl (upd (upd (fun _ => 0) 4 1) 5 66)), rI 328, rI 328, rI 7, rL 10, rL 10, rL 10, rI 10, rI 10, rI 100, rI 4, rI 4, rL 160, rL 40]
set_option maxRecDepth 100000 in
set_option maxHeartbeats 4000000 in
theorem n_SW : f_SW_init E (.ref 0) (0, 0, 1, pt f 0 [.inr (7, [.null, .null, .null, .null, .null, .null, .null, .int 0])]) = some (none, (70, 1388, 71, pt f 0 L71)) := by
  simp (maxSteps := 2000000) (config := { decide := true }) (disch := first | rfl | decide) only [e_SW_init, st_SW_init, u_SW_init_0, i4s, tn_z, gF_pt 61, k_Town_1, k_Town_19, k_Town_37, k_Ring_55, k_Tape_59, k_Sheet_62, k_Sheet_64, k_Sheet_66, k_Sheet_68, tn_c, pt_new, pF_pt, sA_pt, sI_pt, sw_xm_some, sw_xv_some, xa_v, sw_z, Nat.reduceAdd, Nat.zero_add, if_true, reduceIte]
  rfl
set_option maxRecDepth 100000 in
set_option maxHeartbeats 4000000 in
theorem n_MD : f_MD_init E (.ref 71) (0, 0, 72, pt f 71 [.inr (8, [.null, .null, .null, .null, .null, .null, .null, .int 0, .null, .null, .null, .int 0, .int 0, .int 0, .int 0, .int 0, .null, .null, .null, .null])]) = some (none, (14, 1349, 86, pt f 71 L15)) := by
  simp (maxSteps := 2000000) (config := { decide := true }) (disch := first | rfl | decide) only [e_MD_init, st_MD_init, tn_z, gF_pt 72, tn_c, pt_new, pF_pt, sA_pt, sI_pt, sw_xm_some, sw_xv_some, xa_v, sw_z, Nat.reduceAdd, Nat.zero_add, if_true, reduceIte]
  rfl
theorem k_MD {b : Nat} {L : List sw_AC} (h : 71 = b + L.length) : f_MD_init E (.ref 71) (0, 0, 72, pt f b (L ++ [.inr (8, [.null, .null, .null, .null, .null, .null, .null, .int 0, .null, .null, .null, .int 0, .int 0, .int 0, .int 0, .int 0, .null, .null, .null, .null])])) = some (none, (14, 1349, 86, pt f b (L ++ L15))) := by
  rw [← pt_app h, n_MD, pt_app h]
end CN2
