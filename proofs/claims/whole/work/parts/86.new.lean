/-! ===== the constructors ===== -/
def pt (f : Nat → sw_AC) (r : Nat) (L : List sw_AC) : Nat → sw_AC := fun q => if r ≤ q ∧ q < r + L.length then L.getD (q - r) (.inr (99, [])) else f q
theorem pt_1 {f : Nat → sw_AC} {r : Nat} {c : sw_AC} : sw_up f r c = pt f r [c] := by
  funext q
  unfold sw_up pt
  by_cases h : q = r
  · subst h
    rw [if_pos rfl, if_pos ⟨Nat.le_refl _, by show q < q + 1; omega⟩, Nat.sub_self]
    rfl
  · rw [if_neg h, if_neg (fun g => h (by have : q < r + 1 := g.2; omega))]
theorem pt_app {f : Nat → sw_AC} {r n : Nat} {L K : List sw_AC} (h : n = r + L.length) : pt (pt f r L) n K = pt f r (L ++ K) := by
  subst h
  funext q
  unfold pt
  rw [List.length_append]
  by_cases h1 : r + L.length ≤ q ∧ q < r + L.length + K.length
  · rw [if_pos h1, if_pos (by omega), List.getD_eq_getElem?_getD, List.getD_eq_getElem?_getD, List.getElem?_append_right (by omega), show q - r - L.length = q - (r + L.length) by omega]
  · rw [if_neg h1]
    by_cases h2 : r ≤ q ∧ q < r + L.length
    · rw [if_pos h2, if_pos (by omega), List.getD_eq_getElem?_getD, List.getD_eq_getElem?_getD, List.getElem?_append_left (by omega)]
    · rw [if_neg h2, if_neg (by omega)]
theorem pt_new {f : Nat → sw_AC} {r n : Nat} {L : List sw_AC} {c : sw_AC} (h : n = r + L.length) : sw_up (pt f r L) n c = pt f r (L ++ [c]) := by
  rw [pt_1, pt_app h]
theorem pt_set {f : Nat → sw_AC} {r n : Nat} {L : List sw_AC} {c : sw_AC} (h1 : r ≤ n) (h2 : n < r + L.length) : sw_up (pt f r L) n c = pt f r (L.set (n - r) c) := by
  funext q
  unfold sw_up pt
  rw [List.length_set]
  by_cases h : q = n
  · subst h
    rw [if_pos rfl, if_pos ⟨h1, h2⟩, List.getD_eq_getElem?_getD, List.getElem?_set_self (by omega)]
    rfl
  · rw [if_neg h]
    by_cases g : r ≤ q ∧ q < r + L.length
    · rw [if_pos g, if_pos g, List.getD_eq_getElem?_getD, List.getD_eq_getElem?_getD, List.getElem?_set_ne (by omega)]
    · rw [if_neg g, if_neg g]
def okL (L : List sw_AC) (i ci k : Nat) (v : Value) : Bool := match L.getD i (.inr (99, [])) with
  | .inr (c, fs) => decide (i < L.length) && decide (c = ci) && decide (k < fs.length) && sw_okv (sw_fty ci k) v
  | _ => false
def pfL (L : List sw_AC) (i k : Nat) (v : Value) : List sw_AC := match L.getD i (.inr (99, [])) with
  | .inr (c, fs) => L.set i (.inr (c, fs.set k v))
  | _ => L
theorem pt_at {f : Nat → sw_AC} {r n : Nat} {L : List sw_AC} (h1 : r ≤ n) (h2 : n < r + L.length) : pt f r L n = L.getD (n - r) (.inr (99, [])) := by
  unfold pt
  rw [if_pos ⟨h1, h2⟩]
theorem pF_pt {f : Nat → sw_AC} {r n x a b ci k : Nat} {L : List sw_AC} {v : Value} (hx : x < n) (h1 : r ≤ x) (ho : okL L (x - r) ci k v = true) : sw_pF (a, b, n, pt f r L) x ci k v = some (a, b, n, pt f r (pfL L (x - r) k v)) := by
  unfold okL at ho
  unfold pfL
  split at ho
  · next c fs e =>
    simp only [Bool.and_eq_true, decide_eq_true_eq] at ho
    obtain ⟨⟨⟨g1, g2⟩, g3⟩, g4⟩ := ho
    unfold sw_pF
    rw [if_pos (show x < (a, b, n, pt f r L).2.2.1 from hx)]
    have e2 : (a, b, n, pt f r L).2.2.2 x = .inr (c, fs) := by
      show pt f r L x = _
      rw [pt_at h1 (by omega), e]
    rw [e2]
    simp only
    rw [if_pos ⟨g2, g3, g4⟩]
    unfold sw_sC
    simp only
    rw [pt_set h1 (by omega)]
  · cases ho
abbrev rI (n : Nat) : sw_AC := .inl (.int, n, .inl (fun _ => 0))
abbrev rZ (n : Nat) : sw_AC := .inl (.boolean, n, .inl (fun _ => 0))
abbrev rL (n : Nat) : sw_AC := .inl (.long, n, .inr (.inl (fun _ => 0)))
theorem tn_c : (10 : Int32).toNatClampNeg = 10 ∧ (16 : Int32).toNatClampNeg = 16 ∧ (24 : Int32).toNatClampNeg = 24 ∧ (96 : Int32).toNatClampNeg = 96 ∧ (40 : Int32).toNatClampNeg = 40 ∧ (100 : Int32).toNatClampNeg = 100 ∧ (7 : Int32).toNatClampNeg = 7 ∧ (4 : Int32).toNatClampNeg = 4 ∧ (328 : Int32).toNatClampNeg = 328 ∧ (160 : Int32).toNatClampNeg = 160 := by decide
section CN
variable (E : sw_E) (f : Nat → sw_AC)
set_option maxRecDepth 100000 in
set_option maxHeartbeats 4000000 in
theorem n_People_2 : f_People_init E (.ref 2) (0, 0, 3, pt f 2 [.inr (0, [.null, .null, .int 0])]) = some (none, (2, 20, 5, pt f 2 [.inr (0, [.ref 3, .ref 4, .int 0]), rI 10, rL 10])) := by
  simp (config := { decide := true }) (disch := first | rfl | decide) only [e_People_init, st_People_init, tn_c, pt_new, pF_pt, sw_xm_some, Nat.reduceAdd, Nat.zero_add, if_true, reduceIte]
  rfl
set_option maxRecDepth 100000 in
set_option maxHeartbeats 4000000 in
theorem n_People_20 : f_People_init E (.ref 20) (0, 0, 21, pt f 20 [.inr (0, [.null, .null, .int 0])]) = some (none, (2, 20, 23, pt f 20 [.inr (0, [.ref 21, .ref 22, .int 0]), rI 10, rL 10])) := by
  simp (config := { decide := true }) (disch := first | rfl | decide) only [e_People_init, st_People_init, tn_c, pt_new, pF_pt, sw_xm_some, Nat.reduceAdd, Nat.zero_add, if_true, reduceIte]
  rfl
set_option maxRecDepth 100000 in
set_option maxHeartbeats 4000000 in
theorem n_People_38 : f_People_init E (.ref 38) (0, 0, 39, pt f 38 [.inr (0, [.null, .null, .int 0])]) = some (none, (2, 20, 41, pt f 38 [.inr (0, [.ref 39, .ref 40, .int 0]), rI 10, rL 10])) := by
  simp (config := { decide := true }) (disch := first | rfl | decide) only [e_People_init, st_People_init, tn_c, pt_new, pF_pt, sw_xm_some, Nat.reduceAdd, Nat.zero_add, if_true, reduceIte]
  rfl
set_option maxRecDepth 100000 in
set_option maxHeartbeats 4000000 in
theorem n_Things_5 : f_Things_init E (.ref 5) (0, 0, 6, pt f 5 [.inr (5, [.null, .null, .null, .null, .null, .null, .null, .int 0])]) = some (none, (7, 192, 13, pt f 5 [.inr (5, [.ref 6, .ref 7, .ref 8, .ref 9, .ref 10, .ref 11, .ref 12, .int 0]), rI 16, rI 16, rI 16, rI 16, rZ 16, rI 16, rI 96])) := by
  simp (config := { decide := true }) (disch := first | rfl | decide) only [e_Things_init, st_Things_init, tn_c, pt_new, pF_pt, sw_xm_some, Nat.reduceAdd, Nat.zero_add, if_true, reduceIte]
  rfl
set_option maxRecDepth 100000 in
set_option maxHeartbeats 4000000 in
theorem n_Things_23 : f_Things_init E (.ref 23) (0, 0, 24, pt f 23 [.inr (5, [.null, .null, .null, .null, .null, .null, .null, .int 0])]) = some (none, (7, 192, 31, pt f 23 [.inr (5, [.ref 24, .ref 25, .ref 26, .ref 27, .ref 28, .ref 29, .ref 30, .int 0]), rI 16, rI 16, rI 16, rI 16, rZ 16, rI 16, rI 96])) := by
  simp (config := { decide := true }) (disch := first | rfl | decide) only [e_Things_init, st_Things_init, tn_c, pt_new, pF_pt, sw_xm_some, Nat.reduceAdd, Nat.zero_add, if_true, reduceIte]
  rfl
set_option maxRecDepth 100000 in
set_option maxHeartbeats 4000000 in
theorem n_Things_41 : f_Things_init E (.ref 41) (0, 0, 42, pt f 41 [.inr (5, [.null, .null, .null, .null, .null, .null, .null, .int 0])]) = some (none, (7, 192, 49, pt f 41 [.inr (5, [.ref 42, .ref 43, .ref 44, .ref 45, .ref 46, .ref 47, .ref 48, .int 0]), rI 16, rI 16, rI 16, rI 16, rZ 16, rI 16, rI 96])) := by
  simp (config := { decide := true }) (disch := first | rfl | decide) only [e_Things_init, st_Things_init, tn_c, pt_new, pF_pt, sw_xm_some, Nat.reduceAdd, Nat.zero_add, if_true, reduceIte]
  rfl
set_option maxRecDepth 100000 in
set_option maxHeartbeats 4000000 in
theorem n_Promises_13 : f_Promises_init E (.ref 13) (0, 0, 14, pt f 13 [.inr (1, [.null, .null, .null, .null, .null, .int 0])]) = some (none, (5, 120, 19, pt f 13 [.inr (1, [.ref 14, .ref 15, .ref 16, .ref 17, .ref 18, .int 0]), rI 24, rI 24, rI 24, rI 24, rI 24])) := by
  simp (config := { decide := true }) (disch := first | rfl | decide) only [e_Promises_init, st_Promises_init, tn_c, pt_new, pF_pt, sw_xm_some, Nat.reduceAdd, Nat.zero_add, if_true, reduceIte]
  rfl
set_option maxRecDepth 100000 in
set_option maxHeartbeats 4000000 in
theorem n_Promises_31 : f_Promises_init E (.ref 31) (0, 0, 32, pt f 31 [.inr (1, [.null, .null, .null, .null, .null, .int 0])]) = some (none, (5, 120, 37, pt f 31 [.inr (1, [.ref 32, .ref 33, .ref 34, .ref 35, .ref 36, .int 0]), rI 24, rI 24, rI 24, rI 24, rI 24])) := by
  simp (config := { decide := true }) (disch := first | rfl | decide) only [e_Promises_init, st_Promises_init, tn_c, pt_new, pF_pt, sw_xm_some, Nat.reduceAdd, Nat.zero_add, if_true, reduceIte]
  rfl
set_option maxRecDepth 100000 in
set_option maxHeartbeats 4000000 in
theorem n_Promises_49 : f_Promises_init E (.ref 49) (0, 0, 50, pt f 49 [.inr (1, [.null, .null, .null, .null, .null, .int 0])]) = some (none, (5, 120, 55, pt f 49 [.inr (1, [.ref 50, .ref 51, .ref 52, .ref 53, .ref 54, .int 0]), rI 24, rI 24, rI 24, rI 24, rI 24])) := by
  simp (config := { decide := true }) (disch := first | rfl | decide) only [e_Promises_init, st_Promises_init, tn_c, pt_new, pF_pt, sw_xm_some, Nat.reduceAdd, Nat.zero_add, if_true, reduceIte]
  rfl
set_option maxRecDepth 100000 in
set_option maxHeartbeats 4000000 in
theorem n_Ring_55 : f_Ring_init E (.ref 55) (0, 0, 56, pt f 55 [.inr (2, [.null, .null, .null, .int 0])]) = some (none, (3, 30, 59, pt f 55 [.inr (2, [.ref 56, .ref 57, .ref 58, .int 0]), rI 10, rI 10, rI 10])) := by
  simp (config := { decide := true }) (disch := first | rfl | decide) only [e_Ring_init, st_Ring_init, tn_c, pt_new, pF_pt, sw_xm_some, Nat.reduceAdd, Nat.zero_add, if_true, reduceIte]
  rfl
set_option maxRecDepth 100000 in
set_option maxHeartbeats 4000000 in
theorem n_Tape_59 : f_Tape_init E (.ref 59) (0, 0, 60, pt f 59 [.inr (4, [.null, .int 0, .int 0, .int 0, .int 0, .int 0])]) = some (none, (1, 100, 61, pt f 59 [.inr (4, [.ref 60, .int 0, .int 0, .int 0, .int 0, .int 0]), rI 100])) := by
  simp (config := { decide := true }) (disch := first | rfl | decide) only [e_Tape_init, st_Tape_init, tn_c, pt_new, pF_pt, sw_xm_some, Nat.reduceAdd, Nat.zero_add, if_true, reduceIte]
  rfl
set_option maxRecDepth 100000 in
set_option maxHeartbeats 4000000 in
theorem n_Sheet_62 : f_Sheet_init E (.ref 62) (0, 0, 63, pt f 62 [.inr (3, [.null, .int 0, .int 0])]) = some (none, (1, 40, 64, pt f 62 [.inr (3, [.ref 63, .int 0, .int 0]), rL 40])) := by
  simp (config := { decide := true }) (disch := first | rfl | decide) only [e_Sheet_init, st_Sheet_init, tn_c, pt_new, pF_pt, sw_xm_some, Nat.reduceAdd, Nat.zero_add, if_true, reduceIte]
  rfl
set_option maxRecDepth 100000 in
set_option maxHeartbeats 4000000 in
theorem n_Sheet_64 : f_Sheet_init E (.ref 64) (0, 0, 65, pt f 64 [.inr (3, [.null, .int 0, .int 0])]) = some (none, (1, 40, 66, pt f 64 [.inr (3, [.ref 65, .int 0, .int 0]), rL 40])) := by
  simp (config := { decide := true }) (disch := first | rfl | decide) only [e_Sheet_init, st_Sheet_init, tn_c, pt_new, pF_pt, sw_xm_some, Nat.reduceAdd, Nat.zero_add, if_true, reduceIte]
  rfl
set_option maxRecDepth 100000 in
set_option maxHeartbeats 4000000 in
theorem n_Sheet_66 : f_Sheet_init E (.ref 66) (0, 0, 67, pt f 66 [.inr (3, [.null, .int 0, .int 0])]) = some (none, (1, 40, 68, pt f 66 [.inr (3, [.ref 67, .int 0, .int 0]), rL 40])) := by
  simp (config := { decide := true }) (disch := first | rfl | decide) only [e_Sheet_init, st_Sheet_init, tn_c, pt_new, pF_pt, sw_xm_some, Nat.reduceAdd, Nat.zero_add, if_true, reduceIte]
  rfl
set_option maxRecDepth 100000 in
set_option maxHeartbeats 4000000 in
theorem n_Sheet_68 : f_Sheet_init E (.ref 68) (0, 0, 69, pt f 68 [.inr (3, [.null, .int 0, .int 0])]) = some (none, (1, 40, 70, pt f 68 [.inr (3, [.ref 69, .int 0, .int 0]), rL 40])) := by
  simp (config := { decide := true }) (disch := first | rfl | decide) only [e_Sheet_init, st_Sheet_init, tn_c, pt_new, pF_pt, sw_xm_some, Nat.reduceAdd, Nat.zero_add, if_true, reduceIte]
  rfl
theorem xa_v {E : sw_E} {k pc : Nat} {ls st : List Value} {M : sw_M} {a b : Nat} {N : sw_M} : sw_xa E k pc ls st M a b (some (none, N)) = sw_ex E k pc ls st (M.1 + a, M.2.1 + b, N.2.2) := rfl
theorem k_People_2 {b : Nat} {L : List sw_AC} (h : 2 = b + L.length) : f_People_init E (.ref 2) (0, 0, 3, pt f b (L ++ [.inr (0, [.null, .null, .int 0])])) = some (none, (2, 20, 5, pt f b (L ++ [.inr (0, [.ref 3, .ref 4, .int 0]), rI 10, rL 10]))) := by
  rw [← pt_app h, n_People_2, pt_app h]
theorem k_People_20 {b : Nat} {L : List sw_AC} (h : 20 = b + L.length) : f_People_init E (.ref 20) (0, 0, 21, pt f b (L ++ [.inr (0, [.null, .null, .int 0])])) = some (none, (2, 20, 23, pt f b (L ++ [.inr (0, [.ref 21, .ref 22, .int 0]), rI 10, rL 10]))) := by
  rw [← pt_app h, n_People_20, pt_app h]
theorem k_People_38 {b : Nat} {L : List sw_AC} (h : 38 = b + L.length) : f_People_init E (.ref 38) (0, 0, 39, pt f b (L ++ [.inr (0, [.null, .null, .int 0])])) = some (none, (2, 20, 41, pt f b (L ++ [.inr (0, [.ref 39, .ref 40, .int 0]), rI 10, rL 10]))) := by
  rw [← pt_app h, n_People_38, pt_app h]
theorem k_Things_5 {b : Nat} {L : List sw_AC} (h : 5 = b + L.length) : f_Things_init E (.ref 5) (0, 0, 6, pt f b (L ++ [.inr (5, [.null, .null, .null, .null, .null, .null, .null, .int 0])])) = some (none, (7, 192, 13, pt f b (L ++ [.inr (5, [.ref 6, .ref 7, .ref 8, .ref 9, .ref 10, .ref 11, .ref 12, .int 0]), rI 16, rI 16, rI 16, rI 16, rZ 16, rI 16, rI 96]))) := by
  rw [← pt_app h, n_Things_5, pt_app h]
theorem k_Things_23 {b : Nat} {L : List sw_AC} (h : 23 = b + L.length) : f_Things_init E (.ref 23) (0, 0, 24, pt f b (L ++ [.inr (5, [.null, .null, .null, .null, .null, .null, .null, .int 0])])) = some (none, (7, 192, 31, pt f b (L ++ [.inr (5, [.ref 24, .ref 25, .ref 26, .ref 27, .ref 28, .ref 29, .ref 30, .int 0]), rI 16, rI 16, rI 16, rI 16, rZ 16, rI 16, rI 96]))) := by
  rw [← pt_app h, n_Things_23, pt_app h]
theorem k_Things_41 {b : Nat} {L : List sw_AC} (h : 41 = b + L.length) : f_Things_init E (.ref 41) (0, 0, 42, pt f b (L ++ [.inr (5, [.null, .null, .null, .null, .null, .null, .null, .int 0])])) = some (none, (7, 192, 49, pt f b (L ++ [.inr (5, [.ref 42, .ref 43, .ref 44, .ref 45, .ref 46, .ref 47, .ref 48, .int 0]), rI 16, rI 16, rI 16, rI 16, rZ 16, rI 16, rI 96]))) := by
  rw [← pt_app h, n_Things_41, pt_app h]
theorem k_Promises_13 {b : Nat} {L : List sw_AC} (h : 13 = b + L.length) : f_Promises_init E (.ref 13) (0, 0, 14, pt f b (L ++ [.inr (1, [.null, .null, .null, .null, .null, .int 0])])) = some (none, (5, 120, 19, pt f b (L ++ [.inr (1, [.ref 14, .ref 15, .ref 16, .ref 17, .ref 18, .int 0]), rI 24, rI 24, rI 24, rI 24, rI 24]))) := by
  rw [← pt_app h, n_Promises_13, pt_app h]
theorem k_Promises_31 {b : Nat} {L : List sw_AC} (h : 31 = b + L.length) : f_Promises_init E (.ref 31) (0, 0, 32, pt f b (L ++ [.inr (1, [.null, .null, .null, .null, .null, .int 0])])) = some (none, (5, 120, 37, pt f b (L ++ [.inr (1, [.ref 32, .ref 33, .ref 34, .ref 35, .ref 36, .int 0]), rI 24, rI 24, rI 24, rI 24, rI 24]))) := by
  rw [← pt_app h, n_Promises_31, pt_app h]
theorem k_Promises_49 {b : Nat} {L : List sw_AC} (h : 49 = b + L.length) : f_Promises_init E (.ref 49) (0, 0, 50, pt f b (L ++ [.inr (1, [.null, .null, .null, .null, .null, .int 0])])) = some (none, (5, 120, 55, pt f b (L ++ [.inr (1, [.ref 50, .ref 51, .ref 52, .ref 53, .ref 54, .int 0]), rI 24, rI 24, rI 24, rI 24, rI 24]))) := by
  rw [← pt_app h, n_Promises_49, pt_app h]
theorem k_Ring_55 {b : Nat} {L : List sw_AC} (h : 55 = b + L.length) : f_Ring_init E (.ref 55) (0, 0, 56, pt f b (L ++ [.inr (2, [.null, .null, .null, .int 0])])) = some (none, (3, 30, 59, pt f b (L ++ [.inr (2, [.ref 56, .ref 57, .ref 58, .int 0]), rI 10, rI 10, rI 10]))) := by
  rw [← pt_app h, n_Ring_55, pt_app h]
theorem k_Tape_59 {b : Nat} {L : List sw_AC} (h : 59 = b + L.length) : f_Tape_init E (.ref 59) (0, 0, 60, pt f b (L ++ [.inr (4, [.null, .int 0, .int 0, .int 0, .int 0, .int 0])])) = some (none, (1, 100, 61, pt f b (L ++ [.inr (4, [.ref 60, .int 0, .int 0, .int 0, .int 0, .int 0]), rI 100]))) := by
  rw [← pt_app h, n_Tape_59, pt_app h]
theorem k_Sheet_62 {b : Nat} {L : List sw_AC} (h : 62 = b + L.length) : f_Sheet_init E (.ref 62) (0, 0, 63, pt f b (L ++ [.inr (3, [.null, .int 0, .int 0])])) = some (none, (1, 40, 64, pt f b (L ++ [.inr (3, [.ref 63, .int 0, .int 0]), rL 40]))) := by
  rw [← pt_app h, n_Sheet_62, pt_app h]
theorem k_Sheet_64 {b : Nat} {L : List sw_AC} (h : 64 = b + L.length) : f_Sheet_init E (.ref 64) (0, 0, 65, pt f b (L ++ [.inr (3, [.null, .int 0, .int 0])])) = some (none, (1, 40, 66, pt f b (L ++ [.inr (3, [.ref 65, .int 0, .int 0]), rL 40]))) := by
  rw [← pt_app h, n_Sheet_64, pt_app h]
theorem k_Sheet_66 {b : Nat} {L : List sw_AC} (h : 66 = b + L.length) : f_Sheet_init E (.ref 66) (0, 0, 67, pt f b (L ++ [.inr (3, [.null, .int 0, .int 0])])) = some (none, (1, 40, 68, pt f b (L ++ [.inr (3, [.ref 67, .int 0, .int 0]), rL 40]))) := by
  rw [← pt_app h, n_Sheet_66, pt_app h]
theorem k_Sheet_68 {b : Nat} {L : List sw_AC} (h : 68 = b + L.length) : f_Sheet_init E (.ref 68) (0, 0, 69, pt f b (L ++ [.inr (3, [.null, .int 0, .int 0])])) = some (none, (1, 40, 70, pt f b (L ++ [.inr (3, [.ref 69, .int 0, .int 0]), rL 40]))) := by
  rw [← pt_app h, n_Sheet_68, pt_app h]
set_option maxRecDepth 100000 in
set_option maxHeartbeats 4000000 in
theorem n_Town_1 : f_Town_init E (.ref 1) (0, 0, 2, pt f 1 [.inr (6, [.null, .null, .null, .int 0, .int 0, .int 0])]) = some (none, (17, 349, 19, pt f 1 [.inr (6, [.ref 2, .ref 5, .ref 13, .int 1, .int 66, .int 0]), .inr (0, [.ref 3, .ref 4, .int 0]), rI 10, rL 10, .inr (5, [.ref 6, .ref 7, .ref 8, .ref 9, .ref 10, .ref 11, .ref 12, .int 0]), rI 16, rI 16, rI 16, rI 16, rZ 16, rI 16, rI 96, .inr (1, [.ref 14, .ref 15, .ref 16, .ref 17, .ref 18, .int 0]), rI 24, rI 24, rI 24, rI 24, rI 24])) := by
  simp (config := { decide := true }) (disch := first | rfl | decide) only [e_Town_init, st_Town_init, k_People_2, k_Things_5, k_Promises_13, tn_c, pt_new, pF_pt, sw_xm_some, xa_v, sw_z, Nat.reduceAdd, Nat.zero_add, if_true, reduceIte]
  rfl
theorem k_Town_1 {b : Nat} {L : List sw_AC} (h : 1 = b + L.length) : f_Town_init E (.ref 1) (0, 0, 2, pt f b (L ++ [.inr (6, [.null, .null, .null, .int 0, .int 0, .int 0])])) = some (none, (17, 349, 19, pt f b (L ++ [.inr (6, [.ref 2, .ref 5, .ref 13, .int 1, .int 66, .int 0]), .inr (0, [.ref 3, .ref 4, .int 0]), rI 10, rL 10, .inr (5, [.ref 6, .ref 7, .ref 8, .ref 9, .ref 10, .ref 11, .ref 12, .int 0]), rI 16, rI 16, rI 16, rI 16, rZ 16, rI 16, rI 96, .inr (1, [.ref 14, .ref 15, .ref 16, .ref 17, .ref 18, .int 0]), rI 24, rI 24, rI 24, rI 24, rI 24]))) := by
  rw [← pt_app h, n_Town_1, pt_app h]
set_option maxRecDepth 100000 in
set_option maxHeartbeats 4000000 in
theorem n_Town_19 : f_Town_init E (.ref 19) (0, 0, 20, pt f 19 [.inr (6, [.null, .null, .null, .int 0, .int 0, .int 0])]) = some (none, (17, 349, 37, pt f 19 [.inr (6, [.ref 20, .ref 23, .ref 31, .int 1, .int 66, .int 0]), .inr (0, [.ref 21, .ref 22, .int 0]), rI 10, rL 10, .inr (5, [.ref 24, .ref 25, .ref 26, .ref 27, .ref 28, .ref 29, .ref 30, .int 0]), rI 16, rI 16, rI 16, rI 16, rZ 16, rI 16, rI 96, .inr (1, [.ref 32, .ref 33, .ref 34, .ref 35, .ref 36, .int 0]), rI 24, rI 24, rI 24, rI 24, rI 24])) := by
  simp (config := { decide := true }) (disch := first | rfl | decide) only [e_Town_init, st_Town_init, k_People_20, k_Things_23, k_Promises_31, tn_c, pt_new, pF_pt, sw_xm_some, xa_v, sw_z, Nat.reduceAdd, Nat.zero_add, if_true, reduceIte]
  rfl
theorem k_Town_19 {b : Nat} {L : List sw_AC} (h : 19 = b + L.length) : f_Town_init E (.ref 19) (0, 0, 20, pt f b (L ++ [.inr (6, [.null, .null, .null, .int 0, .int 0, .int 0])])) = some (none, (17, 349, 37, pt f b (L ++ [.inr (6, [.ref 20, .ref 23, .ref 31, .int 1, .int 66, .int 0]), .inr (0, [.ref 21, .ref 22, .int 0]), rI 10, rL 10, .inr (5, [.ref 24, .ref 25, .ref 26, .ref 27, .ref 28, .ref 29, .ref 30, .int 0]), rI 16, rI 16, rI 16, rI 16, rZ 16, rI 16, rI 96, .inr (1, [.ref 32, .ref 33, .ref 34, .ref 35, .ref 36, .int 0]), rI 24, rI 24, rI 24, rI 24, rI 24]))) := by
  rw [← pt_app h, n_Town_19, pt_app h]
set_option maxRecDepth 100000 in
set_option maxHeartbeats 4000000 in
theorem n_Town_37 : f_Town_init E (.ref 37) (0, 0, 38, pt f 37 [.inr (6, [.null, .null, .null, .int 0, .int 0, .int 0])]) = some (none, (17, 349, 55, pt f 37 [.inr (6, [.ref 38, .ref 41, .ref 49, .int 1, .int 66, .int 0]), .inr (0, [.ref 39, .ref 40, .int 0]), rI 10, rL 10, .inr (5, [.ref 42, .ref 43, .ref 44, .ref 45, .ref 46, .ref 47, .ref 48, .int 0]), rI 16, rI 16, rI 16, rI 16, rZ 16, rI 16, rI 96, .inr (1, [.ref 50, .ref 51, .ref 52, .ref 53, .ref 54, .int 0]), rI 24, rI 24, rI 24, rI 24, rI 24])) := by
  simp (config := { decide := true }) (disch := first | rfl | decide) only [e_Town_init, st_Town_init, k_People_38, k_Things_41, k_Promises_49, tn_c, pt_new, pF_pt, sw_xm_some, xa_v, sw_z, Nat.reduceAdd, Nat.zero_add, if_true, reduceIte]
  rfl
theorem k_Town_37 {b : Nat} {L : List sw_AC} (h : 37 = b + L.length) : f_Town_init E (.ref 37) (0, 0, 38, pt f b (L ++ [.inr (6, [.null, .null, .null, .int 0, .int 0, .int 0])])) = some (none, (17, 349, 55, pt f b (L ++ [.inr (6, [.ref 38, .ref 41, .ref 49, .int 1, .int 66, .int 0]), .inr (0, [.ref 39, .ref 40, .int 0]), rI 10, rL 10, .inr (5, [.ref 42, .ref 43, .ref 44, .ref 45, .ref 46, .ref 47, .ref 48, .int 0]), rI 16, rI 16, rI 16, rI 16, rZ 16, rI 16, rI 96, .inr (1, [.ref 50, .ref 51, .ref 52, .ref 53, .ref 54, .int 0]), rI 24, rI 24, rI 24, rI 24, rI 24]))) := by
  rw [← pt_app h, n_Town_37, pt_app h]
end CN
