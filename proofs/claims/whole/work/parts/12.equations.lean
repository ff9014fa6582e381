/-! ===== equations of the interpreter, an instruction each ===== -/
noncomputable def sw_xv (E : sw_E) (k pc : Nat) (ls st : List Value) (M : sw_M) (x : Option Value) : Option sw_R := match x with
  | some v => sw_ex E k pc ls (v :: st) M
  | none => none
noncomputable def sw_xm (E : sw_E) (k pc : Nat) (ls st : List Value) (x : Option sw_M) : Option sw_R := match x with
  | some M => sw_ex E k pc ls st M
  | none => none
def sw_rs (M N : sw_M) : sw_M := (M.1, M.2.1, N.2.2)
def sw_z (M : sw_M) : sw_M := (0, 0, M.2.2)
noncomputable def sw_xc (E : sw_E) (k pc : Nat) (ls st : List Value) (M : sw_M) (x : Option sw_R) : Option sw_R := match x with
  | some q => sw_ex E k pc ls (q.1.toList ++ st) (sw_rs M q.2)
  | none => none
/-- behind a call that makes cells -/
noncomputable def sw_xa (E : sw_E) (k pc : Nat) (ls st : List Value) (M : sw_M) (a b : Nat) (x : Option sw_R) : Option sw_R := match x with
  | some q => sw_ex E k pc ls (q.1.toList ++ st) (M.1 + a, M.2.1 + b, q.2.2.2)
  | none => none
section SX
variable {E : sw_E} {k pc : Nat} {ls st : List Value} {M : sw_M}
theorem sw_xv_some (v : Value) : sw_xv E k pc ls st M (some v) = sw_ex E k pc ls (v :: st) M := rfl
theorem sw_xm_some : sw_xm E k pc ls st (some M) = sw_ex E k pc ls st M := rfl
theorem sw_xc_some (v : Value) (N : sw_M) : sw_xc E k pc ls st M (some (some v, N)) = sw_ex E k pc ls (v :: st) (sw_rs M N) := rfl
theorem sw_xc_void (N : sw_M) : sw_xc E k pc ls st M (some (none, N)) = sw_ex E k pc ls st (sw_rs M N) := rfl
theorem sw_xa_void (a b : Nat) (N : sw_M) : sw_xa E k pc ls st M a b (some (none, N)) = sw_ex E k pc ls st (M.1 + a, M.2.1 + b, N.2.2) := rfl
theorem sx_nx {q : sw_N} (h : sw_cod k pc = some q) : sw_nxc E (k, pc, ls, st, M) = sw_nx E k pc q ls st M := by
  show (match sw_cod k pc with | some q => sw_nx E k pc q ls st M | none => none) = _
  rw [h]
theorem sx_go {q : sw_N} (h : sw_cod k pc = some q) {pc' : Nat} {ls' st' : List Value} {M' : sw_M} (hn : sw_nx E k pc q ls st M = sw_go k pc' ls' st' M') : sw_ex E k pc ls st M = sw_ex E k pc' ls' st' M' := by
  rw [sw_ex_u]
  unfold sw_stp
  rw [sx_nx h, hn]
  rfl
theorem sx_gv {q : sw_N} (h : sw_cod k pc = some q) {pc' : Nat} {ls' st' : List Value} {M' : sw_M} {x : Option Value} (hn : sw_nx E k pc q ls st M = sw_gv k pc' ls' st' M' x) : sw_ex E k pc ls st M = sw_xv E k pc' ls' st' M' x := by
  rw [sw_ex_u]
  unfold sw_stp
  rw [sx_nx h, hn]
  cases x <;> rfl
theorem sx_gm {q : sw_N} (h : sw_cod k pc = some q) {pc' : Nat} {ls' st' : List Value} {x : Option sw_M} (hn : sw_nx E k pc q ls st M = sw_gm k pc' ls' st' x) : sw_ex E k pc ls st M = sw_xm E k pc' ls' st' x := by
  rw [sw_ex_u]
  unfold sw_stp
  rw [sx_nx h, hn]
  cases x <;> rfl
theorem sx_none {q : sw_N} (h : sw_cod k pc = some q) (hn : sw_nx E k pc q ls st M = none) : sw_ex E k pc ls st M = none := by
  rw [sw_ex_u]
  unfold sw_stp
  rw [sx_nx h, hn]
theorem sx_end {q : sw_N} (h : sw_cod k pc = some q) {r : sw_R} (hn : sw_nx E k pc q ls st M = some (.inl r)) : sw_ex E k pc ls st M = some r := by
  rw [sw_ex_u]
  unfold sw_stp
  rw [sx_nx h, hn]
/-- two ways -/
theorem sx_if {q : sw_N} (h : sw_cod k pc = some q) {c : Prop} [Decidable c] {p1 p2 : Nat} {l1 s1 l2 s2 : List Value} {M1 M2 : sw_M} (hn : sw_nx E k pc q ls st M = if c then sw_go k p1 l1 s1 M1 else sw_go k p2 l2 s2 M2) : sw_ex E k pc ls st M = if c then sw_ex E k p1 l1 s1 M1 else sw_ex E k p2 l2 s2 M2 := by
  by_cases hc : c
  · rw [if_pos hc]; rw [if_pos hc] at hn; exact sx_go h hn
  · rw [if_neg hc]; rw [if_neg hc] at hn; exact sx_go h hn
variable {t : Nat × Nat × Nat × Value × Nat} {x y : Int32}
theorem sx_idiv (h : sw_cod k pc = some (.idiv, t)) (hy : ¬ y = 0) : sw_ex E k pc ls (.int y :: .int x :: st) M = sw_ex E k (pc + 1) ls (.int (x / y) :: st) M := sx_go h (by show (if y = 0 then none else _) = _; rw [if_neg hy])
theorem sx_irem (h : sw_cod k pc = some (.irem, t)) : sw_ex E k pc ls (.int y :: .int x :: st) M = if y = 0 then none else sw_ex E k (pc + 1) ls (.int (x - x / y * y) :: st) M := by
  by_cases hy : y = 0
  · rw [if_pos hy]
    exact sx_none h (by show (if y = 0 then none else _) = _; rw [if_pos hy])
  · rw [if_neg hy]
    exact sx_go h (by show (if y = 0 then none else _) = _; rw [if_neg hy])
theorem sx_ireturn (h : sw_cod k pc = some (.ireturn, t)) : sw_ex E k pc ls [.int x] M = if sw_okr (sw_mr k) x = true then some (some (.int x), M) else none := by
  by_cases hy : sw_okr (sw_mr k) x = true
  · rw [if_pos hy]
    exact sx_end h (by show (if sw_okr (sw_mr k) x = true then _ else none) = _; rw [if_pos hy])
  · rw [if_neg hy]
    exact sx_none h (by show (if sw_okr (sw_mr k) x = true then _ else none) = _; rw [if_neg hy])
theorem sx_ireturnI (h : sw_cod k pc = some (.ireturn, t)) (hr : sw_mr k = some .int) : sw_ex E k pc ls [.int x] M = some (some (.int x), M) := by
  rw [sx_ireturn h, hr]; rfl
theorem sx_ireturnZ (h : sw_cod k pc = some (.ireturn, t)) (hr : sw_mr k = some .boolean) : sw_ex E k pc ls [.int x] M = if x = 0 ∨ x = 1 then some (some (.int x), M) else none := by
  rw [sx_ireturn h, hr]
  simp [sw_okr]
theorem sx_ireturnC (h : sw_cod k pc = some (.ireturn, t)) (hr : sw_mr k = some .char) : sw_ex E k pc ls [.int x] M = if x.toUInt32.toUInt16.toUInt32.toInt32 = x then some (some (.int x), M) else none := by
  rw [sx_ireturn h, hr]
  simp [sw_okr]
theorem sx_ireturnB (h : sw_cod k pc = some (.ireturn, t)) (hr : sw_mr k = some .byte) : sw_ex E k pc ls [.int x] M = if x.toInt8.toInt32 = x then some (some (.int x), M) else none := by
  rw [sx_ireturn h, hr]
  simp [sw_okr]
theorem sx_ca {q : sw_N} (h : sw_cod k pc = some q) {j : Nat} {av rest en : List Value} (hn : sw_nx E k pc q ls st M = sw_ca k pc j ls av rest M) (h1 : Nat.ble (sw_cat rest) 8 = true) (h2 : (!sw_mn j || av.all (fun v => v.category == 1)) = true) (h3 : av.all (fun v => !sw_isJ v) = true) (h4 : Nat.ble (sw_eA av).length (sw_mx j) = true) (h5 : sw_mc j = 0) (h6 : sw_ms j = 0) (he : sw_eL (sw_mx j) av = en) :
    sw_ex E k pc ls st M = sw_xc E k (pc + 3) ls rest M (sw_ex E j 0 en [] (sw_z M)) := by
  have hg : sw_cat rest ≤ 8 ∧ (sw_mn j = true → ∀ v ∈ av, v.category = 1) ∧ (∀ v ∈ av, sw_isJ v = false) ∧ (sw_eA av).length ≤ sw_mx j ∧ ((sw_mc j = 0 ∧ sw_ms j = 0) ∨ (M.1 + sw_mc j ≤ sw_mc k ∧ M.2.1 + sw_ms j ≤ sw_ms k)) := by
    refine ⟨Nat.le_of_ble_eq_true h1, fun hk v hv => ?_, fun v hv => ?_, Nat.le_of_ble_eq_true h4, Or.inl ⟨h5, h6⟩⟩
    · rw [hk] at h2
      have h9 : ∀ v ∈ av, v.category = 1 := by simpa using h2
      exact h9 v hv
    · have := List.all_eq_true.mp h3 v hv
      simpa using this
  rw [sw_ex_u]
  unfold sw_stp
  rw [sx_nx h, hn]
  unfold sw_ca
  rw [if_pos hg, he, h5, h6]
  show (match sw_ex E j 0 en [] (sw_z M) with | none => none | some q => sw_exf E (sw_ba (k, pc + 3, ls, rest, M) 0 0 q)) = _
  cases sw_ex E j 0 en [] (sw_z M) <;> rfl
/-- a call that makes cells -/
theorem sx_cA {q : sw_N} (h : sw_cod k pc = some q) {j a b : Nat} {av rest en : List Value} (hn : sw_nx E k pc q ls st M = sw_ca k pc j ls av rest M) (h1 : Nat.ble (sw_cat rest) 8 = true) (h2 : (!sw_mn j || av.all (fun v => v.category == 1)) = true) (h3 : av.all (fun v => !sw_isJ v) = true) (h4 : Nat.ble (sw_eA av).length (sw_mx j) = true) (h5 : sw_mc j = a) (h6 : sw_ms j = b) (h7 : ¬ a = 0) (he : sw_eL (sw_mx j) av = en) :
    sw_ex E k pc ls st M = if M.1 + a ≤ sw_mc k ∧ M.2.1 + b ≤ sw_ms k then sw_xa E k (pc + 3) ls rest M a b (sw_ex E j 0 en [] (sw_z M)) else none := by
  subst h5; subst h6
  have hg : (sw_cat rest ≤ 8 ∧ (sw_mn j = true → ∀ v ∈ av, v.category = 1) ∧ (∀ v ∈ av, sw_isJ v = false) ∧ (sw_eA av).length ≤ sw_mx j ∧ ((sw_mc j = 0 ∧ sw_ms j = 0) ∨ (M.1 + sw_mc j ≤ sw_mc k ∧ M.2.1 + sw_ms j ≤ sw_ms k))) ↔ (M.1 + sw_mc j ≤ sw_mc k ∧ M.2.1 + sw_ms j ≤ sw_ms k) := by
    refine ⟨fun h => ?_, fun h => ⟨Nat.le_of_ble_eq_true h1, fun hk v hv => ?_, fun v hv => ?_, Nat.le_of_ble_eq_true h4, Or.inr h⟩⟩
    · rcases h.2.2.2.2 with g | g
      · exact absurd g.1 h7
      · exact g
    · rw [hk] at h2
      have h9 : ∀ v ∈ av, v.category = 1 := by simpa using h2
      exact h9 v hv
    · have := List.all_eq_true.mp h3 v hv
      simpa using this
  rw [sw_ex_u]
  unfold sw_stp
  rw [sx_nx h, hn]
  unfold sw_ca
  by_cases hc : M.1 + sw_mc j ≤ sw_mc k ∧ M.2.1 + sw_ms j ≤ sw_ms k
  · rw [if_pos hc, if_pos (hg.mpr hc), he]
    show (match sw_ex E j 0 en [] (sw_z M) with | none => none | some q => sw_exf E (sw_ba (k, pc + 3, ls, rest, M) (sw_mc j) (sw_ms j) q)) = _
    cases sw_ex E j 0 en [] (sw_z M) <;> rfl
  · rw [if_neg hc, if_neg (fun h => hc (hg.mp h))]
theorem sx_vca {q : sw_N} (h : sw_cod k pc = some q) {j r ci : Nat} {av rest en : List Value} (hn : sw_nx E k pc q ls st M = if sw_isC E M r ci = true then sw_ca k pc j ls av rest M else none) (h1 : Nat.ble (sw_cat rest) 8 = true) (h2 : (!sw_mn j || av.all (fun v => v.category == 1)) = true) (h3 : av.all (fun v => !sw_isJ v) = true) (h4 : Nat.ble (sw_eA av).length (sw_mx j) = true) (h5 : sw_mc j = 0) (h6 : sw_ms j = 0) (he : sw_eL (sw_mx j) av = en) :
    sw_ex E k pc ls st M = if sw_isC E M r ci = true then sw_xc E k (pc + 3) ls rest M (sw_ex E j 0 en [] (sw_z M)) else none := by
  by_cases hc : sw_isC E M r ci = true
  · rw [if_pos hc]
    rw [if_pos hc] at hn
    exact sx_ca h hn h1 h2 h3 h4 h5 h6 he
  · rw [if_neg hc]
    rw [if_neg hc] at hn
    exact sx_none h hn
theorem sx_new {n : Nat} (h : sw_cod k pc = some (.new n, t)) {ci a b nf : Nat} {fd : List Value} (hci : t.2.1 = ci) (ha : sw_mc k = a) (hb : sw_ms k = b) (hf : sw_nf ci = nf) (hd : sw_fd ci = fd) : sw_ex E k pc ls st M = if M.1 + 1 ≤ a ∧ M.2.1 + nf ≤ b ∧ M.2.2.1 < 999 then sw_ex E k (pc + 3) ls (.ref M.2.2.1 :: st) (M.1 + 1, M.2.1 + nf, M.2.2.1 + 1, sw_up M.2.2.2 M.2.2.1 (.inr (ci, fd))) else none := by
  subst hci; subst ha; subst hb; subst hf; subst hd
  by_cases hc : M.1 + 1 ≤ sw_mc k ∧ M.2.1 + sw_nf t.2.1 ≤ sw_ms k ∧ M.2.2.1 < 999
  · rw [if_pos hc]
    exact sx_go h (if_pos hc)
  · rw [if_neg hc]
    exact sx_none h (if_neg hc)
end SX
section SY
variable {E : sw_E} {k pc : Nat} {ls st ls2 : List Value} {M : sw_M} {t : Nat × Nat × Nat × Value × Nat} {x y v : Int32} {n : Int} {i tgt r : Nat} {u z : Int64} {off : Int}
theorem sx_iconst (h : sw_cod k pc = some (.iconst n, t)) (hv : Int32.ofInt n = v) : sw_ex E k pc ls st M = sw_ex E k (pc + 1) ls (.int v :: st) M := by subst hv; exact sx_go h rfl
theorem sx_bipush (h : sw_cod k pc = some (.bipush n, t)) (hv : (Int8.ofInt n).toInt32 = v) : sw_ex E k pc ls st M = sw_ex E k (pc + 2) ls (.int v :: st) M := by subst hv; exact sx_go h rfl
theorem sx_sipush (h : sw_cod k pc = some (.sipush n, t)) (hv : (Int16.ofInt n).toInt32 = v) : sw_ex E k pc ls st M = sw_ex E k (pc + 3) ls (.int v :: st) M := by subst hv; exact sx_go h rfl
theorem sx_lconst {w : Fin 2} (h : sw_cod k pc = some (.lconst w, t)) (hv : Int64.ofNat w = u) : sw_ex E k pc ls st M = sw_ex E k (pc + 1) ls (.long u :: st) M := by subst hv; exact sx_go h rfl
theorem sx_ldc {a1 a2 a3 a4 a5 : Nat} {w : Value} (h : sw_cod k pc = some (.ldc a1, a2, a3, a4, w, a5)) : sw_ex E k pc ls st M = sw_ex E k (pc + 2) ls (w :: st) M := sx_go h rfl
theorem sx_ldc_w {a1 a2 a3 a4 a5 : Nat} {w : Value} (h : sw_cod k pc = some (.ldc_w a1, a2, a3, a4, w, a5)) : sw_ex E k pc ls st M = sw_ex E k (pc + 3) ls (w :: st) M := sx_go h rfl
theorem sx_ldc2_w {a1 a2 a3 a4 a5 : Nat} {w : Value} (h : sw_cod k pc = some (.ldc2_w a1, a2, a3, a4, w, a5)) : sw_ex E k pc ls st M = sw_ex E k (pc + 3) ls (w :: st) M := sx_go h rfl
theorem sx_aconst_null (h : sw_cod k pc = some (.aconst_null, t)) : sw_ex E k pc ls st M = sw_ex E k (pc + 1) ls (.null :: st) M := sx_go h rfl
theorem sx_iload_n {i : Fin 4} (h : sw_cod k pc = some (.iload_n i, t)) (hl : ls[(i : Nat)]? = some (.int x)) : sw_ex E k pc ls st M = sw_ex E k (pc + 1) ls (.int x :: st) M := sx_go h (by dsimp only [sw_nx]; rw [hl])
theorem sx_iload (h : sw_cod k pc = some (.iload i, t)) (hl : ls[i]? = some (.int x)) : sw_ex E k pc ls st M = sw_ex E k (pc + 2) ls (.int x :: st) M := sx_go h (by dsimp only [sw_nx]; rw [hl])
theorem sx_lload_n {i : Fin 4} (h : sw_cod k pc = some (.lload_n i, t)) (hl : ls[(i : Nat)]? = some (.long u)) : sw_ex E k pc ls st M = sw_ex E k (pc + 1) ls (.long u :: st) M := sx_go h (by dsimp only [sw_nx]; rw [hl])
theorem sx_lload (h : sw_cod k pc = some (.lload i, t)) (hl : ls[i]? = some (.long u)) : sw_ex E k pc ls st M = sw_ex E k (pc + 2) ls (.long u :: st) M := sx_go h (by dsimp only [sw_nx]; rw [hl])
theorem sx_aload_n {i : Fin 4} (h : sw_cod k pc = some (.aload_n i, t)) (hl : ls[(i : Nat)]? = some (.ref r)) : sw_ex E k pc ls st M = sw_ex E k (pc + 1) ls (.ref r :: st) M := sx_go h (by dsimp only [sw_nx]; rw [hl])
theorem sx_aload (h : sw_cod k pc = some (.aload i, t)) (hl : ls[i]? = some (.ref r)) : sw_ex E k pc ls st M = sw_ex E k (pc + 2) ls (.ref r :: st) M := sx_go h (by dsimp only [sw_nx]; rw [hl])
theorem sx_aload_nN {i : Fin 4} (h : sw_cod k pc = some (.aload_n i, t)) (hl : ls[(i : Nat)]? = some .null) : sw_ex E k pc ls st M = sw_ex E k (pc + 1) ls (.null :: st) M := sx_go h (by dsimp only [sw_nx]; rw [hl])
theorem sx_aloadN (h : sw_cod k pc = some (.aload i, t)) (hl : ls[i]? = some .null) : sw_ex E k pc ls st M = sw_ex E k (pc + 2) ls (.null :: st) M := sx_go h (by dsimp only [sw_nx]; rw [hl])
theorem sx_istore_n {i : Fin 4} (h : sw_cod k pc = some (.istore_n i, t)) (hs : sw_s1 k ls i (.int x) = some ls2) : sw_ex E k pc ls (.int x :: st) M = sw_ex E k (pc + 1) ls2 st M := sx_go h (by dsimp only [sw_nx]; rw [hs]; rfl)
theorem sx_istore (h : sw_cod k pc = some (.istore i, t)) (hs : sw_s1 k ls i (.int x) = some ls2) : sw_ex E k pc ls (.int x :: st) M = sw_ex E k (pc + 2) ls2 st M := sx_go h (by dsimp only [sw_nx]; rw [hs]; rfl)
theorem sx_lstore_n {i : Fin 4} (h : sw_cod k pc = some (.lstore_n i, t)) (hs : sw_s2 k ls i (.long u) = some ls2) : sw_ex E k pc ls (.long u :: st) M = sw_ex E k (pc + 1) ls2 st M := sx_go h (by dsimp only [sw_nx]; rw [hs]; rfl)
theorem sx_lstore (h : sw_cod k pc = some (.lstore i, t)) (hs : sw_s2 k ls i (.long u) = some ls2) : sw_ex E k pc ls (.long u :: st) M = sw_ex E k (pc + 2) ls2 st M := sx_go h (by dsimp only [sw_nx]; rw [hs]; rfl)
theorem sx_astore_n {i : Fin 4} (h : sw_cod k pc = some (.astore_n i, t)) (hs : sw_s1 k ls i (.ref r) = some ls2) : sw_ex E k pc ls (.ref r :: st) M = sw_ex E k (pc + 1) ls2 st M := sx_go h (by dsimp only [sw_nx]; rw [hs]; rfl)
theorem sx_astore (h : sw_cod k pc = some (.astore i, t)) (hs : sw_s1 k ls i (.ref r) = some ls2) : sw_ex E k pc ls (.ref r :: st) M = sw_ex E k (pc + 2) ls2 st M := sx_go h (by dsimp only [sw_nx]; rw [hs]; rfl)
theorem sx_astore_nN {i : Fin 4} (h : sw_cod k pc = some (.astore_n i, t)) (hs : sw_s1 k ls i .null = some ls2) : sw_ex E k pc ls (.null :: st) M = sw_ex E k (pc + 1) ls2 st M := sx_go h (by dsimp only [sw_nx]; rw [hs]; rfl)
theorem sx_astoreN (h : sw_cod k pc = some (.astore i, t)) (hs : sw_s1 k ls i .null = some ls2) : sw_ex E k pc ls (.null :: st) M = sw_ex E k (pc + 2) ls2 st M := sx_go h (by dsimp only [sw_nx]; rw [hs]; rfl)
theorem sx_iinc (h : sw_cod k pc = some (.iinc i n, t)) (hl : ls[i]? = some (.int x)) (hv : Int32.ofInt n = v) (hs : sw_s1 k ls i (.int (x + v)) = some ls2) : sw_ex E k pc ls st M = sw_ex E k (pc + 3) ls2 st M := sx_go h (by subst hv; dsimp only [sw_nx]; rw [hl]; dsimp only; rw [hs]; rfl)
theorem sx_iadd (h : sw_cod k pc = some (.iadd, t)) : sw_ex E k pc ls (.int y :: .int x :: st) M = sw_ex E k (pc + 1) ls (.int (x + y) :: st) M := sx_go h rfl
theorem sx_isub (h : sw_cod k pc = some (.isub, t)) : sw_ex E k pc ls (.int y :: .int x :: st) M = sw_ex E k (pc + 1) ls (.int (x - y) :: st) M := sx_go h rfl
theorem sx_imul (h : sw_cod k pc = some (.imul, t)) : sw_ex E k pc ls (.int y :: .int x :: st) M = sw_ex E k (pc + 1) ls (.int (x * y) :: st) M := sx_go h rfl
theorem sx_iand (h : sw_cod k pc = some (.iand, t)) : sw_ex E k pc ls (.int y :: .int x :: st) M = sw_ex E k (pc + 1) ls (.int (x &&& y) :: st) M := sx_go h rfl
theorem sx_ior (h : sw_cod k pc = some (.ior, t)) : sw_ex E k pc ls (.int y :: .int x :: st) M = sw_ex E k (pc + 1) ls (.int (x ||| y) :: st) M := sx_go h rfl
theorem sx_ixor (h : sw_cod k pc = some (.ixor, t)) : sw_ex E k pc ls (.int y :: .int x :: st) M = sw_ex E k (pc + 1) ls (.int (x ^^^ y) :: st) M := sx_go h rfl
theorem sx_ishl (h : sw_cod k pc = some (.ishl, t)) : sw_ex E k pc ls (.int y :: .int x :: st) M = sw_ex E k (pc + 1) ls (.int (x <<< (y &&& 31)) :: st) M := sx_go h rfl
theorem sx_ishr (h : sw_cod k pc = some (.ishr, t)) : sw_ex E k pc ls (.int y :: .int x :: st) M = sw_ex E k (pc + 1) ls (.int (x >>> (y &&& 31)) :: st) M := sx_go h rfl
theorem sx_iushr (h : sw_cod k pc = some (.iushr, t)) : sw_ex E k pc ls (.int y :: .int x :: st) M = sw_ex E k (pc + 1) ls (.int (x.toUInt32 >>> (y.toUInt32 &&& Int32.toUInt32 31)).toInt32 :: st) M := sx_go h rfl
theorem sx_ladd (h : sw_cod k pc = some (.ladd, t)) : sw_ex E k pc ls (.long z :: .long u :: st) M = sw_ex E k (pc + 1) ls (.long (u + z) :: st) M := sx_go h rfl
theorem sx_land (h : sw_cod k pc = some (.land, t)) : sw_ex E k pc ls (.long z :: .long u :: st) M = sw_ex E k (pc + 1) ls (.long (u &&& z) :: st) M := sx_go h rfl
theorem sx_lor (h : sw_cod k pc = some (.lor, t)) : sw_ex E k pc ls (.long z :: .long u :: st) M = sw_ex E k (pc + 1) ls (.long (u ||| z) :: st) M := sx_go h rfl
theorem sx_lshl (h : sw_cod k pc = some (.lshl, t)) : sw_ex E k pc ls (.int y :: .long u :: st) M = sw_ex E k (pc + 1) ls (.long (u <<< (y.toInt64 &&& 63)) :: st) M := sx_go h rfl
theorem sx_lcmp (h : sw_cod k pc = some (.lcmp, t)) : sw_ex E k pc ls (.long z :: .long u :: st) M = sw_ex E k (pc + 1) ls (.int (lg_cmp u z) :: st) M := sx_go h rfl
theorem sx_i2l (h : sw_cod k pc = some (.i2l, t)) : sw_ex E k pc ls (.int x :: st) M = sw_ex E k (pc + 1) ls (.long x.toInt64 :: st) M := sx_go h rfl
theorem sx_l2i (h : sw_cod k pc = some (.l2i, t)) : sw_ex E k pc ls (.long u :: st) M = sw_ex E k (pc + 1) ls (.int u.toInt32 :: st) M := sx_go h rfl
theorem sx_i2b (h : sw_cod k pc = some (.i2b, t)) : sw_ex E k pc ls (.int x :: st) M = sw_ex E k (pc + 1) ls (.int x.toInt8.toInt32 :: st) M := sx_go h rfl
theorem sx_i2s (h : sw_cod k pc = some (.i2s, t)) : sw_ex E k pc ls (.int x :: st) M = sw_ex E k (pc + 1) ls (.int x.toInt16.toInt32 :: st) M := sx_go h rfl
theorem sx_i2c (h : sw_cod k pc = some (.i2c, t)) : sw_ex E k pc ls (.int x :: st) M = sw_ex E k (pc + 1) ls (.int (x.toUInt32 % 65536).toInt32 :: st) M := sx_go h rfl
theorem sx_dupI (h : sw_cod k pc = some (.dup, t)) : sw_ex E k pc ls (.int x :: st) M = sw_ex E k (pc + 1) ls (.int x :: .int x :: st) M := sx_go h rfl
theorem sx_dupA (h : sw_cod k pc = some (.dup, t)) : sw_ex E k pc ls (.ref r :: st) M = sw_ex E k (pc + 1) ls (.ref r :: .ref r :: st) M := sx_go h rfl
theorem sx_popI (h : sw_cod k pc = some (.pop, t)) : sw_ex E k pc ls (.int x :: st) M = sw_ex E k (pc + 1) ls st M := sx_go h rfl
theorem sx_popA (h : sw_cod k pc = some (.pop, t)) : sw_ex E k pc ls (.ref r :: st) M = sw_ex E k (pc + 1) ls st M := sx_go h rfl
theorem sx_dup2 (h : sw_cod k pc = some (.dup2, t)) : sw_ex E k pc ls (.int x :: .ref r :: st) M = sw_ex E k (pc + 1) ls (.int x :: .ref r :: .int x :: .ref r :: st) M := sx_go h rfl
theorem sx_if_eq (h : sw_cod k pc = some (.ifCond .eq off, t)) (ht : sw_jt pc off = tgt) : sw_ex E k pc ls (.int x :: st) M = if x = 0 then sw_ex E k tgt ls st M else sw_ex E k (pc + 3) ls st M := by subst ht; exact sx_if h rfl
theorem sx_if_ne (h : sw_cod k pc = some (.ifCond .ne off, t)) (ht : sw_jt pc off = tgt) : sw_ex E k pc ls (.int x :: st) M = if x = 0 then sw_ex E k (pc + 3) ls st M else sw_ex E k tgt ls st M := by subst ht; exact sx_if h rfl
theorem sx_if_lt (h : sw_cod k pc = some (.ifCond .lt off, t)) (ht : sw_jt pc off = tgt) : sw_ex E k pc ls (.int x :: st) M = if x < 0 then sw_ex E k tgt ls st M else sw_ex E k (pc + 3) ls st M := by subst ht; exact sx_if h rfl
theorem sx_if_ge (h : sw_cod k pc = some (.ifCond .ge off, t)) (ht : sw_jt pc off = tgt) : sw_ex E k pc ls (.int x :: st) M = if x < 0 then sw_ex E k (pc + 3) ls st M else sw_ex E k tgt ls st M := by subst ht; exact sx_if h rfl
theorem sx_if_gt (h : sw_cod k pc = some (.ifCond .gt off, t)) (ht : sw_jt pc off = tgt) : sw_ex E k pc ls (.int x :: st) M = if 0 < x then sw_ex E k tgt ls st M else sw_ex E k (pc + 3) ls st M := by subst ht; exact sx_if h rfl
theorem sx_if_le (h : sw_cod k pc = some (.ifCond .le off, t)) (ht : sw_jt pc off = tgt) : sw_ex E k pc ls (.int x :: st) M = if 0 < x then sw_ex E k (pc + 3) ls st M else sw_ex E k tgt ls st M := by subst ht; exact sx_if h rfl
theorem sx_ic_eq (h : sw_cod k pc = some (.if_icmp .eq off, t)) (ht : sw_jt pc off = tgt) : sw_ex E k pc ls (.int y :: .int x :: st) M = if x = y then sw_ex E k tgt ls st M else sw_ex E k (pc + 3) ls st M := by subst ht; exact sx_if h rfl
theorem sx_ic_ne (h : sw_cod k pc = some (.if_icmp .ne off, t)) (ht : sw_jt pc off = tgt) : sw_ex E k pc ls (.int y :: .int x :: st) M = if x = y then sw_ex E k (pc + 3) ls st M else sw_ex E k tgt ls st M := by subst ht; exact sx_if h rfl
theorem sx_ic_lt (h : sw_cod k pc = some (.if_icmp .lt off, t)) (ht : sw_jt pc off = tgt) : sw_ex E k pc ls (.int y :: .int x :: st) M = if x < y then sw_ex E k tgt ls st M else sw_ex E k (pc + 3) ls st M := by subst ht; exact sx_if h rfl
theorem sx_ic_ge (h : sw_cod k pc = some (.if_icmp .ge off, t)) (ht : sw_jt pc off = tgt) : sw_ex E k pc ls (.int y :: .int x :: st) M = if x < y then sw_ex E k (pc + 3) ls st M else sw_ex E k tgt ls st M := by subst ht; exact sx_if h rfl
theorem sx_ic_gt (h : sw_cod k pc = some (.if_icmp .gt off, t)) (ht : sw_jt pc off = tgt) : sw_ex E k pc ls (.int y :: .int x :: st) M = if y < x then sw_ex E k tgt ls st M else sw_ex E k (pc + 3) ls st M := by subst ht; exact sx_if h rfl
theorem sx_ic_le (h : sw_cod k pc = some (.if_icmp .le off, t)) (ht : sw_jt pc off = tgt) : sw_ex E k pc ls (.int y :: .int x :: st) M = if y < x then sw_ex E k (pc + 3) ls st M else sw_ex E k tgt ls st M := by subst ht; exact sx_if h rfl
theorem sx_ifnullN (h : sw_cod k pc = some (.ifnull off, t)) (ht : sw_jt pc off = tgt) : sw_ex E k pc ls (.null :: st) M = sw_ex E k tgt ls st M := by subst ht; exact sx_go h rfl
theorem sx_ifnullR (h : sw_cod k pc = some (.ifnull off, t)) : sw_ex E k pc ls (.ref r :: st) M = sw_ex E k (pc + 3) ls st M := sx_go h rfl
theorem sx_ifnonnullN (h : sw_cod k pc = some (.ifnonnull off, t)) : sw_ex E k pc ls (.null :: st) M = sw_ex E k (pc + 3) ls st M := sx_go h rfl
theorem sx_ifnonnullR (h : sw_cod k pc = some (.ifnonnull off, t)) (ht : sw_jt pc off = tgt) : sw_ex E k pc ls (.ref r :: st) M = sw_ex E k tgt ls st M := by subst ht; exact sx_go h rfl
theorem sx_goto (h : sw_cod k pc = some (.goto off, t)) (ht : sw_jt pc off = tgt) : sw_ex E k pc ls st M = sw_ex E k tgt ls st M := by subst ht; exact sx_go h rfl
theorem sx_tsw {d lo hi : Int} {offs : Array Int} (h : sw_cod k pc = some (.tableswitch d lo hi offs, t)) : sw_ex E k pc ls (.int x :: st) M = sw_ex E k (sw_jt pc (sw_tsw x lo offs.toList d)) ls st M := sx_go h rfl
theorem sx_tc {lo o d : Int} {os : List Int} {R : Option sw_R} (hv : Int32.ofInt lo = v) (ht : sw_jt pc o = tgt) (hr : sw_ex E k (sw_jt pc (sw_tsw x (lo + 1) os d)) ls st M = R) : sw_ex E k (sw_jt pc (sw_tsw x lo (o :: os) d)) ls st M = if x = v then sw_ex E k tgt ls st M else R := by
  subst hv; subst ht; subst hr
  have e : sw_tsw x lo (o :: os) d = if x = Int32.ofInt lo then o else sw_tsw x (lo + 1) os d := rfl
  rw [e]
  split <;> rfl
theorem sx_tn {lo d : Int} (ht : sw_jt pc d = tgt) : sw_ex E k (sw_jt pc (sw_tsw x lo [] d)) ls st M = sw_ex E k tgt ls st M := by subst ht; rfl
theorem sx_lsw {d : Int} {ps : Array (Int × Int)} (h : sw_cod k pc = some (.lookupswitch d ps, t)) : sw_ex E k pc ls (.int x :: st) M = sw_ex E k (sw_jt pc (Op.lookupswitch.offset ps.toList d x.toInt)) ls st M := sx_go h rfl
theorem sx_lc {a o d : Int} {os : List (Int × Int)} {R : Option sw_R} (hv : Int32.ofInt a = v) (ha : (Int32.ofInt a).toInt = a) (ht : sw_jt pc o = tgt) (hr : sw_ex E k (sw_jt pc (Op.lookupswitch.offset os d x.toInt)) ls st M = R) : sw_ex E k (sw_jt pc (Op.lookupswitch.offset ((a, o) :: os) d x.toInt)) ls st M = if x = v then sw_ex E k tgt ls st M else R := by
  subst hv; subst ht; subst hr
  rw [Op.lookupswitch.offset_cons]
  have hx : x.toInt = a ↔ x = Int32.ofInt a := ⟨fun h => by rw [← h, Int32.ofInt_toInt], fun h => by rw [h, ha]⟩
  by_cases hc : x = Int32.ofInt a
  · rw [if_pos hc, if_pos (by first | exact hx.mpr hc | exact (hx.mpr hc).symm | (rw [hx.mpr hc]; simp))]
  · rw [if_neg hc, if_neg (by first | exact fun h => hc (hx.mp h) | exact fun h => hc (hx.mp h.symm) | (intro h; exact hc (hx.mp (by simpa using h))))]
theorem sx_ln {d : Int} (ht : sw_jt pc d = tgt) : sw_ex E k (sw_jt pc (Op.lookupswitch.offset [] d x.toInt)) ls st M = sw_ex E k tgt ls st M := by subst ht; rfl
variable {a1 a2 ci j w : Nat} {vv : Value}
theorem sx_getfield (h : sw_cod k pc = some (.getfield a1, a2, ci, j, vv, w)) : sw_ex E k pc ls (.ref r :: st) M = sw_xv E k (pc + 3) ls st M (sw_gF E M r ci j) := sx_gv h rfl
theorem sx_putfield {q : Value} (h : sw_cod k pc = some (.putfield a1, a2, ci, j, vv, w)) : sw_ex E k pc ls (q :: .ref r :: st) M = sw_xm E k (pc + 3) ls st (sw_pF M r ci j q) := sx_gm h rfl
theorem sx_getstatic (h : sw_cod k pc = some (.getstatic a1, a2, ci, j, vv, w)) : sw_ex E k pc ls st M = sw_xv E k (pc + 3) ls st M (sw_st E ci) := sx_gv h rfl
theorem sx_iaload (h : sw_cod k pc = some (.iaload, t)) : sw_ex E k pc ls (.int x :: .ref r :: st) M = sw_xv E k (pc + 1) ls st M (sw_aI E M r x) := sx_gv h rfl
theorem sx_laload (h : sw_cod k pc = some (.laload, t)) : sw_ex E k pc ls (.int x :: .ref r :: st) M = sw_xv E k (pc + 1) ls st M (sw_aL M r x) := sx_gv h rfl
theorem sx_baload (h : sw_cod k pc = some (.baload, t)) : sw_ex E k pc ls (.int x :: .ref r :: st) M = sw_xv E k (pc + 1) ls st M (sw_aB E M r x) := sx_gv h rfl
theorem sx_aaload (h : sw_cod k pc = some (.aaload, t)) : sw_ex E k pc ls (.int x :: .ref r :: st) M = sw_xv E k (pc + 1) ls st M (sw_aA M r x) := sx_gv h rfl
theorem sx_arraylength (h : sw_cod k pc = some (.arraylength, t)) : sw_ex E k pc ls (.ref r :: st) M = sw_xv E k (pc + 1) ls st M (sw_ln E M r) := sx_gv h rfl
theorem sx_iastore (h : sw_cod k pc = some (.iastore, t)) : sw_ex E k pc ls (.int y :: .int x :: .ref r :: st) M = sw_xm E k (pc + 1) ls st (sw_sI M r x y) := sx_gm h rfl
theorem sx_lastore (h : sw_cod k pc = some (.lastore, t)) : sw_ex E k pc ls (.long u :: .int x :: .ref r :: st) M = sw_xm E k (pc + 1) ls st (sw_sL M r x u) := sx_gm h rfl
theorem sx_bastore (h : sw_cod k pc = some (.bastore, t)) : sw_ex E k pc ls (.int y :: .int x :: .ref r :: st) M = sw_xm E k (pc + 1) ls st (sw_sB M r x y) := sx_gm h rfl
theorem sx_aastore (h : sw_cod k pc = some (.aastore, t)) {q : Nat} : sw_ex E k pc ls (.ref q :: .int x :: .ref r :: st) M = sw_xm E k (pc + 1) ls st (sw_sA M r x q) := sx_gm h rfl
theorem sx_acopy (h : sw_cod k pc = some (.invokestatic a1, a2, ci, 3, vv, w)) {q : Nat} (hc : Nat.ble (sw_cat st) 8 = true) : sw_ex E k pc ls (.int v :: .int y :: .ref q :: .int x :: .ref r :: st) M = sw_xm E k (pc + 3) ls st (sw_cp M r x q y v) := sx_gm h (if_pos (Nat.le_of_ble_eq_true hc))
theorem sx_mmax (h : sw_cod k pc = some (.invokestatic a1, a2, ci, 4, vv, w)) (hc : Nat.ble (sw_cat st) 8 = true) : sw_ex E k pc ls (.int y :: .int x :: st) M = sw_ex E k (pc + 3) ls (.int (if x < y then y else x) :: st) M := sx_go h (if_pos (Nat.le_of_ble_eq_true hc))
theorem sx_mmin (h : sw_cod k pc = some (.invokestatic a1, a2, ci, 5, vv, w)) (hc : Nat.ble (sw_cat st) 8 = true) : sw_ex E k pc ls (.int y :: .int x :: st) M = sw_ex E k (pc + 3) ls (.int (if y < x then y else x) :: st) M := sx_go h (if_pos (Nat.le_of_ble_eq_true hc))
theorem sx_objInit (h : sw_cod k pc = some (.invokespecial a1, a2, ci, 2, vv, w)) (hc : Nat.ble (sw_cat st) 8 = true) : sw_ex E k pc ls (.ref r :: st) M = sw_ex E k (pc + 3) ls st M := sx_go h (if_pos (Nat.le_of_ble_eq_true hc))
theorem sx_newarrI (h : sw_cod k pc = some (.newarray .int, t)) {a b : Nat} (ha : sw_mc k = a) (hb : sw_ms k = b) : sw_ex E k pc ls (.int x :: st) M = if ¬ x < 0 ∧ x.toNatClampNeg ≤ 10000 ∧ M.1 + 1 ≤ a ∧ M.2.1 + x.toNatClampNeg ≤ b ∧ M.2.2.1 < 999 then sw_ex E k (pc + 2) ls (.ref M.2.2.1 :: st) (M.1 + 1, M.2.1 + x.toNatClampNeg, M.2.2.1 + 1, sw_up M.2.2.2 M.2.2.1 (.inl (.int, x.toNatClampNeg, .inl (fun _ => 0)))) else none := by
  subst ha; subst hb
  by_cases hc : ¬ x < 0 ∧ x.toNatClampNeg ≤ 10000 ∧ M.1 + 1 ≤ sw_mc k ∧ M.2.1 + x.toNatClampNeg ≤ sw_ms k ∧ M.2.2.1 < 999
  · rw [if_pos hc]; exact sx_go h (if_pos hc)
  · rw [if_neg hc]; exact sx_none h (if_neg hc)
theorem sx_newarrZ (h : sw_cod k pc = some (.newarray .boolean, t)) {a b : Nat} (ha : sw_mc k = a) (hb : sw_ms k = b) : sw_ex E k pc ls (.int x :: st) M = if ¬ x < 0 ∧ x.toNatClampNeg ≤ 10000 ∧ M.1 + 1 ≤ a ∧ M.2.1 + x.toNatClampNeg ≤ b ∧ M.2.2.1 < 999 then sw_ex E k (pc + 2) ls (.ref M.2.2.1 :: st) (M.1 + 1, M.2.1 + x.toNatClampNeg, M.2.2.1 + 1, sw_up M.2.2.2 M.2.2.1 (.inl (.boolean, x.toNatClampNeg, .inl (fun _ => 0)))) else none := by
  subst ha; subst hb
  by_cases hc : ¬ x < 0 ∧ x.toNatClampNeg ≤ 10000 ∧ M.1 + 1 ≤ sw_mc k ∧ M.2.1 + x.toNatClampNeg ≤ sw_ms k ∧ M.2.2.1 < 999
  · rw [if_pos hc]; exact sx_go h (if_pos hc)
  · rw [if_neg hc]; exact sx_none h (if_neg hc)
theorem sx_newarrL (h : sw_cod k pc = some (.newarray .long, t)) {a b : Nat} (ha : sw_mc k = a) (hb : sw_ms k = b) : sw_ex E k pc ls (.int x :: st) M = if ¬ x < 0 ∧ x.toNatClampNeg ≤ 10000 ∧ M.1 + 1 ≤ a ∧ M.2.1 + x.toNatClampNeg ≤ b ∧ M.2.2.1 < 999 then sw_ex E k (pc + 2) ls (.ref M.2.2.1 :: st) (M.1 + 1, M.2.1 + x.toNatClampNeg, M.2.2.1 + 1, sw_up M.2.2.2 M.2.2.1 (.inl (.long, x.toNatClampNeg, .inr (.inl (fun _ => 0))))) else none := by
  subst ha; subst hb
  by_cases hc : ¬ x < 0 ∧ x.toNatClampNeg ≤ 10000 ∧ M.1 + 1 ≤ sw_mc k ∧ M.2.1 + x.toNatClampNeg ≤ sw_ms k ∧ M.2.2.1 < 999
  · rw [if_pos hc]; exact sx_go h (if_pos hc)
  · rw [if_neg hc]; exact sx_none h (if_neg hc)
theorem sx_anewarr (h : sw_cod k pc = some (.anewarray a1, a2, 3, j, vv, w)) {a b : Nat} (ha : sw_mc k = a) (hb : sw_ms k = b) : sw_ex E k pc ls (.int x :: st) M = if ¬ x < 0 ∧ x.toNatClampNeg ≤ 10000 ∧ M.1 + 1 ≤ a ∧ M.2.1 + x.toNatClampNeg ≤ b ∧ M.2.2.1 < 999 then sw_ex E k (pc + 3) ls (.ref M.2.2.1 :: st) (M.1 + 1, M.2.1 + x.toNatClampNeg, M.2.2.1 + 1, sw_up M.2.2.2 M.2.2.1 (.inl (.object RX3, x.toNatClampNeg, .inr (.inr (.inr (.inr (fun _ => none))))))) else none := by
  subst ha; subst hb
  by_cases hc : ¬ x < 0 ∧ x.toNatClampNeg ≤ 10000 ∧ M.1 + 1 ≤ sw_mc k ∧ M.2.1 + x.toNatClampNeg ≤ sw_ms k ∧ M.2.2.1 < 999
  · rw [if_pos hc]; exact sx_go h (if_pos ⟨hc.1, hc.2.1, hc.2.2.1, hc.2.2.2.1, hc.2.2.2.2, rfl⟩)
  · rw [if_neg hc]; exact sx_none h (if_neg (fun g => hc ⟨g.1, g.2.1, g.2.2.1, g.2.2.2.1, g.2.2.2.2.1⟩))
theorem sx_lreturn (h : sw_cod k pc = some (.lreturn, t)) : sw_ex E k pc ls [.long u] M = some (some (.long u), M) := sx_end h rfl
theorem sx_areturnR (h : sw_cod k pc = some (.areturn, t)) : sw_ex E k pc ls [.ref r] M = some (some (.ref r), M) := sx_end h rfl
theorem sx_areturnN (h : sw_cod k pc = some (.areturn, t)) : sw_ex E k pc ls [.null] M = some (some .null, M) := sx_end h rfl
theorem sx_return (h : sw_cod k pc = some (.return_, t)) : sw_ex E k pc ls [] M = some (none, M) := sx_end h rfl
end SY
