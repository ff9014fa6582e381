/-! ===== the words; the checks of an entry ===== -/
def sw_G : List Cond := lw_tbl.filter goodWord
def sw_wd (i : Nat) (w : Cond) : Bool := goodWord w && decide (lw_tbl[i]? = some w)
theorem sw_wd_in {i : Nat} {w : Cond} (h : sw_wd i w = true) : w ∈ sw_G := by
  simp only [sw_wd, Bool.and_eq_true, decide_eq_true_eq] at h
  exact List.mem_filter.mpr ⟨List.mem_of_getElem? h.2, h.1⟩
def sw_stn (a : Nat) : String × String × String := match a with
  | 0 => ("SpoonWords", "UNDER", "[I")
  | 1 => ("java/lang/String", "COMPACT_STRINGS", "Z")
  | _ => ("jdk/internal/util/Preconditions", "SIOOBE_FORMATTER", "Ljava/util/function/BiFunction;")
/-- the field j of the class number ci: declaring class, name, descriptor, final -/
def sw_fn (ci j : Nat) : String × String × String × Bool := match vwCl[ci]? with
  | some q => q.2.1 j
  | none => if j = 0 then ("java/lang/String", "value", "[B", true) else ("java/lang/String", "coder", "B", true)
def sw_il (q : sw_N) : Nat := match q.1 with
  | .bipush _ | .ldc _ | .iload _ | .lload _ | .aload _ | .istore _ | .lstore _ | .astore _ | .newarray _ => 2
  | .sipush _ | .ldc_w _ | .ldc2_w _ | .iinc _ _ | .ifCond _ _ | .if_icmp _ _ | .ifnull _ | .ifnonnull _ | .goto _ | .getfield _ | .putfield _ | .getstatic _ | .new _ | .anewarray _ | .invokestatic _ | .invokespecial _ | .invokevirtual _ => 3
  | .tableswitch _ _ _ _ | .lookupswitch _ _ => q.2.1
  | _ => 1
def sw_objI : MethodName := ⟨"java/lang/Object", "<init>", "()V"⟩
/-- a call: the link's word, in one of its two forms, and the room -/
def sw_clk (k idx j b w : Nat) : Bool := decide (j < sw_law) && (if b = 0 then sw_wd w (.methodLink (sw_my k).cls idx (sw_my j)) else decide (lw_tbl[w]? = some (.methodLinkNest (sw_my k).cls idx (sw_my j) "SpoonWords"))) &&
  decide (sw_mf j + 1 ≤ sw_mf k) && decide (8 + (sw_mx j + 11) + sw_ml j ≤ sw_ml k)
def sw_chi (k pc : Nat) (q : sw_N) : Bool := match q.1 with
  | .getfield idx => sw_wd q.2.2.2.2.2 (.fieldLink (sw_my k).cls idx (sw_fn q.2.2.1 q.2.2.2.1).1 (sw_fn q.2.2.1 q.2.2.2.1).2.1 (sw_fn q.2.2.1 q.2.2.2.1).2.2.1) && (decide (q.2.2.1 < 9 ∧ q.2.2.2.1 < sw_nf q.2.2.1) || decide (q.2.2.1 = 9 ∧ q.2.2.2.1 < 2))
  | .putfield idx => sw_wd q.2.2.2.2.2 (.fieldLink (sw_my k).cls idx (sw_fn q.2.2.1 q.2.2.2.1).1 (sw_fn q.2.2.1 q.2.2.2.1).2.1 (sw_fn q.2.2.1 q.2.2.2.1).2.2.1) && decide (q.2.2.1 < 9 ∧ q.2.2.2.1 < sw_nf q.2.2.1) && (!(sw_fn q.2.2.1 q.2.2.2.1).2.2.2 || (decide ((sw_my k).name = "<init>") && decide ((sw_fn q.2.2.1 q.2.2.2.1).1 = (sw_my k).cls)))
  | .getstatic idx => decide (q.2.2.1 < 3) && sw_wd q.2.2.2.2.2 (.fieldLink (sw_my k).cls idx (sw_stn q.2.2.1).1 (sw_stn q.2.2.1).2.1 (sw_stn q.2.2.1).2.2)
  | .ldc idx => if q.2.2.1 = 0 then (match q.2.2.2.2.1 with | .int x => sw_wd q.2.2.2.2.2 (.constant (sw_my k).cls idx x) | _ => false) else (match sw_town[q.2.2.2.1]? with | some t => decide (t.1 = (sw_my k).cls ∧ t.2.1 = idx ∧ q.2.2.2.2.1 = .ref (1010 + q.2.2.2.1)) | none => false)
  | .ldc_w idx => if q.2.2.1 = 0 then (match q.2.2.2.2.1 with | .int x => sw_wd q.2.2.2.2.2 (.constant (sw_my k).cls idx x) | _ => false) else (match sw_town[q.2.2.2.1]? with | some t => decide (t.1 = (sw_my k).cls ∧ t.2.1 = idx ∧ q.2.2.2.2.1 = .ref (1010 + q.2.2.2.1)) | none => false)
  | .ldc2_w idx => (match q.2.2.2.2.1 with | .long x => sw_wd q.2.2.2.2.2 (.constantLong (sw_my k).cls idx x) | _ => false)
  | .ifCond _ off => decide (0 ≤ (pc : Int) + off)
  | .if_icmp _ off => decide (0 ≤ (pc : Int) + off)
  | .ifnull off => decide (0 ≤ (pc : Int) + off)
  | .ifnonnull off => decide (0 ≤ (pc : Int) + off)
  | .goto off => decide (0 ≤ (pc : Int) + off)
  | .tableswitch d lo hi offs => decide (0 ≤ (pc : Int) + d) && offs.toList.all (fun o => decide (0 ≤ (pc : Int) + o)) && decide (hi + 1 = lo + offs.size) && decide (0 ≤ lo) && decide (hi < 100000)
  | .lookupswitch d ps => decide (0 ≤ (pc : Int) + d) && ps.toList.all (fun o => decide (0 ≤ (pc : Int) + o.2)) && (ps.toList.zip (ps.toList.drop 1)).all (fun (a, next) => a.1 < next.1)
  | .new idx => decide (q.2.2.1 < 9) && (match vwCl[q.2.2.1]? with | some t => sw_wd q.2.2.2.2.2 (.classLink (sw_my k).cls idx t.1) | none => false)
  | .anewarray idx => sw_wd q.2.2.2.2.2 (.classLink (sw_my k).cls idx RX3)
  | .invokestatic idx => if q.2.2.2.1 = 3 then sw_wd q.2.2.2.2.2 (.methodLink (sw_my k).cls idx arraycopyName) && decide (1 ≤ sw_mf k) && decide (8 + (nativeFrameWords "java/lang/System" "arraycopy" 5 + 11) ≤ sw_ml k) else if q.2.2.2.1 = 4 then sw_wd q.2.2.2.2.2 (.methodLink (sw_my k).cls idx Lib.Math.max.name) && decide (1 ≤ sw_mf k) && decide (21 ≤ sw_ml k) else if q.2.2.2.1 = 5 then sw_wd q.2.2.2.2.2 (.methodLink (sw_my k).cls idx Lib.Math.min.name) && decide (1 ≤ sw_mf k) && decide (21 ≤ sw_ml k) else sw_clk k idx q.2.2.1 q.2.2.2.1 q.2.2.2.2.2 && decide (sw_mk q.2.2.1 = 0)
  | .invokespecial idx => if q.2.2.2.1 = 2 then sw_wd q.2.2.2.2.2 (.methodLink (sw_my k).cls idx sw_objI) && decide (1 ≤ sw_mf k) && decide (20 ≤ sw_ml k) else sw_clk k idx q.2.2.1 q.2.2.2.1 q.2.2.2.2.2 && decide (sw_mk q.2.2.1 = 2) && decide (1 ≤ sw_ma q.2.2.1)
  | .invokevirtual idx => sw_clk k idx q.2.2.1 q.2.2.2.1 q.2.2.2.2.2 && decide (sw_mk q.2.2.1 = 1) && decide (1 ≤ sw_ma q.2.2.1)
  | .lreturn => decide (sw_mr k = some .long)
  | .areturn => (match sw_mr k with | some (.object _) => true | some (.array _) => true | _ => false)
  | .return_ => decide (sw_mr k = none)
  | _ => true
def sw_chk (k pc : Nat) (q : sw_N) : Bool := decide (decode (sw_mb k) pc = .ok (q.1, sw_il q)) && sw_chi k pc q
/-- what is asked of every method but the law -/
def sw_mchk (j : Nat) : Bool := decide (sw_hn[sw_mh j]? = some (sw_my j).cls) &&
  decide ((parseMethodDescriptor (sw_my j).desc).map (fun d => d.parameters.length) = some (sw_ma j - (if sw_mk j = 0 then 0 else 1))) &&
  sw_wd (sw_mw j).1 (.code (sw_my j) (sw_mb j) (sw_mx j) (sw_mr j)) && sw_wd (sw_mw j).2.2.2 (.initialized (sw_my j).cls) &&
  (if sw_mk j = 0 then sw_wd (sw_mw j).2.1 (.static (sw_my j)) else sw_wd (sw_mw j).2.1 (.instanceMethod (sw_my j))) &&
  (if sw_mk j = 1 then sw_wd (sw_mw j).2.2.1 (.selects (sw_my j).cls (sw_my j) (sw_my j)) && decide (sw_mh j < 10) else true) &&
  (if sw_mk j = 2 then decide ((sw_my j).name = "<init>" ∧ sw_mr j = none) else true)
/-! ===== the concrete picture ===== -/
def sw_cV (ad : Nat → Nat) : Value → Value
  | .ref i => .ref (ad i)
  | v => v
def sw_cA (ad : Nat → Nat) (a : (Nat → Int32) ⊕ (Nat → Int64) ⊕ (Nat → UInt32) ⊕ (Nat → UInt64) ⊕ (Nat → Option Nat)) : (Nat → Int32) ⊕ (Nat → Int64) ⊕ (Nat → UInt32) ⊕ (Nat → UInt64) ⊕ (Nat → Option Nat) := match a with
  | .inr (.inr (.inr (.inr f))) => .inr (.inr (.inr (.inr (fun j => (f j).map ad))))
  | a => a
def sw_cE (ad : Nat → Nat) (dA : FieldType → ClassId) : sw_AC → va_E
  | .inl (ty, n, a) => .inl (dA ty, n, sw_cA ad a)
  | .inr (c, fs) => .inr (c, fs.map (sw_cV ad))
def sw_wl (ba : Nat) (ad : Nat → Nat) (dA : FieldType → ClassId) (n : Nat) (f : Nat → sw_AC) : va_W := (List.range n).map (fun i => (ba + i, sw_cE ad dA (f i)))
def sw_tys (dA : FieldType → ClassId) : List (ClassId × FieldType) := [(dA .int, .int), (dA .long, .long), (dA .boolean, .boolean), (dA (.object RX3), .object RX3)]
def sw_A (ba : Nat) : Nat → Prop := fun q => ba ≤ q
theorem sw_wl_at {ba : Nat} {ad : Nat → Nat} {dA : FieldType → ClassId} {n : Nat} {f : Nat → sw_AC} {r : Nat} (h : r < n) : (sw_wl ba ad dA n f)[r]? = some (ba + r, sw_cE ad dA (f r)) := by
  simp [sw_wl, h]
theorem sw_wl_of {ba : Nat} {ad : Nat → Nat} {dA : FieldType → ClassId} {n : Nat} {f : Nat → sw_AC} {r : Nat} {q : Nat × va_E} (h : (sw_wl ba ad dA n f)[r]? = some q) : r < n ∧ q = (ba + r, sw_cE ad dA (f r)) := by
  have hl : r < n := by
    have := (List.getElem?_eq_some_iff.mp h).1
    simpa [sw_wl] using this
  rw [sw_wl_at hl] at h
  exact ⟨hl, (Option.some.inj h).symm⟩
theorem sw_wl_set {ba : Nat} {ad : Nat → Nat} {dA : FieldType → ClassId} {n : Nat} {f : Nat → sw_AC} {r : Nat} {c : sw_AC} (h : r < n) : (sw_wl ba ad dA n f).set r (ba + r, sw_cE ad dA c) = sw_wl ba ad dA n (sw_up f r c) := by
  apply List.ext_getElem?
  intro i
  by_cases hi : i = r
  · subst hi
    rw [List.getElem?_set_self (by simpa [sw_wl] using h), sw_wl_at h]
    simp [sw_up]
  · rw [List.getElem?_set_ne (Ne.symm hi)]
    by_cases hn : i < n
    · rw [sw_wl_at hn, sw_wl_at hn]
      simp [sw_up, hi]
    · simp [sw_wl, hn]
theorem sw_wl_D {ba : Nat} {ad : Nat → Nat} {dA : FieldType → ClassId} {n : Nat} {f : Nat → sw_AC} : va_D (sw_A ba) (sw_wl ba ad dA n f) := by
  refine ⟨fun i j x y hi hj hxy => ?_, fun k q hk => ?_⟩
  · obtain ⟨-, rfl⟩ := sw_wl_of hi
    obtain ⟨-, rfl⟩ := sw_wl_of hj
    have hxy : ba + i = ba + j := hxy
    omega
  · obtain ⟨-, rfl⟩ := sw_wl_of hk
    exact Nat.le_add_right _ _
/-- the heap holds the cells -/
def sw_Hp (ba : Nat) (ad : Nat → Nat) (dC : Nat → ClassId) (dI : Nat → Nat → Nat) (dA : FieldType → ClassId) (n : Nat) (f : Nat → sw_AC) (H : Heap) : Prop :=
  H.size = ba + n ∧ n ≤ 999 ∧ va_P (dC, dI) vwCl (sw_wl ba ad dA n f) H
/-- what is only read -/
def sw_Wd (E : sw_E) (ba : Nat) (ad : Nat → Nat) (dC : Nat → ClassId) (dI : Nat → Nat → Nat) (dA : FieldType → ClassId) (U : State) (H : Heap) : Prop :=
  va_K (dC, dI) vwCl (sw_tys dA) U ∧ (∀ (a : String) (i : Nat) (x : MethodName) (h : String), Cond.methodLinkNest a i x h ∈ lw_tbl → va_Nw (.methodLinkNest a i x h) U) ∧ va_AO RX3 U ∧
  (va_X (ad 1000) E.1 E.2.1 U H ∧ ad 1000 < ba) ∧ (va_Z "SpoonWords" "UNDER" "[I" (.ref (ad 1001)) (sw_A ba) U H ∧ va_T .int (ad 1001) 6 (fun j => .int (sw_under.getD j 0)) (sw_A ba) U H) ∧
  va_Z "java/lang/String" "COMPACT_STRINGS" "Z" (.int 1) (sw_A ba) U H ∧ va_Z "jdk/internal/util/Preconditions" "SIOOBE_FORMATTER" "Ljava/util/function/BiFunction;" (sw_cV ad E.2.2) (sw_A ba) U H ∧
  vk_S 10 sw_tlen sw_tbyt (fun i => ad (1010 + i)) (fun i => ad (1030 + i)) (sw_A ba) U H ∧ (∀ (i : Nat) (q : String × Nat × String), sw_town[i]? = some q → vk_R q.1 q.2.1 q.2.2 (ad (1010 + i)) U) ∧ (∀ i, i < 1000 → ad i = ba + i) ∧ (E.2.2 = .null ∨ ∃ a, E.2.2 = .ref a)
section SWW
variable {E : sw_E} {ba : Nat} {ad : Nat → Nat} {dC : Nat → ClassId} {dI : Nat → Nat → Nat} {dA : FieldType → ClassId}
theorem sw_Wd.kept {U : State} {H H1 : Heap} (h : sw_Wd E ba ad dC dI dA U H) (hq : ∀ a : Nat, a < H.size → ¬ sw_A ba a → H1[a]? = H[a]?) : sw_Wd E ba ad dC dI dA U H1 := by
  obtain ⟨h1, h2, h3, ⟨h4, h4'⟩, ⟨h5, h5'⟩, h6, h7, h8, h9, h10⟩ := h
  have hb : H1[ad 1000]? = H[ad 1000]? := by
    obtain ⟨scr, g, -⟩ := h4
    exact hq _ (Array.getElem?_eq_some_iff.mp g).1 (Nat.not_le.mpr h4')
  exact ⟨h1, h2, h3, ⟨h4.kept hb, h4'⟩, ⟨h5.kept hq, h5'.kept hq⟩, h6.kept hq, h7.kept hq, h8.kept hq, h9, h10⟩
theorem sw_Wd.warm {s U : State} {H : Heap} (hW : s.WarmedH U.vm) (h : sw_Wd E ba ad dC dI dA s H) : sw_Wd E ba ad dC dI dA U H := by
  obtain ⟨h1, h2, h3, ⟨h4, h4'⟩, ⟨h5, h5'⟩, h6, h7, h8, h9, h10⟩ := h
  have ha := hW.alike
  exact ⟨h1.moved ha, fun a i x k hk => (h2 a i x k hk).warmM hW, h3.moved ha, ⟨h4.moved ha, h4'⟩, ⟨h5.moved ha, h5'.moved ha⟩, h6.moved ha, h7.moved ha, h8.moved ha, fun i q hq => (h9 i q hq).warm hW, h10⟩
theorem sw_Wd.same {u U : State} {H : Heap} (hv : U.vm = u.vm) (h : sw_Wd E ba ad dC dI dA u H) : sw_Wd E ba ad dC dI dA U H := by
  obtain ⟨h1, h2, h3, ⟨h4, h4'⟩, ⟨h5, h5'⟩, h6, h7, h8, h9, h10⟩ := h
  have ha : u.vm.Alike U.vm := by rw [hv]; exact Vm.Alike.refl _
  exact ⟨h1.moved ha, fun a i x k hk => (h2 a i x k hk).same rfl hv.symm, h3.moved ha, ⟨h4.moved ha, h4'⟩, ⟨h5.moved ha, h5'.moved ha⟩, h6.moved ha, h7.moved ha, h8.moved ha, fun i q hq => (h9 i q hq).same hv, h10⟩
end SWW
/-! ===== a method's own variables ===== -/
def sw_en (ad : Nat → Nat) : Nat → List Value → List (Nat × Value)
  | _, [] => []
  | i, v :: vs => if sw_isJ v = true then sw_en ad (i + 1) vs else (i, sw_cV ad v) :: sw_en ad (i + 1) vs
def sw_Ls (ad : Nat → Nat) (arr : Array Slot) (nL : Nat) (ls : List Value) : Prop := lv_has arr nL (sw_en ad 0 ls) ∧ ls.length = nL
theorem sw_cV_cat (ad : Nat → Nat) (v : Value) : (sw_cV ad v).category = v.category := by cases v <;> rfl
theorem sw_en_in {ad : Nat → Nat} : ∀ (ls : List Value) (b : Nat) (q : Nat × Value), q ∈ sw_en ad b ls ↔ ∃ j v, ls[j]? = some v ∧ sw_isJ v = false ∧ q = (b + j, sw_cV ad v)
  | [], b, q => by simp [sw_en]
  | v :: vs, b, q => by
    unfold sw_en
    constructor
    · intro h
      by_cases hv : sw_isJ v = true
      · rw [if_pos hv] at h
        obtain ⟨j, w, h1, h2, h3⟩ := (sw_en_in vs (b + 1) q).mp h
        exact ⟨j + 1, w, by simpa using h1, h2, by rw [h3]; simp; omega⟩
      · rw [if_neg hv] at h
        rcases List.mem_cons.mp h with h | h
        · exact ⟨0, v, rfl, by simpa using hv, by simpa using h⟩
        · obtain ⟨j, w, h1, h2, h3⟩ := (sw_en_in vs (b + 1) q).mp h
          exact ⟨j + 1, w, by simpa using h1, h2, by rw [h3]; simp; omega⟩
    · rintro ⟨j, w, h1, h2, h3⟩
      cases j with
      | zero =>
        simp only [List.getElem?_cons_zero, Option.some.injEq] at h1
        subst h1
        rw [if_neg (by simp [h2])]
        exact List.mem_cons.mpr (Or.inl (by simpa using h3))
      | succ j =>
        rw [List.getElem?_cons_succ] at h1
        have h4 : q ∈ sw_en ad (b + 1) vs := (sw_en_in vs (b + 1) q).mpr ⟨j, w, h1, h2, by rw [h3]; simp; omega⟩
        split
        · exact h4
        · exact List.mem_cons_of_mem _ h4
theorem sw_Ls.get {ad : Nat → Nat} {arr : Array Slot} {nL : Nat} {ls : List Value} (h : sw_Ls ad arr nL ls) {i : Nat} {v : Value} (hi : ls[i]? = some v) (hv : sw_isJ v = false) : arr[i]? = some (.val (sw_cV ad v)) :=
  h.1.2.2 (i, sw_cV ad v) ((sw_en_in ls 0 _).mpr ⟨i, v, hi, hv, by simp⟩)
def sw_nlI (k : Nat) (ls : List Value) : Prop := sw_mn k = true → ∀ v ∈ ls, v.category = 1
theorem sw_s1_nl {k : Nat} {ls ls2 : List Value} {i : Nat} {v : Value} (h : sw_s1 k ls i v = some ls2) (hv : v.category = 1) (hN : sw_nlI k ls) : sw_nlI k ls2 := by
  intro hk
  unfold sw_s1 at h
  split at h
  · (try rw [if_pos hk] at h)
    cases h
    intro w hw
    rcases List.mem_or_eq_of_mem_set hw with h1 | h1
    · exact hN hk w h1
    · rw [h1]; exact hv
  · cases h
theorem sw_s1_is {k : Nat} {ls ls2 : List Value} {i : Nat} {v : Value} (h : sw_s1 k ls i v = some ls2) (hN : sw_nlI k ls) : i < ls.length ∧ ls2 = ls.set i v ∧ ∀ (j : Nat) (w : Value), j + 1 = i → ls[j]? = some w → ¬ w.category = 2 := by
  unfold sw_s1 at h
  split at h
  · next hl =>
    split at h
    · next hk =>
      cases h
      refine ⟨hl, rfl, fun j w _ hw => ?_⟩
      rw [hN hk w (List.mem_of_getElem? hw)]
      decide
    · split at h
      · cases h
        exact ⟨hl, rfl, fun j w hj => by omega⟩
      · next j0 =>
        split at h
        · next w0 hw0 =>
          split at h
          · cases h
          · next hc =>
            cases h
            refine ⟨hl, rfl, fun j w hj hw => ?_⟩
            have : j = j0 := by omega
            subst this
            rw [hw0] at hw
            cases hw
            exact hc
        · cases h
  · cases h
theorem sw_Ls.set1 {ad : Nat → Nat} {arr arr' : Array Slot} {nL k : Nat} {ls ls2 : List Value} {i : Nat} {v : Value} {L : List (Nat × Value)} (h : sw_Ls ad arr nL ls) (hs : sw_s1 k ls i v = some ls2) (hN : sw_nlI k ls) (hL : lv_has arr' nL L)
    (hsub : ∀ q ∈ (i, sw_cV ad v) :: (sw_en ad 0 ls).filter (fun q => !(q.1 == i) && !(q.1 + 1 == i && q.2.category == 2)), q ∈ L) : sw_Ls ad arr' nL ls2 := by
  obtain ⟨h1, rfl, h3⟩ := sw_s1_is hs hN
  refine ⟨⟨hL.1, hL.2.1, fun q hq => hL.2.2 q (hsub q ?_)⟩, by rw [List.length_set]; exact h.2⟩
  obtain ⟨j, w, g1, g2, g3⟩ := (sw_en_in _ _ _).mp hq
  by_cases hj : j = i
  · subst hj
    rw [List.getElem?_set_self h1] at g1
    cases g1
    rw [g3]
    simp
  · rw [List.getElem?_set_ne (Ne.symm hj)] at g1
    refine List.mem_cons_of_mem _ (List.mem_filter.mpr ⟨(sw_en_in _ _ _).mpr ⟨j, w, g1, g2, g3⟩, ?_⟩)
    rw [g3]
    simp only [Nat.zero_add, sw_cV_cat, Bool.and_eq_true, Bool.not_eq_true', beq_eq_false_iff_ne, ne_eq, Bool.and_eq_false_iff]
    refine ⟨hj, ?_⟩
    by_cases hj1 : j + 1 = i
    · exact Or.inr (h3 j w hj1 g1)
    · exact Or.inl hj1
theorem sw_s2_is {k : Nat} {ls ls2 : List Value} {i : Nat} {v : Value} (h : sw_s2 k ls i v = some ls2) : sw_mn k = false ∧ i + 1 < ls.length ∧ ls2 = (ls.set i v).set (i + 1) sw_J ∧ ∀ (j : Nat) (w : Value), j + 1 = i → ls[j]? = some w → ¬ w.category = 2 := by
  unfold sw_s2 at h
  split at h
  · next hl =>
    split at h
    · cases h
      exact ⟨hl.2, hl.1, rfl, fun j w hj => by omega⟩
    · next j0 =>
      split at h
      · next w0 hw0 =>
        split at h
        · cases h
        · next hc =>
          cases h
          refine ⟨hl.2, hl.1, rfl, fun j w hj hw => ?_⟩
          have : j = j0 := by omega
          subst this
          rw [hw0] at hw
          cases hw
          exact hc
      · cases h
  · cases h
theorem sw_Ls.set2 {ad : Nat → Nat} {arr arr' : Array Slot} {nL k : Nat} {ls ls2 : List Value} {i : Nat} {v : Value} (h : sw_Ls ad arr nL ls) (hs : sw_s2 k ls i v = some ls2)
    (hL : lv_has arr' nL ((i, sw_cV ad v) :: (sw_en ad 0 ls).filter (fun q => !(q.1 == i) && (!(q.1 == i + 1) && !(q.1 + 1 == i && q.2.category == 2))))) : sw_Ls ad arr' nL ls2 := by
  obtain ⟨-, h1, rfl, h3⟩ := sw_s2_is hs
  refine ⟨⟨hL.1, hL.2.1, fun q hq => hL.2.2 q ?_⟩, by rw [List.length_set, List.length_set]; exact h.2⟩
  obtain ⟨j, w, g1, g2, g3⟩ := (sw_en_in _ _ _).mp hq
  by_cases hj2 : j = i + 1
  · subst hj2
    rw [List.getElem?_set_self (by rw [List.length_set]; exact h1)] at g1
    cases g1
    cases g2
  · rw [List.getElem?_set_ne (Ne.symm hj2)] at g1
    by_cases hj : j = i
    · subst hj
      rw [List.getElem?_set_self (by omega)] at g1
      cases g1
      rw [g3]
      simp
    · rw [List.getElem?_set_ne (Ne.symm hj)] at g1
      refine List.mem_cons_of_mem _ (List.mem_filter.mpr ⟨(sw_en_in _ _ _).mpr ⟨j, w, g1, g2, g3⟩, ?_⟩)
      rw [g3]
      simp only [Nat.zero_add, sw_cV_cat, Bool.and_eq_true, Bool.not_eq_true', beq_eq_false_iff_ne, ne_eq, Bool.and_eq_false_iff]
      refine ⟨hj, hj2, ?_⟩
      by_cases hj1 : j + 1 = i
      · exact Or.inr (h3 j w hj1 g1)
      · exact Or.inl hj1
/-- at the entry -/
theorem sw_eA_in {ad : Nat → Nat} : ∀ (av : List Value) (b j : Nat) (v : Value), (sw_eA av)[j]? = some v → sw_isJ v = false → (b + j, sw_cV ad v) ∈ lv_args b (av.map (sw_cV ad))
  | [], b, j, v, h, _ => by simp [sw_eA] at h
  | w :: vs, b, j, v, h, hv => by
    unfold sw_eA at h
    rw [List.map_cons]
    unfold lv_args
    rw [sw_cV_cat]
    by_cases hc : w.category = 2
    · rw [if_pos hc] at h
      rw [if_pos hc]
      match j, h with
      | 0, h => cases h; exact List.mem_cons_self
      | 1, h => cases h; cases hv
      | j + 2, h =>
        have := sw_eA_in (ad := ad) vs (b + 2) j v h hv
        exact List.mem_cons_of_mem _ (by rw [show b + (j + 2) = b + 2 + j by omega]; exact this)
    · rw [if_neg hc] at h
      rw [if_neg hc]
      match j, h with
      | 0, h => cases h; exact List.mem_cons_self
      | j + 1, h =>
        have := sw_eA_in (ad := ad) vs (b + 1) j v h hv
        exact List.mem_cons_of_mem _ (by rw [show b + (j + 1) = b + 1 + j by omega]; exact this)
theorem sw_eA_len (ad : Nat → Nat) : ∀ (av : List Value), (lg_sl (av.map (sw_cV ad))).length = (sw_eA av).length
  | [] => rfl
  | w :: vs => by
    have ih := sw_eA_len ad vs
    unfold lg_sl at ih ⊢
    unfold sw_eA
    rw [List.map_cons, List.flatMap_cons, List.length_append, ih, sw_cV_cat]
    by_cases hc : w.category = 2
    · rw [if_pos hc, if_pos hc]; simp; omega
    · rw [if_neg hc, if_neg hc]; simp; omega
theorem sw_Ls.entry {ad : Nat → Nat} {av : List Value} {n : Nat} (hn : (sw_eA av).length ≤ n) : sw_Ls ad ((lg_sl (av.map (sw_cV ad)) ++ List.replicate (n - (lg_sl (av.map (sw_cV ad))).length) Slot.unset).toArray) n (sw_eL n av) := by
  have h := lv_entry (av.map (sw_cV ad)) (n := n) (by rw [sw_eA_len]; exact hn)
  refine ⟨⟨h.1, h.2.1, fun q hq => h.2.2 q ?_⟩, by simp [sw_eL]; omega⟩
  obtain ⟨j, w, g1, g2, g3⟩ := (sw_en_in _ _ _).mp hq
  rw [g3]
  refine sw_eA_in av 0 j w ?_ g2
  unfold sw_eL at g1
  by_cases hj : j < (sw_eA av).length
  · rwa [List.getElem?_append_left hj] at g1
  · rw [List.getElem?_append_right (by omega)] at g1
    have := List.eq_of_mem_replicate (List.mem_of_getElem? g1)
    rw [this] at g2
    cases g2
theorem sw_nlI.entry {j : Nat} {av : List Value} {n : Nat} (h : sw_mn j = true → ∀ v ∈ av, v.category = 1) : sw_nlI j (sw_eL n av) := by
  intro hk v hv
  have h0 : ∀ (av : List Value), (∀ v ∈ av, v.category = 1) → sw_eA av = av := by
    intro av
    induction av with
    | nil => intro _; rfl
    | cons w vs ih =>
      intro h
      unfold sw_eA
      rw [if_neg (by rw [h w List.mem_cons_self]; decide), ih (fun v hv => h v (List.mem_cons_of_mem _ hv))]
  unfold sw_eL at hv
  rcases List.mem_append.mp hv with h1 | h1
  · rw [h0 av (h hk)] at h1
    exact h hk v h1
  · rw [List.eq_of_mem_replicate h1]; rfl
