/-! ===== the start ===== -/
def R_law : String := "SpoonWordsLaw"
def lw_P (b : Addr) (xs : List Int32) (args : Array Value) (s : State) : Prop := args = #[.ref b] ∧ s.IntsAt b xs ∧ xs.length ≤ 3072 ∧ (Jvm.Cond.and given_1 narrow_1).before args s = true
def lw_Q (_ : Array Value) (s : State) (o : Outcome) (t : State) : Prop := o = .returned (some (.int 1)) ∧ Framed s o t [] 600000 7302250
def lw_Z (below : List Frame) (a : Array Value) (s : State) : State → Prop := fun t => ∃ o, t.status = .running ∧ Ended t below o ∧ lw_Q a s o t
/-- the law's own end, with 1 on the stack, nothing written that was there before, its room as the claim has it -/
theorem lw_ret {p : Program} {l : Launch} {e : Env} {s : State} {m : MethodId} {below : List Frame} {meth : Method} {c : Code} {b : Nat} (hx : p.tables.exec = Jvm.exec) (hb : c.code = code) (hr : meth.sig.returnType = ret) (hlocks : meth.locks = false) {pc : Nat} {H : Heap} {ls : Array Slot} (hdg : decode code pc = .ok (.ireturn, 1)) : W p l e room_1 s m #[Value.ref b] below meth c H [] 600000 7302250 (lw_Z below #[Value.ref b] s) (F0 m pc ls [.int 1]) := by
  intro T hT X
  obtain ⟨fs, hret, hrun, hended, hW, hframe⟩ := X.leave (v := some (.int 1)) (hlocks := hlocks) (fun h => by rw [hr] at h; cases h)
  have hmeth' : T.vm.method? m = some meth := X.method'
  refine ⟨T.setFrames fs, ?_, .returned (some (.int 1)), hrun, hended, rfl, ⟨_, rfl⟩, hW, hframe⟩
  jvm_step X.here [X.here.top, hx, hb, hdg, hmeth', hr, ret, narrow_b1]
  (try refine ⟨rfl, ?_⟩); (try refine ⟨rfl, ?_⟩)
  first | (intro acts; rw [hret _ acts rfl rfl rfl]) | rw [hret _ _ rfl rfl rfl]
  exact Steps.refl _
/-- what holds at the law's entry: the machine, the code, the tables' words (any of lw_tbl by 'hts w (by decide +kernel)'), the script of L ints xs at the cell b, what the Statement gives of the start (any of its parts by flat_of_before) -/
def lw_At (p : Program) (s : State) (m : MethodId) (meth : Method) (c : Code) (b L : Nat) (xs : Nat → Int32) : Prop :=
  p.tables.exec = Jvm.exec ∧ c.code = code ∧ meth.sig.returnType = ret ∧ c.maxLocals = 4 ∧ s.vm.findClass R_law = some m.cls ∧ (∀ w ∈ lw_tbl, w.before #[Value.ref b] s = true) ∧ va_X b L xs s s.heap ∧ b < s.heap.size ∧ meth.locks = false ∧ (Jvm.Cond.and given_1 narrow_1).before #[Value.ref b] s = true ∧ meth.name = "law"

def st_tm (i : Nat) : Term := .string ((sw_town.getD i ("", 0, "")).1) ((sw_town.getD i ("", 0, "")).2.1)
section WS
variable {p : Program} {s : State} {m : MethodId} {meth : Method} {c : Code} {b L : Nat} {xs : Nat → Int32}
set_option maxRecDepth 100000 in
theorem ws_str (C0 : lw_At p s m meth c b L xs) : ∃ adK adV : Nat → Nat, vk_S 10 sw_tlen sw_tbyt adK adV (sw_A s.heap.size) s s.heap ∧ ∀ i : Nat, i < 10 → (st_tm i).eval #[Value.ref b] s none [] s = some (.ref (adK i)) := by
  obtain ⟨hx, hb, hr, hml, hown, hts, hX, hbl, hlocks, hgv, hnm⟩ := id C0
  have hs := flat_of_before _ hgv
  have hA : ∀ a : Nat, a < s.heap.size → ¬ sw_A s.heap.size a := fun a h => Nat.not_le.mpr h
  refine vk_Sof (tm := st_tm) (by decide) (fun i hi => ?_) (fun i hi => ?_) (fun i hi => ?_) (fun i hi => ?_) (fun i hi j hj => ?_) (fun i j hi hj hij => ?_) hA
  · rcases (show i = 0 ∨ i = 1 ∨ i = 2 ∨ i = 3 ∨ i = 4 ∨ i = 5 ∨ i = 6 ∨ i = 7 ∨ i = 8 ∨ i = 9 by omega) with rfl | rfl | rfl | rfl | rfl | rfl | rfl | rfl | rfl | rfl <;> exact hs _ (by decide +kernel)
  · rcases (show i = 0 ∨ i = 1 ∨ i = 2 ∨ i = 3 ∨ i = 4 ∨ i = 5 ∨ i = 6 ∨ i = 7 ∨ i = 8 ∨ i = 9 by omega) with rfl | rfl | rfl | rfl | rfl | rfl | rfl | rfl | rfl | rfl <;> exact hs _ (by decide +kernel)
  · rcases (show i = 0 ∨ i = 1 ∨ i = 2 ∨ i = 3 ∨ i = 4 ∨ i = 5 ∨ i = 6 ∨ i = 7 ∨ i = 8 ∨ i = 9 by omega) with rfl | rfl | rfl | rfl | rfl | rfl | rfl | rfl | rfl | rfl <;> exact hs _ (by decide +kernel)
  · rcases (show i = 0 ∨ i = 1 ∨ i = 2 ∨ i = 3 ∨ i = 4 ∨ i = 5 ∨ i = 6 ∨ i = 7 ∨ i = 8 ∨ i = 9 by omega) with rfl | rfl | rfl | rfl | rfl | rfl | rfl | rfl | rfl | rfl <;> exact hs _ (by decide +kernel)
  · refine hs _ ?_
    revert j
    revert i
    decide +kernel
  · refine Or.imp (hs _) (hs _) ?_
    revert j
    revert i
    decide +kernel
theorem ws_cls (C0 : lw_At p s m meth c b L xs) : ∃ (dC : Nat → ClassId) (dI : Nat → Nat → Nat) (dA : FieldType → ClassId), va_K (dC, dI) vwCl (sw_tys dA) s := by
  obtain ⟨hx, hb, hr, hml, hown, hts, hX, hbl, hlocks, hgv, hnm⟩ := id C0
  have hG : ∀ w ∈ sw_G, w.before #[Value.ref b] s = true := fun w hw => hts w (List.mem_filter.mp hw).1
  have hcl : ∀ k : Nat, ∃ q : ClassId × (Nat → Nat), ∀ t, vwCl[k]? = some t → u_Kn s t.1 t.2.1 t.2.2 q.1 q.2 := by
    intro k
    by_cases hk : k < 9
    · obtain ⟨t, ht, hin, -, -, -, -, hins, -, -⟩ := sw_cls hk
      obtain ⟨cC, iS, h⟩ := u_known hG hin (hG _ hins)
      exact ⟨(cC, iS), fun t' ht' => by cases ht.symm.trans ht'; exact h⟩
    · refine ⟨(0, fun _ => 0), fun t ht => absurd (List.getElem?_eq_some_iff.mp ht).1 ?_⟩
      show ¬ k < 9
      exact hk
  obtain ⟨dQ, hdQ⟩ := Classical.axiomOfChoice hcl
  obtain ⟨cI, kI, pI, i1, i2, i3⟩ := Cond.arrayClass_spec (hts (.arrayClass .int) (by decide +kernel))
  obtain ⟨cL, kL, pL, l1, l2, l3⟩ := Cond.arrayClass_spec (hts (.arrayClass .long) (by decide +kernel))
  obtain ⟨cB, kB, pB, b1, b2, b3⟩ := Cond.arrayClass_spec (hts (.arrayClass .boolean) (by decide +kernel))
  obtain ⟨oc, cO, kO, o1, o2, o3, o4, o5⟩ := Cond.arrayOver_spec (hts (.arrayOver (.object RX3)) (by decide +kernel))
  refine ⟨fun k => (dQ k).1, fun k => (dQ k).2, fun ty => match ty with | .int => cI | .long => cL | .boolean => cB | _ => cO, fun k q hq => hdQ k q hq, fun k q hq => ?_⟩
  match k, hq with
  | 0, hq => cases hq; exact ⟨fun n z => ⟨(fun k h => (by cases h)), _, i2, _, i3⟩, i1⟩
  | 1, hq => cases hq; exact ⟨fun n z => ⟨(fun k h => (by cases h)), _, l2, _, l3⟩, l1⟩
  | 2, hq => cases hq; exact ⟨fun n z => ⟨(fun k h => (by cases h)), _, b2, _, b3⟩, b1⟩
  | 3, hq => cases hq; exact ⟨fun n z => ⟨(fun k h => (by cases h)), _, o3, _, o4⟩, _, _, o3, o4, o1, o5⟩
  | k + 4, hq => cases hq
theorem ws_st (C0 : lw_At p s m meth c b L xs) : ∃ (tU : Nat) (fm : Value), (va_Z "SpoonWords" "UNDER" "[I" (.ref tU) (sw_A s.heap.size) s s.heap ∧ va_T .int tU 6 (fun j => .int (sw_under.getD j 0)) (sw_A s.heap.size) s s.heap) ∧ va_Z "java/lang/String" "COMPACT_STRINGS" "Z" (.int 1) (sw_A s.heap.size) s s.heap ∧ va_Z "jdk/internal/util/Preconditions" "SIOOBE_FORMATTER" "Ljava/util/function/BiFunction;" fm (sw_A s.heap.size) s s.heap ∧ (fm = .null ∨ ∃ t, fm = .ref t) := by
  obtain ⟨hx, hb, hr, hml, hown, hts, hX, hbl, hlocks, hgv, hnm⟩ := id C0
  have hs := flat_of_before _ hgv
  have hA : ∀ a : Nat, a < s.heap.size → ¬ sw_A s.heap.size a := fun a h => Nat.not_le.mpr h
  obtain ⟨tU, eU, hTU⟩ := va_Tof (tm := .static "SpoonWords" "UNDER" "[I") (ty := .int) (N := 6) (f := fun j => .int (sw_under.getD j 0)) (by decide) (hs _ (by decide +kernel)) (va_eqt (hs (Cond.eq (.length (.static "SpoonWords" "UNDER" "[I")) (.int 6)) (by decide +kernel))) (fun j hj => va_eqt (hs _ (by
    revert j
    decide +kernel))) hA
  have hZU := va_Zref (hts (.laysStatic "SpoonWords" "UNDER" "[I") (by decide +kernel)) (hts (.initialized "SpoonWords") (by decide +kernel)) eU hA
  have hC := va_Zof (v := .int 1) (hts (.laysStatic "java/lang/String" "COMPACT_STRINGS" "Z") (by decide +kernel)) (hts (.initialized "java/lang/String") (by decide +kernel)) (va_eqt (hs (Cond.eq (.static "java/lang/String" "COMPACT_STRINGS" "Z") (.int 1)) (by decide +kernel))) hA
  have hF := va_Zqof (hts (.laysStatic "jdk/internal/util/Preconditions" "SIOOBE_FORMATTER" "Ljava/util/function/BiFunction;") (by decide +kernel)) (hts (.initialized "jdk/internal/util/Preconditions") (by decide +kernel)) (hs (.isRef (.static "jdk/internal/util/Preconditions" "SIOOBE_FORMATTER" "Ljava/util/function/BiFunction;")) (by decide +kernel)) hA
  rcases hF with h | ⟨t, h⟩
  · exact ⟨tU, .null, ⟨hZU, hTU⟩, hC, h, Or.inl rfl⟩
  · exact ⟨tU, .ref t, ⟨hZU, hTU⟩, hC, h, Or.inr ⟨t, rfl⟩⟩
end WS

set_option maxRecDepth 100000 in
theorem whole_start {p : Program} {e : Env} {s : State} {m : MethodId} {below : List Frame} {meth : Method} {c : Code} (l : Launch) {b L : Nat} {xs : Nat → Int32} (hL : L ≤ 3072) (C0 : lw_At p s m meth c b L xs) : W p l e room_1 s m #[Value.ref b] below meth c s.heap [] 0 0 (lw_Z below #[Value.ref b] s) (entryFrame m ([Value.ref b] : List Value).toArray 4) := by
  obtain ⟨hx, hb, hr, hml, hown, hts, hX, hbl, hlocks, hgv, hnm⟩ := id C0
  obtain ⟨adK, adV, hS, hE⟩ := ws_str C0
  obtain ⟨dC, dI, dA, hK⟩ := ws_cls C0
  obtain ⟨tU, fm, hU, hC, hF, hfm⟩ := ws_st C0
  obtain ⟨tF, fa, hfa, hfn⟩ : ∃ (tF : Nat) (fa : Value), (fa = .null ∨ ∃ a, fa = .ref a) ∧ ∀ ad : Nat → Nat, ad 2000 = tF → sw_cV ad fa = fm := by
    rcases hfm with rfl | ⟨t, rfl⟩
    · exact ⟨0, .null, Or.inl rfl, fun _ _ => rfl⟩
    · exact ⟨t, .ref 2000, Or.inr ⟨2000, rfl⟩, fun ad h => by show Value.ref (ad 2000) = _; rw [h]⟩
  obtain ⟨ad, had⟩ : ∃ ad : Nat → Nat, ad = fun r => if r < 1000 then s.heap.size + r else if r = 1000 then b else if r = 1001 then tU else if r < 1020 then adK (r - 1010) else if r < 1040 then adV (r - 1030) else tF := ⟨_, rfl⟩
  have a0 : ∀ i, i < 1000 → ad i = s.heap.size + i := fun i hi => by rw [had]; exact if_pos hi
  have a1 : ad 1000 = b := by rw [had]; rfl
  have a2 : ad 1001 = tU := by rw [had]; rfl
  have a3 : ∀ i, i < 10 → ad (1010 + i) = adK i := fun i hi => by
    rw [had]
    show (if 1010 + i < 1000 then _ else if 1010 + i = 1000 then _ else if 1010 + i = 1001 then _ else if 1010 + i < 1020 then _ else _) = _
    rw [if_neg (by omega), if_neg (by omega), if_neg (by omega), if_pos (by omega), show 1010 + i - 1010 = i by omega]
  have a4 : ∀ i, i < 10 → ad (1030 + i) = adV i := fun i hi => by
    rw [had]
    show (if 1030 + i < 1000 then _ else if 1030 + i = 1000 then _ else if 1030 + i = 1001 then _ else if 1030 + i < 1020 then _ else if 1030 + i < 1040 then _ else _) = _
    rw [if_neg (by omega), if_neg (by omega), if_neg (by omega), if_neg (by omega), if_pos (by omega), show 1030 + i - 1030 = i by omega]
  have a5 : ad 2000 = tF := by rw [had]; rfl
  have hWd : sw_Wd (L, xs, fa) s.heap.size ad dC dI dA s s.heap := by
    refine ⟨hK, fun a i y h hm => va_Nw.of rfl (hts _ hm), va_AO.of (hts (.arrayOver (.object RX3)) (by decide +kernel)), ⟨by rw [a1]; exact hX, by rw [a1]; exact hbl⟩, by rw [a2]; exact hU, hC, by rw [hfn ad a5]; exact hF, ?_, fun i q hq => ?_, a0, hfa⟩
    · refine ⟨fun i hi => ?_, fun i j hi hj h => ?_⟩
      · show va_O _ (ad (1010 + i)) _ _ _ ∧ va_OF _ _ _ _ (ad (1010 + i)) _ _ _ ∧ va_OF _ _ _ (.ref (ad (1030 + i))) (ad (1010 + i)) _ _ _ ∧ va_T _ (ad (1030 + i)) _ _ _ _ _
        rw [a3 i hi, a4 i hi]
        exact hS.1 i hi
      · have h : ad (1010 + i) = ad (1010 + j) := h
        rw [a3 i hi, a3 j hj] at h
        exact hS.2 i j hi hj h
    · have hi : i < 10 := (List.getElem?_eq_some_iff.mp hq).1
      rw [a3 i hi]
      have e := hE i hi
      have e2 : st_tm i = .string q.1 q.2.1 := by
        unfold st_tm
        rw [List.getD_eq_getElem?_getD, hq]
        rfl
      rw [e2] at e
      refine vk_R.of (hts _ ?_) e
      rcases (show i = 0 ∨ i = 1 ∨ i = 2 ∨ i = 3 ∨ i = 4 ∨ i = 5 ∨ i = 6 ∨ i = 7 ∨ i = 8 ∨ i = 9 by omega) with rfl | rfl | rfl | rfl | rfl | rfl | rfl | rfl | rfl | rfl <;> cases hq <;> decide +kernel
  obtain ⟨S', hlaw⟩ := f_law_1 (L, xs, fa) hfa (show L < 2147483648 by omega)
  rw [e_law] at hlaw
  obtain ⟨f, hrun⟩ := sw_ex_run hlaw
  have hFx : sw_Fx (L, xs, fa) s.heap.size ad dC dI dA p s m #[Value.ref b] meth c 229 := ⟨hx, hb, hr, hlocks, hml, hown, hnm, fun w hw => hts w (List.mem_filter.mp hw).1, hWd, Nat.le_refl _⟩
  have key := sw_sound l (L, xs, fa) s.heap.size ad dC dI dA f _ _ hrun p e s m #[Value.ref b] below meth c (lw_Z below #[Value.ref b] s) hFx (by
    intro H locs lsA pc ins hH hd hRt
    rcases hRt with ⟨rfl, _⟩ | ⟨_, h, _⟩ | ⟨_, _, h⟩ | ⟨_, h, _⟩
    · refine va_forget (fun q hq => hH.2.1.2.2 q hq) ?_
      refine W.widen hH.2.2.1 hH.2.2.2 ?_
      exact lw_ret hx hb hr hlocks hd
    · cases h
    · rcases h with h | ⟨a, h⟩ <;> cases h
    · cases h)
  rw [lg_entry_eq]
  have hav : ([Value.ref 1000] : List Value).map (sw_cV ad) = [Value.ref b] := by
    show [Value.ref (ad 1000)] = _
    rw [a1]
  have k2 := sw_Ls.entry (ad := ad) (av := [Value.ref 1000]) (n := 4) (by decide)
  rw [hav] at k2
  exact key s.heap [] _ ⟨⟨rfl, by decide, fun k q h => by simp [sw_wl] at h⟩, va_S.rf, Nat.zero_le _, Nat.zero_le _⟩ k2 (sw_nlI.entry (av := [Value.ref 1000]) (n := 4) (fun _ v hv => by cases List.mem_singleton.mp hv; rfl))
set_option maxHeartbeats 4000000 in
theorem lw_walk (l : Launch) (b : Addr) (xs : List Int32) : MetFree l x (headSpec (Jvm.Cond.code x code maxLocals ret :: tables_1) room_1) (lw_P b xs) (fun _ _ _ _ _ => True) lw_Q := by
  refine MetFree.of_bodyS (code := code) (maxLocals := maxLocals) (ret := ret) (by decide) ?_ ?_
  · intro args s m h hn
    obtain ⟨meth, c, h1, h2, h3, h4, h5, h6, -, -⟩ := Cond.code_spec hn (atoms_spec (ws := Jvm.Cond.code x code maxLocals ret :: tables_1) h _ List.mem_cons_self)
    exact ⟨meth, c, h1, h2, h3, h4, h5, h6⟩
  · intro p e s m args below meth c s₁ B hml0 hP _
    obtain ⟨rfl, hx, hbd, hgv⟩ := hP
    obtain ⟨scr, harrAt, hlist, hof, hsmall⟩ := hx
    obtain ⟨hcb, hkn, -, -⟩ := State.arrayAt?_spec harrAt
    have hown : s.vm.findClass R_law = some m.cls := findClass_of_methodNamed B.named
    have hts0 : ∀ c ∈ (Jvm.Cond.code x code maxLocals ret :: tables_1), c.before #[Value.ref b] s = true := atoms_spec (ws := Jvm.Cond.code x code maxLocals ret :: tables_1) B.pre
    have hts : ∀ w ∈ lw_tbl, w.before #[Value.ref b] s = true := k2_hts_sels lw_privs (fun w hw => hts0 w (List.mem_cons_of_mem _ hw)) lw_privs_ok
    have hml : c.maxLocals = 4 := B.maxLocals_eq (hts0 _ List.mem_cons_self)
    have X₀ : Stand p l e room_1 s m #[Value.ref b] below meth c s₁ [] 0 0 := Stand.of_body B
    have hh0 : s₁.heap = s.heap := by rw [B.state]; rfl
    have hsz : scr.slots.size = xs.length := by rw [← Array.length_toList, hlist, List.length_map]
    have hval : ∀ j : Nat, j < xs.length → scr.slots[j]? = some (.int (xs.getD j 0)) := fun j hj => by
      rw [← Array.getElem?_toList, hlist]
      simp [hj]
    have hbl : b < s.heap.size := (Array.getElem?_eq_some_iff.mp hcb).1
    have hX : va_X b xs.length (fun j => xs.getD j 0) s s.heap := ⟨scr, hcb, hof, hkn, hsz, hval⟩
    have K : W p l e room_1 s m #[Value.ref b] below meth c s₁.heap [] 0 0 (lw_Z below #[Value.ref b] s) (entryFrame m ([Value.ref b] : List Value).toArray 4) := by
      rw [hh0]
      exact whole_start l hbd ⟨B.exec, B.bytes, B.returns, hml, hown, hts, hX, hbl, B.notSynchronized, hgv, (name_of_methodNamed B.named B.method).1⟩
    obtain ⟨t, a1, o, b1, b2, b3⟩ := K s₁ rfl X₀
    exact ⟨t, o, a1, b1, b2, b3⟩
theorem lw_pre_spec {args : Array Value} {s : State} (h : (Jvm.Cond.and given_1 narrow_1).before args s = true) (hr : rest_1_c.before args s = true) : ∃ (b : Addr) (xs : List Int32), lw_P b xs args s := by
  have hs := flat_of_before _ h
  have hq := flat_of_before _ hr
  have hc : (Cond.count 1).before args s = true := hs _ (by decide +kernel)
  have harr : (Cond.arrayOf (.arg 0) .int).before args s = true := hs _ (by decide +kernel)
  have hle : (Cond.le (.length (.arg 0)) (.int 3072)).before args s = true := hs _ (by decide +kernel)
  have hlen : (Cond.isInt (.length (.arg 0))).before args s = true := hq _ (by decide +kernel)
  have hall : (Cond.all (.arg 0) (.isInt (.elem (.arg 0) (.index 0)))).before args s = true := hq _ (by decide +kernel)
  obtain ⟨b, xs, hb, hx⟩ := State.ints_of_pre rfl harr hlen hall
  have hsm : xs.length < 2 ^ 31 := hx.choose_spec.2.2.2
  have hev : (Term.length (.arg 0)).eval args s none [] s = some (.int xs.length.toInt32) := hx.length_eval hb
  have hv := Cond.le_ints hev (show (Term.int 3072).eval args s none [] s = some (.int 3072) from rfl)
  have hd : xs.length.toInt32 ≤ 3072 := by
    simpa [Cond.before, Cond.holds, hv] using hle
  have hN : xs.length ≤ 3072 := (Int32.ofNat_le_ofNat hsm (by decide)).mp (show Int32.ofNat xs.length ≤ Int32.ofNat 3072 from hd)
  exact ⟨b, xs, Cond.one_arg hc (show args[0]? = some (.ref b) from hb), hx, hN, h⟩
theorem lw_comes (l : Launch) : Comes l x (Jvm.Cond.code x code maxLocals ret :: tables_1) room_1 (fun tb e args s => Calls_1 tb e args s ∧ rest_1 tb e args s ∧ Pre_1 tb e args s)
    (fun _ _ args s o t => lw_Q args s o t) := by
  intro p e ha hc hk s m args below hf hfit hheap happ hpre
  obtain ⟨b, xs, hP⟩ := lw_pre_spec hpre.2.2 hpre.2.1
  obtain ⟨k, o, h1, h2, h3, hQ⟩ := lw_walk l b xs p e ha hc hk s m args below hf ((Spec.applies_iff_loose hf).mp happ).1 hP trivial
  exact ⟨k, o, h1, h2, h3, hQ⟩
theorem lw_frame {s t : State} {o : Outcome} {args : Array Value} (h : Framed s o t [] 600000 7302250) :
    Framed s o t (fieldLocs frame_1_writes args s ++ arrayLocs frame_1_arrays args s ++ staticLocs frame_1_statics s) 600000 7302250 := h
theorem lw_limb (L : Cond) (hL : ∀ (args : Array Value) (s t : State), L.after args s (.returned (some (.int 1))) t = true) :
    ArmFor flags0 classFile x code maxLocals ret World_1 tables_1 room_1 Calls_1 rest_1 Pre_1
      (fun tb e a s o t => postC L tb e a s o t ∧ Framed s o t (fieldLocs frame_1_writes a s ++ arrayLocs frame_1_arrays a s ++ staticLocs frame_1_statics s) 600000 7302250) := by
  intro l _ _ _ p e ha hc hk s m args below hf hfit hheap happ hpre
  obtain ⟨k, o, h1, h2, h3, rfl, hF⟩ := lw_comes l p e ha hc hk s m args below hf hfit hheap happ hpre
  exact ⟨k, _, h1, h2, h3, hL args s _, lw_frame hF⟩
theorem i_vc : Claimed_1_1 ∧ Claimed_1_2 := ⟨lw_limb limb_1_1 (fun args s t => by simp [limb_1_1, Cond.after, Cond.holds, Cond.value]), lw_limb limb_1_2 (fun args s t => Cond.after_iff.mpr (by
  first | (rw [show limb_1_2 = Cond.eq .result (.int 1) from rfl, Cond.eq_ints (x := 1) (y := 1) rfl rfl]; simp; done) | (simp [limb_1_2, Cond.value, Term.eval]; done)))⟩
