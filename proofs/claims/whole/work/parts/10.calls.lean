/-! ===== soundness: methods, calls, the machine ===== -/
def sw_Rt (k : Nat) (ins : Instr) (v : Option Value) : Prop := (ins = .ireturn ∧ ∃ x, v = some (.int x) ∧ sw_okr (sw_mr k) x = true) ∨ (ins = .lreturn ∧ sw_mr k = some .long ∧ ∃ x, v = some (.long x)) ∨
  (ins = .areturn ∧ (∃ rt, sw_mr k = some rt ∧ ((∃ n, rt = .object n) ∨ ∃ t, rt = .array t)) ∧ (v = some .null ∨ ∃ a, v = some (.ref a))) ∨ (ins = .return_ ∧ sw_mr k = none ∧ v = none)
def sw_Qr (l : Launch) (ba : Nat) (ad : Nat → Nat) (dC : Nat → ClassId) (dI : Nat → Nat → Nat) (dA : FieldType → ClassId) (p : Program) (e : Env) (s : State) (m : MethodId) (args : Array Value) (below : List Frame) (meth : Method) (c : Code) (Q : State → Prop) (k : Nat) (r : sw_R) : Prop :=
  ∀ (H : Heap) (locs : List Loc) (lsA : Array Slot) (pc : Nat) (ins : Instr), sw_Hs ba ad dC dI dA s k r.2 H locs → decode (sw_mb k) pc = .ok (ins, 1) → sw_Rt k ins r.1 → W p l e (sw_rm k) s m args below meth c H locs r.2.1 r.2.2.1 Q (F0 m pc lsA (r.1.toList.map (sw_cV ad)))
def sw_Kw (l : Launch) (ba : Nat) (ad : Nat → Nat) (dC : Nat → ClassId) (dI : Nat → Nat → Nat) (dA : FieldType → ClassId) (p : Program) (e : Env) (s : State) (m : MethodId) (args : Array Value) (below : List Frame) (meth : Method) (c : Code) (Q : State → Prop) (cf : sw_Cf) : Prop :=
  ∀ (H : Heap) (locs : List Loc) (lsA : Array Slot), sw_Hs ba ad dC dI dA s cf.1 cf.2.2.2.2 H locs → sw_Ls ad lsA (sw_mx cf.1) cf.2.2.1 → sw_nlI cf.1 cf.2.2.1 → W p l e (sw_rm cf.1) s m args below meth c H locs cf.2.2.2.2.1 cf.2.2.2.2.2.1 Q (F0 m cf.2.1 lsA (cf.2.2.2.1.map (sw_cV ad)))
def sw_So (l : Launch) (E : sw_E) (ba : Nat) (ad : Nat → Nat) (dC : Nat → ClassId) (dI : Nat → Nat → Nat) (dA : FieldType → ClassId) (f : Nat) : Prop :=
  ∀ (cf : sw_Cf) (r : sw_R), sw_run E f cf = some r → ∀ (p : Program) (e : Env) (s : State) (m : MethodId) (args : Array Value) (below : List Frame) (meth : Method) (c : Code) (Q : State → Prop), sw_Fx E ba ad dC dI dA p s m args meth c cf.1 → sw_Qr l ba ad dC dI dA p e s m args below meth c Q cf.1 r → sw_Kw l ba ad dC dI dA p e s m args below meth c Q cf
def sw_ws (j : Nat) : List Cond := .code (sw_my j) (sw_mb j) (sw_mx j) (sw_mr j) :: sw_G
def sw_Pc (E : sw_E) (ba : Nat) (ad : Nat → Nat) (dC : Nat → ClassId) (dI : Nat → Nat → Nat) (dA : FieldType → ClassId) (av : List Value) (n : Nat) (f : Nat → sw_AC) : Array Value → State → Prop := va_Pc (av.map (sw_cV ad)) (fun U => sw_Hp ba ad dC dI dA n f U.heap ∧ sw_Wd E ba ad dC dI dA U U.heap)
def sw_Qc (ba : Nat) (ad : Nat → Nat) (dC : Nat → ClassId) (dI : Nat → Nat → Nat) (dA : FieldType → ClassId) (q : sw_R) : Array Value → State → Outcome → State → Prop := fun _ st oc t => oc = .returned (q.1.map (sw_cV ad)) ∧ sw_Hp ba ad dC dI dA q.2.2.2.1 q.2.2.2.2 t.heap ∧ va_F (sw_A ba) st t
theorem sw_okr_nar {t : Option FieldType} {x : Int32} (h : sw_okr t x = true) : ∃ ty, t = some ty ∧ narrow ty (.int x) = .int x := by
  unfold sw_okr at h
  split at h
  · exact ⟨_, rfl, rfl⟩
  · simp only [Bool.or_eq_true, beq_iff_eq] at h
    refine ⟨_, rfl, ?_⟩
    rcases h with rfl | rfl <;> decide +kernel
  · rw [beq_iff_eq] at h
    exact ⟨_, rfl, by show Value.int _ = _; rw [h]⟩
  · rw [beq_iff_eq] at h
    exact ⟨_, rfl, by show Value.int _ = _; rw [h]⟩
  · cases h
theorem sw_mparts {j : Nat} (h : sw_mchk j = true) : (plainName (sw_my j).cls = true ∧ (sw_my j).cls ≠ "java/lang/invoke/MethodHandle" ∧ (sw_my j).cls ≠ "java/lang/invoke/VarHandle") ∧
    (parseMethodDescriptor (sw_my j).desc).map (fun d => d.parameters.length) = some (sw_ma j - (if sw_mk j = 0 then 0 else 1)) ∧ Cond.code (sw_my j) (sw_mb j) (sw_mx j) (sw_mr j) ∈ sw_G ∧ Cond.initialized (sw_my j).cls ∈ sw_G ∧
    (sw_mk j = 0 → Cond.static (sw_my j) ∈ sw_G) ∧ (sw_mk j ≠ 0 → Cond.instanceMethod (sw_my j) ∈ sw_G) ∧ (sw_mk j = 1 → Cond.selects (sw_my j).cls (sw_my j) (sw_my j) ∈ sw_G ∧ sw_mh j < 10 ∧ sw_hn[sw_mh j]? = some (sw_my j).cls) ∧ (sw_mk j = 2 → (sw_my j).name = "<init>" ∧ sw_mr j = none) := by
  unfold sw_mchk at h
  simp only [Bool.and_eq_true, decide_eq_true_eq] at h
  obtain ⟨⟨⟨⟨⟨⟨h1, h2⟩, h3⟩, h4⟩, h5⟩, h6⟩, h7⟩ := h
  have hi : sw_mh j < 13 := (List.getElem?_eq_some_iff.mp h1).1
  have h0 := sw_hn_ok _ hi
  rw [h1] at h0
  simp only [Bool.and_eq_true, decide_eq_true_eq] at h0
  refine ⟨⟨h0.1, h0.2⟩, h2, sw_wd_in h3, sw_wd_in h4, fun hk => ?_, fun hk => ?_, fun hk => ?_, fun hk => ?_⟩
  · rw [if_pos hk] at h5; exact sw_wd_in h5
  · rw [if_neg hk] at h5; exact sw_wd_in h5
  · rw [if_pos hk] at h6
    simp only [Bool.and_eq_true, decide_eq_true_eq] at h6
    exact ⟨sw_wd_in h6.1, h6.2, h1⟩
  · rw [if_pos hk] at h7
    simpa using h7
theorem sw_goodin {j : Nat} (h : sw_mchk j = true) : GoodIn sw_G (sw_ws j) := by
  intro w hw
  have hm : w ∈ sw_G := by
    rcases List.mem_cons.mp hw with rfl | hw
    · exact (sw_mparts h).2.2.1
    · exact hw
  exact ⟨hm, good_of_word (List.mem_filter.mp hm).2⟩
section SWM
variable {l : Launch} {E : sw_E} {ba : Nat} {ad : Nat → Nat} {dC : Nat → ClassId} {dI : Nat → Nat → Nat} {dA : FieldType → ClassId}
/-- a method's contract, out of its run -/
theorem sw_met {f : Nat} (hSo : sw_So l E ba ad dC dI dA f) {j n : Nat} {σ : Nat → sw_AC} {av : List Value} {q : sw_R} (hj : sw_mchk j = true) (hrun : sw_run E f (j, 0, sw_eL (sw_mx j) av, [], (0, 0, n, σ)) = some q) (hcat : sw_mn j = true → ∀ v ∈ av, v.category = 1) (hlen : (sw_eA av).length ≤ sw_mx j) :
    Met l (sw_my j) (sw_ws j) (sw_rm j) (sw_Pc E ba ad dC dI dA av n σ) (sw_Qc ba ad dC dI dA q) (sw_mc j) (sw_ms j) (sw_A ba) := by
  refine Met.ofW (cc := sw_mb j) (maxL := sw_mx j) (ret := sw_mr j) (sw_mparts hj).1.1 rfl ?_
  intro p e s m args below meth c s₁ B hml hv
  obtain ⟨rfl, hHp, hWd⟩ := hv
  have hts := atoms_spec (ws := sw_ws j) B.pre
  have hown : s.vm.findClass (sw_my j).cls = some m.cls := findClass_of_methodNamed B.named
  have hlocks := B.notSynchronized
  have hr := B.returns
  have hx := B.exec
  have hb := B.bytes
  have hF : sw_Fx E ba ad dC dI dA p s m (av.map (sw_cV ad)).toArray meth c j := ⟨hx, hb, hr, hlocks, hml, hown, (name_of_methodNamed B.named B.method).1, fun w hw => hts w (List.mem_cons_of_mem _ hw), hWd, by rw [hHp.1]; exact Nat.le_add_right _ _⟩
  rw [lg_entry_eq]
  refine hSo _ _ hrun p e s m _ below meth c _ hF ?_ s.heap [] _ ⟨hHp, va_S.rf, Nat.zero_le _, Nat.zero_le _⟩ (sw_Ls.entry hlen) (sw_nlI.entry hcat)
  intro H locs lsA pc ins hH hd hRt
  refine W.widen hH.2.2.1 hH.2.2.2 ?_
  have fin : ∀ t : State, t.heap = H → sw_Hp ba ad dC dI dA q.2.2.2.1 q.2.2.2.2 t.heap ∧ va_F (sw_A ba) s t := fun t ht => ⟨by rw [ht]; exact hH.1, hH.2.1.F ht⟩
  rcases hRt with ⟨rfl, x, hv, hok⟩ | ⟨rfl, hr2, x, hv⟩ | ⟨rfl, ⟨rt, hr2, hrt⟩, hv⟩ | ⟨rfl, hr2, hv⟩
  · obtain ⟨ty, h1, h2⟩ := sw_okr_nar hok
    rw [hv]
    exact W.zret (v := x) hx hb (hr.trans h1) h2 (fun t ht _ => ⟨by rw [hv]; rfl, fin t ht⟩) hH.2.1.2.2 hd
  · rw [hv]
    exact W.lret (v := x) hx hb (hr.trans hr2) (fun t ht _ => ⟨by rw [hv]; rfl, fin t ht⟩) hH.2.1.2.2 hd
  · rcases hv with hv | ⟨a, hv⟩
    · rw [hv]
      exact W.aret (v := .null) hx hb (hr.trans hr2) hrt (Or.inl rfl) (fun t ht _ => ⟨by rw [hv]; rfl, fin t ht⟩) hH.2.1.2.2 hd
    · rw [hv]
      exact W.aret (v := .ref (ad a)) hx hb (hr.trans hr2) hrt (Or.inr ⟨_, rfl⟩) (fun t ht _ => ⟨by rw [hv]; rfl, fin t ht⟩) hH.2.1.2.2 hd
  · rw [hv]
    exact W.vret hx hb (hr.trans hr2) (fun t ht _ => ⟨by rw [hv]; rfl, fin t ht⟩) hH.2.1.2.2 hd
variable {p : Program} {e : Env} {s : State} {m : MethodId} {args : Array Value} {below : List Frame} {meth : Method} {c : Code} {Q : State → Prop} {k pc : Nat} {M : sw_M} {H : Heap} {locs : List Loc} {lsA : Array Slot}
theorem sw_w_ret (hF : sw_Fx E ba ad dC dI dA p s m args meth c k) (hH : sw_Hs ba ad dC dI dA s k M H locs) {R : Room} {mc ms : Nat} {st0 rest : List Value} {a : Array Value} {q : sw_R} (hr : va_Run p l e R s m args below meth c H locs M.1 M.2.1 mc ms (F0 m pc lsA st0) rest (sw_Qc ba ad dC dI dA q a) (sw_A ba)) (hg : M.1 + mc ≤ sw_mc k ∧ M.2.1 + ms ≤ sw_ms k)
    (kk : ∀ H1 locs1, sw_Hs ba ad dC dI dA s k (M.1 + mc, M.2.1 + ms, q.2.2.2) H1 locs1 → W p l e R s m args below meth c H1 locs1 (M.1 + mc) (M.2.1 + ms) Q (F0 m (pc + 3) lsA ((q.1.map (sw_cV ad)).toList ++ rest))) : W p l e R s m args below meth c H locs M.1 M.2.1 Q (F0 m pc lsA st0) := by
  intro T hT X
  obtain ⟨v, st₀, t, T', L, h0, X', hL, e1, e2, ⟨hv, hHp, hz, hk⟩, st⟩ := hr T hT X
  have hv : v = q.1.map (sw_cV ad) := Outcome.returned.inj hv
  subst hv
  rw [h0] at hz hk
  obtain ⟨t2, a1, b1⟩ := kk T'.heap (locs ++ L) ⟨by rw [e1]; exact hHp, ⟨Nat.le_trans hH.2.1.1 (by rw [e1]; exact hz), fun x g1 g2 => by rw [e1, hk x (Nat.lt_of_lt_of_le g1 hH.2.1.1) g2]; exact hH.2.1.2.1 x g1 g2, fun x hx => by
      rcases List.mem_append.mp hx with h | h
      · exact hH.2.1.2.2 x h
      · exact hL x h⟩, hg.1, hg.2⟩ T' rfl X'
  exact ⟨t2, st t2 a1, b1⟩
theorem sw_pc_blind {av : List Value} {n : Nat} {σ : Nat → sw_AC} : FrameBlind (sw_Pc E ba ad dC dI dA av n σ) := fun _ _ _ _ h => ⟨h.1, h.2.1, sw_Wd.same rfl h.2.2⟩
theorem sw_pc_at (hF : sw_Fx E ba ad dC dI dA p s m args meth c k) (hH : sw_Hs ba ad dC dI dA s k M H locs) {av : List Value} : ∀ U : State, U.heap = H → s.WarmedH U.vm → sw_Pc E ba ad dC dI dA av M.2.2.1 M.2.2.2 (av.map (sw_cV ad)).toArray U := fun U hU hW => ⟨rfl, by rw [hU]; exact hH.1, by
  rw [hU]
  obtain ⟨-, -, -, -, -, -, -, -, hWd, -⟩ := hF
  exact (sw_Wd.warm hW hWd).kept hH.2.1.2.1⟩
theorem sw_recv (hF : sw_Fx E ba ad dC dI dA p s m args meth c k) (hH : sw_Hs ba ad dC dI dA s k M H locs) {r ci : Nat} {C : String} (hr : sw_isC E M r ci = true) (hc : sw_hn[ci]? = some C) (hci : ci < 10) : ∃ cell : Cell, H[ad r]? = some cell ∧ cell.vm.isStatics = false ∧ s.vm.findClass C = some cell.cls := by
  obtain ⟨hx, hb, -, -, -, hown, -, hts, hWd, -⟩ := hF
  unfold sw_isC at hr
  split at hr
  · next c0 fs hrd =>
    rw [beq_iff_eq] at hr
    subst hr
    unfold sw_rd at hrd
    by_cases h : r < M.2.2.1
    · rw [if_pos h] at hrd
      have hcell := Option.some.inj hrd
      have hr9 : ad r = ba + r := hWd.2.2.2.2.2.2.2.2.2.1 r (Nat.lt_of_lt_of_le h (Nat.le_trans hH.1.2.1 (by omega)))
      rw [hr9]
      obtain ⟨q, hq, -⟩ := hH.1.2.2 r _ (hH.obj h hcell)
      have hlt : c0 < 9 := (List.getElem?_eq_some_iff.mp hq).1
      have hC : q.1 = C := by
        have key : ∀ i, i < 9 → (vwCl[i]?).map (fun q => q.1) = sw_hn[i]? := by decide +kernel
        have := key c0 hlt
        rw [hq, hc] at this
        exact Option.some.inj this
      rw [← hC]
      exact va_recv hWd.1 hH.1.2.2 hq (hH.obj h hcell)
    · rw [if_neg h] at hrd
      unfold sw_fr at hrd
      by_cases h0 : r = 1000
      · rw [if_pos h0] at hrd; cases hrd
      · rw [if_neg h0] at hrd
        by_cases h1 : r = 1001
        · rw [if_pos h1] at hrd; cases hrd
        · rw [if_neg h1] at hrd
          by_cases h2 : 1010 ≤ r ∧ r < 1020
          · rw [if_pos h2] at hrd
            cases hrd
            cases hc
            obtain ⟨i, hi, rfl⟩ : ∃ i, i < 10 ∧ r = 1010 + i := ⟨r - 1010, by omega, by omega⟩
            exact vk_recv (i := i) (adK := fun i => ad (1010 + i)) hWd.2.2.2.2.2.2.2.1 hi hH.2.1
          · rw [if_neg h2] at hrd
            by_cases h3 : 1030 ≤ r ∧ r < 1040
            · rw [if_pos h3] at hrd; cases hrd
            · rw [if_neg h3] at hrd; cases hrd
  · cases hr
theorem sw_split {st : List Value} {n : Nat} (hn : n ≤ st.length) {av : List Value} (h : (st.take n).reverse = av) : st = av.reverse ++ st.drop n ∧ av.length = n := by
  subst h
  refine ⟨by rw [List.reverse_reverse, List.take_append_drop], by rw [List.length_reverse, List.length_take]; omega⟩
theorem sw_catm (st : List Value) : ((st.map (sw_cV ad)).map fun v => v.category).sum = sw_cat st := by
  unfold sw_cat
  rw [List.map_map]
  congr 1
  apply List.map_congr_left
  intro v _
  exact sw_cV_cat ad v
theorem sw_optm {q : sw_R} {rest : List Value} : (q.1.map (sw_cV ad)).toList ++ rest.map (sw_cV ad) = (q.1.toList ++ rest).map (sw_cV ad) := by
  cases q.1 <;> rfl
/-- a call -/
theorem sw_w_call (hF : sw_Fx E ba ad dC dI dA p s m args meth c k) (hH : sw_Hs ba ad dC dI dA s k M H locs) {lsL : List Value} (hL : sw_Ls ad lsA (sw_mx k) lsL) {f j b w idx : Nat} (hSo : sw_So l E ba ad dC dI dA f) {ins : Instr} {st av : List Value} {q : sw_R} (hn : sw_ma j ≤ st.length) (hav : (st.take (sw_ma j)).reverse = av)
    (hck : sw_clk k idx j b w = true) (hg : sw_cat (st.drop (sw_ma j)) ≤ 8 ∧ (sw_mn j = true → ∀ v ∈ av, v.category = 1) ∧ (∀ v ∈ av, sw_isJ v = false) ∧ (sw_eA av).length ≤ sw_mx j ∧ ((sw_mc j = 0 ∧ sw_ms j = 0) ∨ (M.1 + sw_mc j ≤ sw_mc k ∧ M.2.1 + sw_ms j ≤ sw_ms k)))
    (hrun : sw_run E f (j, 0, sw_eL (sw_mx j) av, [], (0, 0, M.2.2)) = some q) (hd : decode (sw_mb k) pc = .ok (ins, 3))
    (hins : (ins = .invokestatic idx ∧ sw_mk j = 0) ∨ ((ins = .invokespecial idx ∧ sw_mk j = 2) ∨ (ins = .invokevirtual idx ∧ sw_mk j = 1 ∧ ∃ r, av.head? = some (.ref r) ∧ sw_isC E M r (sw_mh j) = true)) ∧ ∃ r av', av = .ref r :: av')
    (kk : sw_Kw l ba ad dC dI dA p e s m args below meth c Q (k, pc + 3, lsL, q.1.toList ++ st.drop (sw_ma j), (M.1 + sw_mc j, M.2.1 + sw_ms j, q.2.2.2))) (hN : sw_nlI k lsL) : W p l e (sw_rm k) s m args below meth c H locs M.1 M.2.1 Q (F0 m pc lsA (st.map (sw_cV ad))) := by
  unfold sw_clk at hck
  simp only [Bool.and_eq_true, decide_eq_true_eq] at hck
  obtain ⟨⟨⟨hj, hlk⟩, hfr⟩, hlo⟩ := hck
  have hmj := sw_mok hj
  obtain ⟨⟨-, hy⟩, hdesc, hcodeG, hiniG, hm0, hm1, hm2, hm3⟩ := sw_mparts hmj
  have hMet := sw_met hSo (av := av) hmj hrun hg.2.1 hg.2.2.2.1
  have hgc : M.1 + sw_mc j ≤ sw_mc k ∧ M.2.1 + sw_ms j ≤ sw_ms k := by
    rcases hg.2.2.2.2 with ⟨h1, h2⟩ | h
    · rw [h1, h2]; exact ⟨hH.2.2.1, hH.2.2.2⟩
    · exact h
  have hF' := hF
  obtain ⟨hx, hb, -, -, hml, hown, -, hts, hWd, -⟩ := hF'
  obtain ⟨hst, hlen⟩ := sw_split hn hav
  have hrm : (((st.drop (sw_ma j)).map (sw_cV ad)).map (fun v => v.category)).sum ≤ 8 := by rw [sw_catm]; exact hg.1
  have hW8 : 2 * (F0 m pc lsA (st.map (sw_cV ad))).monitorRoom + (((st.drop (sw_ma j)).map (sw_cV ad)).map fun v => v.category).sum ≤ 8 := lv_room hrm
  have hfin : ∀ {a : Array Value}, va_Run p l e (sw_rm k) s m args below meth c H locs M.1 M.2.1 (sw_mc j) (sw_ms j) (F0 m pc lsA (st.map (sw_cV ad))) ((st.drop (sw_ma j)).map (sw_cV ad)) (sw_Qc ba ad dC dI dA q a) (sw_A ba) → W p l e (sw_rm k) s m args below meth c H locs M.1 M.2.1 Q (F0 m pc lsA (st.map (sw_cV ad))) := by
    intro a hr
    refine sw_w_ret hF hH hr hgc fun H1 locs1 hH1 => ?_
    rw [sw_optm]
    exact kk H1 locs1 lsA hH1 hL hN
  have hCB : b = 0 → CallB (sw_rm k) s args (sw_my k).cls idx (sw_my j) (sw_mb j) (sw_mx j) (sw_mr j) (sw_ws j) (sw_rm j) (sw_mc j) (sw_ms j) (sw_ma j - (if sw_mk j = 0 then 0 else 1)) := by
    intro hb0
    rw [if_pos hb0] at hlk
    exact callB_of _ hts (sw_goodin hmj) rfl rfl rfl (hts _ hiniG) (hts _ (sw_wd_in hlk)) ⟨hy.1, hy.2, hdesc⟩ ⟨hfr, hlo⟩
  have hCN : b ≠ 0 → va_CN (sw_rm k) s args (sw_my k).cls idx (sw_my j) "SpoonWords" (sw_mb j) (sw_mx j) (sw_mr j) (sw_ws j) (sw_rm j) (sw_mc j) (sw_ms j) (sw_ma j - (if sw_mk j = 0 then 0 else 1)) := by
    intro hb0
    rw [if_neg hb0] at hlk
    exact va_cnB _ hts (sw_goodin hmj) rfl rfl rfl (hWd.2.1 _ _ _ _ (List.mem_of_getElem? (by simpa using hlk))) (hts _ hiniG) ⟨hy.1, hy.2, hdesc⟩ ⟨hfr, hlo⟩
  have hsz : (F0 m pc lsA (st.map (sw_cV ad))).locals.size = sw_mx k := hL.1.1
  rcases hins with ⟨rfl, hk0⟩ | ⟨hins, r, av', rfl⟩
  · have hstk : (F0 m pc lsA (st.map (sw_cV ad))).stack = (av.map (sw_cV ad)).reverse ++ (st.drop (sw_ma j)).map (sw_cV ad) := by
      show st.map (sw_cV ad) = _
      conv => lhs; rw [hst]
      rw [List.map_append, List.map_reverse]
    have hnl : (av.map (sw_cV ad)).length = sw_ma j - (if sw_mk j = 0 then 0 else 1) := by rw [List.length_map, hlen, if_pos hk0]; rfl
    by_cases hb0 : b = 0
    · exact hfin (va_runS ⟨hx, hb, hml, hown, hts⟩ hMet ⟨hCB hb0, hts _ (hm0 hk0)⟩ ⟨sw_pc_blind, sw_pc_at hF hH⟩ rfl hnl hsz hstk hW8 hd hgc)
    · exact hfin (va_runSN ⟨hx, hb, hml, hown, hts⟩ hMet ⟨hCN hb0, hts _ (hm0 hk0), trivial⟩ ⟨sw_pc_blind, sw_pc_at hF hH⟩ rfl hnl hsz hstk hW8 hd hgc)
  · have hstk : (F0 m pc lsA (st.map (sw_cV ad))).stack = (av'.map (sw_cV ad)).reverse ++ .ref (ad r) :: (st.drop (sw_ma j)).map (sw_cV ad) := by
      show st.map (sw_cV ad) = _
      conv => lhs; rw [hst]
      rw [List.reverse_cons, List.map_append, List.map_append, List.map_reverse, List.append_assoc]
      rfl
    have hl1 : av'.length + 1 = sw_ma j := by simpa using hlen
    rcases hins with ⟨rfl, hk2⟩ | ⟨rfl, hk1, r', hr', hC⟩
    · have hnl : (av'.map (sw_cV ad)).length = sw_ma j - (if sw_mk j = 0 then 0 else 1) := by rw [List.length_map, if_neg (by omega)]; omega
      obtain ⟨hini, hret⟩ := hm3 hk2
      rw [hret] at hCB hCN
      by_cases hb0 : b = 0
      · exact hfin (va_runI (As := av'.map (sw_cV ad)) ⟨hx, hb, hml, hown, hts⟩ hMet ⟨hCB hb0, hini, hts _ (hm1 (by omega))⟩ ⟨sw_pc_blind, sw_pc_at (av := .ref r :: av') hF hH⟩ rfl hnl hsz hstk hW8 hd hgc)
      · exact hfin (va_runIN (As := av'.map (sw_cV ad)) ⟨hx, hb, hml, hown, hts⟩ hMet ⟨hCN hb0, hini, hts _ (hm1 (by omega))⟩ ⟨sw_pc_blind, sw_pc_at (av := .ref r :: av') hF hH⟩ rfl hnl hsz hstk hW8 hd hgc)
    · have hnl : (av'.map (sw_cV ad)).length = sw_ma j - (if sw_mk j = 0 then 0 else 1) := by rw [List.length_map, if_neg (by omega)]; omega
      obtain ⟨hsel, hh10, hhn⟩ := hm2 hk1
      have hrr : r' = r := by simpa using hr'.symm
      subst hrr
      have hrecv := sw_recv hF hH hC hhn hh10
      by_cases hb0 : b = 0
      · exact hfin (va_runV (As := av'.map (sw_cV ad)) ⟨hx, hb, hml, hown, hts⟩ hMet ⟨hCB hb0, hts _ (hm1 (by omega)), hts _ hsel⟩ ⟨sw_pc_blind, hrecv, sw_pc_at (av := .ref r' :: av') hF hH⟩ rfl hnl hsz hstk hW8 hd hgc)
      · exact hfin (va_runVN (As := av'.map (sw_cV ad)) ⟨hx, hb, hml, hown, hts⟩ hMet ⟨hCN hb0, hts _ (hm1 (by omega)), hts _ hsel⟩ ⟨sw_pc_blind, hrecv, sw_pc_at (av := .ref r' :: av') hF hH⟩ rfl hnl hsz hstk hW8 hd hgc)
end SWM
