section SWL
variable {p : Program} {l : Launch} {e : Env} {R : Room} {s : State} {m : MethodId} {args : Array Value} {below : List Frame} {meth : Method} {c : Code} {H : Heap} {locs : List Loc} {cells slots : Nat} {Q : State → Prop} {cc : ByteArray} {pc : Nat} {ls : Array Slot} {rest : List Value}
theorem sw_ldcwS (hexec : p.tables.exec = Jvm.exec) (hb : c.code = cc) {own tx : String} {index q : Nat} (hown : s.vm.findClass own = some m.cls) (hZ : vk_R own index tx q s) (hdg : decode cc pc = .ok (.ldc_w index, 3))
    (k : W p l e R s m args below meth c H locs cells slots Q (F0 m (pc + 3) ls (.ref q :: rest))) : W p l e R s m args below meth c H locs cells slots Q (F0 m pc ls rest) := by
  intro T hT X
  obtain ⟨t, a1, b1⟩ := k T hT X
  exact ⟨t, X.ldcStringW hexec hown (text := tx) (a := q) hZ.1 hZ.2 (g := F0 m pc ls rest) rfl (by rw [hb]; exact hdg) t a1, b1⟩
end SWL
theorem sw_tsw_is (x : Int32) (d : Int) : ∀ (os : List Int) (lo : Int), 0 ≤ lo → lo + os.length ≤ 100001 → (lo ≤ x.toInt ∧ x.toInt < lo + os.length ∧ os[(x.toInt - lo).toNat]? = some (sw_tsw x lo os d)) ∨ ((x.toInt < lo ∨ lo + os.length ≤ x.toInt) ∧ sw_tsw x lo os d = d)
  | [], lo, _, _ => Or.inr ⟨by simp; omega, rfl⟩
  | o :: os, lo, h0, h1 => by
    have hlen : ((o :: os).length : Int) = os.length + 1 := by simp
    have hx : x = Int32.ofInt lo ↔ x.toInt = lo := by
      have h2 : (Int32.ofInt lo).toInt = lo := Int32.toInt_ofInt_of_le (by omega) (by omega)
      constructor
      · intro h; rw [h, h2]
      · intro h; rw [← h, Int32.ofInt_toInt]
    unfold sw_tsw
    by_cases hc : x = Int32.ofInt lo
    · rw [if_pos hc]
      have := hx.mp hc
      exact Or.inl ⟨by omega, by omega, by rw [show (x.toInt - lo).toNat = 0 by omega]; rfl⟩
    · rw [if_neg hc]
      have hne : ¬ x.toInt = lo := fun h => hc (hx.mpr h)
      rcases sw_tsw_is x d os (lo + 1) (by omega) (by omega) with ⟨a1, a2, a3⟩ | ⟨a1, a2⟩
      · refine Or.inl ⟨by omega, by omega, ?_⟩
        rw [show (x.toInt - lo).toNat = (x.toInt - (lo + 1)).toNat + 1 by omega, List.getElem?_cons_succ]
        exact a3
      · exact Or.inr ⟨by omega, a2⟩
theorem sw_lsw_is (x d : Int) : ∀ (ps : List (Int × Int)), Op.lookupswitch.offset ps d x = d ∨ ∃ q ∈ ps, Op.lookupswitch.offset ps d x = q.2
  | [] => Or.inl rfl
  | (a, o) :: ps => by
    rw [Op.lookupswitch.offset_cons]
    split
    · exact Or.inr ⟨(a, o), List.mem_cons_self, rfl⟩
    · rcases sw_lsw_is x d ps with h | ⟨q, h1, h2⟩
      · exact Or.inl h
      · exact Or.inr ⟨q, List.mem_cons_of_mem _ h1, h2⟩
def sw_Cont (l : Launch) (E : sw_E) (ba : Nat) (ad : Nat → Nat) (dC : Nat → ClassId) (dI : Nat → Nat → Nat) (dA : FieldType → ClassId) (p : Program) (e : Env) (s : State) (m : MethodId) (args : Array Value) (below : List Frame) (meth : Method) (c : Code) (Q : State → Prop) (k f : Nat) (x : sw_Nx) : Prop := match x with
  | .inl r => sw_Qr l ba ad dC dI dA p e s m args below meth c Q k r
  | .inr (.inl c1) => sw_Kw l ba ad dC dI dA p e s m args below meth c Q (k, c1.2)
  | .inr (.inr (c1, c2, a, b)) => ∃ q, sw_run E f c1 = some q ∧ sw_Kw l ba ad dC dI dA p e s m args below meth c Q (sw_ba (k, c2.2) a b q)
section SWT
variable {l : Launch} {E : sw_E} {ba : Nat} {ad : Nat → Nat} {dC : Nat → ClassId} {dI : Nat → Nat → Nat} {dA : FieldType → ClassId}
variable {p : Program} {e : Env} {s : State} {m : MethodId} {args : Array Value} {below : List Frame} {meth : Method} {c : Code} {Q : State → Prop} {k pc f : Nat} {M : sw_M} {ls st : List Value}
set_option maxHeartbeats 4000000 in
theorem sw_step (hF : sw_Fx E ba ad dC dI dA p s m args meth c k) (hSo : sw_So l E ba ad dC dI dA f) {q : sw_N} (hcod : sw_cod k pc = some q) {x : sw_Nx} (hnx : sw_nx E k pc q ls st M = some x) (hcont : sw_Cont l E ba ad dC dI dA p e s m args below meth c Q k f x) :
    sw_Kw l ba ad dC dI dA p e s m args below meth c Q (k, pc, ls, st, M) := by
  intro H locs lsA hH hL hN
  change sw_Hs ba ad dC dI dA s k M H locs at hH
  change sw_Ls ad lsA (sw_mx k) ls at hL
  change sw_nlI k ls at hN
  show W p l e (sw_rm k) s m args below meth c H locs M.1 M.2.1 Q (F0 m pc lsA (st.map (sw_cV ad)))
  have hF' := hF
  obtain ⟨hx, hb, hr, hlk, hml, hown, hnm, hts, hWd, hba⟩ := hF'
  have hchk := sw_ok hcod
  unfold sw_chk at hchk
  rw [Bool.and_eq_true, decide_eq_true_eq] at hchk
  obtain ⟨hd, hchi⟩ := hchk
  obtain ⟨ins, len, a, b, v, w⟩ := q
  cases ins with
  | iconst n => dsimp only [sw_nx, sw_go] at hnx; cases hnx; exact lv_iconst hx hb hd rfl (hcont H locs lsA hH hL hN)
  | bipush n => dsimp only [sw_nx, sw_go] at hnx; cases hnx; exact lv_bipush hx hb hd rfl (hcont H locs lsA hH hL hN)
  | sipush n => dsimp only [sw_nx, sw_go] at hnx; cases hnx; exact lv_sipush hx hb hd rfl (hcont H locs lsA hH hL hN)
  | lconst n => dsimp only [sw_nx, sw_go] at hnx; cases hnx; exact lv_lconst hx hb hd rfl (hcont H locs lsA hH hL hN)
  | aconst_null => dsimp only [sw_nx, sw_go] at hnx; cases hnx; exact lv_null hx hb hd (hcont H locs lsA hH hL hN)
  | ldc idx =>
    dsimp only [sw_nx, sw_go] at hnx
    cases hnx
    dsimp only [sw_chi] at hchi
    split at hchi
    · split at hchi
      · next z => exact lv_ldc hx hb hown (hts _ (sw_wd_in hchi)) hd (hcont H locs lsA hH hL hN)
      · cases hchi
    · split at hchi
      · next t ht =>
        simp only [decide_eq_true_eq] at hchi
        obtain ⟨h1, h2, rfl⟩ := hchi
        have hR := hWd.2.2.2.2.2.2.2.2.1 b t ht
        rw [h1, h2] at hR
        exact va_ldcS hx hb hown hR hd (hcont H locs lsA hH hL hN)
      · cases hchi
  | ldc_w idx =>
    dsimp only [sw_nx, sw_go] at hnx
    cases hnx
    dsimp only [sw_chi] at hchi
    split at hchi
    · split at hchi
      · next z => exact lv_ldcw hx hb hown (hts _ (sw_wd_in hchi)) hd (hcont H locs lsA hH hL hN)
      · cases hchi
    · split at hchi
      · next t ht =>
        simp only [decide_eq_true_eq] at hchi
        obtain ⟨h1, h2, rfl⟩ := hchi
        have hR := hWd.2.2.2.2.2.2.2.2.1 b t ht
        rw [h1, h2] at hR
        exact sw_ldcwS hx hb hown hR hd (hcont H locs lsA hH hL hN)
      · cases hchi
  | ldc2_w idx =>
    dsimp only [sw_nx, sw_go] at hnx
    cases hnx
    dsimp only [sw_chi] at hchi
    split at hchi
    · next z => exact lv_ldc2 hx hb hown (hts _ (sw_wd_in hchi)) hd (hcont H locs lsA hH hL hN)
    · cases hchi
  | iload_n i =>
    dsimp only [sw_nx, sw_go] at hnx
    split at hnx
    · next z hz => cases hnx; exact lv_iload_n hx hb hd rfl (hL.get hz rfl) (hcont H locs lsA hH hL hN)
    · cases hnx
  | iload i =>
    dsimp only [sw_nx, sw_go] at hnx
    split at hnx
    · next z hz => cases hnx; exact lv_iload hx hb hd (hL.get hz rfl) (hcont H locs lsA hH hL hN)
    · cases hnx
  | lload_n i =>
    dsimp only [sw_nx, sw_go] at hnx
    split at hnx
    · next z hz => cases hnx; exact lv_lload_n hx hb hd rfl (hL.get hz rfl) (hcont H locs lsA hH hL hN)
    · cases hnx
  | lload i =>
    dsimp only [sw_nx, sw_go] at hnx
    split at hnx
    · next z hz => cases hnx; exact lv_lload hx hb hd (hL.get hz rfl) (hcont H locs lsA hH hL hN)
    · cases hnx
  | aload_n i =>
    dsimp only [sw_nx, sw_go] at hnx
    split at hnx
    · next z hz => cases hnx; exact lv_aload_n hx hb hd rfl (hL.get hz rfl) (hcont H locs lsA hH hL hN)
    · next hz => cases hnx; exact lv_aload_nN hx hb hd rfl (hL.get hz rfl) (hcont H locs lsA hH hL hN)
    · cases hnx
  | aload i =>
    dsimp only [sw_nx, sw_go] at hnx
    split at hnx
    · next z hz => cases hnx; exact lv_aload hx hb hd (hL.get hz rfl) (hcont H locs lsA hH hL hN)
    · next hz => cases hnx; exact lv_aloadN hx hb hd (hL.get hz rfl) (hcont H locs lsA hH hL hN)
    · cases hnx
  | istore_n i =>
    dsimp only [sw_nx, sw_gl, sw_go] at hnx
    split at hnx
    · next z t =>
      split at hnx
      · next l2 hs => cases hnx; exact lv_istore_n hx hb hd rfl hL.1 (by have := (sw_s1_is hs hN).1; rw [hL.2] at this; exact this) rfl (fun ls' hl => hcont H locs ls' hH (hL.set1 hs hN hl (fun _ h => h)) (sw_s1_nl hs rfl hN))
      · cases hnx
    · cases hnx
  | istore i =>
    dsimp only [sw_nx, sw_gl, sw_go] at hnx
    split at hnx
    · next z t =>
      split at hnx
      · next l2 hs => cases hnx; exact lv_istore hx hb hd hL.1 (by have := (sw_s1_is hs hN).1; rw [hL.2] at this; exact this) rfl (fun ls' hl => hcont H locs ls' hH (hL.set1 hs hN hl (fun _ h => h)) (sw_s1_nl hs rfl hN))
      · cases hnx
    · cases hnx
  | lstore_n i =>
    dsimp only [sw_nx, sw_gl, sw_go] at hnx
    split at hnx
    · next z t =>
      split at hnx
      · next l2 hs => cases hnx; exact lv_lstore_n hx hb hd rfl hL.1 (by have := (sw_s2_is hs).2.1; rw [hL.2] at this; exact this) rfl (fun ls' hl => hcont H locs ls' hH (hL.set2 hs hl) (fun hk => by rw [(sw_s2_is hs).1] at hk; cases hk))
      · cases hnx
    · cases hnx
  | lstore i =>
    dsimp only [sw_nx, sw_gl, sw_go] at hnx
    split at hnx
    · next z t =>
      split at hnx
      · next l2 hs => cases hnx; exact lv_lstore hx hb hd hL.1 (by have := (sw_s2_is hs).2.1; rw [hL.2] at this; exact this) rfl (fun ls' hl => hcont H locs ls' hH (hL.set2 hs hl) (fun hk => by rw [(sw_s2_is hs).1] at hk; cases hk))
      · cases hnx
    · cases hnx
  | astore_n i =>
    dsimp only [sw_nx, sw_gl, sw_go] at hnx
    split at hnx
    · next z t =>
      split at hnx
      · next l2 hs => cases hnx; exact lv_astore_n hx hb hd rfl hL.1 (by have := (sw_s1_is hs hN).1; rw [hL.2] at this; exact this) rfl (fun ls' hl => hcont H locs ls' hH (hL.set1 hs hN hl (fun _ h => h)) (sw_s1_nl hs rfl hN))
      · cases hnx
    · next t =>
      split at hnx
      · next l2 hs => cases hnx; exact lv_astore_nN hx hb hd rfl hL.1 (by have := (sw_s1_is hs hN).1; rw [hL.2] at this; exact this) rfl (fun ls' hl => hcont H locs ls' hH (hL.set1 hs hN hl (fun _ h => h)) (sw_s1_nl hs rfl hN))
      · cases hnx
    · cases hnx
  | astore i =>
    dsimp only [sw_nx, sw_gl, sw_go] at hnx
    split at hnx
    · next z t =>
      split at hnx
      · next l2 hs => cases hnx; exact lv_astore hx hb hd hL.1 (by have := (sw_s1_is hs hN).1; rw [hL.2] at this; exact this) rfl (fun ls' hl => hcont H locs ls' hH (hL.set1 hs hN hl (fun _ h => h)) (sw_s1_nl hs rfl hN))
      · cases hnx
    · next t =>
      split at hnx
      · next l2 hs => cases hnx; exact lv_astoreN hx hb hd hL.1 (by have := (sw_s1_is hs hN).1; rw [hL.2] at this; exact this) rfl (fun ls' hl => hcont H locs ls' hH (hL.set1 hs hN hl (fun _ h => h)) (sw_s1_nl hs rfl hN))
      · cases hnx
    · cases hnx
  | iinc i n =>
    dsimp only [sw_nx, sw_gl, sw_go] at hnx
    split at hnx
    · next z hz =>
      split at hnx
      · next l2 hs =>
        cases hnx
        have h2 : lv_has lsA (sw_mx k) ((i, .int z) :: sw_en ad 0 ls) := ⟨hL.1.1, hL.1.2.1, fun q hq => by
          rcases List.mem_cons.mp hq with rfl | hq
          · exact hL.get hz rfl
          · exact hL.1.2.2 q hq⟩
        refine lv_iinc (k := 0) hx hb hd h2 rfl rfl (by have := (sw_s1_is hs hN).1; rw [hL.2] at this; exact this) rfl (fun ls' hl => hcont H locs ls' hH (hL.set1 hs hN hl (fun q hq => ?_)) (sw_s1_nl hs rfl hN))
        rcases List.mem_cons.mp hq with rfl | hq
        · exact List.mem_cons_self
        · obtain ⟨h3, h4⟩ := List.mem_filter.mp hq
          exact List.mem_cons_of_mem _ (List.mem_filter.mpr ⟨List.mem_cons_of_mem _ h3, h4⟩)
      · cases hnx
    · cases hnx
  | iadd => dsimp only [sw_nx, sw_go] at hnx; split at hnx; · cases hnx; exact lv_iadd hx hb hd (hcont H locs lsA hH hL hN)
            · cases hnx
  | isub => dsimp only [sw_nx, sw_go] at hnx; split at hnx; · cases hnx; exact lv_isub hx hb hd (hcont H locs lsA hH hL hN)
            · cases hnx
  | imul => dsimp only [sw_nx, sw_go] at hnx; split at hnx; · cases hnx; exact lv_imul hx hb hd (hcont H locs lsA hH hL hN)
            · cases hnx
  | iand => dsimp only [sw_nx, sw_go] at hnx; split at hnx; · cases hnx; exact lv_iand hx hb hd (hcont H locs lsA hH hL hN)
            · cases hnx
  | ior => dsimp only [sw_nx, sw_go] at hnx; split at hnx; · cases hnx; exact lv_ior hx hb hd (hcont H locs lsA hH hL hN)
           · cases hnx
  | ixor => dsimp only [sw_nx, sw_go] at hnx; split at hnx; · cases hnx; exact lv_ixor hx hb hd (hcont H locs lsA hH hL hN)
            · cases hnx
  | ishl => dsimp only [sw_nx, sw_go] at hnx; split at hnx; · cases hnx; exact lv_ishl hx hb hd (hcont H locs lsA hH hL hN)
            · cases hnx
  | ishr => dsimp only [sw_nx, sw_go] at hnx; split at hnx; · cases hnx; exact lv_ishr hx hb hd (hcont H locs lsA hH hL hN)
            · cases hnx
  | iushr => dsimp only [sw_nx, sw_go] at hnx; split at hnx; · cases hnx; exact lv_iushr hx hb hd rfl (hcont H locs lsA hH hL hN)
             · cases hnx
  | idiv =>
    dsimp only [sw_nx, sw_go] at hnx
    split at hnx
    · split at hnx
      · cases hnx
      · next h0 => cases hnx; exact lv_idiv hx hb hd h0 (hcont H locs lsA hH hL hN)
    · cases hnx
  | irem =>
    dsimp only [sw_nx, sw_go] at hnx
    split at hnx
    · split at hnx
      · cases hnx
      · next h0 => cases hnx; exact lv_irem hx hb hd h0 (hcont H locs lsA hH hL hN)
    · cases hnx
  | ladd => dsimp only [sw_nx, sw_go] at hnx; split at hnx; · cases hnx; exact lv_ladd hx hb hd (hcont H locs lsA hH hL hN)
            · cases hnx
  | land => dsimp only [sw_nx, sw_go] at hnx; split at hnx; · cases hnx; exact lv_land hx hb hd (hcont H locs lsA hH hL hN)
            · cases hnx
  | lor => dsimp only [sw_nx, sw_go] at hnx; split at hnx; · cases hnx; exact lv_lor hx hb hd (hcont H locs lsA hH hL hN)
           · cases hnx
  | lshl => dsimp only [sw_nx, sw_go] at hnx; split at hnx; · cases hnx; exact lv_lshl hx hb hd rfl (hcont H locs lsA hH hL hN)
            · cases hnx
  | lcmp => dsimp only [sw_nx, sw_go] at hnx; split at hnx; · cases hnx; exact W.lcmp hx hb hd (hcont H locs lsA hH hL hN)
            · cases hnx
  | i2l => dsimp only [sw_nx, sw_go] at hnx; split at hnx; · cases hnx; exact lv_i2l hx hb hd rfl (hcont H locs lsA hH hL hN)
           · cases hnx
  | l2i => dsimp only [sw_nx, sw_go] at hnx; split at hnx; · cases hnx; exact lv_l2i hx hb hd rfl (hcont H locs lsA hH hL hN)
           · cases hnx
  | i2b => dsimp only [sw_nx, sw_go] at hnx; split at hnx; · cases hnx; exact lv_i2b hx hb hd rfl (hcont H locs lsA hH hL hN)
           · cases hnx
  | i2s => dsimp only [sw_nx, sw_go] at hnx; split at hnx; · cases hnx; exact lv_i2s hx hb hd rfl (hcont H locs lsA hH hL hN)
           · cases hnx
  | i2c => dsimp only [sw_nx, sw_go] at hnx; split at hnx; · cases hnx; exact lv_i2c hx hb hd rfl (hcont H locs lsA hH hL hN)
           · cases hnx
  | dup =>
    dsimp only [sw_nx, sw_go] at hnx
    split at hnx
    · cases hnx; exact lv_dup hx hb hd rfl (hcont H locs lsA hH hL hN)
    · cases hnx; exact lv_dup hx hb hd rfl (hcont H locs lsA hH hL hN)
    · cases hnx
  | pop =>
    dsimp only [sw_nx, sw_go] at hnx
    split at hnx
    · next z t => cases hnx; exact lv_pop (va := .int z) hx hb hd rfl (hcont H locs lsA hH hL hN)
    · next z t => cases hnx; exact lv_pop (va := .ref (ad z)) hx hb hd rfl (hcont H locs lsA hH hL hN)
    · cases hnx
  | dup2 =>
    dsimp only [sw_nx, sw_go] at hnx
    split at hnx
    · cases hnx; exact lv_dup2_11 hx hb hd rfl rfl (hcont H locs lsA hH hL hN)
    · cases hnx
  | ifCond cd off =>
    have hpc : 0 ≤ (pc : Int) + off := by simpa [sw_chi] using hchi
    cases cd with
    | eq =>
      dsimp only [sw_nx, sw_go] at hnx
      split at hnx
      · split at hnx
        · next h => cases hnx; exact lv_if_eq hx hb hd (sw_jt_eq hpc) (fun _ => hcont H locs lsA hH hL hN) (fun h' => absurd h h')
        · next h => cases hnx; exact lv_if_eq hx hb hd (sw_jt_eq hpc) (fun h' => absurd h' h) (fun _ => hcont H locs lsA hH hL hN)
      · cases hnx
    | ne =>
      dsimp only [sw_nx, sw_go] at hnx
      split at hnx
      · split at hnx
        · next h => cases hnx; exact lv_if_ne hx hb hd (sw_jt_eq hpc) (fun h' => absurd h h') (fun _ => hcont H locs lsA hH hL hN)
        · next h => cases hnx; exact lv_if_ne hx hb hd (sw_jt_eq hpc) (fun _ => hcont H locs lsA hH hL hN) (fun h' => absurd h' h)
      · cases hnx
    | lt =>
      dsimp only [sw_nx, sw_go] at hnx
      split at hnx
      · split at hnx
        · next h => cases hnx; exact lv_if_lt hx hb hd (sw_jt_eq hpc) (fun _ => hcont H locs lsA hH hL hN) (fun h' => absurd h h')
        · next h => cases hnx; exact lv_if_lt hx hb hd (sw_jt_eq hpc) (fun h' => absurd h' h) (fun _ => hcont H locs lsA hH hL hN)
      · cases hnx
    | ge =>
      dsimp only [sw_nx, sw_go] at hnx
      split at hnx
      · split at hnx
        · next h => cases hnx; exact lv_if_ge hx hb hd (sw_jt_eq hpc) (fun h' => absurd h (Int32.not_lt.mpr h')) (fun _ => hcont H locs lsA hH hL hN)
        · next h => cases hnx; exact lv_if_ge hx hb hd (sw_jt_eq hpc) (fun _ => hcont H locs lsA hH hL hN) (fun h' => absurd (Int32.not_lt.mp h) h')
      · cases hnx
    | gt =>
      dsimp only [sw_nx, sw_go] at hnx
      split at hnx
      · split at hnx
        · next h => cases hnx; exact lv_if_gt hx hb hd (sw_jt_eq hpc) (fun _ => hcont H locs lsA hH hL hN) (fun h' => absurd h h')
        · next h => cases hnx; exact lv_if_gt hx hb hd (sw_jt_eq hpc) (fun h' => absurd h' h) (fun _ => hcont H locs lsA hH hL hN)
      · cases hnx
    | le =>
      dsimp only [sw_nx, sw_go] at hnx
      split at hnx
      · split at hnx
        · next h => cases hnx; exact lv_if_le hx hb hd (sw_jt_eq hpc) (fun h' => absurd h (Int32.not_lt.mpr h')) (fun _ => hcont H locs lsA hH hL hN)
        · next h => cases hnx; exact lv_if_le hx hb hd (sw_jt_eq hpc) (fun _ => hcont H locs lsA hH hL hN) (fun h' => absurd (Int32.not_lt.mp h) h')
      · cases hnx
  | if_icmp cd off =>
    have hpc : 0 ≤ (pc : Int) + off := by simpa [sw_chi] using hchi
    cases cd with
    | eq =>
      dsimp only [sw_nx, sw_go] at hnx
      split at hnx
      · split at hnx
        · next h => cases hnx; exact lv_icmp_eq hx hb hd (sw_jt_eq hpc) (fun _ => hcont H locs lsA hH hL hN) (fun h' => absurd h h')
        · next h => cases hnx; exact lv_icmp_eq hx hb hd (sw_jt_eq hpc) (fun h' => absurd h' h) (fun _ => hcont H locs lsA hH hL hN)
      · cases hnx
    | ne =>
      dsimp only [sw_nx, sw_go] at hnx
      split at hnx
      · split at hnx
        · next h => cases hnx; exact lv_icmp_ne hx hb hd (sw_jt_eq hpc) (fun h' => absurd h h') (fun _ => hcont H locs lsA hH hL hN)
        · next h => cases hnx; exact lv_icmp_ne hx hb hd (sw_jt_eq hpc) (fun _ => hcont H locs lsA hH hL hN) (fun h' => absurd h' h)
      · cases hnx
    | lt =>
      dsimp only [sw_nx, sw_go] at hnx
      split at hnx
      · split at hnx
        · next h => cases hnx; exact lv_icmp_lt hx hb hd (sw_jt_eq hpc) (fun _ => hcont H locs lsA hH hL hN) (fun h' => absurd h h')
        · next h => cases hnx; exact lv_icmp_lt hx hb hd (sw_jt_eq hpc) (fun h' => absurd h' h) (fun _ => hcont H locs lsA hH hL hN)
      · cases hnx
    | ge =>
      dsimp only [sw_nx, sw_go] at hnx
      split at hnx
      · split at hnx
        · next h => cases hnx; exact lv_icmp_ge hx hb hd (sw_jt_eq hpc) (fun h' => absurd h (Int32.not_lt.mpr h')) (fun _ => hcont H locs lsA hH hL hN)
        · next h => cases hnx; exact lv_icmp_ge hx hb hd (sw_jt_eq hpc) (fun _ => hcont H locs lsA hH hL hN) (fun h' => absurd (Int32.not_lt.mp h) h')
      · cases hnx
    | gt =>
      dsimp only [sw_nx, sw_go] at hnx
      split at hnx
      · split at hnx
        · next h => cases hnx; exact lv_icmp_gt hx hb hd (sw_jt_eq hpc) (fun _ => hcont H locs lsA hH hL hN) (fun h' => absurd h h')
        · next h => cases hnx; exact lv_icmp_gt hx hb hd (sw_jt_eq hpc) (fun h' => absurd h' h) (fun _ => hcont H locs lsA hH hL hN)
      · cases hnx
    | le =>
      dsimp only [sw_nx, sw_go] at hnx
      split at hnx
      · split at hnx
        · next h => cases hnx; exact lv_icmp_le hx hb hd (sw_jt_eq hpc) (fun h' => absurd h (Int32.not_lt.mpr h')) (fun _ => hcont H locs lsA hH hL hN)
        · next h => cases hnx; exact lv_icmp_le hx hb hd (sw_jt_eq hpc) (fun _ => hcont H locs lsA hH hL hN) (fun h' => absurd (Int32.not_lt.mp h) h')
      · cases hnx
  | ifnull off =>
    have hpc : 0 ≤ (pc : Int) + off := by simpa [sw_chi] using hchi
    dsimp only [sw_nx, sw_go] at hnx
    split at hnx
    · cases hnx; exact lv_ifnullN hx hb hd (sw_jt_eq hpc) (hcont H locs lsA hH hL hN)
    · next z t => cases hnx; exact lv_ifnull (x := ad z) hx hb hd (hcont H locs lsA hH hL hN)
    · cases hnx
  | ifnonnull off =>
    have hpc : 0 ≤ (pc : Int) + off := by simpa [sw_chi] using hchi
    dsimp only [sw_nx, sw_go] at hnx
    split at hnx
    · cases hnx; exact lv_ifnonnullN hx hb hd (hcont H locs lsA hH hL hN)
    · next z t => cases hnx; exact lv_ifnonnull (x := ad z) hx hb hd (sw_jt_eq hpc) (hcont H locs lsA hH hL hN)
    · cases hnx
  | goto off =>
    have hpc : 0 ≤ (pc : Int) + off := by simpa [sw_chi] using hchi
    dsimp only [sw_nx, sw_go] at hnx
    cases hnx
    exact lv_goto hx hb hd (sw_jt_eq hpc) (hcont H locs lsA hH hL hN)
  | tableswitch d lo hi offs =>
    dsimp only [sw_chi] at hchi
    simp only [Bool.and_eq_true, decide_eq_true_eq, List.all_eq_true] at hchi
    obtain ⟨⟨⟨⟨c1, c2⟩, c3⟩, c4⟩, c5⟩ := hchi
    dsimp only [sw_nx, sw_go] at hnx
    split at hnx
    · next z t =>
      cases hnx
      have hsz : (offs.toList.length : Int) = offs.size := by simp
      rcases sw_tsw_is z d offs.toList lo c4 (by omega) with ⟨a1, a2, a3⟩ | ⟨a1, a2⟩
      · have hmem := List.mem_of_getElem? a3
        refine lv_tableIn hx hb hd (by omega) (by omega) (off := sw_tsw z lo offs.toList d) (by rw [← Array.getElem?_toList]; exact a3) (sw_jt_eq (c2 _ hmem)) (hcont H locs lsA hH hL hN)
      · refine lv_tableOut (tgt := sw_jt pc d) hx hb hd (by omega) (sw_jt_eq c1) ?_
        have h1 := hcont H locs lsA hH hL hN
        dsimp only at h1
        rw [a2] at h1
        exact h1
    · cases hnx
  | lookupswitch d ps =>
    dsimp only [sw_chi] at hchi
    rw [Bool.and_eq_true, Bool.and_eq_true, decide_eq_true_eq] at hchi
    obtain ⟨⟨c1, c2⟩, c3⟩ := hchi
    rw [List.all_eq_true] at c2
    dsimp only [sw_nx, sw_go] at hnx
    split at hnx
    · next z t =>
      cases hnx
      refine lv_lookup hx hb hd c3 rfl (sw_jt_eq ?_) (hcont H locs lsA hH hL hN)
      rcases sw_lsw_is z.toInt d ps.toList with h | ⟨q, h1, h2⟩
      · rw [h]; exact c1
      · rw [h2]; simpa using c2 q h1
    · cases hnx
  | getfield idx =>
    dsimp only [sw_chi] at hchi
    simp only [Bool.and_eq_true, Bool.or_eq_true, decide_eq_true_eq] at hchi
    dsimp only [sw_nx, sw_gv, sw_go] at hnx
    split at hnx
    · next r t =>
      split at hnx
      · next z hz => cases hnx; exact sw_w_get hF hH hz hd hchi.1 hchi.2 (hcont H locs lsA hH hL hN)
      · cases hnx
    · cases hnx
  | putfield idx =>
    dsimp only [sw_chi] at hchi
    simp only [Bool.and_eq_true, Bool.or_eq_true, decide_eq_true_eq, Bool.not_eq_true'] at hchi
    dsimp only [sw_nx, sw_gm, sw_go] at hnx
    split at hnx
    · next z r t =>
      split at hnx
      · next M1 hz =>
        cases hnx
        have hM : M1.1 = M.1 ∧ M1.2.1 = M.2.1 := by
          unfold sw_pF at hz
          split at hz
          · split at hz
            · split at hz
              · cases hz; exact ⟨rfl, rfl⟩
              · cases hz
            · cases hz
          · cases hz
        refine sw_w_put hF hH hz hd hchi.1.1 hchi.1.2 hchi.2 (fun H1 locs1 hH1 => ?_)
        have h1 := hcont H1 locs1 lsA hH1 hL hN
        dsimp only at h1
        rw [hM.1, hM.2] at h1
        exact h1
      · cases hnx
    · cases hnx
  | getstatic idx =>
    dsimp only [sw_chi] at hchi
    simp only [Bool.and_eq_true, decide_eq_true_eq] at hchi
    dsimp only [sw_nx, sw_gv, sw_go] at hnx
    split at hnx
    · next z hz =>
      cases hnx
      have hlink := hts _ (sw_wd_in hchi.2)
      match a, hchi.1, hz, hlink with
      | 0, _, hz, hlink => cases hz; exact va_gets hx hb hWd.2.2.2.2.1.1 hH.2.1 hown hlink (fun _ h => h) hd (hcont H locs lsA hH hL hN)
      | 1, _, hz, hlink => cases hz; exact va_gets hx hb hWd.2.2.2.2.2.1 hH.2.1 hown hlink (fun _ h => h) hd (hcont H locs lsA hH hL hN)
      | 2, _, hz, hlink => cases hz; exact va_gets hx hb hWd.2.2.2.2.2.2.1 hH.2.1 hown hlink (fun _ h => h) hd (hcont H locs lsA hH hL hN)
      | a + 3, h3, _, _ => omega
    · cases hnx
  | iaload =>
    dsimp only [sw_nx, sw_gv, sw_go] at hnx
    split at hnx
    · split at hnx
      · next z hz => cases hnx; exact sw_w_aI hF hH hz hd (hcont H locs lsA hH hL hN)
      · cases hnx
    · cases hnx
  | laload =>
    dsimp only [sw_nx, sw_gv, sw_go] at hnx
    split at hnx
    · split at hnx
      · next z hz => cases hnx; exact sw_w_aL hF hH hz hd (hcont H locs lsA hH hL hN)
      · cases hnx
    · cases hnx
  | baload =>
    dsimp only [sw_nx, sw_gv, sw_go] at hnx
    split at hnx
    · split at hnx
      · next z hz => cases hnx; exact sw_w_aB hF hH hz hd (hcont H locs lsA hH hL hN)
      · cases hnx
    · cases hnx
  | aaload =>
    dsimp only [sw_nx, sw_gv, sw_go] at hnx
    split at hnx
    · split at hnx
      · next z hz => cases hnx; exact sw_w_aA hF hH hz hd (hcont H locs lsA hH hL hN)
      · cases hnx
    · cases hnx
  | arraylength =>
    dsimp only [sw_nx, sw_gv, sw_go] at hnx
    split at hnx
    · split at hnx
      · next z hz => cases hnx; exact sw_w_ln hF hH hz hd (hcont H locs lsA hH hL hN)
      · cases hnx
    · cases hnx
  | iastore =>
    dsimp only [sw_nx, sw_gm, sw_go] at hnx
    split at hnx
    · split at hnx
      · next M1 hz =>
        cases hnx
        have hM : M1.1 = M.1 ∧ M1.2.1 = M.2.1 := by
          unfold sw_sI at hz
          split at hz
          · split at hz
            · split at hz
              · cases hz
              · cases hz; exact ⟨rfl, rfl⟩
            · cases hz
          · cases hz
        refine sw_w_sI hF hH hz hd (fun H1 locs1 hH1 => ?_)
        have h1 := hcont H1 locs1 lsA hH1 hL hN
        dsimp only at h1
        rw [hM.1, hM.2] at h1
        exact h1
      · cases hnx
    · cases hnx
  | lastore =>
    dsimp only [sw_nx, sw_gm, sw_go] at hnx
    split at hnx
    · split at hnx
      · next M1 hz =>
        cases hnx
        have hM : M1.1 = M.1 ∧ M1.2.1 = M.2.1 := by
          unfold sw_sL at hz
          split at hz
          · split at hz
            · split at hz
              · cases hz
              · cases hz; exact ⟨rfl, rfl⟩
            · cases hz
          · cases hz
        refine sw_w_sL hF hH hz hd (fun H1 locs1 hH1 => ?_)
        have h1 := hcont H1 locs1 lsA hH1 hL hN
        dsimp only at h1
        rw [hM.1, hM.2] at h1
        exact h1
      · cases hnx
    · cases hnx
  | bastore =>
    dsimp only [sw_nx, sw_gm, sw_go] at hnx
    split at hnx
    · split at hnx
      · next M1 hz =>
        cases hnx
        have hM : M1.1 = M.1 ∧ M1.2.1 = M.2.1 := by
          unfold sw_sB at hz
          split at hz
          · split at hz
            · split at hz
              · cases hz
              · cases hz; exact ⟨rfl, rfl⟩
            · cases hz
          · cases hz
        refine sw_w_sB hF hH hz hd (fun H1 locs1 hH1 => ?_)
        have h1 := hcont H1 locs1 lsA hH1 hL hN
        dsimp only at h1
        rw [hM.1, hM.2] at h1
        exact h1
      · cases hnx
    · cases hnx
  | aastore =>
    dsimp only [sw_nx, sw_gm, sw_go] at hnx
    split at hnx
    · split at hnx
      · next M1 hz =>
        cases hnx
        have hM : M1.1 = M.1 ∧ M1.2.1 = M.2.1 := by
          unfold sw_sA at hz
          split at hz
          · split at hz
            · split at hz
              · split at hz
                · cases hz
                · cases hz; exact ⟨rfl, rfl⟩
              · cases hz
            · cases hz
          · cases hz
        refine sw_w_sA hF hH hz hd (fun H1 locs1 hH1 => ?_)
        have h1 := hcont H1 locs1 lsA hH1 hL hN
        dsimp only at h1
        rw [hM.1, hM.2] at h1
        exact h1
      · cases hnx
    · cases hnx
  | new idx =>
    dsimp only [sw_chi] at hchi
    rw [Bool.and_eq_true, decide_eq_true_eq] at hchi
    obtain ⟨c1, c2⟩ := hchi
    dsimp only [sw_nx, sw_go] at hnx
    split at hnx
    · next hg =>
      cases hnx
      split at c2
      · next t ht => exact sw_w_new hF hH c1 ht c2 hg hd (fun H1 hH1 => hcont H1 locs lsA hH1 hL hN)
      · cases c2
    · cases hnx
  | newarray t =>
    dsimp only [sw_nx, sw_go] at hnx
    split at hnx
    · next n st =>
      split at hnx
      · next hg =>
        split at hnx
        · cases hnx
          exact sw_w_newa (atype := .int) (a0 := .inl (fun _ => 0)) hF hH 0 rfl (fun h => h) (sw_x0_in (i := 5) rfl) (by decide) rfl hg hd (fun H1 hH1 => hcont H1 locs lsA hH1 hL hN)
        · cases hnx
          exact sw_w_newa (atype := .boolean) (a0 := .inl (fun _ => 0)) hF hH 2 rfl (fun h => h) (sw_x0_in (i := 7) rfl) (by decide) rfl hg hd (fun H1 hH1 => hcont H1 locs lsA hH1 hL hN)
        · cases hnx
          exact sw_w_newa (atype := .long) (a0 := .inr (.inl (fun _ => 0))) hF hH 1 rfl (fun h => h) (sw_x0_in (i := 6) rfl) (by decide) rfl hg hd (fun H1 hH1 => hcont H1 locs lsA hH1 hL hN)
        · cases hnx
      · cases hnx
    · cases hnx
  | anewarray idx =>
    dsimp only [sw_chi] at hchi
    dsimp only [sw_nx, sw_go] at hnx
    split at hnx
    · next n st =>
      split at hnx
      · next hg => cases hnx; exact sw_w_anew hF hH hchi ⟨hg.1, hg.2.1, hg.2.2.1, hg.2.2.2.1, hg.2.2.2.2.1⟩ hd (fun H1 hH1 => hcont H1 locs lsA hH1 hL hN)
      · cases hnx
    · cases hnx
  | invokestatic idx =>
    dsimp only [sw_chi] at hchi
    dsimp only [sw_nx] at hnx
    split at hnx
    · next h3 =>
      rw [if_pos h3] at hchi
      simp only [Bool.and_eq_true, decide_eq_true_eq] at hchi
      split at hnx
      · next n dp b' sp a' t =>
        split at hnx
        · next hcat =>
          dsimp only [sw_gm, sw_go] at hnx
          split at hnx
          · next M1 hz =>
            cases hnx
            have hM : M1.1 = M.1 ∧ M1.2.1 = M.2.1 := by
              unfold sw_cp at hz
              split at hz
              · split at hz
                · split at hz
                  · cases hz; exact ⟨rfl, rfl⟩
                  · cases hz
                · split at hz
                  · cases hz; exact ⟨rfl, rfl⟩
                  · cases hz
                · split at hz
                  · cases hz; exact ⟨rfl, rfl⟩
                  · cases hz
                · cases hz
              · cases hz
            refine sw_w_cp hF hH hL.1.1 hz hchi.1.1 hchi.1.2 hchi.2 (by rw [sw_catm]; exact hcat) hd (fun H1 locs1 hH1 => ?_)
            have h1 := hcont H1 locs1 lsA hH1 hL hN
            dsimp only at h1
            rw [hM.1, hM.2] at h1
            exact h1
          · cases hnx
        · cases hnx
      · cases hnx
    · next h3 =>
      rw [if_neg h3] at hchi
      split at hnx
      · next h4 =>
        rw [if_pos h4] at hchi
        simp only [Bool.and_eq_true, decide_eq_true_eq] at hchi
        split at hnx
        · next y z t =>
          split at hnx
          · next hcat =>
            dsimp only [sw_go] at hnx
            cases hnx
            exact va_mmax hx hb (by rw [hml]; exact hL.1.1.symm) hown (hts _ (sw_wd_in hchi.1.1)) (hts _ (sw_x0_in (i := 8) rfl)) (hts _ (sw_x0_in (i := 12) rfl)) (hts _ (sw_x0_in (i := 9) rfl)) hchi.1.2 (by rw [sw_catm]; show _ ≤ sw_ml k; omega) hH.2.2.1 hH.2.2.2 hd (hcont H locs lsA hH hL hN)
          · cases hnx
        · cases hnx
      · next h4 =>
        rw [if_neg h4] at hchi
        split at hnx
        · next h5 =>
          rw [if_pos h5] at hchi
          simp only [Bool.and_eq_true, decide_eq_true_eq] at hchi
          split at hnx
          · next y z t =>
            split at hnx
            · next hcat =>
              dsimp only [sw_go] at hnx
              cases hnx
              exact va_mmin hx hb (by rw [hml]; exact hL.1.1.symm) hown (hts _ (sw_wd_in hchi.1.1)) (hts _ (sw_x0_in (i := 10) rfl)) (hts _ (sw_x0_in (i := 12) rfl)) (hts _ (sw_x0_in (i := 11) rfl)) hchi.1.2 (by rw [sw_catm]; show _ ≤ sw_ml k; omega) hH.2.2.1 hH.2.2.2 hd (hcont H locs lsA hH hL hN)
            · cases hnx
          · cases hnx
        · next h5 =>
          rw [if_neg h5] at hchi
          simp only [Bool.and_eq_true, decide_eq_true_eq] at hchi
          split at hnx
          · next hn =>
            unfold sw_ca at hnx
            split at hnx
            · next hg =>
              cases hnx
              obtain ⟨q, hq, hk⟩ := hcont
              exact sw_w_call hF hH hL hSo hn rfl hchi.1 hg hq hd (Or.inl ⟨rfl, hchi.2⟩) hk hN
            · cases hnx
          · cases hnx
  | invokespecial idx =>
    dsimp only [sw_chi] at hchi
    dsimp only [sw_nx] at hnx
    split at hnx
    · next h3 =>
      rw [if_pos h3] at hchi
      simp only [Bool.and_eq_true, decide_eq_true_eq] at hchi
      split at hnx
      · next r t =>
        split at hnx
        · next hcat =>
          dsimp only [sw_go] at hnx
          cases hnx
          refine W.objInit hx hb hown (hts _ (sw_wd_in hchi.1.1)) (hts _ (sw_x0_in (i := 0) rfl)) (hts _ (sw_x0_in (i := 1) rfl)) rfl (by rw [hml]; exact hL.1.1) rfl hd hchi.1.2 (by show 2 * 0 + ((t.map (sw_cV ad)).map fun v => v.category).sum + 12 ≤ sw_ml k; rw [sw_catm]; omega) (hcont H locs lsA hH hL hN)
        · cases hnx
      · cases hnx
    · next h3 =>
      rw [if_neg h3] at hchi
      simp only [Bool.and_eq_true, decide_eq_true_eq] at hchi
      split at hnx
      · next hn =>
        split at hnx
        · next r av hav =>
          unfold sw_ca at hnx
          split at hnx
          · next hg =>
            cases hnx
            obtain ⟨q, hq, hk⟩ := hcont
            exact sw_w_call hF hH hL hSo hn hav hchi.1.1 hg hq hd (Or.inr ⟨Or.inl ⟨rfl, hchi.1.2⟩, r, av, rfl⟩) hk hN
          · cases hnx
        · cases hnx
      · cases hnx
  | invokevirtual idx =>
    dsimp only [sw_chi] at hchi
    simp only [Bool.and_eq_true, decide_eq_true_eq] at hchi
    dsimp only [sw_nx] at hnx
    split at hnx
    · next hn =>
      split at hnx
      · next r av hav =>
        split at hnx
        · next hC =>
          unfold sw_ca at hnx
          split at hnx
          · next hg =>
            cases hnx
            obtain ⟨q, hq, hk⟩ := hcont
            exact sw_w_call hF hH hL hSo hn hav hchi.1.1 hg hq hd (Or.inr ⟨Or.inr ⟨rfl, hchi.1.2, r, rfl, hC⟩, r, av, rfl⟩) hk hN
          · cases hnx
        · cases hnx
      · cases hnx
    · cases hnx
  | ireturn =>
    dsimp only [sw_nx] at hnx
    split at hnx
    · next z =>
      split at hnx
      · next hok => cases hnx; exact hcont H locs lsA pc .ireturn hH hd (Or.inl ⟨rfl, z, rfl, hok⟩)
      · cases hnx
    · cases hnx
  | lreturn =>
    have hrt : sw_mr k = some .long := by simpa [sw_chi] using hchi
    dsimp only [sw_nx] at hnx
    split at hnx
    · next z => cases hnx; exact hcont H locs lsA pc .lreturn hH hd (Or.inr (Or.inl ⟨rfl, hrt, z, rfl⟩))
    · cases hnx
  | areturn =>
    have hrt : ∃ rt, sw_mr k = some rt ∧ ((∃ n, rt = .object n) ∨ ∃ t, rt = .array t) := by
      dsimp only [sw_chi] at hchi
      split at hchi
      · next n hn => exact ⟨_, hn, Or.inl ⟨n, rfl⟩⟩
      · next n hn => exact ⟨_, hn, Or.inr ⟨n, rfl⟩⟩
      · cases hchi
    dsimp only [sw_nx] at hnx
    split at hnx
    · next z => cases hnx; exact hcont H locs lsA pc .areturn hH hd (Or.inr (Or.inr (Or.inl ⟨rfl, hrt, Or.inr ⟨z, rfl⟩⟩)))
    · cases hnx; exact hcont H locs lsA pc .areturn hH hd (Or.inr (Or.inr (Or.inl ⟨rfl, hrt, Or.inl rfl⟩)))
    · cases hnx
  | return_ =>
    have hrt : sw_mr k = none := by simpa [sw_chi] using hchi
    dsimp only [sw_nx] at hnx
    split at hnx
    · cases hnx; exact hcont H locs lsA pc .return_ hH hd (Or.inr (Or.inr (Or.inr ⟨rfl, hrt, rfl⟩)))
    · cases hnx
  | _ => have hnx : (none : Option sw_Nx) = some x := hnx; cases hnx
end SWT
theorem sw_sound (l : Launch) (E : sw_E) (ba : Nat) (ad : Nat → Nat) (dC : Nat → ClassId) (dI : Nat → Nat → Nat) (dA : FieldType → ClassId) : ∀ f, sw_So l E ba ad dC dI dA f := by
  intro f
  induction f with
  | zero => intro cf r h; cases h
  | succ f ih =>
    intro cf r h p e s m args below meth c Q hF hQ
    have h : sw_stp (sw_run E f) E cf = some r := h
    obtain ⟨k, pc, ls, st, M⟩ := cf
    unfold sw_stp at h
    cases hn : sw_nxc E (k, pc, ls, st, M) with
    | none => rw [hn] at h; cases h
    | some x =>
      rw [hn] at h
      unfold sw_nxc at hn
      split at hn
      · next q hq =>
        refine sw_step (f := f) hF ih hq hn ?_
        match x, h with
        | .inl r', h => cases h; exact hQ
        | .inr (.inl c1), h => exact ih _ _ h p e s m args below meth c Q hF hQ
        | .inr (.inr (c1, c2, a, b)), h =>
          dsimp only at h
          split at h
          · cases h
          · next q1 hq1 => exact ⟨q1, hq1, ih _ _ h p e s m args below meth c Q hF hQ⟩
      · cases hn
