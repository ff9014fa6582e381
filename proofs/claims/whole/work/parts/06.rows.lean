/-! ===== soundness: the frame's facts ===== -/
def sw_rm (k : Nat) : Room := { frames := sw_mf k, cells := sw_mc k, slots := sw_ms k, locals := sw_ml k }
def sw_Fx (E : sw_E) (ba : Nat) (ad : Nat → Nat) (dC : Nat → ClassId) (dI : Nat → Nat → Nat) (dA : FieldType → ClassId) (p : Program) (s : State) (m : MethodId) (args : Array Value) (meth : Method) (c : Code) (k : Nat) : Prop :=
  p.tables.exec = Jvm.exec ∧ c.code = sw_mb k ∧ meth.sig.returnType = sw_mr k ∧ meth.locks = false ∧ c.maxLocals = sw_mx k ∧ s.vm.findClass (sw_my k).cls = some m.cls ∧ meth.name = (sw_my k).name ∧ (∀ w ∈ sw_G, w.before args s = true) ∧ sw_Wd E ba ad dC dI dA s s.heap ∧ ba ≤ s.heap.size
def sw_Hs (ba : Nat) (ad : Nat → Nat) (dC : Nat → ClassId) (dI : Nat → Nat → Nat) (dA : FieldType → ClassId) (s : State) (k : Nat) (M : sw_M) (H : Heap) (locs : List Loc) : Prop :=
  sw_Hp ba ad dC dI dA M.2.2.1 M.2.2.2 H ∧ va_S (sw_A ba) s.heap H locs ∧ M.1 ≤ sw_mc k ∧ M.2.1 ≤ sw_ms k
theorem sw_jt_eq {pc : Nat} {off : Int} (h : 0 ≤ (pc : Int) + off) : (pc : Int) + off = (sw_jt pc off : Int) := by
  unfold sw_jt; omega
section SWA
variable {E : sw_E} {ba : Nat} {ad : Nat → Nat} {dC : Nat → ClassId} {dI : Nat → Nat → Nat} {dA : FieldType → ClassId} {s : State} {k : Nat} {M : sw_M} {H : Heap} {locs : List Loc}
theorem sw_Hs.at (h : sw_Hs ba ad dC dI dA s k M H locs) {r : Nat} (hr : r < M.2.2.1) : va_at (dC, dI) vwCl (ba + r, sw_cE ad dA (M.2.2.2 r)) H := h.1.2.2 r _ (sw_wl_at hr)
theorem sw_Hs.arr (h : sw_Hs ba ad dC dI dA s k M H locs) {r : Nat} (hr : r < M.2.2.1) {ty : FieldType} {n : Nat} {a : (Nat → Int32) ⊕ (Nat → Int64) ⊕ (Nat → UInt32) ⊕ (Nat → UInt64) ⊕ (Nat → Option Nat)} (hc : M.2.2.2 r = .inl (ty, n, a)) : (sw_wl ba ad dA M.2.2.1 M.2.2.2)[r]? = some (ba + r, .inl (dA ty, n, sw_cA ad a)) := by
  rw [sw_wl_at hr, hc]; rfl
theorem sw_Hs.obj (h : sw_Hs ba ad dC dI dA s k M H locs) {r : Nat} (hr : r < M.2.2.1) {ci : Nat} {fs : List Value} (hc : M.2.2.2 r = .inr (ci, fs)) : (sw_wl ba ad dA M.2.2.1 M.2.2.2)[r]? = some (ba + r, .inr (ci, fs.map (sw_cV ad))) := by
  rw [sw_wl_at hr, hc]; rfl
theorem sw_Hs.put (h : sw_Hs ba ad dC dI dA s k M H locs) {r i : Nat} {c : sw_AC} {H1 : Heap} (hr : r < M.2.2.1) (he : va_at (dC, dI) vwCl (ba + r, sw_cE ad dA c) H1) (hz : H1.size = H.size) (oq : ∀ q : Nat, q ≠ ba + r → H1[q]? = H[q]?) : sw_Hs ba ad dC dI dA s k (sw_sC M r c) H1 (locs ++ [⟨ba + r, i⟩]) := by
  obtain ⟨⟨h1, h2, h3⟩, h4, h5⟩ := h
  refine ⟨⟨by rw [hz]; exact h1, h2, ?_⟩, h4.put hz oq (Nat.le_add_right _ _), h5⟩
  show va_P _ _ (sw_wl ba ad dA M.2.2.1 (sw_up M.2.2.2 r c)) H1
  rw [← sw_wl_set hr]
  exact h3.set sw_wl_D (sw_wl_at hr) he oq
theorem sw_Hs.new (h : sw_Hs ba ad dC dI dA s k M H locs) {c : sw_AC} {H1 : Heap} {a b : Nat} (he : va_at (dC, dI) vwCl (ba + M.2.2.1, sw_cE ad dA c) H1) (hz : H1.size = H.size + 1) (oq : ∀ q : Nat, q < H.size → H1[q]? = H[q]?) (ha : a ≤ sw_mc k) (hb : b ≤ sw_ms k) (hn : M.2.2.1 < 999) : sw_Hs ba ad dC dI dA s k (a, b, M.2.2.1 + 1, sw_up M.2.2.2 M.2.2.1 c) H1 locs := by
  obtain ⟨⟨h1, h2, h3⟩, h4, h5⟩ := h
  refine ⟨⟨by rw [hz, h1]; rfl, hn, fun i q hq => ?_⟩, ⟨Nat.le_trans h4.1 (by omega), fun q g1 g2 => (oq q (Nat.lt_of_lt_of_le g1 h4.1)).trans (h4.2.1 q g1 g2), h4.2.2⟩, ha, hb⟩
  obtain ⟨hi, rfl⟩ := sw_wl_of hq
  have hi : i < M.2.2.1 + 1 := hi
  by_cases hin : i = M.2.2.1
  · subst hin
    simp only [sw_up, if_true]
    exact he
  · have hl : i < M.2.2.1 := by omega
    simp only [sw_up, if_neg hin]
    have g := h3 i _ (sw_wl_at hl)
    exact g.kept (oq _ (by rw [h1]; show ba + i < _; omega))
end SWA
/-- what is asked of the classes -/
def sw_cok (ci : Nat) : Bool := match vwCl[ci]? with
  | some q => (List.range q.2.2).all (fun j => sw_wd ((sw_lp.getD ci []).getD j 0) (u_lay q.1 q.2.1 j)) && decide (q.2.2 = sw_nf ci) && (List.range q.2.2).all (fun j => decide (parseFieldDescriptor (q.2.1 j).2.2.1 = some (sw_fty ci j)) && decide (defaultValue (sw_fty ci j) = vp_V (sw_fd ci) j) && (List.range q.2.2).all (fun i => decide (i = j) || decide ((q.2.1 i).2.1 ≠ (q.2.1 j).2.1))) && sw_wd (sw_cw.getD ci (0, 0)).1 (.instantiable q.1 q.2.2) && sw_wd (sw_cw.getD ci (0, 0)).2 (.initialized q.1)
  | none => false
theorem sw_cok_all : ∀ ci, ci < 9 → sw_cok ci = true := by decide +kernel
theorem sw_cls {ci : Nat} (hci : ci < 9) : ∃ q, vwCl[ci]? = some q ∧ (∀ w ∈ u_ws q.1 q.2.1 q.2.2, w ∈ sw_G) ∧ q.2.2 = sw_nf ci ∧ (∀ j, j < q.2.2 → parseFieldDescriptor (q.2.1 j).2.2.1 = some (sw_fty ci j)) ∧ (∀ j, j < q.2.2 → defaultValue (sw_fty ci j) = vp_V (sw_fd ci) j) ∧ (∀ a, a < q.2.2 → ∀ b, b < q.2.2 → a ≠ b → (q.2.1 a).2.1 ≠ (q.2.1 b).2.1) ∧ Cond.instantiable q.1 q.2.2 ∈ sw_G ∧ Cond.initialized q.1 ∈ sw_G ∧ ∀ j, sw_fn ci j = q.2.1 j := by
  have h := sw_cok_all ci hci
  unfold sw_cok at h
  split at h
  · next q hq =>
    simp only [Bool.and_eq_true, List.all_eq_true, List.mem_range, decide_eq_true_eq, Bool.or_eq_true] at h
    obtain ⟨⟨⟨⟨h1, h2⟩, h3⟩, h4⟩, h5⟩ := h
    refine ⟨q, hq, fun w hw => ?_, h2, fun j hj => (h3 j hj).1.1, fun j hj => (h3 j hj).1.2, fun a ha b hb hab => ?_, sw_wd_in h4, sw_wd_in h5, fun j => by simp only [sw_fn, hq]⟩
    · obtain ⟨j, hj, rfl⟩ := List.mem_map.mp hw
      exact sw_wd_in (h1 j (List.mem_range.mp hj))
    · rcases (h3 b hb).2 a ha with g | g
      · exact absurd g hab
      · exact g
  · cases h
def sw_x0l : List Cond := [.instanceMethod sw_objI, .code sw_objI ⟨#[0xb1]⟩ 1 none, .native arraycopyName, .static arraycopyName, .initialized "java/lang/System", .arrayClass .int, .arrayClass .long, .arrayClass .boolean, .static Lib.Math.max.name, .code Lib.Math.max.name Lib.Math.max.code 2 (some .int), .static Lib.Math.min.name, .code Lib.Math.min.name Lib.Math.min.code 2 (some .int), .initialized "java/lang/Math"]
theorem sw_x0ok : ∀ i, i < 13 → (match sw_x0l[i]? with | some w => sw_wd (sw_x0.getD i 0) w | none => false) = true := by decide +kernel
theorem sw_x0_in {i : Nat} {w : Cond} (h : sw_x0l[i]? = some w) : w ∈ sw_G := by
  have hi : i < 13 := (List.getElem?_eq_some_iff.mp h).1
  have h1 := sw_x0ok i hi
  rw [h] at h1
  exact sw_wd_in h1
section SWB
variable {p : Program} {l : Launch} {e : Env} {s : State} {m : MethodId} {args : Array Value} {below : List Frame} {meth : Method} {c : Code} {Q : State → Prop}
variable {E : sw_E} {ba : Nat} {ad : Nat → Nat} {dC : Nat → ClassId} {dI : Nat → Nat → Nat} {dA : FieldType → ClassId} {k pc : Nat} {M : sw_M} {H : Heap} {locs : List Loc} {R : Room} {cells slots : Nat} {ls : Array Slot} {rest : List Value}
/-- reading a field -/
theorem sw_w_get (hF : sw_Fx E ba ad dC dI dA p s m args meth c k) (hH : sw_Hs ba ad dC dI dA s k M H locs) {r ci j idx wi : Nat} {v : Value} (hv : sw_gF E M r ci j = some v) (hd : decode (sw_mb k) pc = .ok (.getfield idx, 3))
    (hw : sw_wd wi (.fieldLink (sw_my k).cls idx (sw_fn ci j).1 (sw_fn ci j).2.1 (sw_fn ci j).2.2.1) = true) (hc : (ci < 9 ∧ j < sw_nf ci) ∨ (ci = 9 ∧ j < 2))
    (kk : W p l e R s m args below meth c H locs cells slots Q (F0 m (pc + 3) ls (sw_cV ad v :: rest))) : W p l e R s m args below meth c H locs cells slots Q (F0 m pc ls (.ref (ad r) :: rest)) := by
  obtain ⟨hx, hb, -, -, -, hown, -, hts, hWd, -⟩ := hF
  have hlk := hts _ (sw_wd_in hw)
  unfold sw_gF sw_rd at hv
  by_cases hr : r < M.2.2.1
  · rw [if_pos hr] at hv
    cases hcell : M.2.2.2 r with
    | inl a => rw [hcell] at hv; cases hv
    | inr o =>
      obtain ⟨c0, fs⟩ := o
      rw [hcell] at hv
      simp only at hv
      split at hv
      · next hcc =>
        subst hcc
        have hr9 : ad r = ba + r := hWd.2.2.2.2.2.2.2.2.2.1 r (Nat.lt_of_lt_of_le hr (Nat.le_trans hH.1.2.1 (by omega)))
        rw [hr9]
        have hat := hH.1.2.2 r _ (hH.obj hr hcell)
        obtain ⟨q0, hq0, -⟩ := hat
        have hlt : c0 < 9 := (List.getElem?_eq_some_iff.mp hq0).1
        obtain ⟨q, hq, hin, hN, -, -, -, -, -, hfn⟩ := sw_cls hlt
        rw [hfn] at hlk
        have hj : j < q.2.2 := by
          rcases hc with h | h
          · rw [hN]; exact h.2
          · omega
        exact va_get (C := q.1) (T := q.2.1) (N := q.2.2) hx hb hts hin hown hWd.1 hH.1.2.2 r (hH.obj hr hcell) hq j hj hlk (fun _ h => h) (by rw [List.getElem?_map, hv]; rfl) hd kk
      · cases hv
  · rw [if_neg hr] at hv
    unfold sw_fr at hv
    by_cases h0 : r = 1000
    · rw [if_pos h0] at hv; cases hv
    · rw [if_neg h0] at hv
      by_cases h1 : r = 1001
      · rw [if_pos h1] at hv; cases hv
      · rw [if_neg h1] at hv
        by_cases hr1 : 1010 ≤ r ∧ r < 1020
        · rw [if_pos hr1] at hv
          simp only at hv
          split at hv
          · next hcc =>
            subst hcc
            have hS := hH.2.1
            obtain ⟨i, hi, rfl⟩ : ∃ i, i < 10 ∧ r = 1010 + i := ⟨r - 1010, by omega, by omega⟩
            have hk := hWd.2.2.2.2.2.2.2.1.1 i hi
            match j, hv with
            | 0, hv =>
              cases hv
              have e1 : sw_cV ad (.ref (1010 + i + 20)) = .ref (ad (1030 + i)) := by rw [show 1010 + i + 20 = 1030 + i by omega]; rfl
              rw [e1] at kk
              exact vk_getf hx hb hk.2.2.1 hS hown hlk (fun _ h => h) hd kk
            | 1, hv =>
              cases hv
              exact vk_getf hx hb hk.2.1 hS hown hlk (fun _ h => h) hd kk
            | j + 2, hv => cases hv
          · cases hv
        · rw [if_neg hr1] at hv
          by_cases h3 : 1030 ≤ r ∧ r < 1040
          · rw [if_pos h3] at hv; cases hv
          · rw [if_neg h3] at hv; cases hv
theorem sw_okv_nar {ty : FieldType} {v : Value} (h : sw_okv ty v = true) : narrow ty v = v ∧ fits ty v = true := by
  unfold sw_okv at h
  split at h
  · exact ⟨rfl, rfl⟩
  · simp only [Bool.or_eq_true, beq_iff_eq] at h
    rcases h with rfl | rfl <;> exact ⟨by decide +kernel, by decide +kernel⟩
  · exact ⟨rfl, rfl⟩
  · exact ⟨rfl, rfl⟩
  · cases h
theorem sw_okv_c {ty : FieldType} {v : Value} (h : sw_okv ty v = true) : sw_okv ty (sw_cV ad v) = true := by
  unfold sw_okv at h ⊢
  split at h <;> first | exact h | rfl | cases h
/-- writing a field -/
theorem sw_w_put (hF : sw_Fx E ba ad dC dI dA p s m args meth c k) (hH : sw_Hs ba ad dC dI dA s k M H locs) {r ci j idx wi : Nat} {v : Value} {M1 : sw_M} (hv : sw_pF M r ci j v = some M1) (hd : decode (sw_mb k) pc = .ok (.putfield idx, 3))
    (hw : sw_wd wi (.fieldLink (sw_my k).cls idx (sw_fn ci j).1 (sw_fn ci j).2.1 (sw_fn ci j).2.2.1) = true) (hc : ci < 9 ∧ j < sw_nf ci) (hfin : (sw_fn ci j).2.2.2 = false ∨ ((sw_my k).name = "<init>" ∧ (sw_fn ci j).1 = (sw_my k).cls))
    (kk : ∀ H1 locs1, sw_Hs ba ad dC dI dA s k M1 H1 locs1 → W p l e R s m args below meth c H1 locs1 cells slots Q (F0 m (pc + 3) ls rest)) : W p l e R s m args below meth c H locs cells slots Q (F0 m pc ls (sw_cV ad v :: .ref (ad r) :: rest)) := by
  obtain ⟨hx, hb, -, -, -, hown, hnm, hts, hWd, -⟩ := hF
  have hlink := hts _ (sw_wd_in hw)
  unfold sw_pF at hv
  split at hv
  · next hr =>
    split at hv
    · next c0 fs hcell =>
      split at hv
      · next hcc =>
        obtain ⟨rfl, hl, hok⟩ := hcc
        cases hv
        have hr9 : ad r = ba + r := hWd.2.2.2.2.2.2.2.2.2.1 r (Nat.lt_of_lt_of_le hr (Nat.le_trans hH.1.2.1 (by omega)))
        rw [hr9]
        obtain ⟨q, hq, hin, hN, hty, -, hnms, -, -, hfn⟩ := sw_cls hc.1
        rw [hfn] at hlink hfin
        have hj : j < q.2.2 := by rw [hN]; exact hc.2
        have hap := va_apart (own := (sw_my k).cls) hts hin (sw_fty c0) hty hnms hWd.1 hq
        obtain ⟨q1, hq1, cell, g1, g2, g3, g4⟩ := hH.1.2.2 r _ (hH.obj hr hcell)
        cases hq1.symm.trans hq
        obtain ⟨hSl, hfc, kC, hkC, hkind⟩ := hWd.1.1 c0 _ hq
        obtain ⟨cf, kf, fi, f, hi, hsl⟩ := hSl j hj
        have hst := (u_facts hfc hkC (u_lays hts hin hj) hi).1
        have hnf := sw_okv_nar (sw_okv_c (ad := ad) hok)
        have hlay := hts _ (hin _ (u_in_lay hj))
        unfold u_lay at hlay
        have fin : ∀ H' : Heap, H'[ba + r]? = some (cell.setSlot (dI c0 j) (sw_cV ad v)) → H'.size = H.size → (∀ q, q ≠ ba + r → H'[q]? = H[q]?) → W p l e R s m args below meth c H' (locs ++ [⟨ba + r, f.slot⟩]) cells slots Q (F0 m (pc + 3) ls rest) := by
          intro H' e1 e2 e3
          refine kk H' _ (hH.put hr ?_ e2 e3)
          refine ⟨q, hq, ?_⟩
          show t_OB (ba + r) (dC c0) q.2.2 (dI c0) H' (vp_V ((fs.set j v).map (sw_cV ad)))
          rw [List.map_set]
          exact t_OB.to (V := updV (vp_V (fs.map (sw_cV ad))) j (sw_cV ad v)) ⟨_, e1, g2, g3, t_set g4 hap hj _⟩ (fun i _ => vp_updV_set (by rw [List.length_map]; exact hl) _ i)
        by_cases hfl : (q.2.1 j).2.2.2 = true
        · rw [if_pos hfl] at hlay
          rcases hfin with h | ⟨hini, hdecl⟩
          · rw [hfl] at h; cases h
          · have hcf : m.cls = cf := by
              obtain ⟨_, _, c', _, _, _, -, -, hf', -, -, -, hown2, -⟩ := Cond.laysFinal_spec hlay
              have e1 : c' = cf := by have := hi.symm.trans hf'; simp at this; exact this.1.symm
              rw [hdecl] at hown2
              rw [← e1]; exact Option.some.inj (hown.symm.trans hown2)
            have h6 := u_fits hfc hkC hkind (Or.inr hlay) hi (hty j hj) hnf.1 hnf.2
            refine W.putFinK hx hb hown hlink hi hst hcf (hnm.trans hini) (by rw [g2]; exact h6) g1 g3 (by rw [hsl]; exact k2_hasslot (g4 j hj)) rfl rfl hd fun H' e1 e2 e3 => ?_
            rw [hsl] at e1
            exact fin H' e1 e2 e3
        · rw [if_neg hfl] at hlay
          have h6 := u_store hfc hkC hkind hlay hi (hty j hj) hnf.1 hnf.2
          refine W.putK hx hb (f := f) ⟨hown, hlink, ⟨_, _, _, hi⟩, hst⟩ (by rw [g2]; exact h6) g1 g3 (by rw [hsl]; exact k2_hasslot (g4 j hj)) rfl rfl hd fun H' e1 e2 e3 => ?_
          rw [hsl] at e1
          exact fin H' e1 e2 e3
      · cases hv
    · cases hv
  · cases hv
/-- reading an int of a row -/
theorem sw_w_aI (hF : sw_Fx E ba ad dC dI dA p s m args meth c k) (hH : sw_Hs ba ad dC dI dA s k M H locs) {r : Nat} {i : Int32} {v : Value} (hv : sw_aI E M r i = some v) (hd : decode (sw_mb k) pc = .ok (.iaload, 1))
    (kk : W p l e R s m args below meth c H locs cells slots Q (F0 m (pc + 1) ls (sw_cV ad v :: rest))) : W p l e R s m args below meth c H locs cells slots Q (F0 m pc ls (.int i :: .ref (ad r) :: rest)) := by
  obtain ⟨hx, hb, -, -, -, hown, -, hts, hWd, -⟩ := hF
  unfold sw_aI sw_rd at hv
  by_cases hr : r < M.2.2.1
  · rw [if_pos hr] at hv
    split at hv
    · next n f hcell =>
      split at hv
      · cases hv
      · next hin =>
        cases hv
        have hr9 : ad r = ba + r := hWd.2.2.2.2.2.2.2.2.2.1 r (Nat.lt_of_lt_of_le hr (Nat.le_trans hH.1.2.1 (by omega)))
        rw [hr9]
        exact va_iald hx hb hWd.1 hH.1.2.2 r 0 (hH.arr hr (Option.some.inj hcell)) rfl hin hd kk
    · cases hv
  · rw [if_neg hr] at hv
    unfold sw_fr at hv
    by_cases h0 : r = 1000
    · subst h0
      simp only [if_true] at hv
      split at hv
      · cases hv
      · next hin =>
        cases hv
        obtain ⟨hX, hXb⟩ := hWd.2.2.2.1
        have hlt : ad 1000 < s.heap.size := by
          obtain ⟨scr, g, -⟩ := hX
          exact (Array.getElem?_eq_some_iff.mp g).1
        exact va_sld hx hb hX hlt (Nat.not_le.mpr hXb) hH.2.1 hin hd kk
    · rw [if_neg h0] at hv
      by_cases h1 : r = 1001
      · subst h1
        simp only [if_true] at hv
        split at hv
        · cases hv
        · next hin =>
          cases hv
          exact va_ti hx hb hWd.2.2.2.2.1.2 hH.2.1 hin rfl hd kk
      · rw [if_neg h1] at hv
        by_cases h2 : 1010 ≤ r ∧ r < 1020
        · rw [if_pos h2] at hv; cases hv
        · rw [if_neg h2] at hv
          by_cases h3 : 1030 ≤ r ∧ r < 1040
          · rw [if_pos h3] at hv; cases hv
          · rw [if_neg h3] at hv; cases hv
theorem sw_w_aL (hF : sw_Fx E ba ad dC dI dA p s m args meth c k) (hH : sw_Hs ba ad dC dI dA s k M H locs) {r : Nat} {i : Int32} {v : Value} (hv : sw_aL M r i = some v) (hd : decode (sw_mb k) pc = .ok (.laload, 1))
    (kk : W p l e R s m args below meth c H locs cells slots Q (F0 m (pc + 1) ls (sw_cV ad v :: rest))) : W p l e R s m args below meth c H locs cells slots Q (F0 m pc ls (.int i :: .ref (ad r) :: rest)) := by
  obtain ⟨hx, hb, -, -, -, hown, -, hts, hWd, -⟩ := hF
  unfold sw_aL at hv
  split at hv
  · next hr =>
    split at hv
    · next n f hcell =>
      split at hv
      · cases hv
      · next hin =>
        cases hv
        have hr9 : ad r = ba + r := hWd.2.2.2.2.2.2.2.2.2.1 r (Nat.lt_of_lt_of_le hr (Nat.le_trans hH.1.2.1 (by omega)))
        rw [hr9]
        exact va_lald hx hb hWd.1 hH.1.2.2 r 1 (hH.arr hr hcell) rfl hin hd kk
    · cases hv
  · cases hv
theorem sw_w_aB (hF : sw_Fx E ba ad dC dI dA p s m args meth c k) (hH : sw_Hs ba ad dC dI dA s k M H locs) {r : Nat} {i : Int32} {v : Value} (hv : sw_aB E M r i = some v) (hd : decode (sw_mb k) pc = .ok (.baload, 1))
    (kk : W p l e R s m args below meth c H locs cells slots Q (F0 m (pc + 1) ls (sw_cV ad v :: rest))) : W p l e R s m args below meth c H locs cells slots Q (F0 m pc ls (.int i :: .ref (ad r) :: rest)) := by
  obtain ⟨hx, hb, -, -, -, hown, -, hts, hWd, -⟩ := hF
  unfold sw_aB at hv
  split at hv
  · next hr =>
    split at hv
    · next n f hcell =>
      split at hv
      · cases hv
      · next hin =>
        cases hv
        have hr9 : ad r = ba + r := hWd.2.2.2.2.2.2.2.2.2.1 r (Nat.lt_of_lt_of_le hr (Nat.le_trans hH.1.2.1 (by omega)))
        rw [hr9]
        exact va_zald hx hb hWd.1 hH.1.2.2 r 2 (hH.arr hr hcell) rfl hin hd kk
    · cases hv
  · unfold sw_fr at hv
    by_cases h0 : r = 1000
    · rw [if_pos h0] at hv; cases hv
    · rw [if_neg h0] at hv
      by_cases h1 : r = 1001
      · rw [if_pos h1] at hv; cases hv
      · rw [if_neg h1] at hv
        by_cases h2 : 1010 ≤ r ∧ r < 1020
        · rw [if_pos h2] at hv; cases hv
        · rw [if_neg h2] at hv
          by_cases h3 : 1030 ≤ r ∧ r < 1040
          · rw [if_pos h3] at hv
            simp only at hv
            split at hv
            · cases hv
            · next hin =>
              cases hv
              obtain ⟨i0, hi, rfl⟩ : ∃ i, i < 10 ∧ r = 1030 + i := ⟨r - 1030, by omega, by omega⟩
              have hk := (hWd.2.2.2.2.2.2.2.1.1 i0 hi).2.2.2
              rw [show 1030 + i0 - 1030 = i0 by omega] at hin kk
              exact va_tb hx hb hk hH.2.1 hin rfl hd kk
          · rw [if_neg h3] at hv; cases hv
theorem sw_w_aA (hF : sw_Fx E ba ad dC dI dA p s m args meth c k) (hH : sw_Hs ba ad dC dI dA s k M H locs) {r : Nat} {i : Int32} {v : Value} (hv : sw_aA M r i = some v) (hd : decode (sw_mb k) pc = .ok (.aaload, 1))
    (kk : W p l e R s m args below meth c H locs cells slots Q (F0 m (pc + 1) ls (sw_cV ad v :: rest))) : W p l e R s m args below meth c H locs cells slots Q (F0 m pc ls (.int i :: .ref (ad r) :: rest)) := by
  obtain ⟨hx, hb, -, -, -, hown, -, hts, hWd, -⟩ := hF
  unfold sw_aA at hv
  split at hv
  · next hr =>
    split at hv
    · next C n f hcell =>
      split at hv
      · next hC =>
        subst hC
        split at hv
        · cases hv
        · next hin =>
          cases hv
          have hr9 : ad r = ba + r := hWd.2.2.2.2.2.2.2.2.2.1 r (Nat.lt_of_lt_of_le hr (Nat.le_trans hH.1.2.1 (by omega)))
          rw [hr9]
          refine va_aldq hx hb hWd.1 hH.1.2.2 r 3 (hH.arr hr hcell) rfl hin hd ?_
          have e1 : va_rf ((f i.toNatClampNeg).map ad) = sw_cV ad (va_rf (f i.toNatClampNeg)) := by cases f i.toNatClampNeg <;> rfl
          show W p l e R s m args below meth c H locs cells slots Q (F0 m (pc + 1) ls (va_rf ((f i.toNatClampNeg).map ad) :: rest))
          rw [e1]
          exact kk
      · cases hv
    · cases hv
  · cases hv
theorem sw_w_ln (hF : sw_Fx E ba ad dC dI dA p s m args meth c k) (hH : sw_Hs ba ad dC dI dA s k M H locs) {r : Nat} {v : Value} (hv : sw_ln E M r = some v) (hd : decode (sw_mb k) pc = .ok (.arraylength, 1))
    (kk : W p l e R s m args below meth c H locs cells slots Q (F0 m (pc + 1) ls (sw_cV ad v :: rest))) : W p l e R s m args below meth c H locs cells slots Q (F0 m pc ls (.ref (ad r) :: rest)) := by
  obtain ⟨hx, hb, -, -, -, hown, -, hts, hWd, -⟩ := hF
  unfold sw_ln at hv
  split at hv
  · cases hv
  · unfold sw_fr at hv
    by_cases h0 : r = 1000
    · subst h0
      simp only [if_true] at hv
      cases hv
      obtain ⟨hX, hXb⟩ := hWd.2.2.2.1
      have hlt : ad 1000 < s.heap.size := by
        obtain ⟨scr, g, -⟩ := hX
        exact (Array.getElem?_eq_some_iff.mp g).1
      exact va_slen hx hb hX hlt (Nat.not_le.mpr hXb) hH.2.1 hd kk
    · rw [if_neg h0] at hv
      by_cases h1 : r = 1001
      · subst h1
        simp only [if_true] at hv
        cases hv
        exact va_tlen hx hb hWd.2.2.2.2.1.2 hH.2.1 rfl hd kk
      · rw [if_neg h1] at hv
        by_cases h2 : 1010 ≤ r ∧ r < 1020
        · rw [if_pos h2] at hv; cases hv
        · rw [if_neg h2] at hv
          by_cases h3 : 1030 ≤ r ∧ r < 1040
          · rw [if_pos h3] at hv
            cases hv
            obtain ⟨i0, hi, rfl⟩ : ∃ i, i < 10 ∧ r = 1030 + i := ⟨r - 1030, by omega, by omega⟩
            have hk := (hWd.2.2.2.2.2.2.2.1.1 i0 hi).2.2.2
            rw [show 1030 + i0 - 1030 = i0 by omega] at kk
            exact va_tlen hx hb hk hH.2.1 rfl hd kk
          · rw [if_neg h3] at hv; cases hv
/-- writing into a row -/
theorem sw_w_sI (hF : sw_Fx E ba ad dC dI dA p s m args meth c k) (hH : sw_Hs ba ad dC dI dA s k M H locs) {r : Nat} {i x : Int32} {M1 : sw_M} (hv : sw_sI M r i x = some M1) (hd : decode (sw_mb k) pc = .ok (.iastore, 1))
    (kk : ∀ H1 locs1, sw_Hs ba ad dC dI dA s k M1 H1 locs1 → W p l e R s m args below meth c H1 locs1 cells slots Q (F0 m (pc + 1) ls rest)) : W p l e R s m args below meth c H locs cells slots Q (F0 m pc ls (.int x :: .int i :: .ref (ad r) :: rest)) := by
  obtain ⟨hx, hb, -, -, -, hown, -, hts, hWd, -⟩ := hF
  unfold sw_sI at hv
  split at hv
  · next hr =>
    split at hv
    · next n f hcell =>
      split at hv
      · cases hv
      · next hin =>
        cases hv
        have hr9 : ad r = ba + r := hWd.2.2.2.2.2.2.2.2.2.1 r (Nat.lt_of_lt_of_le hr (Nat.le_trans hH.1.2.1 (by omega)))
        rw [hr9]
        refine W.iast hx hb (hH.1.2.2 r _ (hH.arr hr hcell)) ((hWd.1.2 0 _ rfl).1 n (fun j => .int (f j))) (fun q => by cases q) (by show ¬ (i < 0 ∨ (arrV _ _ _).slots.size ≤ _); rw [arrV_size]; exact hin) rfl rfl hd fun H1 e z oq => ?_
        refine kk H1 _ (hH.put hr ?_ z oq)
        show H1[ba + r]? = some (vp_cell _ _)
        rw [e]
        show some ((vp_cell (dA .int) (n, .inl f)).setSlot _ _) = some (vp_cell (dA .int) (n, .inl (upd f i.toNatClampNeg x)))
        rw [vp_cell_i, vp_cell_i, arrV_store]
        congr 2
        funext q
        by_cases hq : q = i.toNatClampNeg
        · subst hq; simp [updV, upd]
        · simp [updV, upd, hq]
    · cases hv
  · cases hv
theorem sw_w_sB (hF : sw_Fx E ba ad dC dI dA p s m args meth c k) (hH : sw_Hs ba ad dC dI dA s k M H locs) {r : Nat} {i x : Int32} {M1 : sw_M} (hv : sw_sB M r i x = some M1) (hd : decode (sw_mb k) pc = .ok (.bastore, 1))
    (kk : ∀ H1 locs1, sw_Hs ba ad dC dI dA s k M1 H1 locs1 → W p l e R s m args below meth c H1 locs1 cells slots Q (F0 m (pc + 1) ls rest)) : W p l e R s m args below meth c H locs cells slots Q (F0 m pc ls (.int x :: .int i :: .ref (ad r) :: rest)) := by
  obtain ⟨hx, hb, -, -, -, hown, -, hts, hWd, -⟩ := hF
  unfold sw_sB at hv
  split at hv
  · next hr =>
    split at hv
    · next n f hcell =>
      split at hv
      · cases hv
      · next hin =>
        cases hv
        have hr9 : ad r = ba + r := hWd.2.2.2.2.2.2.2.2.2.1 r (Nat.lt_of_lt_of_le hr (Nat.le_trans hH.1.2.1 (by omega)))
        rw [hr9]
        refine W.zast hx hb (hH.1.2.2 r _ (hH.arr hr hcell)) ((hWd.1.2 2 _ rfl).1 n (fun j => .int (f j))) (fun q => by cases q) (by show ¬ (i < 0 ∨ (arrV _ _ _).slots.size ≤ _); rw [arrV_size]; exact hin) rfl rfl hd fun H1 e z oq => ?_
        refine kk H1 _ (hH.put hr ?_ z oq)
        show H1[ba + r]? = some (vp_cell _ _)
        rw [e]
        show some ((vp_cell (dA .boolean) (n, .inl f)).setSlot _ _) = some (vp_cell (dA .boolean) (n, .inl (upd f i.toNatClampNeg (vp_nar .boolean x))))
        rw [vp_cell_i, vp_cell_i, arrV_store]
        congr 2
        funext q
        by_cases hq : q = i.toNatClampNeg
        · subst hq; simp [updV, upd, vp_nar, narrow]
        · simp [updV, upd, hq]
    · cases hv
  · cases hv
theorem sw_w_sL (hF : sw_Fx E ba ad dC dI dA p s m args meth c k) (hH : sw_Hs ba ad dC dI dA s k M H locs) {r : Nat} {i : Int32} {x : Int64} {M1 : sw_M} (hv : sw_sL M r i x = some M1) (hd : decode (sw_mb k) pc = .ok (.lastore, 1))
    (kk : ∀ H1 locs1, sw_Hs ba ad dC dI dA s k M1 H1 locs1 → W p l e R s m args below meth c H1 locs1 cells slots Q (F0 m (pc + 1) ls rest)) : W p l e R s m args below meth c H locs cells slots Q (F0 m pc ls (.long x :: .int i :: .ref (ad r) :: rest)) := by
  obtain ⟨hx, hb, -, -, -, hown, -, hts, hWd, -⟩ := hF
  unfold sw_sL at hv
  split at hv
  · next hr =>
    split at hv
    · next n f hcell =>
      split at hv
      · cases hv
      · next hin =>
        cases hv
        have hr9 : ad r = ba + r := hWd.2.2.2.2.2.2.2.2.2.1 r (Nat.lt_of_lt_of_le hr (Nat.le_trans hH.1.2.1 (by omega)))
        rw [hr9]
        refine W.last hx hb (hH.1.2.2 r _ (hH.arr hr hcell)) ((hWd.1.2 1 _ rfl).1 n (fun j => .long (f j))) (fun q => by cases q) (by show ¬ (i < 0 ∨ (arrV _ _ _).slots.size ≤ _); rw [arrV_size]; exact hin) rfl rfl hd fun H1 e z oq => ?_
        refine kk H1 _ (hH.put hr ?_ z oq)
        show H1[ba + r]? = some (vp_cell _ _)
        rw [e]
        show some ((vp_cell (dA .long) (n, .inr (.inl f))).setSlot _ _) = some (vp_cell (dA .long) (n, .inr (.inl (vp_updL f i.toNatClampNeg x))))
        rw [vp_cell_l, vp_cell_l, arrV_store]
        congr 2
        funext q
        by_cases hq : q = i.toNatClampNeg
        · subst hq; simp [updV, vp_updL]
        · simp [updV, vp_updL, hq]
    · cases hv
  · cases hv
theorem sw_w_sA (hF : sw_Fx E ba ad dC dI dA p s m args meth c k) (hH : sw_Hs ba ad dC dI dA s k M H locs) {r v : Nat} {i : Int32} {M1 : sw_M} (hv : sw_sA M r i v = some M1) (hd : decode (sw_mb k) pc = .ok (.aastore, 1))
    (kk : ∀ H1 locs1, sw_Hs ba ad dC dI dA s k M1 H1 locs1 → W p l e R s m args below meth c H1 locs1 cells slots Q (F0 m (pc + 1) ls rest)) : W p l e R s m args below meth c H locs cells slots Q (F0 m pc ls (.ref (ad v) :: .int i :: .ref (ad r) :: rest)) := by
  obtain ⟨hx, hb, -, -, -, hown, -, hts, hWd, -⟩ := hF
  unfold sw_sA at hv
  split at hv
  · next hr =>
    split at hv
    · next C n f c0 fs hcell hcv =>
      split at hv
      · next hC =>
        obtain ⟨rfl, rfl⟩ := hC
        split at hv
        · cases hv
        · next hin =>
          cases hv
          have hr9 : ad r = ba + r := hWd.2.2.2.2.2.2.2.2.2.1 r (Nat.lt_of_lt_of_le hr.1 (Nat.le_trans hH.1.2.1 (by omega)))
          have hv9 : ad v = ba + v := hWd.2.2.2.2.2.2.2.2.2.1 v (Nat.lt_of_lt_of_le hr.2 (Nat.le_trans hH.1.2.1 (by omega)))
          have hlt : i.toNatClampNeg < n := Nat.not_le.mp fun q => hin (Or.inr q)
          have h0 : ¬ i < 0 := fun q => hin (Or.inl q)
          obtain ⟨r', hr', cellV, g1, g2, g3, -⟩ := hH.1.2.2 v _ (hH.obj hr.2 hcv)
          have hc3 : vwCl[3]? = some (RX3, TX3, 3) := rfl
          have hcls := (hWd.1.1 3 _ hc3).2
          obtain ⟨kA, comp, k1, k2, k3, -⟩ := (hWd.1.2 3 _ rfl).2
          have hcomp : comp = dC 3 := Option.some.inj (k3.symm.trans hcls.1)
          subst hcomp
          obtain ⟨kC, hkC, -⟩ := hcls.2
          rw [hr9, hv9]
          refine W.aast hx hb (hH.1.2.2 r _ (hH.arr hr.1 hcell)) (fun q h => by cases h) (fun h => by cases h) k1 k2 rfl hkC ⟨h0, by show _ < (arrV _ _ _).slots.size; rw [arrV_size]; exact hlt⟩ g1 (fun q h => by rw [g3] at h; cases h) (by rw [g2]; exact hkC) (by rw [g2]; exact va_assign hcls) rfl rfl hd fun H1 e z oq => ?_
          refine kk H1 _ (hH.put hr.1 ?_ z oq)
          show H1[ba + r]? = some (vp_cell _ _)
          rw [e]
          show some ((vp_cell (dA (.object RX3)) (n, .inr (.inr (.inr (.inr (fun j => (f j).map ad)))))).setSlot _ _) = some (vp_cell (dA (.object RX3)) (n, .inr (.inr (.inr (.inr (fun j => (va_up f i.toNatClampNeg (some v) j).map ad))))))
          rw [vp_cell_q, vp_cell_q, arrV_store]
          congr 2
          funext q
          by_cases hq : q = i.toNatClampNeg
          · subst hq; simp [updV, va_up, va_rf, hv9]
          · simp [updV, va_up, hq]
      · cases hv
    · cases hv
  · cases hv
end SWB
