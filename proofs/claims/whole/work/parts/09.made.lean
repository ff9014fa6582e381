section SWN
variable {p : Program} {l : Launch} {e : Env} {s : State} {m : MethodId} {args : Array Value} {below : List Frame} {meth : Method} {c : Code} {Q : State → Prop}
variable {E : sw_E} {ba : Nat} {ad : Nat → Nat} {dC : Nat → ClassId} {dI : Nat → Nat → Nat} {dA : FieldType → ClassId} {k pc : Nat} {M : sw_M} {H : Heap} {locs : List Loc} {ls : Array Slot} {rest : List Value}
theorem sw_cV_dflt (ty : FieldType) : sw_cV ad (defaultValue ty) = defaultValue ty := by cases ty <;> rfl
theorem sw_vp_map (fs : List Value) (j : Nat) : vp_V (fs.map (sw_cV ad)) j = sw_cV ad (vp_V fs j) := by
  unfold vp_V
  rw [List.getD_eq_getElem?_getD, List.getD_eq_getElem?_getD, List.getElem?_map]
  cases fs[j]? <;> rfl
/-- a new object -/
theorem sw_w_new (hF : sw_Fx E ba ad dC dI dA p s m args meth c k) (hH : sw_Hs ba ad dC dI dA s k M H locs) {ci idx wi : Nat} {t : vw_C} (hci : ci < 9) (ht : vwCl[ci]? = some t) (hw : sw_wd wi (.classLink (sw_my k).cls idx t.1) = true)
    (hg : M.1 + 1 ≤ sw_mc k ∧ M.2.1 + sw_nf ci ≤ sw_ms k ∧ M.2.2.1 < 999) (hd : decode (sw_mb k) pc = .ok (.new idx, 3))
    (kk : ∀ H1, sw_Hs ba ad dC dI dA s k (M.1 + 1, M.2.1 + sw_nf ci, M.2.2.1 + 1, sw_up M.2.2.2 M.2.2.1 (.inr (ci, sw_fd ci))) H1 locs → W p l e (sw_rm k) s m args below meth c H1 locs (M.1 + 1) (M.2.1 + sw_nf ci) Q (F0 m (pc + 3) ls (.ref (ad M.2.2.1) :: rest))) : W p l e (sw_rm k) s m args below meth c H locs M.1 M.2.1 Q (F0 m pc ls rest) := by
  obtain ⟨hx, hb, -, -, -, hown, hnm, hts, hWd, -⟩ := hF
  obtain ⟨q, hq, hin, hN, hty, hdf, -, hins, hini, -⟩ := sw_cls hci
  cases ht.symm.trans hq
  have hKn := hWd.1.1 ci _ ht
  have hr9 : ad M.2.2.1 = ba + M.2.2.1 := hWd.2.2.2.2.2.2.2.2.2.1 _ (by omega)
  rw [← hN] at hg kk
  refine W.newcK hx hb hown (hts _ (sw_wd_in hw)) (hts _ hins) (hts _ hini) rfl hd hg.1 hg.2.1 hKn.2.1 hH.1.1 fun H1 kC hkC e1 z1 o1 => ?_
  rw [hr9] at kk
  refine kk H1 (hH.new ⟨t, ht, ?_⟩ (by rw [hH.1.1]; exact z1) (fun q hq => o1 q (by rw [← hH.1.1]; exact hq)) hg.1 hg.2.1 hg.2.2)
  exact (u_born (sw_fty ci) hts hin hKn hkC e1 hty).to (fun j hj => by rw [sw_vp_map, ← hdf j hj, sw_cV_dflt])
/-- a new row of numbers -/
theorem sw_w_newa (hF : sw_Fx E ba ad dC dI dA p s m args meth c k) (hH : sw_Hs ba ad dC dI dA s k M H locs) {n : Int32} {atype : ArrayType} {a0 : (Nat → Int32) ⊕ (Nat → Int64) ⊕ (Nat → UInt32) ⊕ (Nat → UInt64) ⊕ (Nat → Option Nat)} (t0 : Nat) (ht0 : (sw_tys dA)[t0]? = some (dA (newarray.typeOf atype), newarray.typeOf atype)) (hra : va_RA s (dA (newarray.typeOf atype)) (newarray.typeOf atype) → s.vm.findClass ("[" ++ (newarray.typeOf atype).toString) = some (dA (newarray.typeOf atype)))
    (hacw : Cond.arrayClass (newarray.typeOf atype) ∈ sw_G) (hcb : componentBytes (newarray.typeOf atype) ≤ 8) (hca : vp_cell (dA (newarray.typeOf atype)) (n.toNatClampNeg, sw_cA ad a0) = arrV (dA (newarray.typeOf atype)) n.toNatClampNeg (fun _ => defaultValue (newarray.typeOf atype)))
    (hg : ¬ n < 0 ∧ n.toNatClampNeg ≤ 10000 ∧ M.1 + 1 ≤ sw_mc k ∧ M.2.1 + n.toNatClampNeg ≤ sw_ms k ∧ M.2.2.1 < 999) (hd : decode (sw_mb k) pc = .ok (.newarray atype, 2))
    (kk : ∀ H1, sw_Hs ba ad dC dI dA s k (M.1 + 1, M.2.1 + n.toNatClampNeg, M.2.2.1 + 1, sw_up M.2.2.2 M.2.2.1 (.inl (newarray.typeOf atype, n.toNatClampNeg, a0))) H1 locs → W p l e (sw_rm k) s m args below meth c H1 locs (M.1 + 1) (M.2.1 + n.toNatClampNeg) Q (F0 m (pc + 2) ls (.ref (ad M.2.2.1) :: rest))) : W p l e (sw_rm k) s m args below meth c H locs M.1 M.2.1 Q (F0 m pc ls (.int n :: rest)) := by
  obtain ⟨hx, hb, -, -, -, hown, hnm, hts, hWd, -⟩ := hF
  have hr9 : ad M.2.2.1 = ba + M.2.2.1 := hWd.2.2.2.2.2.2.2.2.2.1 _ (by omega)
  refine va_newaK hx hb (hts _ hacw) rfl hd rfl hg.1 rfl (Nat.le_trans (Nat.mul_le_mul hg.2.1 hcb) (by decide)) hg.2.2.1 hg.2.2.2.1 hH.1.1 fun H1 cA e1 z1 o1 hAr hfn => ?_
  have hcA : cA = dA (newarray.typeOf atype) := Option.some.inj (hfn.symm.trans (hra (hWd.1.2 t0 _ ht0).2))
  subst hcA
  rw [hr9] at kk
  refine kk H1 (hH.new ?_ (by rw [hH.1.1]; exact z1) (fun q hq => o1 q (by rw [← hH.1.1]; exact hq)) hg.2.2.1 hg.2.2.2.1 hg.2.2.2.2)
  show H1[ba + M.2.2.1]? = some (vp_cell (dA (newarray.typeOf atype)) (n.toNatClampNeg, sw_cA ad a0))
  rw [hca]
  exact e1
/-- a new row of sheets -/
theorem sw_w_anew (hF : sw_Fx E ba ad dC dI dA p s m args meth c k) (hH : sw_Hs ba ad dC dI dA s k M H locs) {n : Int32} {idx wi : Nat} (hw : sw_wd wi (.classLink (sw_my k).cls idx RX3) = true)
    (hg : ¬ n < 0 ∧ n.toNatClampNeg ≤ 10000 ∧ M.1 + 1 ≤ sw_mc k ∧ M.2.1 + n.toNatClampNeg ≤ sw_ms k ∧ M.2.2.1 < 999) (hd : decode (sw_mb k) pc = .ok (.anewarray idx, 3))
    (kk : ∀ H1, sw_Hs ba ad dC dI dA s k (M.1 + 1, M.2.1 + n.toNatClampNeg, M.2.2.1 + 1, sw_up M.2.2.2 M.2.2.1 (.inl (.object RX3, n.toNatClampNeg, .inr (.inr (.inr (.inr (fun _ => none))))))) H1 locs → W p l e (sw_rm k) s m args below meth c H1 locs (M.1 + 1) (M.2.1 + n.toNatClampNeg) Q (F0 m (pc + 3) ls (.ref (ad M.2.2.1) :: rest))) : W p l e (sw_rm k) s m args below meth c H locs M.1 M.2.1 Q (F0 m pc ls (.int n :: rest)) := by
  obtain ⟨hx, hb, -, -, -, hown, hnm, hts, hWd, -⟩ := hF
  have hr9 : ad M.2.2.1 = ba + M.2.2.1 := hWd.2.2.2.2.2.2.2.2.2.1 _ (by omega)
  refine W.anew hx hb hown (hts _ (sw_wd_in hw)) (va_AO.use hWd.2.2.1) rfl hd rfl hg.1 (Nat.le_trans (Nat.mul_le_mul_right 4 hg.2.1) (by decide)) hg.2.2.1 hg.2.2.2.1 fun cA kA comp f1 f2 f3 f4 => ?_
  obtain ⟨kA', comp', -, -, -, f1'⟩ := (hWd.1.2 3 _ rfl).2
  have hcA : cA = dA (.object RX3) := Option.some.inj (f1.symm.trans f1')
  subst hcA
  generalize hH1 : H.push ({ cls := dA (.object RX3), slots := Array.replicate n.toNatClampNeg .null, vm := .none } : Cell) = H1
  have z1 : H1.size = H.size + 1 := by rw [← hH1, Array.size_push]
  have e1 : H1[H.size]? = some (arrV (dA (.object RX3)) n.toNatClampNeg (fun _ => .null)) := by rw [← hH1, Array.getElem?_push_size, ← arrV_new]
  have o1 : ∀ q : Nat, q < H.size → H1[q]? = H[q]? := fun q hq => by rw [← hH1, Array.getElem?_push, if_neg (Nat.ne_of_lt hq)]
  have hsz : H.size = ba + M.2.2.1 := hH.1.1
  rw [hr9, ← hsz] at kk
  refine kk H1 (hH.new ?_ z1 o1 hg.2.2.1 hg.2.2.2.1 hg.2.2.2.2)
  rw [← hsz]
  exact e1
theorem sw_Hs.putL (h : sw_Hs ba ad dC dI dA s k M H locs) {r : Nat} {c : sw_AC} {H1 : Heap} {L : List Loc} (hr : r < M.2.2.1) (he : va_at (dC, dI) vwCl (ba + r, sw_cE ad dA c) H1) (hz : H1.size = H.size) (oq : ∀ q : Nat, q ≠ ba + r → H1[q]? = H[q]?) (hL : ∀ q ∈ L, ba ≤ q.base) : sw_Hs ba ad dC dI dA s k (sw_sC M r c) H1 (locs ++ L) := by
  obtain ⟨h1, h4, h5⟩ := h.put (i := 0) hr he hz oq
  refine ⟨h1, ⟨h4.1, h4.2.1, fun q hq => ?_⟩, h5⟩
  rcases List.mem_append.mp hq with g | g
  · exact h.2.1.2.2 q g
  · exact hL q g
/-- System.arraycopy, of one kind of numbers -/
theorem sw_w_cpk {α : Type} (mk : α → Value) (hF : sw_Fx E ba ad dC dI dA p s m args meth c k) (hH : sw_Hs ba ad dC dI dA s k M H locs) (hml : ls.size = sw_mx k) {a b na nb idx wi t0 : Nat} {sp dp n : Int32} {ty : FieldType} {f g : Nat → α} {ca : (Nat → α) → (Nat → Int32) ⊕ (Nat → Int64) ⊕ (Nat → UInt32) ⊕ (Nat → UInt64) ⊕ (Nat → Option Nat)}
    (hca : ∀ (N : Nat) (h : Nat → α), vp_cell (dA ty) (N, sw_cA ad (ca h)) = arrV (dA ty) N (fun j => mk (h j))) (ht0 : (sw_tys dA)[t0]? = some (dA ty, ty)) (hprim : refKind ty = false) (hfit : ∀ i, i < n.toNatClampNeg → fits ty (mk (f (sp.toNatClampNeg + i))) = true) (hnr : ∀ x, (mk x).isRef = false)
    (ha : a < M.2.2.1) (hb' : b < M.2.2.1) (h1 : ¬ sp < 0) (h2 : ¬ dp < 0) (h3 : ¬ n < 0) (h4 : sp.toNatClampNeg + n.toNatClampNeg ≤ na) (h5 : dp.toNatClampNeg + n.toNatClampNeg ≤ nb)
    (hca1 : M.2.2.2 a = .inl (ty, na, ca f)) (hcb1 : M.2.2.2 b = .inl (ty, nb, ca g)) (hw : sw_wd wi (.methodLink (sw_my k).cls idx arraycopyName) = true) (hfr : 1 ≤ sw_mf k) (hlo : 8 + (nativeFrameWords "java/lang/System" "arraycopy" 5 + 11) ≤ sw_ml k) (hcat : (rest.map fun v => v.category).sum ≤ 8) (hd : decode (sw_mb k) pc = .ok (.invokestatic idx, 3))
    (kk : ∀ H1 locs1, sw_Hs ba ad dC dI dA s k (sw_sC M b (.inl (ty, nb, ca (va_cpy f g sp.toNatClampNeg dp.toNatClampNeg n.toNatClampNeg)))) H1 locs1 → W p l e (sw_rm k) s m args below meth c H1 locs1 M.1 M.2.1 Q (F0 m (pc + 3) ls rest)) : W p l e (sw_rm k) s m args below meth c H locs M.1 M.2.1 Q (F0 m pc ls (.int n :: .int dp :: .ref (ad b) :: .int sp :: .ref (ad a) :: rest)) := by
  obtain ⟨hx, hb, -, -, hmlc, hown, hnm, hts, hWd, -⟩ := hF
  have ha9 : ad a = ba + a := hWd.2.2.2.2.2.2.2.2.2.1 _ (Nat.lt_of_lt_of_le ha (Nat.le_trans hH.1.2.1 (by omega)))
  have hb9 : ad b = ba + b := hWd.2.2.2.2.2.2.2.2.2.1 _ (Nat.lt_of_lt_of_le hb' (Nat.le_trans hH.1.2.1 (by omega)))
  have nn : ∀ z : Int32, ¬ z < 0 → z.toInt = (z.toNatClampNeg : Int) := by
    intro z hz
    have hz0 : (0 : Int) ≤ z.toInt := by
      have := Int32.not_lt.mp hz
      simpa using Int32.le_iff_toInt_le.mp this
    show z.toInt = ((z.toInt.toNat : Nat) : Int)
    omega
  have hc0 : H[ba + a]? = some (arrV (dA ty) na (fun j => mk (f j))) := by
    rw [← hca]; exact hH.1.2.2 a _ (hH.arr ha hca1)
  have hc1 : H[ba + b]? = some (arrV (dA ty) nb (fun j => mk (g j))) := by
    rw [← hca]; exact hH.1.2.2 b _ (hH.arr hb' hcb1)
  obtain ⟨-, k0, hk0, cm0, hkk0⟩ := (hWd.1.2 t0 _ ht0).1 na (fun j => mk (f j))
  rw [ha9, hb9]
  intro T hT X
  obtain ⟨vm', X', step⟩ := X.arraycopy hx hown (hts _ (sw_wd_in hw)) (hts _ (sw_x0_in (i := 2) rfl)) (hts _ (sw_x0_in (i := 3) rfl)) (hts _ (sw_x0_in (i := 4) rfl)) (src := ba + a) (dst := ba + b) (cs := arrV (dA ty) na (fun j => mk (f j))) (cd := arrV (dA ty) nb (fun j => mk (g j))) (srcPos := sp) (destPos := dp) (n := n) (by rw [hT]; exact hc0) (by rw [hT]; exact hc1)
    (fun _ h => by cases h) (fun _ h => by cases h) (fun h => by cases h) (fun h => by cases h) hk0 hk0 hkk0 hkk0 (by simp [hprim]) h1 h2 h3
    (by rw [nn sp h1, nn n h3, arrV_size]; omega)
    (by rw [nn dp h2, nn n h3, arrV_size]; omega)
    (fun vm₁ _ i hi => by
      have e : (arrV (dA ty) na (fun j => mk (f j))).slots.getD (sp.toNatClampNeg + i) .null = mk (f (sp.toNatClampNeg + i)) := by
        rw [Array.getD_eq_getD_getElem?, arrV_read _ _ (by omega)]
        rfl
      refine ⟨?_, ?_⟩
      · rw [e]
        exact hfit i hi
      · rw [e]
        have := hnr (f (sp.toNatClampNeg + i))
        cases hm : mk (f (sp.toNatClampNeg + i)) <;> first | trivial | (rw [hm] at this; cases this))
    (g := F0 m pc ls (.int n :: .int dp :: .ref (ba + b) :: .int sp :: .ref (ba + a) :: rest)) rfl (by rw [hmlc]; exact hml) (rest := rest) rfl (by rw [hb]; exact hd) hfr (by show 2 * 0 + _ + _ ≤ sw_ml k; omega)
  have e1 : copied (arrV (dA ty) na (fun j => mk (f j))) (arrV (dA ty) nb (fun j => mk (g j))) sp dp n = arrV (dA ty) nb (fun j => mk (va_cpy f g sp.toNatClampNeg dp.toNatClampNeg n.toNatClampNeg j)) := va_copied mk (dA ty) (dA ty) f g h4
  rw [e1] at X' step
  have hl : ba + b < H.size := (Array.getElem?_eq_some_iff.mp hc1).1
  have hheap : ((T.setVm vm').setCell (ba + b) (arrV (dA ty) nb (fun j => mk (va_cpy f g sp.toNatClampNeg dp.toNatClampNeg n.toNatClampNeg j)))).heap = H.setIfInBounds (ba + b) (arrV (dA ty) nb (fun j => mk (va_cpy f g sp.toNatClampNeg dp.toNatClampNeg n.toNatClampNeg j))) := by rw [← hT]; rfl
  have oq : ∀ q : Nat, q ≠ ba + b → (H.setIfInBounds (ba + b) (arrV (dA ty) nb (fun j => mk (va_cpy f g sp.toNatClampNeg dp.toNatClampNeg n.toNatClampNeg j))))[q]? = H[q]? := fun q hq => by simp [Array.getElem?_setIfInBounds, Ne.symm hq]
  obtain ⟨t, a1, b1⟩ := kk _ _ (hH.putL hb' (by
      show (H.setIfInBounds (ba + b) _)[ba + b]? = some (vp_cell (dA ty) (nb, sw_cA ad (ca _)))
      rw [hca]
      simp [Array.getElem?_setIfInBounds, hl]) (by simp) oq (L := _) (fun q hq => by
      obtain ⟨z, -, hz⟩ := List.mem_map.mp hq
      rw [← hz]
      exact Nat.le_add_right _ _)) _ hheap X'
  exact ⟨t, step t a1, b1⟩
theorem sw_w_cp (hF : sw_Fx E ba ad dC dI dA p s m args meth c k) (hH : sw_Hs ba ad dC dI dA s k M H locs) (hml : ls.size = sw_mx k) {a b idx wi : Nat} {sp dp n : Int32} {M1 : sw_M} (hv : sw_cp M a sp b dp n = some M1)
    (hw : sw_wd wi (.methodLink (sw_my k).cls idx arraycopyName) = true) (hfr : 1 ≤ sw_mf k) (hlo : 8 + (nativeFrameWords "java/lang/System" "arraycopy" 5 + 11) ≤ sw_ml k) (hcat : (rest.map fun v => v.category).sum ≤ 8) (hd : decode (sw_mb k) pc = .ok (.invokestatic idx, 3))
    (kk : ∀ H1 locs1, sw_Hs ba ad dC dI dA s k M1 H1 locs1 → W p l e (sw_rm k) s m args below meth c H1 locs1 M.1 M.2.1 Q (F0 m (pc + 3) ls rest)) : W p l e (sw_rm k) s m args below meth c H locs M.1 M.2.1 Q (F0 m pc ls (.int n :: .int dp :: .ref (ad b) :: .int sp :: .ref (ad a) :: rest)) := by
  unfold sw_cp at hv
  split at hv
  · next hg =>
    obtain ⟨ha, hb, h1, h2, h3⟩ := hg
    split at hv
    · next na f nb g e1 e2 =>
      split at hv
      · next h45 =>
        cases hv
        exact sw_w_cpk (fun z : Int32 => .int z) (ca := fun h => .inl h) (ty := .int) (t0 := 0) hF hH hml (fun _ _ => rfl) rfl rfl (fun _ _ => rfl) (fun _ => rfl) ha hb h1 h2 h3 h45.1 h45.2 e1 e2 hw hfr hlo hcat hd kk
      · cases hv
    · next na f nb g e1 e2 =>
      split at hv
      · next h45 =>
        cases hv
        exact sw_w_cpk (fun z : Int32 => .int z) (ca := fun h => .inl h) (ty := .boolean) (t0 := 2) hF hH hml (fun _ _ => rfl) rfl rfl h45.2 (fun _ => rfl) ha hb h1 h2 h3 h45.1.1 h45.1.2 e1 e2 hw hfr hlo hcat hd kk
      · cases hv
    · next na f nb g e1 e2 =>
      split at hv
      · next h45 =>
        cases hv
        exact sw_w_cpk (fun z : Int64 => .long z) (ca := fun h => .inr (.inl h)) (ty := .long) (t0 := 1) hF hH hml (fun _ _ => rfl) rfl rfl (fun _ _ => rfl) (fun _ => rfl) ha hb h1 h2 h3 h45.1 h45.2 e1 e2 hw hfr hlo hcat hd kk
      · cases hv
    · cases hv
  · cases hv
end SWN
