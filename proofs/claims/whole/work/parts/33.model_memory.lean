/-! ===== the reference's rows ===== -/
def mm_un (f x : Nat) : Nat := if f = 0 then x else if f = 1 then 6 + x else if f < 8 then 16 + 12 * x + (f - 2) else if f = 8 then 16 + 12 * (x / 6) + 6 + x % 6 else 208 + 5 * x + (f - 9)
theorem mm_un_is : ∀ i, i < 328 → mm_un (mm_ff i) (mm_fi i) = i := by decide +kernel
theorem mm_flat_inj {i j : Nat} (hi : i < 328) (hj : j < 328) (h1 : mm_ff i = mm_ff j) (h2 : mm_fi i = mm_fi j) : i = j := by
  rw [← mm_un_is i hi, ← mm_un_is j hj, h1, h2]
theorem mm_fl_u (T : Nat → Nat → Nat) {i v : Nat} (hi : i < 328) : ∀ j, j < 328 → mm_fl (mm_u T (mm_ff i) (mm_fi i) v) j = upd (mm_fl T) i (nI v) j := by
  intro j hj
  unfold mm_fl upd
  by_cases h : j = i
  · subst h; rw [mm_u_at, if_pos rfl]
  · rw [if_neg h, mm_u_ne T (fun q => h (mm_flat_inj hj hi q.1 q.2))]
theorem mw_m72 (S : sw_S) {i v : Nat} (hi : i < 328) : sw_sI (mk S) 72 (nI i) (nI v) = some (mk (mm_pI S 3 (mm_u (S.1 3) (mm_ff i) (mm_fi i) v))) := by
  rw [mm_sI (by decide) (show mm_cl S 72 = mm_iA 328 (mm_fl (S.1 3)) from rfl) hi (by decide)]
  congr 1
  have key : ∀ q, q ≠ 72 → mm_cl (mm_pI S 3 (mm_u (S.1 3) (mm_ff i) (mm_fi i) v)) q = mm_cl S q := by
    intro q hq
    unfold mm_cl
    split
    · next hr =>
      have e1 : (mm_pI S 3 (mm_u (S.1 3) (mm_ff i) (mm_fi i) v)).1 ((q - 1) / 18) = S.1 ((q - 1) / 18) := mm_pI_ne S _ (by omega)
      unfold mm_ct
      split <;> first | (simp only [e1]; done) | (rw [mm_pI_2]; done) | rfl
    · split
      · rfl
      · unfold mm_cr
        split <;> first | rfl | exact absurd rfl hq | (rw [mm_pI_ne S _ (by decide)]; done)
  refine mm_sCe (fun q hq => ?_) (by decide)
  split
  · next e =>
    subst e
    show mm_iA 328 (mm_fl ((mm_pI S 3 _).1 3)) = _
    rw [mm_pI_at]
    exact mm_iA_congr (fun j hj => mm_fl_u (S.1 3) hi j hj)
  · next e => exact key q e
theorem mw_l84 (S : sw_S) {s k : Nat} {x : Int64} (hs : s < 4) (hk : k < 40) : sw_sL (mk S) 84 (nI (40 * s + k)) x = some (mk (mm_pL S (10 + s) (vp_updL (S.2.1 (10 + s)) k x))) := by
  rw [mm_sL (by decide) (show mm_cl S 84 = mm_lA 160 (fun j => S.2.1 (10 + j / 40) (j % 40)) from rfl) (by omega) (by decide)]
  congr 1
  have key : ∀ q, q < 86 → q ≠ 84 → mm_cl (mm_pL S (10 + s) (vp_updL (S.2.1 (10 + s)) k x)) q = mm_cl S q := by
    intro q hq8 hq
    unfold mm_cl
    split
    · next hr =>
      unfold mm_ct
      split <;> first | rfl | (rw [mm_pL_ne S _ (by omega)]; done)
    · split
      · split
        · rfl
        · rw [mm_pL_ne S _ (by omega)]
      · unfold mm_cr
        split <;> first | rfl | exact absurd rfl hq | (rw [mm_pL_ne S _ (by omega)]; done)
  refine mm_sCe (fun q hq => ?_) (by decide)
  split
  · next e =>
    subst e
    show mm_lA 160 (fun j => (mm_pL S (10 + s) _).2.1 (10 + j / 40) (j % 40)) = _
    refine mm_lA_congr (fun j hj => ?_)
    by_cases hj1 : j = 40 * s + k
    · subst hj1
      rw [show 10 + (40 * s + k) / 40 = 10 + s by omega, mm_pL_at, show (40 * s + k) % 40 = k by omega]
      simp [vp_updL]
    · by_cases hj2 : j / 40 = s
      · rw [hj2, mm_pL_at]
        have : j % 40 ≠ k := by omega
        simp [vp_updL, this, hj1, hj2]
      · rw [mm_pL_ne S _ (by omega)]
        simp [vp_updL, hj1]
  · next e => exact key q hq e
/-! the forms in which the reference writes its indices -/
theorem mm_ff_0 {i : Nat} (h : i < 6) : mm_ff i = 0 ∧ mm_fi i = i := by unfold mm_ff mm_fi; rw [if_pos h, if_pos h]; exact ⟨rfl, rfl⟩
theorem mm_ff_1 {i : Nat} (h : i < 10) : mm_ff (6 + i) = 1 ∧ mm_fi (6 + i) = i := by unfold mm_ff mm_fi; rw [if_neg (by omega), if_pos (by omega), if_neg (by omega), if_pos (by omega)]; exact ⟨rfl, by omega⟩
theorem mm_ff_t {t w : Nat} (h : t < 16) (hw : w < 6) : mm_ff (16 + 12 * t + w) = 2 + w ∧ mm_fi (16 + 12 * t + w) = t := by
  unfold mm_ff mm_fi
  rw [if_neg (by omega), if_neg (by omega), if_pos (by omega), if_pos (by omega), if_neg (by omega), if_neg (by omega), if_pos (by omega), if_pos (by omega)]
  omega
theorem mm_ff_c {t i : Nat} (h : t < 16) (hi : i < 6) : mm_ff (16 + 12 * t + 6 + i) = 8 ∧ mm_fi (16 + 12 * t + 6 + i) = 6 * t + i := by
  unfold mm_ff mm_fi
  rw [if_neg (by omega), if_neg (by omega), if_pos (by omega), if_neg (by omega), if_neg (by omega), if_neg (by omega), if_pos (by omega), if_neg (by omega)]
  omega
theorem mm_ff_p {k w : Nat} (h : k < 24) (hw : w < 5) : mm_ff (208 + 5 * k + w) = 9 + w ∧ mm_fi (208 + 5 * k + w) = k := by
  unfold mm_ff mm_fi
  rw [if_neg (by omega), if_neg (by omega), if_neg (by omega), if_neg (by omega), if_neg (by omega), if_neg (by omega)]
  omega
section RS
variable (E : sw_E) (S : sw_S)
theorem rs_0 {i : Nat} (h : i < 6) : sw_aI E (mk S) 72 (nI i) = some (.int (nI (S.1 3 0 i))) := by
  rw [mm_aI (by decide) (show mm_cl S 72 = mm_iA 328 (mm_fl (S.1 3)) from rfl) (by omega) (by decide)]; unfold mm_fl; rw [(mm_ff_0 h).1, (mm_ff_0 h).2]
theorem rs_1 {i : Nat} (h : i < 10) : sw_aI E (mk S) 72 (nI (6 + i)) = some (.int (nI (S.1 3 1 i))) := by
  rw [mm_aI (by decide) (show mm_cl S 72 = mm_iA 328 (mm_fl (S.1 3)) from rfl) (by omega) (by decide)]; unfold mm_fl; rw [(mm_ff_1 h).1, (mm_ff_1 h).2]
theorem rs_t {t w : Nat} (h : t < 16) (hw : w < 6) : sw_aI E (mk S) 72 (nI (16 + 12 * t + w)) = some (.int (nI (S.1 3 (2 + w) t))) := by
  rw [mm_aI (by decide) (show mm_cl S 72 = mm_iA 328 (mm_fl (S.1 3)) from rfl) (by omega) (by decide)]; unfold mm_fl; rw [(mm_ff_t h hw).1, (mm_ff_t h hw).2]
theorem rs_c {t i : Nat} (h : t < 16) (hi : i < 6) : sw_aI E (mk S) 72 (nI (16 + 12 * t + 6 + i)) = some (.int (nI (S.1 3 8 (6 * t + i)))) := by
  rw [mm_aI (by decide) (show mm_cl S 72 = mm_iA 328 (mm_fl (S.1 3)) from rfl) (by omega) (by decide)]; unfold mm_fl; rw [(mm_ff_c h hi).1, (mm_ff_c h hi).2]
theorem rs_p {k w : Nat} (h : k < 24) (hw : w < 5) : sw_aI E (mk S) 72 (nI (208 + 5 * k + w)) = some (.int (nI (S.1 3 (9 + w) k))) := by
  rw [mm_aI (by decide) (show mm_cl S 72 = mm_iA 328 (mm_fl (S.1 3)) from rfl) (by omega) (by decide)]; unfold mm_fl; rw [(mm_ff_p h hw).1, (mm_ff_p h hw).2]
theorem ws_0 {i v : Nat} (h : i < 6) : sw_sI (mk S) 72 (nI i) (nI v) = some (mk (mm_pI S 3 (mm_u (S.1 3) 0 i v))) := by
  rw [mw_m72 S (by omega), (mm_ff_0 h).1, (mm_ff_0 h).2]
theorem ws_1 {i v : Nat} (h : i < 10) : sw_sI (mk S) 72 (nI (6 + i)) (nI v) = some (mk (mm_pI S 3 (mm_u (S.1 3) 1 i v))) := by
  rw [mw_m72 S (by omega), (mm_ff_1 h).1, (mm_ff_1 h).2]
theorem ws_t {t w v : Nat} (h : t < 16) (hw : w < 6) : sw_sI (mk S) 72 (nI (16 + 12 * t + w)) (nI v) = some (mk (mm_pI S 3 (mm_u (S.1 3) (2 + w) t v))) := by
  rw [mw_m72 S (by omega), (mm_ff_t h hw).1, (mm_ff_t h hw).2]
theorem ws_c {t i v : Nat} (h : t < 16) (hi : i < 6) : sw_sI (mk S) 72 (nI (16 + 12 * t + 6 + i)) (nI v) = some (mk (mm_pI S 3 (mm_u (S.1 3) 8 (6 * t + i) v))) := by
  rw [mw_m72 S (by omega), (mm_ff_c h hi).1, (mm_ff_c h hi).2]
theorem ws_p {k w v : Nat} (h : k < 24) (hw : w < 5) : sw_sI (mk S) 72 (nI (208 + 5 * k + w)) (nI v) = some (mk (mm_pI S 3 (mm_u (S.1 3) (9 + w) k v))) := by
  rw [mw_m72 S (by omega), (mm_ff_p h hw).1, (mm_ff_p h hw).2]
theorem rs_num {s k : Nat} (hs : s < 4) (hk : k < 40) : sw_aL (mk S) 84 (nI (40 * s + k)) = some (.long (S.2.1 (10 + s) k)) := by
  rw [mm_aL (by decide) (show mm_cl S 84 = mm_lA 160 (fun j => S.2.1 (10 + j / 40) (j % 40)) from rfl) (by omega) (by decide), show 10 + (40 * s + k) / 40 = 10 + s by omega, show (40 * s + k) % 40 = k by omega]
end RS
