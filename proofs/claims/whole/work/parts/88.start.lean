/-! ===== the law, whole ===== -/
def S0 : sw_S := (fun t f i => if t < 4 ∧ f = 0 ∧ i = 4 then 1 else if t < 4 ∧ f = 0 ∧ i = 5 then 66 else 0, fun _ _ => 0, fun _ _ => 0)
theorem iA_0 (n : Nat) : rI n = mm_iA n (fun _ => 0) := by
  unfold rI mm_iA
  congr 4
  funext i
  split <;> rfl
theorem zA_0 (n : Nat) : rZ n = mm_zA n (fun _ => 0) := by
  unfold rZ mm_zA
  congr 4
  funext i
  split <;> rfl
theorem lA_0 (n : Nat) : rL n = mm_lA n (fun _ => 0) := by
  unfold rL mm_lA
  congr 5
  funext i
  split <;> rfl
theorem ff_0 {i : Nat} (h : mm_ff i = 0) : i < 6 := by
  refine Classical.byContradiction fun g => ?_
  unfold mm_ff at h
  rw [if_neg g] at h
  split at h
  · omega
  · split at h
    · split at h <;> omega
    · omega
theorem oA_0 : (.inl (.object RX3, 4, .inr (.inr (.inr (.inr (va_up (va_up (va_up (va_up (fun _ => none) 0 (some 62)) 1 (some 64)) 2 (some 66)) 3 (some 68)))))) : sw_AC) = mm_cl S0 61 := by
  show _ = Sum.inl (FieldType.object RX3, 4, Sum.inr (Sum.inr (Sum.inr (Sum.inr (fun i => if i < 4 then some (mm_sh i) else none)))))
  congr 7
  funext i
  unfold va_up mm_sh
  by_cases h3 : i = 3
  · subst h3; rfl
  · by_cases h2 : i = 2
    · subst h2; rfl
    · by_cases h1 : i = 1
      · subst h1; rfl
      · by_cases h0 : i = 0
        · subst h0; rfl
        · rw [if_neg h3, if_neg h2, if_neg h1, if_neg h0, if_neg (by omega)]
theorem sA_0 : (.inl (.int, 328, .inl (upd (upd (fun _ => 0) 4 1) 5 66)) : sw_AC) = mm_iA 328 (mm_fl (S0.1 3)) := by
  unfold mm_iA
  congr 4
  funext i
  unfold upd mm_fl
  by_cases h5 : i = 5
  · subst h5; rfl
  · by_cases h4 : i = 4
    · subst h4; rfl
    · rw [if_neg h5, if_neg h4]
      by_cases h : i < 328
      · rw [if_pos h]
        have e : S0.1 3 (mm_ff i) (mm_fi i) = 0 := by
          unfold S0
          simp only
          rw [if_neg, if_neg]
          · rintro ⟨_, g1, g2⟩
            have g3 := ff_0 g1
            unfold mm_fi at g2
            rw [if_pos g3] at g2
            omega
          · rintro ⟨_, g1, g2⟩
            have g3 := ff_0 g1
            unfold mm_fi at g2
            rw [if_pos g3] at g2
            omega
        rw [e]; rfl
      · rw [if_neg h]
set_option maxRecDepth 100000 in
set_option maxHeartbeats 4000000 in
theorem cells : ∀ q, q < 86 → (L71 ++ L15).getD q (.inr (99, [])) = mm_cl S0 q
  | 0, _ => rfl
  | 1, _ => rfl
  | 2, _ => rfl
  | 3, _ => iA_0 10
  | 4, _ => lA_0 10
  | 5, _ => rfl
  | 6, _ => iA_0 16
  | 7, _ => iA_0 16
  | 8, _ => iA_0 16
  | 9, _ => iA_0 16
  | 10, _ => zA_0 16
  | 11, _ => iA_0 16
  | 12, _ => iA_0 96
  | 13, _ => rfl
  | 14, _ => iA_0 24
  | 15, _ => iA_0 24
  | 16, _ => iA_0 24
  | 17, _ => iA_0 24
  | 18, _ => iA_0 24
  | 19, _ => rfl
  | 20, _ => rfl
  | 21, _ => iA_0 10
  | 22, _ => lA_0 10
  | 23, _ => rfl
  | 24, _ => iA_0 16
  | 25, _ => iA_0 16
  | 26, _ => iA_0 16
  | 27, _ => iA_0 16
  | 28, _ => zA_0 16
  | 29, _ => iA_0 16
  | 30, _ => iA_0 96
  | 31, _ => rfl
  | 32, _ => iA_0 24
  | 33, _ => iA_0 24
  | 34, _ => iA_0 24
  | 35, _ => iA_0 24
  | 36, _ => iA_0 24
  | 37, _ => rfl
  | 38, _ => rfl
  | 39, _ => iA_0 10
  | 40, _ => lA_0 10
  | 41, _ => rfl
  | 42, _ => iA_0 16
  | 43, _ => iA_0 16
  | 44, _ => iA_0 16
  | 45, _ => iA_0 16
  | 46, _ => zA_0 16
  | 47, _ => iA_0 16
  | 48, _ => iA_0 96
  | 49, _ => rfl
  | 50, _ => iA_0 24
  | 51, _ => iA_0 24
  | 52, _ => iA_0 24
  | 53, _ => iA_0 24
  | 54, _ => iA_0 24
  | 55, _ => rfl
  | 56, _ => iA_0 10
  | 57, _ => iA_0 10
  | 58, _ => iA_0 10
  | 59, _ => rfl
  | 60, _ => iA_0 100
  | 61, _ => oA_0
  | 62, _ => rfl
  | 63, _ => lA_0 40
  | 64, _ => rfl
  | 65, _ => lA_0 40
  | 66, _ => rfl
  | 67, _ => lA_0 40
  | 68, _ => rfl
  | 69, _ => lA_0 40
  | 70, _ => iA_0 7
  | 71, _ => rfl
  | 72, _ => sA_0
  | 73, _ => iA_0 328
  | 74, _ => iA_0 328
  | 75, _ => iA_0 7
  | 76, _ => lA_0 10
  | 77, _ => lA_0 10
  | 78, _ => lA_0 10
  | 79, _ => iA_0 10
  | 80, _ => iA_0 10
  | 81, _ => iA_0 100
  | 82, _ => iA_0 4
  | 83, _ => iA_0 4
  | 84, _ => lA_0 160
  | 85, _ => lA_0 40
  | q + 86, h => absurd h (by omega)
theorem pt_all : pt (mm_cl S0) 0 (L71 ++ L15) = mm_cl S0 := by
  funext q
  by_cases h : q < 86
  · rw [pt_at (Nat.zero_le _) (by show q < 0 + 86; omega), Nat.sub_zero]
    exact cells q h
  · unfold pt
    rw [if_neg (fun g => h (by have : q < 0 + 86 := g.2; omega))]
theorem S0_b : ∀ t f i, S0.1 t f i ≤ 66 := by
  intro t f i
  unfold S0
  simp only
  split
  · omega
  · split <;> omega
theorem S0_z {t f i : Nat} (h : f ≠ 0 ∨ (i ≠ 4 ∧ i ≠ 5)) : S0.1 t f i = 0 := by
  unfold S0
  simp only
  rw [if_neg (by omega), if_neg (by omega)]
theorem IT_0 (t : Nat) (ht : t < 4) : IT (S0.1 t) := by
  have z0 : S0.1 t 0 0 = 0 := S0_z (by omega)
  have z1 : S0.1 t 0 1 = 0 := S0_z (by omega)
  have z2 : S0.1 t 0 2 = 0 := S0_z (by omega)
  have z3 : S0.1 t 0 3 = 0 := S0_z (by omega)
  refine ⟨fun f i => Nat.lt_of_le_of_lt (S0_b t f i) (by decide), by omega, by omega, by omega, by omega, ?_, ?_, fun i hi => ?_, fun i => ?_, fun x hx => ?_, fun k hk => ?_⟩
  · have : S0.1 t 0 4 = 1 := if_pos ⟨ht, rfl, rfl⟩
    omega
  · have := S0_b t 0 5
    omega
  · omega
  · rw [S0_z (by omega)]; omega
  · omega
  · omega
theorem Inv_0 : Inv S0 := by
  refine ⟨IT_0 0 (by decide), ?_, rfl, IT_0 1 (by decide), Or.inl rfl, rfl, fun h => absurd h (by decide), rfl, ⟨0, by decide, rfl, rfl⟩, rfl, fun i => ⟨0, by decide, rfl⟩, rfl, rfl, fun s _ => ⟨0, by decide, rfl⟩, fun s _ => rfl⟩
  funext f i
  unfold S0
  simp only [show (3 < 4) = True by decide, show (0 < 4) = True by decide]
set_option maxRecDepth 100000 in
theorem f_law_1 (E : sw_E) (hE : E.2.2 = .null ∨ ∃ a, E.2.2 = .ref a) (hE1 : E.1 < 2147483648) : ∃ S', f_law E (.ref 1000) (0, 0, 0, mm_cl S0) = some (some (.int 1), mkL S') := by
  obtain ⟨S', h⟩ := lw_all E hE hE1 E.1 0 S0 (by omega) (Nat.zero_le _) Inv_0
  refine ⟨S', ?_⟩
  rw [← h]
  have k1 := n_SW E (mm_cl S0)
  have k2 := k_MD E (mm_cl S0) (b := 0) (L := L71) rfl
  rw [pt_all] at k2
  have k3 : ∀ c, sw_up (pt (mm_cl S0) 0 L71) 71 c = pt (mm_cl S0) 0 (L71 ++ [c]) := fun c => pt_new rfl
  have k4 : ∀ c, sw_up (mm_cl S0) 0 c = pt (mm_cl S0) 0 [c] := fun c => pt_1
  simp (config := { decide := true }) only [e_law, st_law_a, k4, k1, k2, k3, xa_v, sw_z, Nat.reduceAdd, Nat.zero_add, if_true, reduceIte]
  rfl
