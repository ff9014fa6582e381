/-! ===== the town's words, by both ===== -/
section TJ
variable {E : sw_E} {T : Nat → Nat → Nat} {H : Nat → Int64} {p : Nat → Nat} {n f : Nat}
theorem isw_lt {k : Nat} (hk : k < 10) (h : isw p n f k = true) : f < n := by
  have := isw_tk hk h
  refine Classical.byContradiction (fun g => ?_)
  unfold tk at this
  rw [if_pos g] at this
  omega
theorem item_J (hE : E.2.2 = .null ∨ ∃ a, E.2.2 = .ref a) (hp : ∀ j, p j < 256) (hn : n ≤ 100) (hf : f ≤ n) (hT : IT T) : (∃ T' H' f', IT T' ∧ f < f' ∧ f' ≤ n ∧ JY E p n T H f T' H' f') ∨ (∃ f', f ≤ f' ∧ f' ≤ n ∧ JN E p n T H f f') := by
  have b1 := nx_b (p := p) hf
  have b2 := nx_b (p := p) b1.2.1
  have b3 := nx_b (p := p) b2.2.1
  have b4 := nx_b (p := p) b3.2.1
  have b5 := nx_b (p := p) b4.2.1
  by_cases w0 : isw p n f 0 = true
  · have hfn := b1.2.2 (isw_lt (by decide) w0)
    by_cases h16 : T 0 1 < 16
    · by_cases c1 : tk p n (nx p n f) = 2 ∧ vl p n (nx p n f) < T 0 0
      · by_cases c2 : tk p n (nx p n (nx p n f)) = 2 ∧ vl p n (nx p n (nx p n f)) < 10000
        · by_cases r : isw p n (nx p n (nx p n (nx p n f))) 1 = true
          · by_cases c4 : tk p n (nx p n (nx p n (nx p n (nx p n f)))) = 2 ∧ vl p n (nx p n (nx p n (nx p n (nx p n f)))) < 100
            · exact Or.inl ⟨_, _, _, IT_newT hT c1.2 (by omega) (by omega) h16, by omega, b5.2.1, j_thingR hE hp hn hf hT w0 h16 c1.1 c1.2 c2.1 c2.2 r c4.1 c4.2⟩
            · exact Or.inr ⟨_, by omega, b4.2.1, j_thRot hE hp hn hf hT w0 h16 c1.1 c1.2 c2.1 c2.2 r c4⟩
          · exact Or.inl ⟨_, _, _, IT_newT hT c1.2 (by omega) (by omega) h16, by omega, b3.2.1, j_thing hE hp hn hf hT w0 h16 c1.1 c1.2 c2.1 c2.2 r⟩
        · exact Or.inr ⟨_, by omega, b2.2.1, j_thBase hE hp hn hf hT w0 h16 c1.1 c1.2 c2⟩
      · exact Or.inr ⟨_, by omega, b1.2.1, j_thOwn hE hp hn hf hT w0 h16 c1⟩
    · exact Or.inr ⟨_, Nat.le_refl _, hf, j_thFull hE hp hn hf hT w0 h16⟩
  · by_cases w2 : isw p n f 2 = true
    · have hfn := b1.2.2 (isw_lt (by decide) w2)
      by_cases c1 : tk p n (nx p n f) = 2 ∧ vl p n (nx p n f) < 6
      · exact Or.inl ⟨_, _, _, IT_u04 hT (by omega), by omega, b2.2.1, j_passY hE hp hn hf hT w2 c1.1 c1.2⟩
      · exact Or.inr ⟨_, by omega, b1.2.1, j_passN hE hp hn hf hT w2 c1⟩
    · by_cases w3 : isw p n f 3 = true
      · have hfn := b1.2.2 (isw_lt (by decide) w3)
        by_cases c1 : tk p n (nx p n f) = 2 ∧ vl p n (nx p n f) < 101
        · exact Or.inl ⟨_, _, _, IT_u05 hT (by omega), by omega, b2.2.1, j_partY hE hp hn hf hT w3 c1.1 c1.2⟩
        · exact Or.inr ⟨_, by omega, b1.2.1, j_partN hE hp hn hf hT w3 c1⟩
      · by_cases hk : ∃ i, i < 6 ∧ isw p n f (kw i) = true
        · obtain ⟨i, hi, hw⟩ := hk
          have hfn := b1.2.2 (isw_lt (by unfold kw; split <;> omega) hw)
          by_cases h10 : T 0 0 < 10
          · exact Or.inl ⟨_, _, _, IT_newP hT (by omega) h10, hfn, b1.2.1, j_person hE hp hn hf hT hi hw h10⟩
          · exact Or.inr ⟨_, Nat.le_refl _, hf, j_full hE hp hn hf hT hi hw h10⟩
        · refine Or.inr ⟨_, Nat.le_refl _, hf, j_none hE hp hn hf hT w0 w2 w3 (fun q h4 h10 g => hk ?_)⟩
          by_cases h9 : q = 9
          · exact ⟨0, by decide, by rw [h9] at g; exact g⟩
          · refine ⟨q - 3, by omega, ?_⟩
            have e : kw (q - 3) = q := by unfold kw; rw [if_neg (by omega)]; omega
            rw [e]; exact g
end TJ
def LY (E : sw_E) (p : Nat → Nat) (n : Nat) (T : Nat → Nat → Nat) (H : Nat → Int64) (f i : Nat) (T' : Nat → Nat → Nat) (H' : Nat → Int64) (g k : Nat) : Prop := (∀ S : sw_S, (∀ j, S.2.2 4 j = nI (p j)) → S.2.2 5 0 = nI n → ∀ d, ∃ d', sw_ex E 31 19 [.ref 59, .ref (mm_tn 2 0), .int (nI i), .int (nI i)] [] (mk (TC S T H p n f d)) = some (some (.int (nI k)), mk (TC S T' H' p n g d'))) ∧ (∀ S : sw_S, (∀ j, S.2.2 24 j = nI (p j)) → S.2.2 25 0 = nI n → ∀ v, ∃ S1 v', f_MD_item E (.ref 71) (mk (TR S T H p n f v 0)) = some (none, mk S1) ∧ h_MD_town_0 E [.ref 71, .int (nI (i + 1))] (mk S1) = sw_ex E 206 74 [.ref 71, .int (nI k)] [] (mk (TR S T' H' p n g v' 0)))
def LN (E : sw_E) (p : Nat → Nat) (n : Nat) (T : Nat → Nat → Nat) (H : Nat → Int64) (f i : Nat) (T' : Nat → Nat → Nat) (H' : Nat → Int64) (g k : Nat) : Prop := (∀ S : sw_S, (∀ j, S.2.2 4 j = nI (p j)) → S.2.2 5 0 = nI n → ∀ d, ∃ d', sw_ex E 31 19 [.ref 59, .ref (mm_tn 2 0), .int (nI i), .int (nI i)] [] (mk (TC S T H p n f d)) = some (some (.int (-1 - nI g)), mk (TC S T' H' p n g d'))) ∧ (∀ S : sw_S, (∀ j, S.2.2 24 j = nI (p j)) → S.2.2 25 0 = nI n → ∀ v, ∃ S1 v', f_MD_item E (.ref 71) (mk (TR S T H p n f v 0)) = some (none, mk S1) ∧ h_MD_town_0 E [.ref 71, .int (nI (i + 1))] (mk S1) = sw_ex E 206 74 [.ref 71, .int (nI k)] [] (mk (TR S T' H' p n g v' 1)))
section TJ2
variable {E : sw_E} {p : Nat → Nat} {n : Nat}
set_option maxRecDepth 100000 in
set_option maxHeartbeats 4000000 in
theorem town_J (hE : E.2.2 = .null ∨ ∃ a, E.2.2 = .ref a) (hp : ∀ j, p j < 256) (hn : n ≤ 100) : ∀ (m : Nat) (T : Nat → Nat → Nat) (H : Nat → Int64) (f i : Nat), n - f ≤ m → f ≤ n → i ≤ f → IT T → (∃ T' H' g k, IT T' ∧ g ≤ n ∧ k ≤ 101 ∧ LY E p n T H f i T' H' g k) ∨ (∃ T' H' g k, IT T' ∧ g ≤ n ∧ LN E p n T H f i T' H' g k)
  | m, T, H, f, i, hm, hf, hi, hT => by
    have h45 : 4 ≠ 5 := by decide
    rcases item_J (H := H) hE hp hn hf hT with ⟨T', H', f', hT', hff, hf', jc, jm⟩ | ⟨f', hff, hf', jc, jm⟩
    · have ht := tk_le p n f'
      by_cases h1 : f' < n
      · by_cases h2 : p f' = 59
        · have e1 : tk p n f' = 3 := by
            unfold tk
            rw [if_neg (not_not_intro h1), if_neg (by rw [h2]; decide), if_neg (by rw [h2]; decide), if_pos h2]
          have b := nx_b (p := p) hf'
          cases m with
          | zero => omega
          | succ m =>
            have hi100 : i + 1 ≤ 100 := by omega
            have hni : ¬ 100 < i + 1 := by omega
            have e30 : ((3 : Nat) = 0) ↔ False := by decide
            rcases town_J hE hp hn m T' H' (nx p n f') (i + 1) (by omega) b.2.1 (by omega) hT' with ⟨T2, H2, g, k, hT2, hg, hk, lc, lm⟩ | ⟨T2, H2, g, k, hT2, hg, lc, lm⟩
            · refine Or.inl ⟨T2, H2, g, k, hT2, hg, hk, fun S hb hl d => ?_, fun S hb hl v => ?_⟩
              · obtain ⟨d1, k1⟩ := jc S hb hl d
                obtain ⟨d2, k2⟩ := lc S hb hl (dd p n f' d1)
                refine ⟨d2, ?_⟩
                have k3 := c_stq E (T := T') (H := H') (a := nI (tk p n f')) (b := nI f') (d := dd p n f' d1) hp hb hn hl hf'
                simp (maxSteps := 2000000) (disch := first | omega | exact hB _ _ | assumption | decide) only [st_Tape_tellTown, k1, i_ne, e1, u_Tape_tellTown_0, hni, k3, k2, e30, mr_cl E _, mw_f59_1, mw_f59_2, mw_f59_3, mw_f59_4, mw_f59_5, mw_f71_11, mw_f71_12, mw_f71_13, mw_f71_14, mw_f71_15, TP_T, TP_H, TP_Tn, TP_Hn, TP_fn, TP_f0, TP_f1, TP_f2, TP_f3, TP_f4, TP_w1, TP_w2, TP_w3, TP_w4, TP_wT, TP_wH, Bool.false_eq_true, n_10, true_and, and_true, false_and, and_false, Nat.not_lt_zero, true_or, or_true, eq_self, mm_z, mm_rs, sw_xc_ite, sw_xv_ite, n_m1, Nat.lt_irrefl, not_false_eq_true, not_true_eq_false, inS_0, inS_1, ite_not, sw_xv_some, sw_xm_some, sw_xc_some, sw_xc_void, if_true, if_false, reduceIte, bI_0, bI_01, bI_1, nt_or, Nat.reduceAdd, n_add, n_mul, n_addL, n_Ladd, n_mulL, n_Lmul, n_sub, n_subL, n_lt, n_eq, n_ltL, n_Llt, n_eqL, n_Leq, n_nneg, n_pos]
              · obtain ⟨v1, k1⟩ := jm S hb hl v
                obtain ⟨S1, v2, k2, k3⟩ := lm S hb hl v1
                refine ⟨_, v2, k1, ?_⟩
                rw [u_MD_town_0, ← k3]
                simp (maxSteps := 2000000) (disch := first | omega | exact hB _ _ | assumption | decide) only [st_MD_town, hl, h1, md_byY E hb hn hl h1, h2, md_needY E hp hb hn hl hf', k2, i_ne, show nI 59 = (59 : Int32) from rfl, mr_md E _, mw_f59_1, mw_f59_2, mw_f59_3, mw_f59_4, mw_f59_5, mw_f71_11, mw_f71_12, mw_f71_13, mw_f71_14, mw_f71_15, TP_T, TP_H, TP_Tn, TP_Hn, TP_fn, TP_f0, TP_f1, TP_f2, TP_f3, TP_f4, TP_w1, TP_w2, TP_w3, TP_w4, TP_wT, TP_wH, Bool.false_eq_true, n_10, true_and, and_true, false_and, and_false, Nat.not_lt_zero, true_or, or_true, eq_self, mm_z, mm_rs, sw_xc_ite, sw_xv_ite, n_m1, Nat.lt_irrefl, not_false_eq_true, not_true_eq_false, inS_0, inS_1, ite_not, sw_xv_some, sw_xm_some, sw_xc_some, sw_xc_void, if_true, if_false, reduceIte, bI_0, bI_01, bI_1, nt_or, Nat.reduceAdd, n_add, n_mul, n_addL, n_Ladd, n_mulL, n_Lmul, n_sub, n_subL, n_lt, n_eq, n_ltL, n_Llt, n_eqL, n_Leq, n_nneg, n_pos]
            · refine Or.inr ⟨T2, H2, g, k, hT2, hg, fun S hb hl d => ?_, fun S hb hl v => ?_⟩
              · obtain ⟨d1, k1⟩ := jc S hb hl d
                obtain ⟨d2, k2⟩ := lc S hb hl (dd p n f' d1)
                refine ⟨d2, ?_⟩
                have k3 := c_stq E (T := T') (H := H') (a := nI (tk p n f')) (b := nI f') (d := dd p n f' d1) hp hb hn hl hf'
                simp (maxSteps := 2000000) (disch := first | omega | exact hB _ _ | assumption | decide) only [st_Tape_tellTown, k1, i_ne, e1, u_Tape_tellTown_0, hni, k3, k2, e30, mr_cl E _, mw_f59_1, mw_f59_2, mw_f59_3, mw_f59_4, mw_f59_5, mw_f71_11, mw_f71_12, mw_f71_13, mw_f71_14, mw_f71_15, TP_T, TP_H, TP_Tn, TP_Hn, TP_fn, TP_f0, TP_f1, TP_f2, TP_f3, TP_f4, TP_w1, TP_w2, TP_w3, TP_w4, TP_wT, TP_wH, Bool.false_eq_true, n_10, true_and, and_true, false_and, and_false, Nat.not_lt_zero, true_or, or_true, eq_self, mm_z, mm_rs, sw_xc_ite, sw_xv_ite, n_m1, Nat.lt_irrefl, not_false_eq_true, not_true_eq_false, inS_0, inS_1, ite_not, sw_xv_some, sw_xm_some, sw_xc_some, sw_xc_void, if_true, if_false, reduceIte, bI_0, bI_01, bI_1, nt_or, Nat.reduceAdd, n_add, n_mul, n_addL, n_Ladd, n_mulL, n_Lmul, n_sub, n_subL, n_lt, n_eq, n_ltL, n_Llt, n_eqL, n_Leq, n_nneg, n_pos]
              · obtain ⟨v1, k1⟩ := jm S hb hl v
                obtain ⟨S1, v2, k2, k3⟩ := lm S hb hl v1
                refine ⟨_, v2, k1, ?_⟩
                rw [u_MD_town_0, ← k3]
                simp (maxSteps := 2000000) (disch := first | omega | exact hB _ _ | assumption | decide) only [st_MD_town, hl, h1, md_byY E hb hn hl h1, h2, md_needY E hp hb hn hl hf', k2, i_ne, show nI 59 = (59 : Int32) from rfl, mr_md E _, mw_f59_1, mw_f59_2, mw_f59_3, mw_f59_4, mw_f59_5, mw_f71_11, mw_f71_12, mw_f71_13, mw_f71_14, mw_f71_15, TP_T, TP_H, TP_Tn, TP_Hn, TP_fn, TP_f0, TP_f1, TP_f2, TP_f3, TP_f4, TP_w1, TP_w2, TP_w3, TP_w4, TP_wT, TP_wH, Bool.false_eq_true, n_10, true_and, and_true, false_and, and_false, Nat.not_lt_zero, true_or, or_true, eq_self, mm_z, mm_rs, sw_xc_ite, sw_xv_ite, n_m1, Nat.lt_irrefl, not_false_eq_true, not_true_eq_false, inS_0, inS_1, ite_not, sw_xv_some, sw_xm_some, sw_xc_some, sw_xc_void, if_true, if_false, reduceIte, bI_0, bI_01, bI_1, nt_or, Nat.reduceAdd, n_add, n_mul, n_addL, n_Ladd, n_mulL, n_Lmul, n_sub, n_subL, n_lt, n_eq, n_ltL, n_Llt, n_eqL, n_Leq, n_nneg, n_pos]
        · have e0 : ¬ tk p n f' = 0 := by
            unfold tk
            rw [if_neg (not_not_intro h1)]
            repeat' split
            all_goals omega
          have e1 : ¬ tk p n f' = 3 := by
            unfold tk
            rw [if_neg (not_not_intro h1), if_neg h2]
            repeat' split
            all_goals omega
          have hpf := hp f'
          refine Or.inr ⟨T', H', f', i + 2, hT', hf', fun S hb hl d => ?_, fun S hb hl v => ?_⟩
          · obtain ⟨d1, k1⟩ := jc S hb hl d
            refine ⟨d1, ?_⟩
            simp (maxSteps := 2000000) (disch := first | omega | exact hB _ _ | assumption | decide) only [st_Tape_tellTown, k1, i_ne, e0, e1, mr_cl E _, mw_f59_1, mw_f59_2, mw_f59_3, mw_f59_4, mw_f59_5, mw_f71_11, mw_f71_12, mw_f71_13, mw_f71_14, mw_f71_15, TP_T, TP_H, TP_Tn, TP_Hn, TP_fn, TP_f0, TP_f1, TP_f2, TP_f3, TP_f4, TP_w1, TP_w2, TP_w3, TP_w4, TP_wT, TP_wH, Bool.false_eq_true, n_10, true_and, and_true, false_and, and_false, Nat.not_lt_zero, true_or, or_true, eq_self, mm_z, mm_rs, sw_xc_ite, sw_xv_ite, n_m1, Nat.lt_irrefl, not_false_eq_true, not_true_eq_false, inS_0, inS_1, ite_not, sw_xv_some, sw_xm_some, sw_xc_some, sw_xc_void, if_true, if_false, reduceIte, bI_0, bI_01, bI_1, nt_or, Nat.reduceAdd, n_add, n_mul, n_addL, n_Ladd, n_mulL, n_Lmul, n_sub, n_subL, n_lt, n_eq, n_ltL, n_Llt, n_eqL, n_Leq, n_nneg, n_pos]
          · obtain ⟨v1, k1⟩ := jm S hb hl v
            refine ⟨_, v1, k1, ?_⟩
            rw [u_MD_town_0]
            simp (maxSteps := 2000000) (disch := first | omega | exact hB _ _ | assumption | decide) only [st_MD_town, hl, h1, md_byY E hb hn hl h1, h2, md_needN, md_itemW, u_MD_town_0, i_ne, mr_md E _, mw_f59_1, mw_f59_2, mw_f59_3, mw_f59_4, mw_f59_5, mw_f71_11, mw_f71_12, mw_f71_13, mw_f71_14, mw_f71_15, TP_T, TP_H, TP_Tn, TP_Hn, TP_fn, TP_f0, TP_f1, TP_f2, TP_f3, TP_f4, TP_w1, TP_w2, TP_w3, TP_w4, TP_wT, TP_wH, Bool.false_eq_true, n_10, true_and, and_true, false_and, and_false, Nat.not_lt_zero, true_or, or_true, eq_self, mm_z, mm_rs, sw_xc_ite, sw_xv_ite, n_m1, Nat.lt_irrefl, not_false_eq_true, not_true_eq_false, inS_0, inS_1, ite_not, sw_xv_some, sw_xm_some, sw_xc_some, sw_xc_void, if_true, if_false, reduceIte, bI_0, bI_01, bI_1, nt_or, Nat.reduceAdd, n_add, n_mul, n_addL, n_Ladd, n_mulL, n_Lmul, n_sub, n_subL, n_lt, n_eq, n_ltL, n_Llt, n_eqL, n_Leq, n_nneg, n_pos]
      · have e1 : tk p n f' = 0 := by
          unfold tk
          rw [if_pos h1]
        refine Or.inl ⟨T', H', f', i + 1, hT', hf', by omega, fun S hb hl d => ?_, fun S hb hl v => ?_⟩
        · obtain ⟨d1, k1⟩ := jc S hb hl d
          refine ⟨d1, ?_⟩
          simp (maxSteps := 2000000) (disch := first | omega | exact hB _ _ | assumption | decide) only [st_Tape_tellTown, k1, i_ne, e1, mr_cl E _, mw_f59_1, mw_f59_2, mw_f59_3, mw_f59_4, mw_f59_5, mw_f71_11, mw_f71_12, mw_f71_13, mw_f71_14, mw_f71_15, TP_T, TP_H, TP_Tn, TP_Hn, TP_fn, TP_f0, TP_f1, TP_f2, TP_f3, TP_f4, TP_w1, TP_w2, TP_w3, TP_w4, TP_wT, TP_wH, Bool.false_eq_true, n_10, true_and, and_true, false_and, and_false, Nat.not_lt_zero, true_or, or_true, eq_self, mm_z, mm_rs, sw_xc_ite, sw_xv_ite, n_m1, Nat.lt_irrefl, not_false_eq_true, not_true_eq_false, inS_0, inS_1, ite_not, sw_xv_some, sw_xm_some, sw_xc_some, sw_xc_void, if_true, if_false, reduceIte, bI_0, bI_01, bI_1, nt_or, Nat.reduceAdd, n_add, n_mul, n_addL, n_Ladd, n_mulL, n_Lmul, n_sub, n_subL, n_lt, n_eq, n_ltL, n_Llt, n_eqL, n_Leq, n_nneg, n_pos]
        · obtain ⟨v1, k1⟩ := jm S hb hl v
          refine ⟨_, v1, k1, ?_⟩
          rw [u_MD_town_0]
          simp (maxSteps := 2000000) (disch := first | omega | exact hB _ _ | assumption | decide) only [st_MD_town, hl, h1, i_ne, mr_md E _, mw_f59_1, mw_f59_2, mw_f59_3, mw_f59_4, mw_f59_5, mw_f71_11, mw_f71_12, mw_f71_13, mw_f71_14, mw_f71_15, TP_T, TP_H, TP_Tn, TP_Hn, TP_fn, TP_f0, TP_f1, TP_f2, TP_f3, TP_f4, TP_w1, TP_w2, TP_w3, TP_w4, TP_wT, TP_wH, Bool.false_eq_true, n_10, true_and, and_true, false_and, and_false, Nat.not_lt_zero, true_or, or_true, eq_self, mm_z, mm_rs, sw_xc_ite, sw_xv_ite, n_m1, Nat.lt_irrefl, not_false_eq_true, not_true_eq_false, inS_0, inS_1, ite_not, sw_xv_some, sw_xm_some, sw_xc_some, sw_xc_void, if_true, if_false, reduceIte, bI_0, bI_01, bI_1, nt_or, Nat.reduceAdd, n_add, n_mul, n_addL, n_Ladd, n_mulL, n_Lmul, n_sub, n_subL, n_lt, n_eq, n_ltL, n_Llt, n_eqL, n_Leq, n_nneg, n_pos]
    · refine Or.inr ⟨T, H, f', i + 1, hT, hf', fun S hb hl d => ?_, fun S hb hl v => ?_⟩
      · obtain ⟨d1, k1⟩ := jc S hb hl d
        refine ⟨d1, ?_⟩
        simp (maxSteps := 2000000) (disch := first | omega | exact hB _ _ | assumption | decide) only [st_Tape_tellTown, k1, i_ne, mr_cl E _, mw_f59_1, mw_f59_2, mw_f59_3, mw_f59_4, mw_f59_5, mw_f71_11, mw_f71_12, mw_f71_13, mw_f71_14, mw_f71_15, TP_T, TP_H, TP_Tn, TP_Hn, TP_fn, TP_f0, TP_f1, TP_f2, TP_f3, TP_f4, TP_w1, TP_w2, TP_w3, TP_w4, TP_wT, TP_wH, Bool.false_eq_true, n_10, true_and, and_true, false_and, and_false, Nat.not_lt_zero, true_or, or_true, eq_self, mm_z, mm_rs, sw_xc_ite, sw_xv_ite, n_m1, Nat.lt_irrefl, not_false_eq_true, not_true_eq_false, inS_0, inS_1, ite_not, sw_xv_some, sw_xm_some, sw_xc_some, sw_xc_void, if_true, if_false, reduceIte, bI_0, bI_01, bI_1, nt_or, Nat.reduceAdd, n_add, n_mul, n_addL, n_Ladd, n_mulL, n_Lmul, n_sub, n_subL, n_lt, n_eq, n_ltL, n_Llt, n_eqL, n_Leq, n_nneg, n_pos]
      · obtain ⟨v1, k1⟩ := jm S hb hl v
        refine ⟨_, v1, k1, ?_⟩
        rw [u_MD_town_0]
        simp (maxSteps := 2000000) (disch := first | omega | exact hB _ _ | assumption | decide) only [st_MD_town, i_ne, mr_md E _, mw_f59_1, mw_f59_2, mw_f59_3, mw_f59_4, mw_f59_5, mw_f71_11, mw_f71_12, mw_f71_13, mw_f71_14, mw_f71_15, TP_T, TP_H, TP_Tn, TP_Hn, TP_fn, TP_f0, TP_f1, TP_f2, TP_f3, TP_f4, TP_w1, TP_w2, TP_w3, TP_w4, TP_wT, TP_wH, Bool.false_eq_true, n_10, true_and, and_true, false_and, and_false, Nat.not_lt_zero, true_or, or_true, eq_self, mm_z, mm_rs, sw_xc_ite, sw_xv_ite, n_m1, Nat.lt_irrefl, not_false_eq_true, not_true_eq_false, inS_0, inS_1, ite_not, sw_xv_some, sw_xm_some, sw_xc_some, sw_xc_void, if_true, if_false, reduceIte, bI_0, bI_01, bI_1, nt_or, Nat.reduceAdd, n_add, n_mul, n_addL, n_Ladd, n_mulL, n_Lmul, n_sub, n_subL, n_lt, n_eq, n_ltL, n_Llt, n_eqL, n_Leq, n_nneg, n_pos]
end TJ2
