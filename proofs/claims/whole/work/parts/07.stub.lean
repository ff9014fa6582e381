theorem sw_ok {k pc : Nat} {q : sw_N} (h : sw_cod k pc = some q) : sw_chk k pc q = true := sorry
theorem sw_hn_ok : ∀ i, i < 13 → (match sw_hn[i]? with | some n => plainName n && decide (n ≠ "java/lang/invoke/MethodHandle" ∧ n ≠ "java/lang/invoke/VarHandle") | none => false) = true := sorry
theorem sw_mok {j : Nat} (h : j < 229) : sw_mchk j = true := sorry
