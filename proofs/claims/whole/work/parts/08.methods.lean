theorem sw_hn_ok : ∀ i, i < 13 → (match sw_hn[i]? with | some n => plainName n && decide (n ≠ "java/lang/invoke/MethodHandle" ∧ n ≠ "java/lang/invoke/VarHandle") | none => false) = true := by decide +kernel
theorem sw_mo0 : ∀ i, i < 8 → sw_mchk (0 + i) = true := by decide +kernel
theorem sw_mo8 : ∀ i, i < 8 → sw_mchk (8 + i) = true := by decide +kernel
theorem sw_mo16 : ∀ i, i < 8 → sw_mchk (16 + i) = true := by decide +kernel
theorem sw_mo24 : ∀ i, i < 8 → sw_mchk (24 + i) = true := by decide +kernel
theorem sw_mo32 : ∀ i, i < 8 → sw_mchk (32 + i) = true := by decide +kernel
theorem sw_mo40 : ∀ i, i < 8 → sw_mchk (40 + i) = true := by decide +kernel
theorem sw_mo48 : ∀ i, i < 8 → sw_mchk (48 + i) = true := by decide +kernel
theorem sw_mo56 : ∀ i, i < 8 → sw_mchk (56 + i) = true := by decide +kernel
theorem sw_mo64 : ∀ i, i < 8 → sw_mchk (64 + i) = true := by decide +kernel
theorem sw_mo72 : ∀ i, i < 8 → sw_mchk (72 + i) = true := by decide +kernel
theorem sw_mo80 : ∀ i, i < 8 → sw_mchk (80 + i) = true := by decide +kernel
theorem sw_mo88 : ∀ i, i < 8 → sw_mchk (88 + i) = true := by decide +kernel
theorem sw_mo96 : ∀ i, i < 8 → sw_mchk (96 + i) = true := by decide +kernel
theorem sw_mo104 : ∀ i, i < 8 → sw_mchk (104 + i) = true := by decide +kernel
theorem sw_mo112 : ∀ i, i < 8 → sw_mchk (112 + i) = true := by decide +kernel
theorem sw_mo120 : ∀ i, i < 8 → sw_mchk (120 + i) = true := by decide +kernel
theorem sw_mo128 : ∀ i, i < 8 → sw_mchk (128 + i) = true := by decide +kernel
theorem sw_mo136 : ∀ i, i < 8 → sw_mchk (136 + i) = true := by decide +kernel
theorem sw_mo144 : ∀ i, i < 8 → sw_mchk (144 + i) = true := by decide +kernel
theorem sw_mo152 : ∀ i, i < 8 → sw_mchk (152 + i) = true := by decide +kernel
theorem sw_mo160 : ∀ i, i < 8 → sw_mchk (160 + i) = true := by decide +kernel
theorem sw_mo168 : ∀ i, i < 8 → sw_mchk (168 + i) = true := by decide +kernel
theorem sw_mo176 : ∀ i, i < 8 → sw_mchk (176 + i) = true := by decide +kernel
theorem sw_mo184 : ∀ i, i < 8 → sw_mchk (184 + i) = true := by decide +kernel
theorem sw_mo192 : ∀ i, i < 8 → sw_mchk (192 + i) = true := by decide +kernel
theorem sw_mo200 : ∀ i, i < 8 → sw_mchk (200 + i) = true := by decide +kernel
theorem sw_mo208 : ∀ i, i < 8 → sw_mchk (208 + i) = true := by decide +kernel
theorem sw_mo216 : ∀ i, i < 8 → sw_mchk (216 + i) = true := by decide +kernel
theorem sw_mo224 : ∀ i, i < 5 → sw_mchk (224 + i) = true := by decide +kernel
theorem sw_mok {j : Nat} (h : j < 229) : sw_mchk j = true := by
  by_cases h0 : j < 8
  · have := sw_mo0 (j - 0) (by omega)
    rwa [show 0 + (j - 0) = j by omega] at this
  by_cases h8 : j < 16
  · have := sw_mo8 (j - 8) (by omega)
    rwa [show 8 + (j - 8) = j by omega] at this
  by_cases h16 : j < 24
  · have := sw_mo16 (j - 16) (by omega)
    rwa [show 16 + (j - 16) = j by omega] at this
  by_cases h24 : j < 32
  · have := sw_mo24 (j - 24) (by omega)
    rwa [show 24 + (j - 24) = j by omega] at this
  by_cases h32 : j < 40
  · have := sw_mo32 (j - 32) (by omega)
    rwa [show 32 + (j - 32) = j by omega] at this
  by_cases h40 : j < 48
  · have := sw_mo40 (j - 40) (by omega)
    rwa [show 40 + (j - 40) = j by omega] at this
  by_cases h48 : j < 56
  · have := sw_mo48 (j - 48) (by omega)
    rwa [show 48 + (j - 48) = j by omega] at this
  by_cases h56 : j < 64
  · have := sw_mo56 (j - 56) (by omega)
    rwa [show 56 + (j - 56) = j by omega] at this
  by_cases h64 : j < 72
  · have := sw_mo64 (j - 64) (by omega)
    rwa [show 64 + (j - 64) = j by omega] at this
  by_cases h72 : j < 80
  · have := sw_mo72 (j - 72) (by omega)
    rwa [show 72 + (j - 72) = j by omega] at this
  by_cases h80 : j < 88
  · have := sw_mo80 (j - 80) (by omega)
    rwa [show 80 + (j - 80) = j by omega] at this
  by_cases h88 : j < 96
  · have := sw_mo88 (j - 88) (by omega)
    rwa [show 88 + (j - 88) = j by omega] at this
  by_cases h96 : j < 104
  · have := sw_mo96 (j - 96) (by omega)
    rwa [show 96 + (j - 96) = j by omega] at this
  by_cases h104 : j < 112
  · have := sw_mo104 (j - 104) (by omega)
    rwa [show 104 + (j - 104) = j by omega] at this
  by_cases h112 : j < 120
  · have := sw_mo112 (j - 112) (by omega)
    rwa [show 112 + (j - 112) = j by omega] at this
  by_cases h120 : j < 128
  · have := sw_mo120 (j - 120) (by omega)
    rwa [show 120 + (j - 120) = j by omega] at this
  by_cases h128 : j < 136
  · have := sw_mo128 (j - 128) (by omega)
    rwa [show 128 + (j - 128) = j by omega] at this
  by_cases h136 : j < 144
  · have := sw_mo136 (j - 136) (by omega)
    rwa [show 136 + (j - 136) = j by omega] at this
  by_cases h144 : j < 152
  · have := sw_mo144 (j - 144) (by omega)
    rwa [show 144 + (j - 144) = j by omega] at this
  by_cases h152 : j < 160
  · have := sw_mo152 (j - 152) (by omega)
    rwa [show 152 + (j - 152) = j by omega] at this
  by_cases h160 : j < 168
  · have := sw_mo160 (j - 160) (by omega)
    rwa [show 160 + (j - 160) = j by omega] at this
  by_cases h168 : j < 176
  · have := sw_mo168 (j - 168) (by omega)
    rwa [show 168 + (j - 168) = j by omega] at this
  by_cases h176 : j < 184
  · have := sw_mo176 (j - 176) (by omega)
    rwa [show 176 + (j - 176) = j by omega] at this
  by_cases h184 : j < 192
  · have := sw_mo184 (j - 184) (by omega)
    rwa [show 184 + (j - 184) = j by omega] at this
  by_cases h192 : j < 200
  · have := sw_mo192 (j - 192) (by omega)
    rwa [show 192 + (j - 192) = j by omega] at this
  by_cases h200 : j < 208
  · have := sw_mo200 (j - 200) (by omega)
    rwa [show 200 + (j - 200) = j by omega] at this
  by_cases h208 : j < 216
  · have := sw_mo208 (j - 208) (by omega)
    rwa [show 208 + (j - 208) = j by omega] at this
  by_cases h216 : j < 224
  · have := sw_mo216 (j - 216) (by omega)
    rwa [show 216 + (j - 216) = j by omega] at this
  by_cases h224 : j < 229
  · have := sw_mo224 (j - 224) (by omega)
    rwa [show 224 + (j - 224) = j by omega] at this
  omega
