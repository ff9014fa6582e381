theorem sw_k0 : (sw_tab 0).all (fun x => sw_chk 0 x.1 x.2) = true := by decide +kernel
theorem sw_k1 : (sw_tab 1).all (fun x => sw_chk 1 x.1 x.2) = true := by decide +kernel
theorem sw_k2 : (sw_tab 2).all (fun x => sw_chk 2 x.1 x.2) = true := by decide +kernel
theorem sw_k3 : (sw_tab 3).all (fun x => sw_chk 3 x.1 x.2) = true := by decide +kernel
theorem sw_k4 : (sw_tab 4).all (fun x => sw_chk 4 x.1 x.2) = true := by decide +kernel
theorem sw_k5 : (sw_tab 5).all (fun x => sw_chk 5 x.1 x.2) = true := by decide +kernel
theorem sw_k6 : (sw_tab 6).all (fun x => sw_chk 6 x.1 x.2) = true := by decide +kernel
theorem sw_k7 : (sw_tab 7).all (fun x => sw_chk 7 x.1 x.2) = true := by decide +kernel
theorem sw_k8 : (sw_tab 8).all (fun x => sw_chk 8 x.1 x.2) = true := by decide +kernel
theorem sw_k9 : (sw_tab 9).all (fun x => sw_chk 9 x.1 x.2) = true := by decide +kernel
theorem sw_k10 : (sw_tab 10).all (fun x => sw_chk 10 x.1 x.2) = true := by decide +kernel
theorem sw_k11 : (sw_tab 11).all (fun x => sw_chk 11 x.1 x.2) = true := by decide +kernel
theorem sw_k12 : (sw_tab 12).all (fun x => sw_chk 12 x.1 x.2) = true := by decide +kernel
theorem sw_k13 : (sw_tab 13).all (fun x => sw_chk 13 x.1 x.2) = true := by decide +kernel
theorem sw_k14 : (sw_tab 14).all (fun x => sw_chk 14 x.1 x.2) = true := by decide +kernel
theorem sw_k15 : (sw_tab 15).all (fun x => sw_chk 15 x.1 x.2) = true := by decide +kernel
theorem sw_k16 : (sw_tab 16).all (fun x => sw_chk 16 x.1 x.2) = true := by decide +kernel
theorem sw_k17 : (sw_tab 17).all (fun x => sw_chk 17 x.1 x.2) = true := by decide +kernel
theorem sw_k18 : (sw_tab 18).all (fun x => sw_chk 18 x.1 x.2) = true := by decide +kernel
theorem sw_k19 : (sw_tab 19).all (fun x => sw_chk 19 x.1 x.2) = true := by decide +kernel
theorem sw_k20 : (sw_tab 20).all (fun x => sw_chk 20 x.1 x.2) = true := by decide +kernel
theorem sw_k21 : (sw_tab 21).all (fun x => sw_chk 21 x.1 x.2) = true := by decide +kernel
theorem sw_k22 : (sw_tab 22).all (fun x => sw_chk 22 x.1 x.2) = true := by decide +kernel
theorem sw_k23 : (sw_tab 23).all (fun x => sw_chk 23 x.1 x.2) = true := by decide +kernel
theorem sw_k24 : (sw_tab 24).all (fun x => sw_chk 24 x.1 x.2) = true := by decide +kernel
theorem sw_k25 : (sw_tab 25).all (fun x => sw_chk 25 x.1 x.2) = true := by decide +kernel
theorem sw_k26 : (sw_tab 26).all (fun x => sw_chk 26 x.1 x.2) = true := by decide +kernel
theorem sw_k27 : (sw_tab 27).all (fun x => sw_chk 27 x.1 x.2) = true := by decide +kernel
theorem sw_k28 : (sw_tab 28).all (fun x => sw_chk 28 x.1 x.2) = true := by decide +kernel
theorem sw_k29 : (sw_tab 29).all (fun x => sw_chk 29 x.1 x.2) = true := by decide +kernel
theorem sw_k30 : (sw_tab 30).all (fun x => sw_chk 30 x.1 x.2) = true := by decide +kernel
theorem sw_k31 : (sw_tab 31).all (fun x => sw_chk 31 x.1 x.2) = true := by decide +kernel
theorem sw_k32 : (sw_tab 32).all (fun x => sw_chk 32 x.1 x.2) = true := by decide +kernel
theorem sw_k33 : (sw_tab 33).all (fun x => sw_chk 33 x.1 x.2) = true := by decide +kernel
theorem sw_k34 : (sw_tab 34).all (fun x => sw_chk 34 x.1 x.2) = true := by decide +kernel
theorem sw_k35 : (sw_tab 35).all (fun x => sw_chk 35 x.1 x.2) = true := by decide +kernel
theorem sw_k36 : (sw_tab 36).all (fun x => sw_chk 36 x.1 x.2) = true := by decide +kernel
theorem sw_k37 : (sw_tab 37).all (fun x => sw_chk 37 x.1 x.2) = true := by decide +kernel
theorem sw_k38 : (sw_tab 38).all (fun x => sw_chk 38 x.1 x.2) = true := by decide +kernel
theorem sw_k39 : (sw_tab 39).all (fun x => sw_chk 39 x.1 x.2) = true := by decide +kernel
theorem sw_k40 : (sw_tab 40).all (fun x => sw_chk 40 x.1 x.2) = true := by decide +kernel
theorem sw_k41 : (sw_tab 41).all (fun x => sw_chk 41 x.1 x.2) = true := by decide +kernel
theorem sw_k42 : (sw_tab 42).all (fun x => sw_chk 42 x.1 x.2) = true := by decide +kernel
theorem sw_k43 : (sw_tab 43).all (fun x => sw_chk 43 x.1 x.2) = true := by decide +kernel
theorem sw_k44 : (sw_tab 44).all (fun x => sw_chk 44 x.1 x.2) = true := by decide +kernel
theorem sw_k45 : (sw_tab 45).all (fun x => sw_chk 45 x.1 x.2) = true := by decide +kernel
theorem sw_k46 : (sw_tab 46).all (fun x => sw_chk 46 x.1 x.2) = true := by decide +kernel
theorem sw_k47 : (sw_tab 47).all (fun x => sw_chk 47 x.1 x.2) = true := by decide +kernel
theorem sw_k48 : (sw_tab 48).all (fun x => sw_chk 48 x.1 x.2) = true := by decide +kernel
theorem sw_k49 : (sw_tab 49).all (fun x => sw_chk 49 x.1 x.2) = true := by decide +kernel
theorem sw_k50 : (sw_tab 50).all (fun x => sw_chk 50 x.1 x.2) = true := by decide +kernel
theorem sw_k51 : (sw_tab 51).all (fun x => sw_chk 51 x.1 x.2) = true := by decide +kernel
theorem sw_k52 : (sw_tab 52).all (fun x => sw_chk 52 x.1 x.2) = true := by decide +kernel
theorem sw_k53 : (sw_tab 53).all (fun x => sw_chk 53 x.1 x.2) = true := by decide +kernel
theorem sw_k54 : (sw_tab 54).all (fun x => sw_chk 54 x.1 x.2) = true := by decide +kernel
theorem sw_k55 : (sw_tab 55).all (fun x => sw_chk 55 x.1 x.2) = true := by decide +kernel
theorem sw_k56 : (sw_tab 56).all (fun x => sw_chk 56 x.1 x.2) = true := by decide +kernel
theorem sw_k57 : (sw_tab 57).all (fun x => sw_chk 57 x.1 x.2) = true := by decide +kernel
theorem sw_k58 : (sw_tab 58).all (fun x => sw_chk 58 x.1 x.2) = true := by decide +kernel
theorem sw_k59 : (sw_tab 59).all (fun x => sw_chk 59 x.1 x.2) = true := by decide +kernel
theorem sw_k60 : (sw_tab 60).all (fun x => sw_chk 60 x.1 x.2) = true := by decide +kernel
theorem sw_k61 : (sw_tab 61).all (fun x => sw_chk 61 x.1 x.2) = true := by decide +kernel
theorem sw_k62 : (sw_tab 62).all (fun x => sw_chk 62 x.1 x.2) = true := by decide +kernel
theorem sw_k63 : (sw_tab 63).all (fun x => sw_chk 63 x.1 x.2) = true := by decide +kernel
theorem sw_k64 : (sw_tab 64).all (fun x => sw_chk 64 x.1 x.2) = true := by decide +kernel
theorem sw_k65 : (sw_tab 65).all (fun x => sw_chk 65 x.1 x.2) = true := by decide +kernel
theorem sw_k66 : (sw_tab 66).all (fun x => sw_chk 66 x.1 x.2) = true := by decide +kernel
theorem sw_k67 : (sw_tab 67).all (fun x => sw_chk 67 x.1 x.2) = true := by decide +kernel
theorem sw_k68 : (sw_tab 68).all (fun x => sw_chk 68 x.1 x.2) = true := by decide +kernel
theorem sw_k69 : (sw_tab 69).all (fun x => sw_chk 69 x.1 x.2) = true := by decide +kernel
theorem sw_k70 : (sw_tab 70).all (fun x => sw_chk 70 x.1 x.2) = true := by decide +kernel
theorem sw_k71 : (sw_tab 71).all (fun x => sw_chk 71 x.1 x.2) = true := by decide +kernel
theorem sw_k72 : (sw_tab 72).all (fun x => sw_chk 72 x.1 x.2) = true := by decide +kernel
theorem sw_k73 : (sw_tab 73).all (fun x => sw_chk 73 x.1 x.2) = true := by decide +kernel
theorem sw_k74 : (sw_tab 74).all (fun x => sw_chk 74 x.1 x.2) = true := by decide +kernel
theorem sw_k75 : (sw_tab 75).all (fun x => sw_chk 75 x.1 x.2) = true := by decide +kernel
theorem sw_k76 : (sw_tab 76).all (fun x => sw_chk 76 x.1 x.2) = true := by decide +kernel
theorem sw_k77 : (sw_tab 77).all (fun x => sw_chk 77 x.1 x.2) = true := by decide +kernel
theorem sw_k78 : (sw_tab 78).all (fun x => sw_chk 78 x.1 x.2) = true := by decide +kernel
theorem sw_k79 : (sw_tab 79).all (fun x => sw_chk 79 x.1 x.2) = true := by decide +kernel
theorem sw_k80 : (sw_tab 80).all (fun x => sw_chk 80 x.1 x.2) = true := by decide +kernel
theorem sw_k81 : (sw_tab 81).all (fun x => sw_chk 81 x.1 x.2) = true := by decide +kernel
theorem sw_k82 : (sw_tab 82).all (fun x => sw_chk 82 x.1 x.2) = true := by decide +kernel
theorem sw_k83 : (sw_tab 83).all (fun x => sw_chk 83 x.1 x.2) = true := by decide +kernel
theorem sw_k84 : (sw_tab 84).all (fun x => sw_chk 84 x.1 x.2) = true := by decide +kernel
theorem sw_k85 : (sw_tab 85).all (fun x => sw_chk 85 x.1 x.2) = true := by decide +kernel
theorem sw_k86 : (sw_tab 86).all (fun x => sw_chk 86 x.1 x.2) = true := by decide +kernel
theorem sw_k87 : (sw_tab 87).all (fun x => sw_chk 87 x.1 x.2) = true := by decide +kernel
theorem sw_k88 : (sw_tab 88).all (fun x => sw_chk 88 x.1 x.2) = true := by decide +kernel
theorem sw_k89 : (sw_tab 89).all (fun x => sw_chk 89 x.1 x.2) = true := by decide +kernel
theorem sw_k90 : (sw_tab 90).all (fun x => sw_chk 90 x.1 x.2) = true := by decide +kernel
theorem sw_k91 : (sw_tab 91).all (fun x => sw_chk 91 x.1 x.2) = true := by decide +kernel
theorem sw_k92 : (sw_tab 92).all (fun x => sw_chk 92 x.1 x.2) = true := by decide +kernel
theorem sw_k93 : (sw_tab 93).all (fun x => sw_chk 93 x.1 x.2) = true := by decide +kernel
theorem sw_k94 : (sw_tab 94).all (fun x => sw_chk 94 x.1 x.2) = true := by decide +kernel
theorem sw_k95 : (sw_tab 95).all (fun x => sw_chk 95 x.1 x.2) = true := by decide +kernel
theorem sw_k96 : (sw_tab 96).all (fun x => sw_chk 96 x.1 x.2) = true := by decide +kernel
theorem sw_k97 : (sw_tab 97).all (fun x => sw_chk 97 x.1 x.2) = true := by decide +kernel
theorem sw_k98 : (sw_tab 98).all (fun x => sw_chk 98 x.1 x.2) = true := by decide +kernel
theorem sw_k99 : (sw_tab 99).all (fun x => sw_chk 99 x.1 x.2) = true := by decide +kernel
theorem sw_k100 : (sw_tab 100).all (fun x => sw_chk 100 x.1 x.2) = true := by decide +kernel
theorem sw_k101 : (sw_tab 101).all (fun x => sw_chk 101 x.1 x.2) = true := by decide +kernel
theorem sw_k102 : (sw_tab 102).all (fun x => sw_chk 102 x.1 x.2) = true := by decide +kernel
theorem sw_k103 : (sw_tab 103).all (fun x => sw_chk 103 x.1 x.2) = true := by decide +kernel
theorem sw_k104 : (sw_tab 104).all (fun x => sw_chk 104 x.1 x.2) = true := by decide +kernel
theorem sw_k105 : (sw_tab 105).all (fun x => sw_chk 105 x.1 x.2) = true := by decide +kernel
theorem sw_k106 : (sw_tab 106).all (fun x => sw_chk 106 x.1 x.2) = true := by decide +kernel
theorem sw_k107 : (sw_tab 107).all (fun x => sw_chk 107 x.1 x.2) = true := by decide +kernel
theorem sw_k108 : (sw_tab 108).all (fun x => sw_chk 108 x.1 x.2) = true := by decide +kernel
theorem sw_k109 : (sw_tab 109).all (fun x => sw_chk 109 x.1 x.2) = true := by decide +kernel
theorem sw_k110 : (sw_tab 110).all (fun x => sw_chk 110 x.1 x.2) = true := by decide +kernel
theorem sw_k111 : (sw_tab 111).all (fun x => sw_chk 111 x.1 x.2) = true := by decide +kernel
theorem sw_k112 : (sw_tab 112).all (fun x => sw_chk 112 x.1 x.2) = true := by decide +kernel
theorem sw_k113 : (sw_tab 113).all (fun x => sw_chk 113 x.1 x.2) = true := by decide +kernel
theorem sw_k114 : (sw_tab 114).all (fun x => sw_chk 114 x.1 x.2) = true := by decide +kernel
theorem sw_k115 : (sw_tab 115).all (fun x => sw_chk 115 x.1 x.2) = true := by decide +kernel
theorem sw_k116 : (sw_tab 116).all (fun x => sw_chk 116 x.1 x.2) = true := by decide +kernel
theorem sw_k117 : (sw_tab 117).all (fun x => sw_chk 117 x.1 x.2) = true := by decide +kernel
theorem sw_k118 : (sw_tab 118).all (fun x => sw_chk 118 x.1 x.2) = true := by decide +kernel
theorem sw_k119 : (sw_tab 119).all (fun x => sw_chk 119 x.1 x.2) = true := by decide +kernel
theorem sw_k120 : (sw_tab 120).all (fun x => sw_chk 120 x.1 x.2) = true := by decide +kernel
theorem sw_k121 : (sw_tab 121).all (fun x => sw_chk 121 x.1 x.2) = true := by decide +kernel
theorem sw_k122 : (sw_tab 122).all (fun x => sw_chk 122 x.1 x.2) = true := by decide +kernel
theorem sw_k123 : (sw_tab 123).all (fun x => sw_chk 123 x.1 x.2) = true := by decide +kernel
theorem sw_k124 : (sw_tab 124).all (fun x => sw_chk 124 x.1 x.2) = true := by decide +kernel
theorem sw_k125 : (sw_tab 125).all (fun x => sw_chk 125 x.1 x.2) = true := by decide +kernel
theorem sw_k126 : (sw_tab 126).all (fun x => sw_chk 126 x.1 x.2) = true := by decide +kernel
theorem sw_k127 : (sw_tab 127).all (fun x => sw_chk 127 x.1 x.2) = true := by decide +kernel
theorem sw_k128 : (sw_tab 128).all (fun x => sw_chk 128 x.1 x.2) = true := by decide +kernel
theorem sw_k129 : (sw_tab 129).all (fun x => sw_chk 129 x.1 x.2) = true := by decide +kernel
theorem sw_k130 : (sw_tab 130).all (fun x => sw_chk 130 x.1 x.2) = true := by decide +kernel
theorem sw_k131 : (sw_tab 131).all (fun x => sw_chk 131 x.1 x.2) = true := by decide +kernel
theorem sw_k132 : (sw_tab 132).all (fun x => sw_chk 132 x.1 x.2) = true := by decide +kernel
theorem sw_k133 : (sw_tab 133).all (fun x => sw_chk 133 x.1 x.2) = true := by decide +kernel
theorem sw_k134 : (sw_tab 134).all (fun x => sw_chk 134 x.1 x.2) = true := by decide +kernel
theorem sw_k135 : (sw_tab 135).all (fun x => sw_chk 135 x.1 x.2) = true := by decide +kernel
theorem sw_k136 : (sw_tab 136).all (fun x => sw_chk 136 x.1 x.2) = true := by decide +kernel
theorem sw_k137 : (sw_tab 137).all (fun x => sw_chk 137 x.1 x.2) = true := by decide +kernel
theorem sw_k138 : (sw_tab 138).all (fun x => sw_chk 138 x.1 x.2) = true := by decide +kernel
theorem sw_k139 : (sw_tab 139).all (fun x => sw_chk 139 x.1 x.2) = true := by decide +kernel
theorem sw_k140 : (sw_tab 140).all (fun x => sw_chk 140 x.1 x.2) = true := by decide +kernel
theorem sw_k141 : (sw_tab 141).all (fun x => sw_chk 141 x.1 x.2) = true := by decide +kernel
theorem sw_k142 : (sw_tab 142).all (fun x => sw_chk 142 x.1 x.2) = true := by decide +kernel
theorem sw_k143 : (sw_tab 143).all (fun x => sw_chk 143 x.1 x.2) = true := by decide +kernel
theorem sw_k144 : (sw_tab 144).all (fun x => sw_chk 144 x.1 x.2) = true := by decide +kernel
theorem sw_k145 : (sw_tab 145).all (fun x => sw_chk 145 x.1 x.2) = true := by decide +kernel
theorem sw_k146 : (sw_tab 146).all (fun x => sw_chk 146 x.1 x.2) = true := by decide +kernel
theorem sw_k147 : (sw_tab 147).all (fun x => sw_chk 147 x.1 x.2) = true := by decide +kernel
theorem sw_k148 : (sw_tab 148).all (fun x => sw_chk 148 x.1 x.2) = true := by decide +kernel
theorem sw_k149 : (sw_tab 149).all (fun x => sw_chk 149 x.1 x.2) = true := by decide +kernel
theorem sw_k150 : (sw_tab 150).all (fun x => sw_chk 150 x.1 x.2) = true := by decide +kernel
theorem sw_k151 : (sw_tab 151).all (fun x => sw_chk 151 x.1 x.2) = true := by decide +kernel
theorem sw_k152 : (sw_tab 152).all (fun x => sw_chk 152 x.1 x.2) = true := by decide +kernel
theorem sw_k153 : (sw_tab 153).all (fun x => sw_chk 153 x.1 x.2) = true := by decide +kernel
theorem sw_k154 : (sw_tab 154).all (fun x => sw_chk 154 x.1 x.2) = true := by decide +kernel
theorem sw_k155 : (sw_tab 155).all (fun x => sw_chk 155 x.1 x.2) = true := by decide +kernel
theorem sw_k156 : (sw_tab 156).all (fun x => sw_chk 156 x.1 x.2) = true := by decide +kernel
theorem sw_k157 : (sw_tab 157).all (fun x => sw_chk 157 x.1 x.2) = true := by decide +kernel
theorem sw_k158 : (sw_tab 158).all (fun x => sw_chk 158 x.1 x.2) = true := by decide +kernel
theorem sw_k159 : (sw_tab 159).all (fun x => sw_chk 159 x.1 x.2) = true := by decide +kernel
theorem sw_k160 : (sw_tab 160).all (fun x => sw_chk 160 x.1 x.2) = true := by decide +kernel
theorem sw_k161 : (sw_tab 161).all (fun x => sw_chk 161 x.1 x.2) = true := by decide +kernel
theorem sw_k162 : (sw_tab 162).all (fun x => sw_chk 162 x.1 x.2) = true := by decide +kernel
theorem sw_k163 : (sw_tab 163).all (fun x => sw_chk 163 x.1 x.2) = true := by decide +kernel
theorem sw_k164 : (sw_tab 164).all (fun x => sw_chk 164 x.1 x.2) = true := by decide +kernel
theorem sw_k165 : (sw_tab 165).all (fun x => sw_chk 165 x.1 x.2) = true := by decide +kernel
theorem sw_k166_0 : (((sw_tab 166).drop 0).take 60).all (fun x => sw_chk 166 x.1 x.2) = true := by decide +kernel
theorem sw_k166_60 : (((sw_tab 166).drop 60).take 60).all (fun x => sw_chk 166 x.1 x.2) = true := by decide +kernel
theorem sw_k166_120 : (((sw_tab 166).drop 120).take 60).all (fun x => sw_chk 166 x.1 x.2) = true := by decide +kernel
theorem sw_k166_180 : (((sw_tab 166).drop 180).take 60).all (fun x => sw_chk 166 x.1 x.2) = true := by decide +kernel
theorem sw_k166 : (sw_tab 166).all (fun x => sw_chk 166 x.1 x.2) = true := by
  have h180 : ((sw_tab 166).drop 180).all (fun x => sw_chk 166 x.1 x.2) = true := by
    rw [← List.take_append_drop 60 ((sw_tab 166).drop 180), List.all_append, sw_k166_180, Bool.true_and, List.drop_drop]
    decide +kernel
  have h120 : ((sw_tab 166).drop 120).all (fun x => sw_chk 166 x.1 x.2) = true := by
    rw [← List.take_append_drop 60 ((sw_tab 166).drop 120), List.all_append, sw_k166_120, Bool.true_and, List.drop_drop]
    exact h180
  have h60 : ((sw_tab 166).drop 60).all (fun x => sw_chk 166 x.1 x.2) = true := by
    rw [← List.take_append_drop 60 ((sw_tab 166).drop 60), List.all_append, sw_k166_60, Bool.true_and, List.drop_drop]
    exact h120
  have h0 : ((sw_tab 166).drop 0).all (fun x => sw_chk 166 x.1 x.2) = true := by
    rw [← List.take_append_drop 60 ((sw_tab 166).drop 0), List.all_append, sw_k166_0, Bool.true_and, List.drop_drop]
    exact h60
  exact h0
theorem sw_k167 : (sw_tab 167).all (fun x => sw_chk 167 x.1 x.2) = true := by decide +kernel
theorem sw_k168 : (sw_tab 168).all (fun x => sw_chk 168 x.1 x.2) = true := by decide +kernel
theorem sw_k169 : (sw_tab 169).all (fun x => sw_chk 169 x.1 x.2) = true := by decide +kernel
theorem sw_k170 : (sw_tab 170).all (fun x => sw_chk 170 x.1 x.2) = true := by decide +kernel
theorem sw_k171_0 : (((sw_tab 171).drop 0).take 60).all (fun x => sw_chk 171 x.1 x.2) = true := by decide +kernel
theorem sw_k171_60 : (((sw_tab 171).drop 60).take 60).all (fun x => sw_chk 171 x.1 x.2) = true := by decide +kernel
theorem sw_k171_120 : (((sw_tab 171).drop 120).take 60).all (fun x => sw_chk 171 x.1 x.2) = true := by decide +kernel
theorem sw_k171 : (sw_tab 171).all (fun x => sw_chk 171 x.1 x.2) = true := by
  have h120 : ((sw_tab 171).drop 120).all (fun x => sw_chk 171 x.1 x.2) = true := by
    rw [← List.take_append_drop 60 ((sw_tab 171).drop 120), List.all_append, sw_k171_120, Bool.true_and, List.drop_drop]
    decide +kernel
  have h60 : ((sw_tab 171).drop 60).all (fun x => sw_chk 171 x.1 x.2) = true := by
    rw [← List.take_append_drop 60 ((sw_tab 171).drop 60), List.all_append, sw_k171_60, Bool.true_and, List.drop_drop]
    exact h120
  have h0 : ((sw_tab 171).drop 0).all (fun x => sw_chk 171 x.1 x.2) = true := by
    rw [← List.take_append_drop 60 ((sw_tab 171).drop 0), List.all_append, sw_k171_0, Bool.true_and, List.drop_drop]
    exact h60
  exact h0
theorem sw_k172 : (sw_tab 172).all (fun x => sw_chk 172 x.1 x.2) = true := by decide +kernel
theorem sw_k173 : (sw_tab 173).all (fun x => sw_chk 173 x.1 x.2) = true := by decide +kernel
theorem sw_k174 : (sw_tab 174).all (fun x => sw_chk 174 x.1 x.2) = true := by decide +kernel
theorem sw_k175 : (sw_tab 175).all (fun x => sw_chk 175 x.1 x.2) = true := by decide +kernel
theorem sw_k176 : (sw_tab 176).all (fun x => sw_chk 176 x.1 x.2) = true := by decide +kernel
theorem sw_k177 : (sw_tab 177).all (fun x => sw_chk 177 x.1 x.2) = true := by decide +kernel
theorem sw_k178_0 : (((sw_tab 178).drop 0).take 60).all (fun x => sw_chk 178 x.1 x.2) = true := by decide +kernel
theorem sw_k178_60 : (((sw_tab 178).drop 60).take 60).all (fun x => sw_chk 178 x.1 x.2) = true := by decide +kernel
theorem sw_k178_120 : (((sw_tab 178).drop 120).take 60).all (fun x => sw_chk 178 x.1 x.2) = true := by decide +kernel
theorem sw_k178 : (sw_tab 178).all (fun x => sw_chk 178 x.1 x.2) = true := by
  have h120 : ((sw_tab 178).drop 120).all (fun x => sw_chk 178 x.1 x.2) = true := by
    rw [← List.take_append_drop 60 ((sw_tab 178).drop 120), List.all_append, sw_k178_120, Bool.true_and, List.drop_drop]
    decide +kernel
  have h60 : ((sw_tab 178).drop 60).all (fun x => sw_chk 178 x.1 x.2) = true := by
    rw [← List.take_append_drop 60 ((sw_tab 178).drop 60), List.all_append, sw_k178_60, Bool.true_and, List.drop_drop]
    exact h120
  have h0 : ((sw_tab 178).drop 0).all (fun x => sw_chk 178 x.1 x.2) = true := by
    rw [← List.take_append_drop 60 ((sw_tab 178).drop 0), List.all_append, sw_k178_0, Bool.true_and, List.drop_drop]
    exact h60
  exact h0
theorem sw_k179 : (sw_tab 179).all (fun x => sw_chk 179 x.1 x.2) = true := by decide +kernel
theorem sw_k180 : (sw_tab 180).all (fun x => sw_chk 180 x.1 x.2) = true := by decide +kernel
theorem sw_k181 : (sw_tab 181).all (fun x => sw_chk 181 x.1 x.2) = true := by decide +kernel
theorem sw_k182 : (sw_tab 182).all (fun x => sw_chk 182 x.1 x.2) = true := by decide +kernel
theorem sw_k183 : (sw_tab 183).all (fun x => sw_chk 183 x.1 x.2) = true := by decide +kernel
theorem sw_k184 : (sw_tab 184).all (fun x => sw_chk 184 x.1 x.2) = true := by decide +kernel
theorem sw_k185 : (sw_tab 185).all (fun x => sw_chk 185 x.1 x.2) = true := by decide +kernel
theorem sw_k186 : (sw_tab 186).all (fun x => sw_chk 186 x.1 x.2) = true := by decide +kernel
theorem sw_k187 : (sw_tab 187).all (fun x => sw_chk 187 x.1 x.2) = true := by decide +kernel
theorem sw_k188 : (sw_tab 188).all (fun x => sw_chk 188 x.1 x.2) = true := by decide +kernel
theorem sw_k189 : (sw_tab 189).all (fun x => sw_chk 189 x.1 x.2) = true := by decide +kernel
theorem sw_k190 : (sw_tab 190).all (fun x => sw_chk 190 x.1 x.2) = true := by decide +kernel
theorem sw_k191 : (sw_tab 191).all (fun x => sw_chk 191 x.1 x.2) = true := by decide +kernel
theorem sw_k192 : (sw_tab 192).all (fun x => sw_chk 192 x.1 x.2) = true := by decide +kernel
theorem sw_k193 : (sw_tab 193).all (fun x => sw_chk 193 x.1 x.2) = true := by decide +kernel
theorem sw_k194 : (sw_tab 194).all (fun x => sw_chk 194 x.1 x.2) = true := by decide +kernel
theorem sw_k195 : (sw_tab 195).all (fun x => sw_chk 195 x.1 x.2) = true := by decide +kernel
theorem sw_k196 : (sw_tab 196).all (fun x => sw_chk 196 x.1 x.2) = true := by decide +kernel
theorem sw_k197 : (sw_tab 197).all (fun x => sw_chk 197 x.1 x.2) = true := by decide +kernel
theorem sw_k198 : (sw_tab 198).all (fun x => sw_chk 198 x.1 x.2) = true := by decide +kernel
theorem sw_k199 : (sw_tab 199).all (fun x => sw_chk 199 x.1 x.2) = true := by decide +kernel
theorem sw_k200 : (sw_tab 200).all (fun x => sw_chk 200 x.1 x.2) = true := by decide +kernel
theorem sw_k201 : (sw_tab 201).all (fun x => sw_chk 201 x.1 x.2) = true := by decide +kernel
theorem sw_k202 : (sw_tab 202).all (fun x => sw_chk 202 x.1 x.2) = true := by decide +kernel
theorem sw_k203 : (sw_tab 203).all (fun x => sw_chk 203 x.1 x.2) = true := by decide +kernel
theorem sw_k204 : (sw_tab 204).all (fun x => sw_chk 204 x.1 x.2) = true := by decide +kernel
theorem sw_k205 : (sw_tab 205).all (fun x => sw_chk 205 x.1 x.2) = true := by decide +kernel
theorem sw_k206 : (sw_tab 206).all (fun x => sw_chk 206 x.1 x.2) = true := by decide +kernel
theorem sw_k207 : (sw_tab 207).all (fun x => sw_chk 207 x.1 x.2) = true := by decide +kernel
theorem sw_k208 : (sw_tab 208).all (fun x => sw_chk 208 x.1 x.2) = true := by decide +kernel
theorem sw_k209 : (sw_tab 209).all (fun x => sw_chk 209 x.1 x.2) = true := by decide +kernel
theorem sw_k210 : (sw_tab 210).all (fun x => sw_chk 210 x.1 x.2) = true := by decide +kernel
theorem sw_k211 : (sw_tab 211).all (fun x => sw_chk 211 x.1 x.2) = true := by decide +kernel
theorem sw_k212 : (sw_tab 212).all (fun x => sw_chk 212 x.1 x.2) = true := by decide +kernel
theorem sw_k213 : (sw_tab 213).all (fun x => sw_chk 213 x.1 x.2) = true := by decide +kernel
theorem sw_k214 : (sw_tab 214).all (fun x => sw_chk 214 x.1 x.2) = true := by decide +kernel
theorem sw_k215 : (sw_tab 215).all (fun x => sw_chk 215 x.1 x.2) = true := by decide +kernel
theorem sw_k216 : (sw_tab 216).all (fun x => sw_chk 216 x.1 x.2) = true := by decide +kernel
theorem sw_k217 : (sw_tab 217).all (fun x => sw_chk 217 x.1 x.2) = true := by decide +kernel
theorem sw_k218 : (sw_tab 218).all (fun x => sw_chk 218 x.1 x.2) = true := by decide +kernel
theorem sw_k219 : (sw_tab 219).all (fun x => sw_chk 219 x.1 x.2) = true := by decide +kernel
theorem sw_k220 : (sw_tab 220).all (fun x => sw_chk 220 x.1 x.2) = true := by decide +kernel
theorem sw_k221 : (sw_tab 221).all (fun x => sw_chk 221 x.1 x.2) = true := by decide +kernel
theorem sw_k222 : (sw_tab 222).all (fun x => sw_chk 222 x.1 x.2) = true := by decide +kernel
theorem sw_k223 : (sw_tab 223).all (fun x => sw_chk 223 x.1 x.2) = true := by decide +kernel
theorem sw_k224 : (sw_tab 224).all (fun x => sw_chk 224 x.1 x.2) = true := by decide +kernel
theorem sw_k225 : (sw_tab 225).all (fun x => sw_chk 225 x.1 x.2) = true := by decide +kernel
theorem sw_k226 : (sw_tab 226).all (fun x => sw_chk 226 x.1 x.2) = true := by decide +kernel
theorem sw_k227 : (sw_tab 227).all (fun x => sw_chk 227 x.1 x.2) = true := by decide +kernel
theorem sw_k228 : (sw_tab 228).all (fun x => sw_chk 228 x.1 x.2) = true := by decide +kernel
theorem sw_k229_0 : (((sw_tab 229).drop 0).take 60).all (fun x => sw_chk 229 x.1 x.2) = true := by decide +kernel
theorem sw_k229_60 : (((sw_tab 229).drop 60).take 60).all (fun x => sw_chk 229 x.1 x.2) = true := by decide +kernel
theorem sw_k229_120 : (((sw_tab 229).drop 120).take 60).all (fun x => sw_chk 229 x.1 x.2) = true := by decide +kernel
theorem sw_k229_180 : (((sw_tab 229).drop 180).take 60).all (fun x => sw_chk 229 x.1 x.2) = true := by decide +kernel
theorem sw_k229_240 : (((sw_tab 229).drop 240).take 60).all (fun x => sw_chk 229 x.1 x.2) = true := by decide +kernel
theorem sw_k229_300 : (((sw_tab 229).drop 300).take 60).all (fun x => sw_chk 229 x.1 x.2) = true := by decide +kernel
theorem sw_k229_360 : (((sw_tab 229).drop 360).take 60).all (fun x => sw_chk 229 x.1 x.2) = true := by decide +kernel
theorem sw_k229_420 : (((sw_tab 229).drop 420).take 60).all (fun x => sw_chk 229 x.1 x.2) = true := by decide +kernel
theorem sw_k229_480 : (((sw_tab 229).drop 480).take 60).all (fun x => sw_chk 229 x.1 x.2) = true := by decide +kernel
theorem sw_k229_540 : (((sw_tab 229).drop 540).take 60).all (fun x => sw_chk 229 x.1 x.2) = true := by decide +kernel
theorem sw_k229_600 : (((sw_tab 229).drop 600).take 60).all (fun x => sw_chk 229 x.1 x.2) = true := by decide +kernel
theorem sw_k229_660 : (((sw_tab 229).drop 660).take 60).all (fun x => sw_chk 229 x.1 x.2) = true := by decide +kernel
theorem sw_k229_720 : (((sw_tab 229).drop 720).take 60).all (fun x => sw_chk 229 x.1 x.2) = true := by decide +kernel
theorem sw_k229_780 : (((sw_tab 229).drop 780).take 60).all (fun x => sw_chk 229 x.1 x.2) = true := by decide +kernel
theorem sw_k229_840 : (((sw_tab 229).drop 840).take 60).all (fun x => sw_chk 229 x.1 x.2) = true := by decide +kernel
theorem sw_k229_900 : (((sw_tab 229).drop 900).take 60).all (fun x => sw_chk 229 x.1 x.2) = true := by decide +kernel
theorem sw_k229_960 : (((sw_tab 229).drop 960).take 60).all (fun x => sw_chk 229 x.1 x.2) = true := by decide +kernel
theorem sw_k229 : (sw_tab 229).all (fun x => sw_chk 229 x.1 x.2) = true := by
  have h960 : ((sw_tab 229).drop 960).all (fun x => sw_chk 229 x.1 x.2) = true := by
    rw [← List.take_append_drop 60 ((sw_tab 229).drop 960), List.all_append, sw_k229_960, Bool.true_and, List.drop_drop]
    decide +kernel
  have h900 : ((sw_tab 229).drop 900).all (fun x => sw_chk 229 x.1 x.2) = true := by
    rw [← List.take_append_drop 60 ((sw_tab 229).drop 900), List.all_append, sw_k229_900, Bool.true_and, List.drop_drop]
    exact h960
  have h840 : ((sw_tab 229).drop 840).all (fun x => sw_chk 229 x.1 x.2) = true := by
    rw [← List.take_append_drop 60 ((sw_tab 229).drop 840), List.all_append, sw_k229_840, Bool.true_and, List.drop_drop]
    exact h900
  have h780 : ((sw_tab 229).drop 780).all (fun x => sw_chk 229 x.1 x.2) = true := by
    rw [← List.take_append_drop 60 ((sw_tab 229).drop 780), List.all_append, sw_k229_780, Bool.true_and, List.drop_drop]
    exact h840
  have h720 : ((sw_tab 229).drop 720).all (fun x => sw_chk 229 x.1 x.2) = true := by
    rw [← List.take_append_drop 60 ((sw_tab 229).drop 720), List.all_append, sw_k229_720, Bool.true_and, List.drop_drop]
    exact h780
  have h660 : ((sw_tab 229).drop 660).all (fun x => sw_chk 229 x.1 x.2) = true := by
    rw [← List.take_append_drop 60 ((sw_tab 229).drop 660), List.all_append, sw_k229_660, Bool.true_and, List.drop_drop]
    exact h720
  have h600 : ((sw_tab 229).drop 600).all (fun x => sw_chk 229 x.1 x.2) = true := by
    rw [← List.take_append_drop 60 ((sw_tab 229).drop 600), List.all_append, sw_k229_600, Bool.true_and, List.drop_drop]
    exact h660
  have h540 : ((sw_tab 229).drop 540).all (fun x => sw_chk 229 x.1 x.2) = true := by
    rw [← List.take_append_drop 60 ((sw_tab 229).drop 540), List.all_append, sw_k229_540, Bool.true_and, List.drop_drop]
    exact h600
  have h480 : ((sw_tab 229).drop 480).all (fun x => sw_chk 229 x.1 x.2) = true := by
    rw [← List.take_append_drop 60 ((sw_tab 229).drop 480), List.all_append, sw_k229_480, Bool.true_and, List.drop_drop]
    exact h540
  have h420 : ((sw_tab 229).drop 420).all (fun x => sw_chk 229 x.1 x.2) = true := by
    rw [← List.take_append_drop 60 ((sw_tab 229).drop 420), List.all_append, sw_k229_420, Bool.true_and, List.drop_drop]
    exact h480
  have h360 : ((sw_tab 229).drop 360).all (fun x => sw_chk 229 x.1 x.2) = true := by
    rw [← List.take_append_drop 60 ((sw_tab 229).drop 360), List.all_append, sw_k229_360, Bool.true_and, List.drop_drop]
    exact h420
  have h300 : ((sw_tab 229).drop 300).all (fun x => sw_chk 229 x.1 x.2) = true := by
    rw [← List.take_append_drop 60 ((sw_tab 229).drop 300), List.all_append, sw_k229_300, Bool.true_and, List.drop_drop]
    exact h360
  have h240 : ((sw_tab 229).drop 240).all (fun x => sw_chk 229 x.1 x.2) = true := by
    rw [← List.take_append_drop 60 ((sw_tab 229).drop 240), List.all_append, sw_k229_240, Bool.true_and, List.drop_drop]
    exact h300
  have h180 : ((sw_tab 229).drop 180).all (fun x => sw_chk 229 x.1 x.2) = true := by
    rw [← List.take_append_drop 60 ((sw_tab 229).drop 180), List.all_append, sw_k229_180, Bool.true_and, List.drop_drop]
    exact h240
  have h120 : ((sw_tab 229).drop 120).all (fun x => sw_chk 229 x.1 x.2) = true := by
    rw [← List.take_append_drop 60 ((sw_tab 229).drop 120), List.all_append, sw_k229_120, Bool.true_and, List.drop_drop]
    exact h180
  have h60 : ((sw_tab 229).drop 60).all (fun x => sw_chk 229 x.1 x.2) = true := by
    rw [← List.take_append_drop 60 ((sw_tab 229).drop 60), List.all_append, sw_k229_60, Bool.true_and, List.drop_drop]
    exact h120
  have h0 : ((sw_tab 229).drop 0).all (fun x => sw_chk 229 x.1 x.2) = true := by
    rw [← List.take_append_drop 60 ((sw_tab 229).drop 0), List.all_append, sw_k229_0, Bool.true_and, List.drop_drop]
    exact h60
  exact h0
theorem sw_tab_none : ∀ k, 230 ≤ k → sw_tab k = [] := by
  intro k hk
  unfold sw_tab
  by_cases h : k / 16 < 15
  · have h1 : k / 16 = 14 := by omega
    have h2 : 6 ≤ k % 16 := by omega
    rw [h1]
    show (sw_cs_14).getD (k % 16) [] = []
    rw [List.getD_eq_getElem?_getD, List.getElem?_eq_none (by show 6 ≤ _; exact h2)]
    rfl
  · rw [List.getD_eq_getElem?_getD (l := sw_cs_all), List.getElem?_eq_none (by show 15 ≤ _; omega)]
    simp
theorem sw_kg0 : ∀ k ∈ [0, 1, 2, 3, 4, 5, 6, 7, 8, 9, 10, 11, 12, 13, 14, 15], (sw_tab k).all (fun x => sw_chk k x.1 x.2) = true := List.forall_mem_cons.mpr ⟨sw_k0, List.forall_mem_cons.mpr ⟨sw_k1, List.forall_mem_cons.mpr ⟨sw_k2, List.forall_mem_cons.mpr ⟨sw_k3, List.forall_mem_cons.mpr ⟨sw_k4, List.forall_mem_cons.mpr ⟨sw_k5, List.forall_mem_cons.mpr ⟨sw_k6, List.forall_mem_cons.mpr ⟨sw_k7, List.forall_mem_cons.mpr ⟨sw_k8, List.forall_mem_cons.mpr ⟨sw_k9, List.forall_mem_cons.mpr ⟨sw_k10, List.forall_mem_cons.mpr ⟨sw_k11, List.forall_mem_cons.mpr ⟨sw_k12, List.forall_mem_cons.mpr ⟨sw_k13, List.forall_mem_cons.mpr ⟨sw_k14, List.forall_mem_cons.mpr ⟨sw_k15, fun _ h => absurd h List.not_mem_nil⟩⟩⟩⟩⟩⟩⟩⟩⟩⟩⟩⟩⟩⟩⟩⟩
theorem sw_kg16 : ∀ k ∈ [16, 17, 18, 19, 20, 21, 22, 23, 24, 25, 26, 27, 28, 29, 30, 31], (sw_tab k).all (fun x => sw_chk k x.1 x.2) = true := List.forall_mem_cons.mpr ⟨sw_k16, List.forall_mem_cons.mpr ⟨sw_k17, List.forall_mem_cons.mpr ⟨sw_k18, List.forall_mem_cons.mpr ⟨sw_k19, List.forall_mem_cons.mpr ⟨sw_k20, List.forall_mem_cons.mpr ⟨sw_k21, List.forall_mem_cons.mpr ⟨sw_k22, List.forall_mem_cons.mpr ⟨sw_k23, List.forall_mem_cons.mpr ⟨sw_k24, List.forall_mem_cons.mpr ⟨sw_k25, List.forall_mem_cons.mpr ⟨sw_k26, List.forall_mem_cons.mpr ⟨sw_k27, List.forall_mem_cons.mpr ⟨sw_k28, List.forall_mem_cons.mpr ⟨sw_k29, List.forall_mem_cons.mpr ⟨sw_k30, List.forall_mem_cons.mpr ⟨sw_k31, fun _ h => absurd h List.not_mem_nil⟩⟩⟩⟩⟩⟩⟩⟩⟩⟩⟩⟩⟩⟩⟩⟩
theorem sw_kg32 : ∀ k ∈ [32, 33, 34, 35, 36, 37, 38, 39, 40, 41, 42, 43, 44, 45, 46, 47], (sw_tab k).all (fun x => sw_chk k x.1 x.2) = true := List.forall_mem_cons.mpr ⟨sw_k32, List.forall_mem_cons.mpr ⟨sw_k33, List.forall_mem_cons.mpr ⟨sw_k34, List.forall_mem_cons.mpr ⟨sw_k35, List.forall_mem_cons.mpr ⟨sw_k36, List.forall_mem_cons.mpr ⟨sw_k37, List.forall_mem_cons.mpr ⟨sw_k38, List.forall_mem_cons.mpr ⟨sw_k39, List.forall_mem_cons.mpr ⟨sw_k40, List.forall_mem_cons.mpr ⟨sw_k41, List.forall_mem_cons.mpr ⟨sw_k42, List.forall_mem_cons.mpr ⟨sw_k43, List.forall_mem_cons.mpr ⟨sw_k44, List.forall_mem_cons.mpr ⟨sw_k45, List.forall_mem_cons.mpr ⟨sw_k46, List.forall_mem_cons.mpr ⟨sw_k47, fun _ h => absurd h List.not_mem_nil⟩⟩⟩⟩⟩⟩⟩⟩⟩⟩⟩⟩⟩⟩⟩⟩
theorem sw_kg48 : ∀ k ∈ [48, 49, 50, 51, 52, 53, 54, 55, 56, 57, 58, 59, 60, 61, 62, 63], (sw_tab k).all (fun x => sw_chk k x.1 x.2) = true := List.forall_mem_cons.mpr ⟨sw_k48, List.forall_mem_cons.mpr ⟨sw_k49, List.forall_mem_cons.mpr ⟨sw_k50, List.forall_mem_cons.mpr ⟨sw_k51, List.forall_mem_cons.mpr ⟨sw_k52, List.forall_mem_cons.mpr ⟨sw_k53, List.forall_mem_cons.mpr ⟨sw_k54, List.forall_mem_cons.mpr ⟨sw_k55, List.forall_mem_cons.mpr ⟨sw_k56, List.forall_mem_cons.mpr ⟨sw_k57, List.forall_mem_cons.mpr ⟨sw_k58, List.forall_mem_cons.mpr ⟨sw_k59, List.forall_mem_cons.mpr ⟨sw_k60, List.forall_mem_cons.mpr ⟨sw_k61, List.forall_mem_cons.mpr ⟨sw_k62, List.forall_mem_cons.mpr ⟨sw_k63, fun _ h => absurd h List.not_mem_nil⟩⟩⟩⟩⟩⟩⟩⟩⟩⟩⟩⟩⟩⟩⟩⟩
theorem sw_kg64 : ∀ k ∈ [64, 65, 66, 67, 68, 69, 70, 71, 72, 73, 74, 75, 76, 77, 78, 79], (sw_tab k).all (fun x => sw_chk k x.1 x.2) = true := List.forall_mem_cons.mpr ⟨sw_k64, List.forall_mem_cons.mpr ⟨sw_k65, List.forall_mem_cons.mpr ⟨sw_k66, List.forall_mem_cons.mpr ⟨sw_k67, List.forall_mem_cons.mpr ⟨sw_k68, List.forall_mem_cons.mpr ⟨sw_k69, List.forall_mem_cons.mpr ⟨sw_k70, List.forall_mem_cons.mpr ⟨sw_k71, List.forall_mem_cons.mpr ⟨sw_k72, List.forall_mem_cons.mpr ⟨sw_k73, List.forall_mem_cons.mpr ⟨sw_k74, List.forall_mem_cons.mpr ⟨sw_k75, List.forall_mem_cons.mpr ⟨sw_k76, List.forall_mem_cons.mpr ⟨sw_k77, List.forall_mem_cons.mpr ⟨sw_k78, List.forall_mem_cons.mpr ⟨sw_k79, fun _ h => absurd h List.not_mem_nil⟩⟩⟩⟩⟩⟩⟩⟩⟩⟩⟩⟩⟩⟩⟩⟩
theorem sw_kg80 : ∀ k ∈ [80, 81, 82, 83, 84, 85, 86, 87, 88, 89, 90, 91, 92, 93, 94, 95], (sw_tab k).all (fun x => sw_chk k x.1 x.2) = true := List.forall_mem_cons.mpr ⟨sw_k80, List.forall_mem_cons.mpr ⟨sw_k81, List.forall_mem_cons.mpr ⟨sw_k82, List.forall_mem_cons.mpr ⟨sw_k83, List.forall_mem_cons.mpr ⟨sw_k84, List.forall_mem_cons.mpr ⟨sw_k85, List.forall_mem_cons.mpr ⟨sw_k86, List.forall_mem_cons.mpr ⟨sw_k87, List.forall_mem_cons.mpr ⟨sw_k88, List.forall_mem_cons.mpr ⟨sw_k89, List.forall_mem_cons.mpr ⟨sw_k90, List.forall_mem_cons.mpr ⟨sw_k91, List.forall_mem_cons.mpr ⟨sw_k92, List.forall_mem_cons.mpr ⟨sw_k93, List.forall_mem_cons.mpr ⟨sw_k94, List.forall_mem_cons.mpr ⟨sw_k95, fun _ h => absurd h List.not_mem_nil⟩⟩⟩⟩⟩⟩⟩⟩⟩⟩⟩⟩⟩⟩⟩⟩
theorem sw_kg96 : ∀ k ∈ [96, 97, 98, 99, 100, 101, 102, 103, 104, 105, 106, 107, 108, 109, 110, 111], (sw_tab k).all (fun x => sw_chk k x.1 x.2) = true := List.forall_mem_cons.mpr ⟨sw_k96, List.forall_mem_cons.mpr ⟨sw_k97, List.forall_mem_cons.mpr ⟨sw_k98, List.forall_mem_cons.mpr ⟨sw_k99, List.forall_mem_cons.mpr ⟨sw_k100, List.forall_mem_cons.mpr ⟨sw_k101, List.forall_mem_cons.mpr ⟨sw_k102, List.forall_mem_cons.mpr ⟨sw_k103, List.forall_mem_cons.mpr ⟨sw_k104, List.forall_mem_cons.mpr ⟨sw_k105, List.forall_mem_cons.mpr ⟨sw_k106, List.forall_mem_cons.mpr ⟨sw_k107, List.forall_mem_cons.mpr ⟨sw_k108, List.forall_mem_cons.mpr ⟨sw_k109, List.forall_mem_cons.mpr ⟨sw_k110, List.forall_mem_cons.mpr ⟨sw_k111, fun _ h => absurd h List.not_mem_nil⟩⟩⟩⟩⟩⟩⟩⟩⟩⟩⟩⟩⟩⟩⟩⟩
theorem sw_kg112 : ∀ k ∈ [112, 113, 114, 115, 116, 117, 118, 119, 120, 121, 122, 123, 124, 125, 126, 127], (sw_tab k).all (fun x => sw_chk k x.1 x.2) = true := List.forall_mem_cons.mpr ⟨sw_k112, List.forall_mem_cons.mpr ⟨sw_k113, List.forall_mem_cons.mpr ⟨sw_k114, List.forall_mem_cons.mpr ⟨sw_k115, List.forall_mem_cons.mpr ⟨sw_k116, List.forall_mem_cons.mpr ⟨sw_k117, List.forall_mem_cons.mpr ⟨sw_k118, List.forall_mem_cons.mpr ⟨sw_k119, List.forall_mem_cons.mpr ⟨sw_k120, List.forall_mem_cons.mpr ⟨sw_k121, List.forall_mem_cons.mpr ⟨sw_k122, List.forall_mem_cons.mpr ⟨sw_k123, List.forall_mem_cons.mpr ⟨sw_k124, List.forall_mem_cons.mpr ⟨sw_k125, List.forall_mem_cons.mpr ⟨sw_k126, List.forall_mem_cons.mpr ⟨sw_k127, fun _ h => absurd h List.not_mem_nil⟩⟩⟩⟩⟩⟩⟩⟩⟩⟩⟩⟩⟩⟩⟩⟩
theorem sw_kg128 : ∀ k ∈ [128, 129, 130, 131, 132, 133, 134, 135, 136, 137, 138, 139, 140, 141, 142, 143], (sw_tab k).all (fun x => sw_chk k x.1 x.2) = true := List.forall_mem_cons.mpr ⟨sw_k128, List.forall_mem_cons.mpr ⟨sw_k129, List.forall_mem_cons.mpr ⟨sw_k130, List.forall_mem_cons.mpr ⟨sw_k131, List.forall_mem_cons.mpr ⟨sw_k132, List.forall_mem_cons.mpr ⟨sw_k133, List.forall_mem_cons.mpr ⟨sw_k134, List.forall_mem_cons.mpr ⟨sw_k135, List.forall_mem_cons.mpr ⟨sw_k136, List.forall_mem_cons.mpr ⟨sw_k137, List.forall_mem_cons.mpr ⟨sw_k138, List.forall_mem_cons.mpr ⟨sw_k139, List.forall_mem_cons.mpr ⟨sw_k140, List.forall_mem_cons.mpr ⟨sw_k141, List.forall_mem_cons.mpr ⟨sw_k142, List.forall_mem_cons.mpr ⟨sw_k143, fun _ h => absurd h List.not_mem_nil⟩⟩⟩⟩⟩⟩⟩⟩⟩⟩⟩⟩⟩⟩⟩⟩
theorem sw_kg144 : ∀ k ∈ [144, 145, 146, 147, 148, 149, 150, 151, 152, 153, 154, 155, 156, 157, 158, 159], (sw_tab k).all (fun x => sw_chk k x.1 x.2) = true := List.forall_mem_cons.mpr ⟨sw_k144, List.forall_mem_cons.mpr ⟨sw_k145, List.forall_mem_cons.mpr ⟨sw_k146, List.forall_mem_cons.mpr ⟨sw_k147, List.forall_mem_cons.mpr ⟨sw_k148, List.forall_mem_cons.mpr ⟨sw_k149, List.forall_mem_cons.mpr ⟨sw_k150, List.forall_mem_cons.mpr ⟨sw_k151, List.forall_mem_cons.mpr ⟨sw_k152, List.forall_mem_cons.mpr ⟨sw_k153, List.forall_mem_cons.mpr ⟨sw_k154, List.forall_mem_cons.mpr ⟨sw_k155, List.forall_mem_cons.mpr ⟨sw_k156, List.forall_mem_cons.mpr ⟨sw_k157, List.forall_mem_cons.mpr ⟨sw_k158, List.forall_mem_cons.mpr ⟨sw_k159, fun _ h => absurd h List.not_mem_nil⟩⟩⟩⟩⟩⟩⟩⟩⟩⟩⟩⟩⟩⟩⟩⟩
theorem sw_kg160 : ∀ k ∈ [160, 161, 162, 163, 164, 165, 166, 167, 168, 169, 170, 171, 172, 173, 174, 175], (sw_tab k).all (fun x => sw_chk k x.1 x.2) = true := List.forall_mem_cons.mpr ⟨sw_k160, List.forall_mem_cons.mpr ⟨sw_k161, List.forall_mem_cons.mpr ⟨sw_k162, List.forall_mem_cons.mpr ⟨sw_k163, List.forall_mem_cons.mpr ⟨sw_k164, List.forall_mem_cons.mpr ⟨sw_k165, List.forall_mem_cons.mpr ⟨sw_k166, List.forall_mem_cons.mpr ⟨sw_k167, List.forall_mem_cons.mpr ⟨sw_k168, List.forall_mem_cons.mpr ⟨sw_k169, List.forall_mem_cons.mpr ⟨sw_k170, List.forall_mem_cons.mpr ⟨sw_k171, List.forall_mem_cons.mpr ⟨sw_k172, List.forall_mem_cons.mpr ⟨sw_k173, List.forall_mem_cons.mpr ⟨sw_k174, List.forall_mem_cons.mpr ⟨sw_k175, fun _ h => absurd h List.not_mem_nil⟩⟩⟩⟩⟩⟩⟩⟩⟩⟩⟩⟩⟩⟩⟩⟩
theorem sw_kg176 : ∀ k ∈ [176, 177, 178, 179, 180, 181, 182, 183, 184, 185, 186, 187, 188, 189, 190, 191], (sw_tab k).all (fun x => sw_chk k x.1 x.2) = true := List.forall_mem_cons.mpr ⟨sw_k176, List.forall_mem_cons.mpr ⟨sw_k177, List.forall_mem_cons.mpr ⟨sw_k178, List.forall_mem_cons.mpr ⟨sw_k179, List.forall_mem_cons.mpr ⟨sw_k180, List.forall_mem_cons.mpr ⟨sw_k181, List.forall_mem_cons.mpr ⟨sw_k182, List.forall_mem_cons.mpr ⟨sw_k183, List.forall_mem_cons.mpr ⟨sw_k184, List.forall_mem_cons.mpr ⟨sw_k185, List.forall_mem_cons.mpr ⟨sw_k186, List.forall_mem_cons.mpr ⟨sw_k187, List.forall_mem_cons.mpr ⟨sw_k188, List.forall_mem_cons.mpr ⟨sw_k189, List.forall_mem_cons.mpr ⟨sw_k190, List.forall_mem_cons.mpr ⟨sw_k191, fun _ h => absurd h List.not_mem_nil⟩⟩⟩⟩⟩⟩⟩⟩⟩⟩⟩⟩⟩⟩⟩⟩
theorem sw_kg192 : ∀ k ∈ [192, 193, 194, 195, 196, 197, 198, 199, 200, 201, 202, 203, 204, 205, 206, 207], (sw_tab k).all (fun x => sw_chk k x.1 x.2) = true := List.forall_mem_cons.mpr ⟨sw_k192, List.forall_mem_cons.mpr ⟨sw_k193, List.forall_mem_cons.mpr ⟨sw_k194, List.forall_mem_cons.mpr ⟨sw_k195, List.forall_mem_cons.mpr ⟨sw_k196, List.forall_mem_cons.mpr ⟨sw_k197, List.forall_mem_cons.mpr ⟨sw_k198, List.forall_mem_cons.mpr ⟨sw_k199, List.forall_mem_cons.mpr ⟨sw_k200, List.forall_mem_cons.mpr ⟨sw_k201, List.forall_mem_cons.mpr ⟨sw_k202, List.forall_mem_cons.mpr ⟨sw_k203, List.forall_mem_cons.mpr ⟨sw_k204, List.forall_mem_cons.mpr ⟨sw_k205, List.forall_mem_cons.mpr ⟨sw_k206, List.forall_mem_cons.mpr ⟨sw_k207, fun _ h => absurd h List.not_mem_nil⟩⟩⟩⟩⟩⟩⟩⟩⟩⟩⟩⟩⟩⟩⟩⟩
theorem sw_kg208 : ∀ k ∈ [208, 209, 210, 211, 212, 213, 214, 215, 216, 217, 218, 219, 220, 221, 222, 223], (sw_tab k).all (fun x => sw_chk k x.1 x.2) = true := List.forall_mem_cons.mpr ⟨sw_k208, List.forall_mem_cons.mpr ⟨sw_k209, List.forall_mem_cons.mpr ⟨sw_k210, List.forall_mem_cons.mpr ⟨sw_k211, List.forall_mem_cons.mpr ⟨sw_k212, List.forall_mem_cons.mpr ⟨sw_k213, List.forall_mem_cons.mpr ⟨sw_k214, List.forall_mem_cons.mpr ⟨sw_k215, List.forall_mem_cons.mpr ⟨sw_k216, List.forall_mem_cons.mpr ⟨sw_k217, List.forall_mem_cons.mpr ⟨sw_k218, List.forall_mem_cons.mpr ⟨sw_k219, List.forall_mem_cons.mpr ⟨sw_k220, List.forall_mem_cons.mpr ⟨sw_k221, List.forall_mem_cons.mpr ⟨sw_k222, List.forall_mem_cons.mpr ⟨sw_k223, fun _ h => absurd h List.not_mem_nil⟩⟩⟩⟩⟩⟩⟩⟩⟩⟩⟩⟩⟩⟩⟩⟩
theorem sw_kg224 : ∀ k ∈ [224, 225, 226, 227, 228, 229], (sw_tab k).all (fun x => sw_chk k x.1 x.2) = true := List.forall_mem_cons.mpr ⟨sw_k224, List.forall_mem_cons.mpr ⟨sw_k225, List.forall_mem_cons.mpr ⟨sw_k226, List.forall_mem_cons.mpr ⟨sw_k227, List.forall_mem_cons.mpr ⟨sw_k228, List.forall_mem_cons.mpr ⟨sw_k229, fun _ h => absurd h List.not_mem_nil⟩⟩⟩⟩⟩⟩
theorem sw_ok {k pc : Nat} {q : sw_N} (h : sw_cod k pc = some q) : sw_chk k pc q = true := by
  have hall : (sw_tab k).all (fun x => sw_chk k x.1 x.2) = true := by
    by_cases hk : 230 ≤ k
    · rw [sw_tab_none k hk]; rfl
    by_cases h0 : k < 16
    · exact sw_kg0 k (by simp only [List.mem_cons, List.not_mem_nil, or_false]; omega)
    by_cases h16 : k < 32
    · exact sw_kg16 k (by simp only [List.mem_cons, List.not_mem_nil, or_false]; omega)
    by_cases h32 : k < 48
    · exact sw_kg32 k (by simp only [List.mem_cons, List.not_mem_nil, or_false]; omega)
    by_cases h48 : k < 64
    · exact sw_kg48 k (by simp only [List.mem_cons, List.not_mem_nil, or_false]; omega)
    by_cases h64 : k < 80
    · exact sw_kg64 k (by simp only [List.mem_cons, List.not_mem_nil, or_false]; omega)
    by_cases h80 : k < 96
    · exact sw_kg80 k (by simp only [List.mem_cons, List.not_mem_nil, or_false]; omega)
    by_cases h96 : k < 112
    · exact sw_kg96 k (by simp only [List.mem_cons, List.not_mem_nil, or_false]; omega)
    by_cases h112 : k < 128
    · exact sw_kg112 k (by simp only [List.mem_cons, List.not_mem_nil, or_false]; omega)
    by_cases h128 : k < 144
    · exact sw_kg128 k (by simp only [List.mem_cons, List.not_mem_nil, or_false]; omega)
    by_cases h144 : k < 160
    · exact sw_kg144 k (by simp only [List.mem_cons, List.not_mem_nil, or_false]; omega)
    by_cases h160 : k < 176
    · exact sw_kg160 k (by simp only [List.mem_cons, List.not_mem_nil, or_false]; omega)
    by_cases h176 : k < 192
    · exact sw_kg176 k (by simp only [List.mem_cons, List.not_mem_nil, or_false]; omega)
    by_cases h192 : k < 208
    · exact sw_kg192 k (by simp only [List.mem_cons, List.not_mem_nil, or_false]; omega)
    by_cases h208 : k < 224
    · exact sw_kg208 k (by simp only [List.mem_cons, List.not_mem_nil, or_false]; omega)
    by_cases h224 : k < 230
    · exact sw_kg224 k (by simp only [List.mem_cons, List.not_mem_nil, or_false]; omega)
    omega
  have key : ∀ (L : List (Nat × sw_N)), L.all (fun x => sw_chk k x.1 x.2) = true → L.lookup pc = some q → sw_chk k pc q = true := by
    intro L
    induction L with
    | nil => intro _ h; cases h
    | cons x L ih =>
      intro hL hq
      obtain ⟨a, b⟩ := x
      simp only [List.all_cons, Bool.and_eq_true] at hL
      rw [List.lookup_cons] at hq
      split at hq
      · next hb => cases hq; rw [beq_iff_eq] at hb; rw [hb]; exact hL.1
      · exact ih hL.2 hq
  exact key _ hall h
