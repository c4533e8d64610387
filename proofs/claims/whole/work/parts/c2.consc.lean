/-! the class's constructor, run -/
def zcr1 : List (Nat × Nat × Option Nat) := (1, 0, some 2) :: []
def zcr2 : List (Nat × Nat × Option Nat) := (3, 0, some 4) :: zcr1
def zcr3 : List (Nat × Nat × Option Nat) := (3, 1, some 5) :: zcr2
def zcr4 : List (Nat × Nat × Option Nat) := (3, 2, some 6) :: zcr3
def zci5 : List (Nat × Nat × Int32) := (3, 5, 10) :: (3, 4, 1) :: []
def zcr6 : List (Nat × Nat × Option Nat) := (3, 3, some 7) :: zcr4
def zcj7 : List (Nat × Nat × Int64) := (4, 0, 0) :: []
def zci8 : List (Nat × Nat × Int32) := (5, 0, 0) :: zci5
def zci9 : List (Nat × Nat × Int32) := (6, 0, 1) :: zci8
def zci10 : List (Nat × Nat × Int32) := (7, 0, (-4)) :: zci9
def zcr11 : List (Nat × Nat × Option Nat) := (1, 2, some 3) :: zcr6
def zcr12 : List (Nat × Nat × Option Nat) := (8, 0, some 9) :: zcr11
def zcr13 : List (Nat × Nat × Option Nat) := (8, 1, some 10) :: zcr12
def zcr14 : List (Nat × Nat × Option Nat) := (0, 0, some 1) :: (1, 3, some 8) :: (8, 2, some 11) :: zcr13
def zcr15 : List (Nat × Nat × Option Nat) := (12, 0, some 13) :: zcr14
def zcr16 : List (Nat × Nat × Option Nat) := (12, 1, some 14) :: zcr15
def zcr17 : List (Nat × Nat × Option Nat) := (12, 2, some 15) :: zcr16
def zci18 : List (Nat × Nat × Int32) := (12, 5, 10) :: (12, 4, 1) :: zci10
def zcr19 : List (Nat × Nat × Option Nat) := (12, 3, some 16) :: zcr17
def zcj20 : List (Nat × Nat × Int64) := (13, 0, 0) :: zcj7
def zci21 : List (Nat × Nat × Int32) := (14, 0, 0) :: zci18
def zci22 : List (Nat × Nat × Int32) := (15, 0, 1) :: zci21
def zci23 : List (Nat × Nat × Int32) := (16, 0, (-4)) :: zci22
def zcr24 : List (Nat × Nat × Option Nat) := (0, 1, some 12) :: zcr19
def zcr25 : List (Nat × Nat × Option Nat) := (18, 0, some 19) :: zcr24
def zcr26 : List (Nat × Nat × Option Nat) := (18, 1, some 20) :: zcr25
def zcr27 : List (Nat × Nat × Option Nat) := (17, 0, some 18) :: (18, 2, some 21) :: zcr26
def zcr28 : List (Nat × Nat × Option Nat) := (17, 1, some 22) :: zcr27
def zcr29 : List (Nat × Nat × Option Nat) := (17, 2, some 23) :: zcr28
def zcr30 : List (Nat × Nat × Option Nat) := (17, 3, some 24) :: zcr29
def zcr31 : List (Nat × Nat × Option Nat) := (25, 0, some 26) :: zcr30
def zcr32 : List (Nat × Nat × Option Nat) := (25, 1, some 27) :: zcr31
def zcr33 : List (Nat × Nat × Option Nat) := (25, 2, some 28) :: zcr32
def zcr34 : List (Nat × Nat × Option Nat) := (17, 4, some 25) :: (25, 3, some 29) :: (29, 3, some 33) :: (29, 2, some 32) :: (29, 1, some 31) :: (29, 0, some 30) :: zcr33
def zcr35 : List (Nat × Nat × Option Nat) := (34, 0, some 35) :: zcr34
def zcr36 : List (Nat × Nat × Option Nat) := (22, 0, some 34) :: (34, 1, some 36) :: zcr35
def zcr37 : List (Nat × Nat × Option Nat) := (37, 0, some 38) :: zcr36
def zcr38 : List (Nat × Nat × Option Nat) := (23, 0, some 37) :: (37, 1, some 39) :: zcr37
def zcr39 : List (Nat × Nat × Option Nat) := (40, 0, some 41) :: zcr38
def zcr40 : List (Nat × Nat × Option Nat) := (22, 1, some 40) :: (40, 1, some 42) :: zcr39
def zcr41 : List (Nat × Nat × Option Nat) := (43, 0, some 44) :: zcr40
def zcr42 : List (Nat × Nat × Option Nat) := (23, 1, some 43) :: (43, 1, some 45) :: zcr41
def zcr43 : List (Nat × Nat × Option Nat) := (46, 0, some 47) :: zcr42
def zcr44 : List (Nat × Nat × Option Nat) := (22, 2, some 46) :: (46, 1, some 48) :: zcr43
def zcr45 : List (Nat × Nat × Option Nat) := (49, 0, some 50) :: zcr44
def zcr46 : List (Nat × Nat × Option Nat) := (23, 2, some 49) :: (49, 1, some 51) :: zcr45
def zcr47 : List (Nat × Nat × Option Nat) := (52, 0, some 53) :: zcr46
def zcr48 : List (Nat × Nat × Option Nat) := (22, 3, some 52) :: (52, 1, some 54) :: zcr47
def zcr49 : List (Nat × Nat × Option Nat) := (55, 0, some 56) :: zcr48
def zcr50 : List (Nat × Nat × Option Nat) := (0, 2, some 17) :: (23, 3, some 55) :: (55, 1, some 57) :: zcr49
def zcr51 : List (Nat × Nat × Option Nat) := (0, 3, some 58) :: zcr50
def zcr52 : List (Nat × Nat × Option Nat) := (60, 0, some 61) :: zcr51
def zcr53 : List (Nat × Nat × Option Nat) := (60, 1, some 62) :: zcr52
def zcr54 : List (Nat × Nat × Option Nat) := (59, 0, some 60) :: (60, 2, some 63) :: zcr53
def zcr55 : List (Nat × Nat × Option Nat) := (59, 1, some 64) :: zcr54
def zcr56 : List (Nat × Nat × Option Nat) := (59, 2, some 65) :: zcr55
def zcr57 : List (Nat × Nat × Option Nat) := (59, 3, some 66) :: zcr56
def zcr58 : List (Nat × Nat × Option Nat) := (67, 0, some 68) :: zcr57
def zcr59 : List (Nat × Nat × Option Nat) := (67, 1, some 69) :: zcr58
def zcr60 : List (Nat × Nat × Option Nat) := (67, 2, some 70) :: zcr59
def zcr61 : List (Nat × Nat × Option Nat) := (59, 4, some 67) :: (67, 3, some 71) :: (71, 3, some 75) :: (71, 2, some 74) :: (71, 1, some 73) :: (71, 0, some 72) :: zcr60
def zcr62 : List (Nat × Nat × Option Nat) := (76, 0, some 77) :: zcr61
def zcr63 : List (Nat × Nat × Option Nat) := (64, 0, some 76) :: (76, 1, some 78) :: zcr62
def zcr64 : List (Nat × Nat × Option Nat) := (79, 0, some 80) :: zcr63
def zcr65 : List (Nat × Nat × Option Nat) := (65, 0, some 79) :: (79, 1, some 81) :: zcr64
def zcr66 : List (Nat × Nat × Option Nat) := (82, 0, some 83) :: zcr65
def zcr67 : List (Nat × Nat × Option Nat) := (64, 1, some 82) :: (82, 1, some 84) :: zcr66
def zcr68 : List (Nat × Nat × Option Nat) := (85, 0, some 86) :: zcr67
def zcr69 : List (Nat × Nat × Option Nat) := (65, 1, some 85) :: (85, 1, some 87) :: zcr68
def zcr70 : List (Nat × Nat × Option Nat) := (88, 0, some 89) :: zcr69
def zcr71 : List (Nat × Nat × Option Nat) := (64, 2, some 88) :: (88, 1, some 90) :: zcr70
def zcr72 : List (Nat × Nat × Option Nat) := (91, 0, some 92) :: zcr71
def zcr73 : List (Nat × Nat × Option Nat) := (65, 2, some 91) :: (91, 1, some 93) :: zcr72
def zcr74 : List (Nat × Nat × Option Nat) := (94, 0, some 95) :: zcr73
def zcr75 : List (Nat × Nat × Option Nat) := (64, 3, some 94) :: (94, 1, some 96) :: zcr74
def zcr76 : List (Nat × Nat × Option Nat) := (97, 0, some 98) :: zcr75
def zcr77 : List (Nat × Nat × Option Nat) := (58, 0, some 59) :: (65, 3, some 97) :: (97, 1, some 99) :: zcr76
def zcr78 : List (Nat × Nat × Option Nat) := (101, 0, some 102) :: zcr77
def zcr79 : List (Nat × Nat × Option Nat) := (101, 1, some 103) :: zcr78
def zcr80 : List (Nat × Nat × Option Nat) := (100, 0, some 101) :: (101, 2, some 104) :: zcr79
def zcr81 : List (Nat × Nat × Option Nat) := (100, 1, some 105) :: zcr80
def zcr82 : List (Nat × Nat × Option Nat) := (100, 2, some 106) :: zcr81
def zcr83 : List (Nat × Nat × Option Nat) := (100, 3, some 107) :: zcr82
def zcr84 : List (Nat × Nat × Option Nat) := (108, 0, some 109) :: zcr83
def zcr85 : List (Nat × Nat × Option Nat) := (108, 1, some 110) :: zcr84
def zcr86 : List (Nat × Nat × Option Nat) := (108, 2, some 111) :: zcr85
def zcr87 : List (Nat × Nat × Option Nat) := (100, 4, some 108) :: (108, 3, some 112) :: (112, 3, some 116) :: (112, 2, some 115) :: (112, 1, some 114) :: (112, 0, some 113) :: zcr86
def zcr88 : List (Nat × Nat × Option Nat) := (117, 0, some 118) :: zcr87
def zcr89 : List (Nat × Nat × Option Nat) := (105, 0, some 117) :: (117, 1, some 119) :: zcr88
def zcr90 : List (Nat × Nat × Option Nat) := (120, 0, some 121) :: zcr89
def zcr91 : List (Nat × Nat × Option Nat) := (106, 0, some 120) :: (120, 1, some 122) :: zcr90
def zcr92 : List (Nat × Nat × Option Nat) := (123, 0, some 124) :: zcr91
def zcr93 : List (Nat × Nat × Option Nat) := (105, 1, some 123) :: (123, 1, some 125) :: zcr92
def zcr94 : List (Nat × Nat × Option Nat) := (126, 0, some 127) :: zcr93
def zcr95 : List (Nat × Nat × Option Nat) := (106, 1, some 126) :: (126, 1, some 128) :: zcr94
def zcr96 : List (Nat × Nat × Option Nat) := (129, 0, some 130) :: zcr95
def zcr97 : List (Nat × Nat × Option Nat) := (105, 2, some 129) :: (129, 1, some 131) :: zcr96
def zcr98 : List (Nat × Nat × Option Nat) := (132, 0, some 133) :: zcr97
def zcr99 : List (Nat × Nat × Option Nat) := (106, 2, some 132) :: (132, 1, some 134) :: zcr98
def zcr100 : List (Nat × Nat × Option Nat) := (135, 0, some 136) :: zcr99
def zcr101 : List (Nat × Nat × Option Nat) := (105, 3, some 135) :: (135, 1, some 137) :: zcr100
def zcr102 : List (Nat × Nat × Option Nat) := (138, 0, some 139) :: zcr101
def zcr103 : List (Nat × Nat × Option Nat) := (58, 1, some 100) :: (106, 3, some 138) :: (138, 1, some 140) :: zcr102
def zcr104 : List (Nat × Nat × Option Nat) := (0, 4, some 141) :: zcr103
def zcr105 : List (Nat × Nat × Option Nat) := (142, 0, some 143) :: zcr104
def zcr106 : List (Nat × Nat × Option Nat) := (0, 5, some 142) :: (142, 4, some 17) :: (142, 3, some 12) :: (142, 1, some 144) :: zcr105
def zcr107 : List (Nat × Nat × Option Nat) := (145, 9, some 142) :: (145, 8, some 17) :: (145, 7, some 12) :: (145, 0, some 146) :: zcr106
def zcr108 : List (Nat × Nat × Option Nat) := (146, 0, some 147) :: (147, 5, some 148) :: zcr107
def zcr109 : List (Nat × Nat × Option Nat) := (146, 1, some 149) :: (149, 5, some 150) :: zcr108
def zcr110 : List (Nat × Nat × Option Nat) := (146, 2, some 151) :: (151, 5, some 152) :: zcr109
def zcr111 : List (Nat × Nat × Option Nat) := (146, 3, some 153) :: (153, 5, some 154) :: zcr110
def zcr112 : List (Nat × Nat × Option Nat) := (146, 4, some 155) :: (155, 5, some 156) :: zcr111
def zcr113 : List (Nat × Nat × Option Nat) := (146, 5, some 157) :: (157, 5, some 158) :: zcr112
def zcr114 : List (Nat × Nat × Option Nat) := (146, 6, some 159) :: (159, 5, some 160) :: zcr113
def zcr115 : List (Nat × Nat × Option Nat) := (146, 7, some 161) :: (161, 5, some 162) :: zcr114
def zcr116 : List (Nat × Nat × Option Nat) := (146, 8, some 163) :: (163, 5, some 164) :: zcr115
def zcr117 : List (Nat × Nat × Option Nat) := (0, 6, some 145) :: (146, 9, some 165) :: (165, 5, some 166) :: zcr116
def zcr118 : List (Nat × Nat × Option Nat) := (167, 7, some 168) :: zcr117
def zcr119 : List (Nat × Nat × Option Nat) := (167, 8, some 169) :: zcr118
def zcr120 : List (Nat × Nat × Option Nat) := (0, 7, some 167) :: (167, 6, some 145) :: (167, 5, some 17) :: (167, 4, some 12) :: (167, 9, some 170) :: zcr119
def zci121 : List (Nat × Nat × Int32) := (17, 5, 0) :: zci23
def zci122 : List (Nat × Nat × Int32) := (25, 4, 0) :: zci121
def zci123 : List (Nat × Nat × Int32) := (34, 2, 0) :: zci122
def zci124 : List (Nat × Nat × Int32) := (35, 0, 0) :: zci123
def zci125 : List (Nat × Nat × Int32) := (36, 0, 0) :: zci124
def zci126 : List (Nat × Nat × Int32) := (35, 1, 0) :: zci125
def zci127 : List (Nat × Nat × Int32) := (36, 1, 0) :: zci126
def zci128 : List (Nat × Nat × Int32) := (35, 2, 0) :: zci127
def zci129 : List (Nat × Nat × Int32) := (36, 2, 0) :: zci128
def zci130 : List (Nat × Nat × Int32) := (37, 2, 0) :: zci129
def zci131 : List (Nat × Nat × Int32) := (38, 0, 0) :: zci130
def zci132 : List (Nat × Nat × Int32) := (39, 0, 0) :: zci131
def zci133 : List (Nat × Nat × Int32) := (38, 1, 0) :: zci132
def zci134 : List (Nat × Nat × Int32) := (39, 1, 0) :: zci133
def zci135 : List (Nat × Nat × Int32) := (38, 2, 0) :: zci134
def zci136 : List (Nat × Nat × Int32) := (39, 2, 0) :: zci135
def zci137 : List (Nat × Nat × Int32) := (24, 0, 0) :: zci136
def zci138 : List (Nat × Nat × Int32) := (35, 0, (10 + 0)) :: zci137
def zci139 : List (Nat × Nat × Int32) := (36, 0, 0) :: zci138
def zci140 : List (Nat × Nat × Int32) := (34, 2, (0 + 1)) :: zci139
def zci141 : List (Nat × Nat × Int32) := (38, 0, (10 + 0)) :: zci140
def zci142 : List (Nat × Nat × Int32) := (39, 0, 0) :: zci141
def zci143 : List (Nat × Nat × Int32) := (37, 2, (0 + 1)) :: zci142
def zci144 : List (Nat × Nat × Int32) := (24, 0, (10 + 0)) :: zci143
def zci145 : List (Nat × Nat × Int32) := (40, 2, 0) :: zci144
def zci146 : List (Nat × Nat × Int32) := (41, 0, 0) :: zci145
def zci147 : List (Nat × Nat × Int32) := (42, 0, 0) :: zci146
def zci148 : List (Nat × Nat × Int32) := (41, 1, 0) :: zci147
def zci149 : List (Nat × Nat × Int32) := (42, 1, 0) :: zci148
def zci150 : List (Nat × Nat × Int32) := (41, 2, 0) :: zci149
def zci151 : List (Nat × Nat × Int32) := (42, 2, 0) :: zci150
def zci152 : List (Nat × Nat × Int32) := (43, 2, 0) :: zci151
def zci153 : List (Nat × Nat × Int32) := (44, 0, 0) :: zci152
def zci154 : List (Nat × Nat × Int32) := (45, 0, 0) :: zci153
def zci155 : List (Nat × Nat × Int32) := (44, 1, 0) :: zci154
def zci156 : List (Nat × Nat × Int32) := (45, 1, 0) :: zci155
def zci157 : List (Nat × Nat × Int32) := (44, 2, 0) :: zci156
def zci158 : List (Nat × Nat × Int32) := (45, 2, 0) :: zci157
def zci159 : List (Nat × Nat × Int32) := (24, 1, 0) :: zci158
def zci160 : List (Nat × Nat × Int32) := (46, 2, 0) :: zci159
def zci161 : List (Nat × Nat × Int32) := (47, 0, 0) :: zci160
def zci162 : List (Nat × Nat × Int32) := (48, 0, 0) :: zci161
def zci163 : List (Nat × Nat × Int32) := (47, 1, 0) :: zci162
def zci164 : List (Nat × Nat × Int32) := (48, 1, 0) :: zci163
def zci165 : List (Nat × Nat × Int32) := (47, 2, 0) :: zci164
def zci166 : List (Nat × Nat × Int32) := (48, 2, 0) :: zci165
def zci167 : List (Nat × Nat × Int32) := (49, 2, 0) :: zci166
def zci168 : List (Nat × Nat × Int32) := (50, 0, 0) :: zci167
def zci169 : List (Nat × Nat × Int32) := (51, 0, 0) :: zci168
def zci170 : List (Nat × Nat × Int32) := (50, 1, 0) :: zci169
def zci171 : List (Nat × Nat × Int32) := (51, 1, 0) :: zci170
def zci172 : List (Nat × Nat × Int32) := (50, 2, 0) :: zci171
def zci173 : List (Nat × Nat × Int32) := (51, 2, 0) :: zci172
def zci174 : List (Nat × Nat × Int32) := (24, 2, 0) :: zci173
def zci175 : List (Nat × Nat × Int32) := (52, 2, 0) :: zci174
def zci176 : List (Nat × Nat × Int32) := (53, 0, 0) :: zci175
def zci177 : List (Nat × Nat × Int32) := (54, 0, 0) :: zci176
def zci178 : List (Nat × Nat × Int32) := (53, 1, 0) :: zci177
def zci179 : List (Nat × Nat × Int32) := (54, 1, 0) :: zci178
def zci180 : List (Nat × Nat × Int32) := (53, 2, 0) :: zci179
def zci181 : List (Nat × Nat × Int32) := (54, 2, 0) :: zci180
def zci182 : List (Nat × Nat × Int32) := (55, 2, 0) :: zci181
def zci183 : List (Nat × Nat × Int32) := (56, 0, 0) :: zci182
def zci184 : List (Nat × Nat × Int32) := (57, 0, 0) :: zci183
def zci185 : List (Nat × Nat × Int32) := (56, 1, 0) :: zci184
def zci186 : List (Nat × Nat × Int32) := (57, 1, 0) :: zci185
def zci187 : List (Nat × Nat × Int32) := (56, 2, 0) :: zci186
def zci188 : List (Nat × Nat × Int32) := (57, 2, 0) :: zci187
def zci189 : List (Nat × Nat × Int32) := (24, 3, 0) :: zci188
def zci190 : List (Nat × Nat × Int32) := (145, 2, 0) :: zci189
def zci191 : List (Nat × Nat × Int32) := (167, 0, 0) :: zci190
def zci192 : List (Nat × Nat × Int32) := (141, 0, 0) :: zci191
def zci193 : List (Nat × Nat × Int32) := (141, 1, 0) :: zci192
def zcj194 : List (Nat × Nat × Int64) := (0, 8, 0) :: zcj20
set_option maxRecDepth 65536 in
set_option maxHeartbeats 4000000 in
theorem k_class {b : Nat → Nat → Int32} {Q : Option Value → gW → Prop} (hb : ∀ m, m < 1000 → b m = fun _ => 0) (hQ : Q none (gD b 171 zci193 zcj194 zcr120)) : gTM 14 114 [.ref 0] (gD b 1 [] [] []) Q := by
  refine gT_n 4 ?_
  refine ⟨rfl, rfl, ?_⟩
  refine gT_nw (cu := (1, 11)) (n := 1) (b := b) [] [] [] rfl rfl rfl (hb _ (by decide)) rfl (by decide +kernel) ?_
  refine gT_n 2 ?_
  refine ⟨rfl, ?_⟩
  refine gT_n 5 ?_
  refine ⟨rfl, (by decide), rfl, ?_⟩
  refine gT_nw (cu := (1, 200)) (n := 2) (b := b) [] [] [] rfl rfl rfl (hb _ (by decide)) rfl (by decide +kernel) ?_
  refine gT_n 3 ?_
  refine ⟨rfl, rfl, ?_⟩
  refine gT_nw (cu := (2, 206)) (n := 3) (b := b) [] [] zcr1 rfl rfl rfl (hb _ (by decide)) rfl (by decide +kernel) ?_
  refine gT_n 2 ?_
  refine ⟨rfl, ?_⟩
  refine gT_n 5 ?_
  refine ⟨rfl, (by decide), rfl, ?_⟩
  refine gT_nw (cu := (1, 4)) (n := 4) (b := b) [] [] zcr1 rfl rfl rfl (hb _ (by decide)) rfl (by decide +kernel) ?_
  refine gT_n 4 ?_
  refine ⟨rfl, (by decide), rfl, ?_⟩
  refine gT_nw (cu := (2, 8)) (n := 5) (b := b) [] [] zcr2 rfl rfl rfl (hb _ (by decide)) rfl (by decide +kernel) ?_
  refine gT_n 4 ?_
  refine ⟨rfl, (by decide), rfl, ?_⟩
  refine gT_nw (cu := (3, 12)) (n := 6) (b := b) [] [] zcr3 rfl rfl rfl (hb _ (by decide)) rfl (by decide +kernel) ?_
  refine gT_n 4 ?_
  refine ⟨rfl, (by decide), rfl, ?_⟩
  refine gT_nw (cu := (4, 16)) (n := 7) (b := b) [] [] zcr4 rfl rfl rfl (hb _ (by decide)) rfl (by decide +kernel) ?_
  refine gT_n 3 ?_
  refine ⟨rfl, rfl, rfl, ?_⟩
  refine gT_n 8 ?_
  refine ⟨rfl, rfl, rfl, ?_⟩
  refine gT_gf (b := b) (n := 8) (x := 4) zci5 [] zcr6 rfl rfl (by decide +kernel) ?_
  refine gT_n 5 ?_
  refine ⟨rfl, (pk_in 0 4 (by decide) (by decide)), rfl, ?_⟩
  refine gT_gf (b := b) (n := 8) (x := 5) zci5 zcj7 zcr6 rfl rfl (by decide +kernel) ?_
  refine gT_n 5 ?_
  refine ⟨rfl, (pk_in 0 4 (by decide) (by decide)), rfl, ?_⟩
  refine gT_gf (b := b) (n := 8) (x := 6) zci8 zcj7 zcr6 rfl rfl (by decide +kernel) ?_
  refine gT_n 5 ?_
  refine ⟨(Or.inr rfl), (pk_in 0 4 (by decide) (by decide)), (Or.inr ⟨rfl, Or.inr rfl⟩), rfl, ?_⟩
  refine gT_gf (b := b) (n := 8) (x := 7) zci9 zcj7 zcr6 rfl rfl (by decide +kernel) ?_
  refine gT_n 4 ?_
  refine ⟨rfl, (pk_in 0 4 (by decide) (by decide)), rfl, ?_⟩
  refine gT_n 1 ?_
  refine ⟨rfl, ?_⟩
  refine gT_n 3 ?_
  refine ⟨rfl, rfl, ?_⟩
  refine gT_nw (cu := (7, 226)) (n := 8) (b := b) zci10 zcj7 zcr11 rfl rfl rfl (hb _ (by decide)) rfl (by decide +kernel) ?_
  refine gT_n 2 ?_
  refine ⟨rfl, ?_⟩
  refine gT_n 5 ?_
  refine ⟨rfl, (by decide), rfl, ?_⟩
  refine gT_nw (cu := (1, 24)) (n := 9) (b := b) zci10 zcj7 zcr11 rfl rfl rfl (hb _ (by decide)) rfl (by decide +kernel) ?_
  refine gT_n 4 ?_
  refine ⟨rfl, (by decide), rfl, ?_⟩
  refine gT_nw (cu := (2, 48)) (n := 10) (b := b) zci10 zcj7 zcr12 rfl rfl rfl (hb _ (by decide)) rfl (by decide +kernel) ?_
  refine gT_n 4 ?_
  refine ⟨rfl, (by decide), rfl, ?_⟩
  refine gT_nw (cu := (3, 72)) (n := 11) (b := b) zci10 zcj7 zcr13 rfl rfl rfl (hb _ (by decide)) rfl (by decide +kernel) ?_
  refine gT_n 2 ?_
  refine ⟨rfl, rfl, ?_⟩
  refine gT_n 2 ?_
  refine ⟨rfl, rfl, ?_⟩
  refine gT_n 3 ?_
  refine ⟨rfl, rfl, ?_⟩
  refine gT_nw (cu := (12, 315)) (n := 12) (b := b) zci10 zcj7 zcr14 rfl rfl rfl (hb _ (by decide)) rfl (by decide +kernel) ?_
  refine gT_n 2 ?_
  refine ⟨rfl, ?_⟩
  refine gT_n 5 ?_
  refine ⟨rfl, (by decide), rfl, ?_⟩
  refine gT_nw (cu := (1, 4)) (n := 13) (b := b) zci10 zcj7 zcr14 rfl rfl rfl (hb _ (by decide)) rfl (by decide +kernel) ?_
  refine gT_n 4 ?_
  refine ⟨rfl, (by decide), rfl, ?_⟩
  refine gT_nw (cu := (2, 8)) (n := 14) (b := b) zci10 zcj7 zcr15 rfl rfl rfl (hb _ (by decide)) rfl (by decide +kernel) ?_
  refine gT_n 4 ?_
  refine ⟨rfl, (by decide), rfl, ?_⟩
  refine gT_nw (cu := (3, 12)) (n := 15) (b := b) zci10 zcj7 zcr16 rfl rfl rfl (hb _ (by decide)) rfl (by decide +kernel) ?_
  refine gT_n 4 ?_
  refine ⟨rfl, (by decide), rfl, ?_⟩
  refine gT_nw (cu := (4, 16)) (n := 16) (b := b) zci10 zcj7 zcr17 rfl rfl rfl (hb _ (by decide)) rfl (by decide +kernel) ?_
  refine gT_n 3 ?_
  refine ⟨rfl, rfl, rfl, ?_⟩
  refine gT_n 8 ?_
  refine ⟨rfl, rfl, rfl, ?_⟩
  refine gT_gf (b := b) (n := 17) (x := 13) zci18 zcj7 zcr19 rfl rfl (by decide +kernel) ?_
  refine gT_n 5 ?_
  refine ⟨rfl, (pk_in 0 4 (by decide) (by decide)), rfl, ?_⟩
  refine gT_gf (b := b) (n := 17) (x := 14) zci18 zcj20 zcr19 rfl rfl (by decide +kernel) ?_
  refine gT_n 5 ?_
  refine ⟨rfl, (pk_in 0 4 (by decide) (by decide)), rfl, ?_⟩
  refine gT_gf (b := b) (n := 17) (x := 15) zci21 zcj20 zcr19 rfl rfl (by decide +kernel) ?_
  refine gT_n 5 ?_
  refine ⟨(Or.inr rfl), (pk_in 0 4 (by decide) (by decide)), (Or.inr ⟨rfl, Or.inr rfl⟩), rfl, ?_⟩
  refine gT_gf (b := b) (n := 17) (x := 16) zci22 zcj20 zcr19 rfl rfl (by decide +kernel) ?_
  refine gT_n 4 ?_
  refine ⟨rfl, (pk_in 0 4 (by decide) (by decide)), rfl, ?_⟩
  refine gT_n 1 ?_
  refine ⟨rfl, ?_⟩
  refine gT_n 3 ?_
  refine ⟨rfl, rfl, ?_⟩
  refine gT_nw (cu := (17, 337)) (n := 17) (b := b) zci23 zcj20 zcr24 rfl rfl rfl (hb _ (by decide)) rfl (by decide +kernel) ?_
  refine gT_n 2 ?_
  refine ⟨rfl, ?_⟩
  refine gT_n 4 ?_
  refine ⟨rfl, rfl, ?_⟩
  refine gT_nw (cu := (1, 4)) (n := 18) (b := b) zci23 zcj20 zcr24 rfl rfl rfl (hb _ (by decide)) rfl (by decide +kernel) ?_
  refine gT_n 2 ?_
  refine ⟨rfl, ?_⟩
  refine gT_n 5 ?_
  refine ⟨rfl, (by decide), rfl, ?_⟩
  refine gT_nw (cu := (1, 24)) (n := 19) (b := b) zci23 zcj20 zcr24 rfl rfl rfl (hb _ (by decide)) rfl (by decide +kernel) ?_
  refine gT_n 4 ?_
  refine ⟨rfl, (by decide), rfl, ?_⟩
  refine gT_nw (cu := (2, 48)) (n := 20) (b := b) zci23 zcj20 zcr25 rfl rfl rfl (hb _ (by decide)) rfl (by decide +kernel) ?_
  refine gT_n 4 ?_
  refine ⟨rfl, (by decide), rfl, ?_⟩
  refine gT_nw (cu := (3, 72)) (n := 21) (b := b) zci23 zcj20 zcr26 rfl rfl rfl (hb _ (by decide)) rfl (by decide +kernel) ?_
  refine gT_n 2 ?_
  refine ⟨rfl, rfl, ?_⟩
  refine gT_n 4 ?_
  refine ⟨rfl, (by decide), rfl, ?_⟩
  refine gT_nw (cu := (5, 80)) (n := 22) (b := b) zci23 zcj20 zcr27 rfl rfl rfl (hb _ (by decide)) rfl (by decide +kernel) ?_
  refine gT_n 4 ?_
  refine ⟨rfl, (by decide), rfl, ?_⟩
  refine gT_nw (cu := (6, 84)) (n := 23) (b := b) zci23 zcj20 zcr28 rfl rfl rfl (hb _ (by decide)) rfl (by decide +kernel) ?_
  refine gT_n 4 ?_
  refine ⟨rfl, (by decide), rfl, ?_⟩
  refine gT_nw (cu := (7, 88)) (n := 24) (b := b) zci23 zcj20 zcr29 rfl rfl rfl (hb _ (by decide)) rfl (by decide +kernel) ?_
  refine gT_n 3 ?_
  refine ⟨rfl, rfl, ?_⟩
  refine gT_nw (cu := (8, 93)) (n := 25) (b := b) zci23 zcj20 zcr30 rfl rfl rfl (hb _ (by decide)) rfl (by decide +kernel) ?_
  refine gT_n 2 ?_
  refine ⟨rfl, ?_⟩
  refine gT_n 5 ?_
  refine ⟨rfl, (by decide), rfl, ?_⟩
  refine gT_nw (cu := (1, 4)) (n := 26) (b := b) zci23 zcj20 zcr30 rfl rfl rfl (hb _ (by decide)) rfl (by decide +kernel) ?_
  refine gT_n 4 ?_
  refine ⟨rfl, (by decide), rfl, ?_⟩
  refine gT_nw (cu := (2, 8)) (n := 27) (b := b) zci23 zcj20 zcr31 rfl rfl rfl (hb _ (by decide)) rfl (by decide +kernel) ?_
  refine gT_n 4 ?_
  refine ⟨rfl, (by decide), rfl, ?_⟩
  refine gT_nw (cu := (3, 12)) (n := 28) (b := b) zci23 zcj20 zcr32 rfl rfl rfl (hb _ (by decide)) rfl (by decide +kernel) ?_
  refine gT_n 5 ?_
  refine ⟨rfl, (by decide), rfl, ?_⟩
  refine gT_mw (cu := (8, 28)) (n := 29) (b := b) zci23 zcj20 zcr33 rfl rfl rfl rfl hb (by decide) (by rfl) (by rfl) (by decide +kernel) ?_
  refine gT_n 2 ?_
  refine ⟨rfl, rfl, ?_⟩
  refine gT_n 6 ?_
  refine ⟨rfl, fun c => absurd c (by decide), fun _ => ?_⟩
  refine gT_n 2 ?_
  refine ⟨rfl, ?_⟩
  refine gT_gf (b := b) (n := 34) (x := 22) zci23 zcj20 zcr34 rfl rfl (by decide +kernel) ?_
  refine gT_n 2 ?_
  refine ⟨rfl, ?_⟩
  refine gT_nw (cu := (17, 124)) (n := 34) (b := b) zci23 zcj20 zcr34 rfl rfl rfl (hb _ (by decide)) rfl (by decide +kernel) ?_
  refine gT_n 2 ?_
  refine ⟨rfl, ?_⟩
  refine gT_n 5 ?_
  refine ⟨rfl, (by decide), rfl, ?_⟩
  refine gT_nw (cu := (1, 3)) (n := 35) (b := b) zci23 zcj20 zcr34 rfl rfl rfl (hb _ (by decide)) rfl (by decide +kernel) ?_
  refine gT_n 4 ?_
  refine ⟨rfl, (by decide), rfl, ?_⟩
  refine gT_nw (cu := (2, 6)) (n := 36) (b := b) zci23 zcj20 zcr35 rfl rfl rfl (hb _ (by decide)) rfl (by decide +kernel) ?_
  refine gT_n 2 ?_
  refine ⟨rfl, rfl, ?_⟩
  refine gT_n 3 ?_
  refine ⟨⟨_, _, rfl, rfl, rfl⟩, (pk_in 0 4 (by decide) (by decide)), rfl, ?_⟩
  refine gT_gf (b := b) (n := 37) (x := 23) zci23 zcj20 zcr36 rfl rfl (by decide +kernel) ?_
  refine gT_n 2 ?_
  refine ⟨rfl, ?_⟩
  refine gT_nw (cu := (20, 133)) (n := 37) (b := b) zci23 zcj20 zcr36 rfl rfl rfl (hb _ (by decide)) rfl (by decide +kernel) ?_
  refine gT_n 2 ?_
  refine ⟨rfl, ?_⟩
  refine gT_n 5 ?_
  refine ⟨rfl, (by decide), rfl, ?_⟩
  refine gT_nw (cu := (1, 3)) (n := 38) (b := b) zci23 zcj20 zcr36 rfl rfl rfl (hb _ (by decide)) rfl (by decide +kernel) ?_
  refine gT_n 4 ?_
  refine ⟨rfl, (by decide), rfl, ?_⟩
  refine gT_nw (cu := (2, 6)) (n := 39) (b := b) zci23 zcj20 zcr37 rfl rfl rfl (hb _ (by decide)) rfl (by decide +kernel) ?_
  refine gT_n 2 ?_
  refine ⟨rfl, rfl, ?_⟩
  refine gT_n 6 ?_
  refine ⟨⟨_, _, rfl, rfl, rfl⟩, (pk_in 0 4 (by decide) (by decide)), fun c => absurd c (by decide), fun _ => ?_⟩
  refine gT_n 2 ?_
  refine ⟨rfl, ?_⟩
  refine gT_gf (b := b) (n := 40) (x := 22) zci23 zcj20 zcr38 rfl rfl (by decide +kernel) ?_
  refine gT_n 2 ?_
  refine ⟨rfl, ?_⟩
  refine gT_nw (cu := (23, 142)) (n := 40) (b := b) zci23 zcj20 zcr38 rfl rfl rfl (hb _ (by decide)) rfl (by decide +kernel) ?_
  refine gT_n 2 ?_
  refine ⟨rfl, ?_⟩
  refine gT_n 5 ?_
  refine ⟨rfl, (by decide), rfl, ?_⟩
  refine gT_nw (cu := (1, 3)) (n := 41) (b := b) zci23 zcj20 zcr38 rfl rfl rfl (hb _ (by decide)) rfl (by decide +kernel) ?_
  refine gT_n 4 ?_
  refine ⟨rfl, (by decide), rfl, ?_⟩
  refine gT_nw (cu := (2, 6)) (n := 42) (b := b) zci23 zcj20 zcr39 rfl rfl rfl (hb _ (by decide)) rfl (by decide +kernel) ?_
  refine gT_n 2 ?_
  refine ⟨rfl, rfl, ?_⟩
  refine gT_n 3 ?_
  refine ⟨⟨_, _, rfl, rfl, rfl⟩, (pk_in 1 4 (by decide) (by decide)), rfl, ?_⟩
  refine gT_gf (b := b) (n := 43) (x := 23) zci23 zcj20 zcr40 rfl rfl (by decide +kernel) ?_
  refine gT_n 2 ?_
  refine ⟨rfl, ?_⟩
  refine gT_nw (cu := (26, 151)) (n := 43) (b := b) zci23 zcj20 zcr40 rfl rfl rfl (hb _ (by decide)) rfl (by decide +kernel) ?_
  refine gT_n 2 ?_
  refine ⟨rfl, ?_⟩
  refine gT_n 5 ?_
  refine ⟨rfl, (by decide), rfl, ?_⟩
  refine gT_nw (cu := (1, 3)) (n := 44) (b := b) zci23 zcj20 zcr40 rfl rfl rfl (hb _ (by decide)) rfl (by decide +kernel) ?_
  refine gT_n 4 ?_
  refine ⟨rfl, (by decide), rfl, ?_⟩
  refine gT_nw (cu := (2, 6)) (n := 45) (b := b) zci23 zcj20 zcr41 rfl rfl rfl (hb _ (by decide)) rfl (by decide +kernel) ?_
  refine gT_n 2 ?_
  refine ⟨rfl, rfl, ?_⟩
  refine gT_n 6 ?_
  refine ⟨⟨_, _, rfl, rfl, rfl⟩, (pk_in 1 4 (by decide) (by decide)), fun c => absurd c (by decide), fun _ => ?_⟩
  refine gT_n 2 ?_
  refine ⟨rfl, ?_⟩
  refine gT_gf (b := b) (n := 46) (x := 22) zci23 zcj20 zcr42 rfl rfl (by decide +kernel) ?_
  refine gT_n 2 ?_
  refine ⟨rfl, ?_⟩
  refine gT_nw (cu := (29, 160)) (n := 46) (b := b) zci23 zcj20 zcr42 rfl rfl rfl (hb _ (by decide)) rfl (by decide +kernel) ?_
  refine gT_n 2 ?_
  refine ⟨rfl, ?_⟩
  refine gT_n 5 ?_
  refine ⟨rfl, (by decide), rfl, ?_⟩
  refine gT_nw (cu := (1, 3)) (n := 47) (b := b) zci23 zcj20 zcr42 rfl rfl rfl (hb _ (by decide)) rfl (by decide +kernel) ?_
  refine gT_n 4 ?_
  refine ⟨rfl, (by decide), rfl, ?_⟩
  refine gT_nw (cu := (2, 6)) (n := 48) (b := b) zci23 zcj20 zcr43 rfl rfl rfl (hb _ (by decide)) rfl (by decide +kernel) ?_
  refine gT_n 2 ?_
  refine ⟨rfl, rfl, ?_⟩
  refine gT_n 3 ?_
  refine ⟨⟨_, _, rfl, rfl, rfl⟩, (pk_in 2 4 (by decide) (by decide)), rfl, ?_⟩
  refine gT_gf (b := b) (n := 49) (x := 23) zci23 zcj20 zcr44 rfl rfl (by decide +kernel) ?_
  refine gT_n 2 ?_
  refine ⟨rfl, ?_⟩
  refine gT_nw (cu := (32, 169)) (n := 49) (b := b) zci23 zcj20 zcr44 rfl rfl rfl (hb _ (by decide)) rfl (by decide +kernel) ?_
  refine gT_n 2 ?_
  refine ⟨rfl, ?_⟩
  refine gT_n 5 ?_
  refine ⟨rfl, (by decide), rfl, ?_⟩
  refine gT_nw (cu := (1, 3)) (n := 50) (b := b) zci23 zcj20 zcr44 rfl rfl rfl (hb _ (by decide)) rfl (by decide +kernel) ?_
  refine gT_n 4 ?_
  refine ⟨rfl, (by decide), rfl, ?_⟩
  refine gT_nw (cu := (2, 6)) (n := 51) (b := b) zci23 zcj20 zcr45 rfl rfl rfl (hb _ (by decide)) rfl (by decide +kernel) ?_
  refine gT_n 2 ?_
  refine ⟨rfl, rfl, ?_⟩
  refine gT_n 6 ?_
  refine ⟨⟨_, _, rfl, rfl, rfl⟩, (pk_in 2 4 (by decide) (by decide)), fun c => absurd c (by decide), fun _ => ?_⟩
  refine gT_n 2 ?_
  refine ⟨rfl, ?_⟩
  refine gT_gf (b := b) (n := 52) (x := 22) zci23 zcj20 zcr46 rfl rfl (by decide +kernel) ?_
  refine gT_n 2 ?_
  refine ⟨rfl, ?_⟩
  refine gT_nw (cu := (35, 178)) (n := 52) (b := b) zci23 zcj20 zcr46 rfl rfl rfl (hb _ (by decide)) rfl (by decide +kernel) ?_
  refine gT_n 2 ?_
  refine ⟨rfl, ?_⟩
  refine gT_n 5 ?_
  refine ⟨rfl, (by decide), rfl, ?_⟩
  refine gT_nw (cu := (1, 3)) (n := 53) (b := b) zci23 zcj20 zcr46 rfl rfl rfl (hb _ (by decide)) rfl (by decide +kernel) ?_
  refine gT_n 4 ?_
  refine ⟨rfl, (by decide), rfl, ?_⟩
  refine gT_nw (cu := (2, 6)) (n := 54) (b := b) zci23 zcj20 zcr47 rfl rfl rfl (hb _ (by decide)) rfl (by decide +kernel) ?_
  refine gT_n 2 ?_
  refine ⟨rfl, rfl, ?_⟩
  refine gT_n 3 ?_
  refine ⟨⟨_, _, rfl, rfl, rfl⟩, (pk_in 3 4 (by decide) (by decide)), rfl, ?_⟩
  refine gT_gf (b := b) (n := 55) (x := 23) zci23 zcj20 zcr48 rfl rfl (by decide +kernel) ?_
  refine gT_n 2 ?_
  refine ⟨rfl, ?_⟩
  refine gT_nw (cu := (38, 187)) (n := 55) (b := b) zci23 zcj20 zcr48 rfl rfl rfl (hb _ (by decide)) rfl (by decide +kernel) ?_
  refine gT_n 2 ?_
  refine ⟨rfl, ?_⟩
  refine gT_n 5 ?_
  refine ⟨rfl, (by decide), rfl, ?_⟩
  refine gT_nw (cu := (1, 3)) (n := 56) (b := b) zci23 zcj20 zcr48 rfl rfl rfl (hb _ (by decide)) rfl (by decide +kernel) ?_
  refine gT_n 4 ?_
  refine ⟨rfl, (by decide), rfl, ?_⟩
  refine gT_nw (cu := (2, 6)) (n := 57) (b := b) zci23 zcj20 zcr49 rfl rfl rfl (hb _ (by decide)) rfl (by decide +kernel) ?_
  refine gT_n 2 ?_
  refine ⟨rfl, rfl, ?_⟩
  refine gT_n 6 ?_
  refine ⟨⟨_, _, rfl, rfl, rfl⟩, (pk_in 3 4 (by decide) (by decide)), fun _ => ?_, fun c => absurd (by decide) c⟩
  refine gT_n 1 ?_
  refine ⟨rfl, ?_⟩
  refine gT_n 4 ?_
  refine ⟨rfl, (by decide), rfl, ?_⟩
  refine gT_nw (cu := (58, 532)) (n := 58) (b := b) zci23 zcj20 zcr50 rfl rfl rfl (hb _ (by decide)) rfl (by decide +kernel) ?_
  refine gT_n 6 ?_
  refine ⟨rfl, fun c => absurd c (by decide), fun _ => ?_⟩
  refine gT_n 2 ?_
  refine ⟨rfl, ?_⟩
  refine gT_gf (b := b) (n := 59) (x := 58) zci23 zcj20 zcr51 rfl rfl (by decide +kernel) ?_
  refine gT_n 2 ?_
  refine ⟨rfl, ?_⟩
  refine gT_nw (cu := (59, 538)) (n := 59) (b := b) zci23 zcj20 zcr51 rfl rfl rfl (hb _ (by decide)) rfl (by decide +kernel) ?_
  refine gT_n 2 ?_
  refine ⟨rfl, ?_⟩
  refine gT_n 4 ?_
  refine ⟨rfl, rfl, ?_⟩
  refine gT_nw (cu := (1, 4)) (n := 60) (b := b) zci23 zcj20 zcr51 rfl rfl rfl (hb _ (by decide)) rfl (by decide +kernel) ?_
  refine gT_n 2 ?_
  refine ⟨rfl, ?_⟩
  refine gT_n 5 ?_
  refine ⟨rfl, (by decide), rfl, ?_⟩
  refine gT_nw (cu := (1, 24)) (n := 61) (b := b) zci23 zcj20 zcr51 rfl rfl rfl (hb _ (by decide)) rfl (by decide +kernel) ?_
  refine gT_n 4 ?_
  refine ⟨rfl, (by decide), rfl, ?_⟩
  refine gT_nw (cu := (2, 48)) (n := 62) (b := b) zci23 zcj20 zcr52 rfl rfl rfl (hb _ (by decide)) rfl (by decide +kernel) ?_
  refine gT_n 4 ?_
  refine ⟨rfl, (by decide), rfl, ?_⟩
  refine gT_nw (cu := (3, 72)) (n := 63) (b := b) zci23 zcj20 zcr53 rfl rfl rfl (hb _ (by decide)) rfl (by decide +kernel) ?_
  refine gT_n 2 ?_
  refine ⟨rfl, rfl, ?_⟩
  refine gT_n 4 ?_
  refine ⟨rfl, (by decide), rfl, ?_⟩
  refine gT_nw (cu := (5, 80)) (n := 64) (b := b) zci23 zcj20 zcr54 rfl rfl rfl (hb _ (by decide)) rfl (by decide +kernel) ?_
  refine gT_n 4 ?_
  refine ⟨rfl, (by decide), rfl, ?_⟩
  refine gT_nw (cu := (6, 84)) (n := 65) (b := b) zci23 zcj20 zcr55 rfl rfl rfl (hb _ (by decide)) rfl (by decide +kernel) ?_
  refine gT_n 4 ?_
  refine ⟨rfl, (by decide), rfl, ?_⟩
  refine gT_nw (cu := (7, 88)) (n := 66) (b := b) zci23 zcj20 zcr56 rfl rfl rfl (hb _ (by decide)) rfl (by decide +kernel) ?_
  refine gT_n 3 ?_
  refine ⟨rfl, rfl, ?_⟩
  refine gT_nw (cu := (8, 93)) (n := 67) (b := b) zci23 zcj20 zcr57 rfl rfl rfl (hb _ (by decide)) rfl (by decide +kernel) ?_
  refine gT_n 2 ?_
  refine ⟨rfl, ?_⟩
  refine gT_n 5 ?_
  refine ⟨rfl, (by decide), rfl, ?_⟩
  refine gT_nw (cu := (1, 4)) (n := 68) (b := b) zci23 zcj20 zcr57 rfl rfl rfl (hb _ (by decide)) rfl (by decide +kernel) ?_
  refine gT_n 4 ?_
  refine ⟨rfl, (by decide), rfl, ?_⟩
  refine gT_nw (cu := (2, 8)) (n := 69) (b := b) zci23 zcj20 zcr58 rfl rfl rfl (hb _ (by decide)) rfl (by decide +kernel) ?_
  refine gT_n 4 ?_
  refine ⟨rfl, (by decide), rfl, ?_⟩
  refine gT_nw (cu := (3, 12)) (n := 70) (b := b) zci23 zcj20 zcr59 rfl rfl rfl (hb _ (by decide)) rfl (by decide +kernel) ?_
  refine gT_n 5 ?_
  refine ⟨rfl, (by decide), rfl, ?_⟩
  refine gT_mw (cu := (8, 28)) (n := 71) (b := b) zci23 zcj20 zcr60 rfl rfl rfl rfl hb (by decide) (by rfl) (by rfl) (by decide +kernel) ?_
  refine gT_n 2 ?_
  refine ⟨rfl, rfl, ?_⟩
  refine gT_n 6 ?_
  refine ⟨rfl, fun c => absurd c (by decide), fun _ => ?_⟩
  refine gT_n 2 ?_
  refine ⟨rfl, ?_⟩
  refine gT_gf (b := b) (n := 76) (x := 64) zci23 zcj20 zcr61 rfl rfl (by decide +kernel) ?_
  refine gT_n 2 ?_
  refine ⟨rfl, ?_⟩
  refine gT_nw (cu := (17, 124)) (n := 76) (b := b) zci23 zcj20 zcr61 rfl rfl rfl (hb _ (by decide)) rfl (by decide +kernel) ?_
  refine gT_n 2 ?_
  refine ⟨rfl, ?_⟩
  refine gT_n 5 ?_
  refine ⟨rfl, (by decide), rfl, ?_⟩
  refine gT_nw (cu := (1, 3)) (n := 77) (b := b) zci23 zcj20 zcr61 rfl rfl rfl (hb _ (by decide)) rfl (by decide +kernel) ?_
  refine gT_n 4 ?_
  refine ⟨rfl, (by decide), rfl, ?_⟩
  refine gT_nw (cu := (2, 6)) (n := 78) (b := b) zci23 zcj20 zcr62 rfl rfl rfl (hb _ (by decide)) rfl (by decide +kernel) ?_
  refine gT_n 2 ?_
  refine ⟨rfl, rfl, ?_⟩
  refine gT_n 3 ?_
  refine ⟨⟨_, _, rfl, rfl, rfl⟩, (pk_in 0 4 (by decide) (by decide)), rfl, ?_⟩
  refine gT_gf (b := b) (n := 79) (x := 65) zci23 zcj20 zcr63 rfl rfl (by decide +kernel) ?_
  refine gT_n 2 ?_
  refine ⟨rfl, ?_⟩
  refine gT_nw (cu := (20, 133)) (n := 79) (b := b) zci23 zcj20 zcr63 rfl rfl rfl (hb _ (by decide)) rfl (by decide +kernel) ?_
  refine gT_n 2 ?_
  refine ⟨rfl, ?_⟩
  refine gT_n 5 ?_
  refine ⟨rfl, (by decide), rfl, ?_⟩
  refine gT_nw (cu := (1, 3)) (n := 80) (b := b) zci23 zcj20 zcr63 rfl rfl rfl (hb _ (by decide)) rfl (by decide +kernel) ?_
  refine gT_n 4 ?_
  refine ⟨rfl, (by decide), rfl, ?_⟩
  refine gT_nw (cu := (2, 6)) (n := 81) (b := b) zci23 zcj20 zcr64 rfl rfl rfl (hb _ (by decide)) rfl (by decide +kernel) ?_
  refine gT_n 2 ?_
  refine ⟨rfl, rfl, ?_⟩
  refine gT_n 6 ?_
  refine ⟨⟨_, _, rfl, rfl, rfl⟩, (pk_in 0 4 (by decide) (by decide)), fun c => absurd c (by decide), fun _ => ?_⟩
  refine gT_n 2 ?_
  refine ⟨rfl, ?_⟩
  refine gT_gf (b := b) (n := 82) (x := 64) zci23 zcj20 zcr65 rfl rfl (by decide +kernel) ?_
  refine gT_n 2 ?_
  refine ⟨rfl, ?_⟩
  refine gT_nw (cu := (23, 142)) (n := 82) (b := b) zci23 zcj20 zcr65 rfl rfl rfl (hb _ (by decide)) rfl (by decide +kernel) ?_
  refine gT_n 2 ?_
  refine ⟨rfl, ?_⟩
  refine gT_n 5 ?_
  refine ⟨rfl, (by decide), rfl, ?_⟩
  refine gT_nw (cu := (1, 3)) (n := 83) (b := b) zci23 zcj20 zcr65 rfl rfl rfl (hb _ (by decide)) rfl (by decide +kernel) ?_
  refine gT_n 4 ?_
  refine ⟨rfl, (by decide), rfl, ?_⟩
  refine gT_nw (cu := (2, 6)) (n := 84) (b := b) zci23 zcj20 zcr66 rfl rfl rfl (hb _ (by decide)) rfl (by decide +kernel) ?_
  refine gT_n 2 ?_
  refine ⟨rfl, rfl, ?_⟩
  refine gT_n 3 ?_
  refine ⟨⟨_, _, rfl, rfl, rfl⟩, (pk_in 1 4 (by decide) (by decide)), rfl, ?_⟩
  refine gT_gf (b := b) (n := 85) (x := 65) zci23 zcj20 zcr67 rfl rfl (by decide +kernel) ?_
  refine gT_n 2 ?_
  refine ⟨rfl, ?_⟩
  refine gT_nw (cu := (26, 151)) (n := 85) (b := b) zci23 zcj20 zcr67 rfl rfl rfl (hb _ (by decide)) rfl (by decide +kernel) ?_
  refine gT_n 2 ?_
  refine ⟨rfl, ?_⟩
  refine gT_n 5 ?_
  refine ⟨rfl, (by decide), rfl, ?_⟩
  refine gT_nw (cu := (1, 3)) (n := 86) (b := b) zci23 zcj20 zcr67 rfl rfl rfl (hb _ (by decide)) rfl (by decide +kernel) ?_
  refine gT_n 4 ?_
  refine ⟨rfl, (by decide), rfl, ?_⟩
  refine gT_nw (cu := (2, 6)) (n := 87) (b := b) zci23 zcj20 zcr68 rfl rfl rfl (hb _ (by decide)) rfl (by decide +kernel) ?_
  refine gT_n 2 ?_
  refine ⟨rfl, rfl, ?_⟩
  refine gT_n 6 ?_
  refine ⟨⟨_, _, rfl, rfl, rfl⟩, (pk_in 1 4 (by decide) (by decide)), fun c => absurd c (by decide), fun _ => ?_⟩
  refine gT_n 2 ?_
  refine ⟨rfl, ?_⟩
  refine gT_gf (b := b) (n := 88) (x := 64) zci23 zcj20 zcr69 rfl rfl (by decide +kernel) ?_
  refine gT_n 2 ?_
  refine ⟨rfl, ?_⟩
  refine gT_nw (cu := (29, 160)) (n := 88) (b := b) zci23 zcj20 zcr69 rfl rfl rfl (hb _ (by decide)) rfl (by decide +kernel) ?_
  refine gT_n 2 ?_
  refine ⟨rfl, ?_⟩
  refine gT_n 5 ?_
  refine ⟨rfl, (by decide), rfl, ?_⟩
  refine gT_nw (cu := (1, 3)) (n := 89) (b := b) zci23 zcj20 zcr69 rfl rfl rfl (hb _ (by decide)) rfl (by decide +kernel) ?_
  refine gT_n 4 ?_
  refine ⟨rfl, (by decide), rfl, ?_⟩
  refine gT_nw (cu := (2, 6)) (n := 90) (b := b) zci23 zcj20 zcr70 rfl rfl rfl (hb _ (by decide)) rfl (by decide +kernel) ?_
  refine gT_n 2 ?_
  refine ⟨rfl, rfl, ?_⟩
  refine gT_n 3 ?_
  refine ⟨⟨_, _, rfl, rfl, rfl⟩, (pk_in 2 4 (by decide) (by decide)), rfl, ?_⟩
  refine gT_gf (b := b) (n := 91) (x := 65) zci23 zcj20 zcr71 rfl rfl (by decide +kernel) ?_
  refine gT_n 2 ?_
  refine ⟨rfl, ?_⟩
  refine gT_nw (cu := (32, 169)) (n := 91) (b := b) zci23 zcj20 zcr71 rfl rfl rfl (hb _ (by decide)) rfl (by decide +kernel) ?_
  refine gT_n 2 ?_
  refine ⟨rfl, ?_⟩
  refine gT_n 5 ?_
  refine ⟨rfl, (by decide), rfl, ?_⟩
  refine gT_nw (cu := (1, 3)) (n := 92) (b := b) zci23 zcj20 zcr71 rfl rfl rfl (hb _ (by decide)) rfl (by decide +kernel) ?_
  refine gT_n 4 ?_
  refine ⟨rfl, (by decide), rfl, ?_⟩
  refine gT_nw (cu := (2, 6)) (n := 93) (b := b) zci23 zcj20 zcr72 rfl rfl rfl (hb _ (by decide)) rfl (by decide +kernel) ?_
  refine gT_n 2 ?_
  refine ⟨rfl, rfl, ?_⟩
  refine gT_n 6 ?_
  refine ⟨⟨_, _, rfl, rfl, rfl⟩, (pk_in 2 4 (by decide) (by decide)), fun c => absurd c (by decide), fun _ => ?_⟩
  refine gT_n 2 ?_
  refine ⟨rfl, ?_⟩
  refine gT_gf (b := b) (n := 94) (x := 64) zci23 zcj20 zcr73 rfl rfl (by decide +kernel) ?_
  refine gT_n 2 ?_
  refine ⟨rfl, ?_⟩
  refine gT_nw (cu := (35, 178)) (n := 94) (b := b) zci23 zcj20 zcr73 rfl rfl rfl (hb _ (by decide)) rfl (by decide +kernel) ?_
  refine gT_n 2 ?_
  refine ⟨rfl, ?_⟩
  refine gT_n 5 ?_
  refine ⟨rfl, (by decide), rfl, ?_⟩
  refine gT_nw (cu := (1, 3)) (n := 95) (b := b) zci23 zcj20 zcr73 rfl rfl rfl (hb _ (by decide)) rfl (by decide +kernel) ?_
  refine gT_n 4 ?_
  refine ⟨rfl, (by decide), rfl, ?_⟩
  refine gT_nw (cu := (2, 6)) (n := 96) (b := b) zci23 zcj20 zcr74 rfl rfl rfl (hb _ (by decide)) rfl (by decide +kernel) ?_
  refine gT_n 2 ?_
  refine ⟨rfl, rfl, ?_⟩
  refine gT_n 3 ?_
  refine ⟨⟨_, _, rfl, rfl, rfl⟩, (pk_in 3 4 (by decide) (by decide)), rfl, ?_⟩
  refine gT_gf (b := b) (n := 97) (x := 65) zci23 zcj20 zcr75 rfl rfl (by decide +kernel) ?_
  refine gT_n 2 ?_
  refine ⟨rfl, ?_⟩
  refine gT_nw (cu := (38, 187)) (n := 97) (b := b) zci23 zcj20 zcr75 rfl rfl rfl (hb _ (by decide)) rfl (by decide +kernel) ?_
  refine gT_n 2 ?_
  refine ⟨rfl, ?_⟩
  refine gT_n 5 ?_
  refine ⟨rfl, (by decide), rfl, ?_⟩
  refine gT_nw (cu := (1, 3)) (n := 98) (b := b) zci23 zcj20 zcr75 rfl rfl rfl (hb _ (by decide)) rfl (by decide +kernel) ?_
  refine gT_n 4 ?_
  refine ⟨rfl, (by decide), rfl, ?_⟩
  refine gT_nw (cu := (2, 6)) (n := 99) (b := b) zci23 zcj20 zcr76 rfl rfl rfl (hb _ (by decide)) rfl (by decide +kernel) ?_
  refine gT_n 2 ?_
  refine ⟨rfl, rfl, ?_⟩
  refine gT_n 6 ?_
  refine ⟨⟨_, _, rfl, rfl, rfl⟩, (pk_in 3 4 (by decide) (by decide)), fun _ => ?_, fun c => absurd (by decide) c⟩
  refine gT_n 1 ?_
  refine ⟨rfl, ?_⟩
  refine gT_n 6 ?_
  refine ⟨⟨_, _, rfl, rfl, rfl⟩, (pk_in 0 2 (by decide) (by decide)), fun c => absurd c (by decide), fun _ => ?_⟩
  refine gT_n 2 ?_
  refine ⟨rfl, ?_⟩
  refine gT_gf (b := b) (n := 100) (x := 58) zci23 zcj20 zcr77 rfl rfl (by decide +kernel) ?_
  refine gT_n 2 ?_
  refine ⟨rfl, ?_⟩
  refine gT_nw (cu := (100, 737)) (n := 100) (b := b) zci23 zcj20 zcr77 rfl rfl rfl (hb _ (by decide)) rfl (by decide +kernel) ?_
  refine gT_n 2 ?_
  refine ⟨rfl, ?_⟩
  refine gT_n 4 ?_
  refine ⟨rfl, rfl, ?_⟩
  refine gT_nw (cu := (1, 4)) (n := 101) (b := b) zci23 zcj20 zcr77 rfl rfl rfl (hb _ (by decide)) rfl (by decide +kernel) ?_
  refine gT_n 2 ?_
  refine ⟨rfl, ?_⟩
  refine gT_n 5 ?_
  refine ⟨rfl, (by decide), rfl, ?_⟩
  refine gT_nw (cu := (1, 24)) (n := 102) (b := b) zci23 zcj20 zcr77 rfl rfl rfl (hb _ (by decide)) rfl (by decide +kernel) ?_
  refine gT_n 4 ?_
  refine ⟨rfl, (by decide), rfl, ?_⟩
  refine gT_nw (cu := (2, 48)) (n := 103) (b := b) zci23 zcj20 zcr78 rfl rfl rfl (hb _ (by decide)) rfl (by decide +kernel) ?_
  refine gT_n 4 ?_
  refine ⟨rfl, (by decide), rfl, ?_⟩
  refine gT_nw (cu := (3, 72)) (n := 104) (b := b) zci23 zcj20 zcr79 rfl rfl rfl (hb _ (by decide)) rfl (by decide +kernel) ?_
  refine gT_n 2 ?_
  refine ⟨rfl, rfl, ?_⟩
  refine gT_n 4 ?_
  refine ⟨rfl, (by decide), rfl, ?_⟩
  refine gT_nw (cu := (5, 80)) (n := 105) (b := b) zci23 zcj20 zcr80 rfl rfl rfl (hb _ (by decide)) rfl (by decide +kernel) ?_
  refine gT_n 4 ?_
  refine ⟨rfl, (by decide), rfl, ?_⟩
  refine gT_nw (cu := (6, 84)) (n := 106) (b := b) zci23 zcj20 zcr81 rfl rfl rfl (hb _ (by decide)) rfl (by decide +kernel) ?_
  refine gT_n 4 ?_
  refine ⟨rfl, (by decide), rfl, ?_⟩
  refine gT_nw (cu := (7, 88)) (n := 107) (b := b) zci23 zcj20 zcr82 rfl rfl rfl (hb _ (by decide)) rfl (by decide +kernel) ?_
  refine gT_n 3 ?_
  refine ⟨rfl, rfl, ?_⟩
  refine gT_nw (cu := (8, 93)) (n := 108) (b := b) zci23 zcj20 zcr83 rfl rfl rfl (hb _ (by decide)) rfl (by decide +kernel) ?_
  refine gT_n 2 ?_
  refine ⟨rfl, ?_⟩
  refine gT_n 5 ?_
  refine ⟨rfl, (by decide), rfl, ?_⟩
  refine gT_nw (cu := (1, 4)) (n := 109) (b := b) zci23 zcj20 zcr83 rfl rfl rfl (hb _ (by decide)) rfl (by decide +kernel) ?_
  refine gT_n 4 ?_
  refine ⟨rfl, (by decide), rfl, ?_⟩
  refine gT_nw (cu := (2, 8)) (n := 110) (b := b) zci23 zcj20 zcr84 rfl rfl rfl (hb _ (by decide)) rfl (by decide +kernel) ?_
  refine gT_n 4 ?_
  refine ⟨rfl, (by decide), rfl, ?_⟩
  refine gT_nw (cu := (3, 12)) (n := 111) (b := b) zci23 zcj20 zcr85 rfl rfl rfl (hb _ (by decide)) rfl (by decide +kernel) ?_
  refine gT_n 5 ?_
  refine ⟨rfl, (by decide), rfl, ?_⟩
  refine gT_mw (cu := (8, 28)) (n := 112) (b := b) zci23 zcj20 zcr86 rfl rfl rfl rfl hb (by decide) (by rfl) (by rfl) (by decide +kernel) ?_
  refine gT_n 2 ?_
  refine ⟨rfl, rfl, ?_⟩
  refine gT_n 6 ?_
  refine ⟨rfl, fun c => absurd c (by decide), fun _ => ?_⟩
  refine gT_n 2 ?_
  refine ⟨rfl, ?_⟩
  refine gT_gf (b := b) (n := 117) (x := 105) zci23 zcj20 zcr87 rfl rfl (by decide +kernel) ?_
  refine gT_n 2 ?_
  refine ⟨rfl, ?_⟩
  refine gT_nw (cu := (17, 124)) (n := 117) (b := b) zci23 zcj20 zcr87 rfl rfl rfl (hb _ (by decide)) rfl (by decide +kernel) ?_
  refine gT_n 2 ?_
  refine ⟨rfl, ?_⟩
  refine gT_n 5 ?_
  refine ⟨rfl, (by decide), rfl, ?_⟩
  refine gT_nw (cu := (1, 3)) (n := 118) (b := b) zci23 zcj20 zcr87 rfl rfl rfl (hb _ (by decide)) rfl (by decide +kernel) ?_
  refine gT_n 4 ?_
  refine ⟨rfl, (by decide), rfl, ?_⟩
  refine gT_nw (cu := (2, 6)) (n := 119) (b := b) zci23 zcj20 zcr88 rfl rfl rfl (hb _ (by decide)) rfl (by decide +kernel) ?_
  refine gT_n 2 ?_
  refine ⟨rfl, rfl, ?_⟩
  refine gT_n 3 ?_
  refine ⟨⟨_, _, rfl, rfl, rfl⟩, (pk_in 0 4 (by decide) (by decide)), rfl, ?_⟩
  refine gT_gf (b := b) (n := 120) (x := 106) zci23 zcj20 zcr89 rfl rfl (by decide +kernel) ?_
  refine gT_n 2 ?_
  refine ⟨rfl, ?_⟩
  refine gT_nw (cu := (20, 133)) (n := 120) (b := b) zci23 zcj20 zcr89 rfl rfl rfl (hb _ (by decide)) rfl (by decide +kernel) ?_
  refine gT_n 2 ?_
  refine ⟨rfl, ?_⟩
  refine gT_n 5 ?_
  refine ⟨rfl, (by decide), rfl, ?_⟩
  refine gT_nw (cu := (1, 3)) (n := 121) (b := b) zci23 zcj20 zcr89 rfl rfl rfl (hb _ (by decide)) rfl (by decide +kernel) ?_
  refine gT_n 4 ?_
  refine ⟨rfl, (by decide), rfl, ?_⟩
  refine gT_nw (cu := (2, 6)) (n := 122) (b := b) zci23 zcj20 zcr90 rfl rfl rfl (hb _ (by decide)) rfl (by decide +kernel) ?_
  refine gT_n 2 ?_
  refine ⟨rfl, rfl, ?_⟩
  refine gT_n 6 ?_
  refine ⟨⟨_, _, rfl, rfl, rfl⟩, (pk_in 0 4 (by decide) (by decide)), fun c => absurd c (by decide), fun _ => ?_⟩
  refine gT_n 2 ?_
  refine ⟨rfl, ?_⟩
  refine gT_gf (b := b) (n := 123) (x := 105) zci23 zcj20 zcr91 rfl rfl (by decide +kernel) ?_
  refine gT_n 2 ?_
  refine ⟨rfl, ?_⟩
  refine gT_nw (cu := (23, 142)) (n := 123) (b := b) zci23 zcj20 zcr91 rfl rfl rfl (hb _ (by decide)) rfl (by decide +kernel) ?_
  refine gT_n 2 ?_
  refine ⟨rfl, ?_⟩
  refine gT_n 5 ?_
  refine ⟨rfl, (by decide), rfl, ?_⟩
  refine gT_nw (cu := (1, 3)) (n := 124) (b := b) zci23 zcj20 zcr91 rfl rfl rfl (hb _ (by decide)) rfl (by decide +kernel) ?_
  refine gT_n 4 ?_
  refine ⟨rfl, (by decide), rfl, ?_⟩
  refine gT_nw (cu := (2, 6)) (n := 125) (b := b) zci23 zcj20 zcr92 rfl rfl rfl (hb _ (by decide)) rfl (by decide +kernel) ?_
  refine gT_n 2 ?_
  refine ⟨rfl, rfl, ?_⟩
  refine gT_n 3 ?_
  refine ⟨⟨_, _, rfl, rfl, rfl⟩, (pk_in 1 4 (by decide) (by decide)), rfl, ?_⟩
  refine gT_gf (b := b) (n := 126) (x := 106) zci23 zcj20 zcr93 rfl rfl (by decide +kernel) ?_
  refine gT_n 2 ?_
  refine ⟨rfl, ?_⟩
  refine gT_nw (cu := (26, 151)) (n := 126) (b := b) zci23 zcj20 zcr93 rfl rfl rfl (hb _ (by decide)) rfl (by decide +kernel) ?_
  refine gT_n 2 ?_
  refine ⟨rfl, ?_⟩
  refine gT_n 5 ?_
  refine ⟨rfl, (by decide), rfl, ?_⟩
  refine gT_nw (cu := (1, 3)) (n := 127) (b := b) zci23 zcj20 zcr93 rfl rfl rfl (hb _ (by decide)) rfl (by decide +kernel) ?_
  refine gT_n 4 ?_
  refine ⟨rfl, (by decide), rfl, ?_⟩
  refine gT_nw (cu := (2, 6)) (n := 128) (b := b) zci23 zcj20 zcr94 rfl rfl rfl (hb _ (by decide)) rfl (by decide +kernel) ?_
  refine gT_n 2 ?_
  refine ⟨rfl, rfl, ?_⟩
  refine gT_n 6 ?_
  refine ⟨⟨_, _, rfl, rfl, rfl⟩, (pk_in 1 4 (by decide) (by decide)), fun c => absurd c (by decide), fun _ => ?_⟩
  refine gT_n 2 ?_
  refine ⟨rfl, ?_⟩
  refine gT_gf (b := b) (n := 129) (x := 105) zci23 zcj20 zcr95 rfl rfl (by decide +kernel) ?_
  refine gT_n 2 ?_
  refine ⟨rfl, ?_⟩
  refine gT_nw (cu := (29, 160)) (n := 129) (b := b) zci23 zcj20 zcr95 rfl rfl rfl (hb _ (by decide)) rfl (by decide +kernel) ?_
  refine gT_n 2 ?_
  refine ⟨rfl, ?_⟩
  refine gT_n 5 ?_
  refine ⟨rfl, (by decide), rfl, ?_⟩
  refine gT_nw (cu := (1, 3)) (n := 130) (b := b) zci23 zcj20 zcr95 rfl rfl rfl (hb _ (by decide)) rfl (by decide +kernel) ?_
  refine gT_n 4 ?_
  refine ⟨rfl, (by decide), rfl, ?_⟩
  refine gT_nw (cu := (2, 6)) (n := 131) (b := b) zci23 zcj20 zcr96 rfl rfl rfl (hb _ (by decide)) rfl (by decide +kernel) ?_
  refine gT_n 2 ?_
  refine ⟨rfl, rfl, ?_⟩
  refine gT_n 3 ?_
  refine ⟨⟨_, _, rfl, rfl, rfl⟩, (pk_in 2 4 (by decide) (by decide)), rfl, ?_⟩
  refine gT_gf (b := b) (n := 132) (x := 106) zci23 zcj20 zcr97 rfl rfl (by decide +kernel) ?_
  refine gT_n 2 ?_
  refine ⟨rfl, ?_⟩
  refine gT_nw (cu := (32, 169)) (n := 132) (b := b) zci23 zcj20 zcr97 rfl rfl rfl (hb _ (by decide)) rfl (by decide +kernel) ?_
  refine gT_n 2 ?_
  refine ⟨rfl, ?_⟩
  refine gT_n 5 ?_
  refine ⟨rfl, (by decide), rfl, ?_⟩
  refine gT_nw (cu := (1, 3)) (n := 133) (b := b) zci23 zcj20 zcr97 rfl rfl rfl (hb _ (by decide)) rfl (by decide +kernel) ?_
  refine gT_n 4 ?_
  refine ⟨rfl, (by decide), rfl, ?_⟩
  refine gT_nw (cu := (2, 6)) (n := 134) (b := b) zci23 zcj20 zcr98 rfl rfl rfl (hb _ (by decide)) rfl (by decide +kernel) ?_
  refine gT_n 2 ?_
  refine ⟨rfl, rfl, ?_⟩
  refine gT_n 6 ?_
  refine ⟨⟨_, _, rfl, rfl, rfl⟩, (pk_in 2 4 (by decide) (by decide)), fun c => absurd c (by decide), fun _ => ?_⟩
  refine gT_n 2 ?_
  refine ⟨rfl, ?_⟩
  refine gT_gf (b := b) (n := 135) (x := 105) zci23 zcj20 zcr99 rfl rfl (by decide +kernel) ?_
  refine gT_n 2 ?_
  refine ⟨rfl, ?_⟩
  refine gT_nw (cu := (35, 178)) (n := 135) (b := b) zci23 zcj20 zcr99 rfl rfl rfl (hb _ (by decide)) rfl (by decide +kernel) ?_
  refine gT_n 2 ?_
  refine ⟨rfl, ?_⟩
  refine gT_n 5 ?_
  refine ⟨rfl, (by decide), rfl, ?_⟩
  refine gT_nw (cu := (1, 3)) (n := 136) (b := b) zci23 zcj20 zcr99 rfl rfl rfl (hb _ (by decide)) rfl (by decide +kernel) ?_
  refine gT_n 4 ?_
  refine ⟨rfl, (by decide), rfl, ?_⟩
  refine gT_nw (cu := (2, 6)) (n := 137) (b := b) zci23 zcj20 zcr100 rfl rfl rfl (hb _ (by decide)) rfl (by decide +kernel) ?_
  refine gT_n 2 ?_
  refine ⟨rfl, rfl, ?_⟩
  refine gT_n 3 ?_
  refine ⟨⟨_, _, rfl, rfl, rfl⟩, (pk_in 3 4 (by decide) (by decide)), rfl, ?_⟩
  refine gT_gf (b := b) (n := 138) (x := 106) zci23 zcj20 zcr101 rfl rfl (by decide +kernel) ?_
  refine gT_n 2 ?_
  refine ⟨rfl, ?_⟩
  refine gT_nw (cu := (38, 187)) (n := 138) (b := b) zci23 zcj20 zcr101 rfl rfl rfl (hb _ (by decide)) rfl (by decide +kernel) ?_
  refine gT_n 2 ?_
  refine ⟨rfl, ?_⟩
  refine gT_n 5 ?_
  refine ⟨rfl, (by decide), rfl, ?_⟩
  refine gT_nw (cu := (1, 3)) (n := 139) (b := b) zci23 zcj20 zcr101 rfl rfl rfl (hb _ (by decide)) rfl (by decide +kernel) ?_
  refine gT_n 4 ?_
  refine ⟨rfl, (by decide), rfl, ?_⟩
  refine gT_nw (cu := (2, 6)) (n := 140) (b := b) zci23 zcj20 zcr102 rfl rfl rfl (hb _ (by decide)) rfl (by decide +kernel) ?_
  refine gT_n 2 ?_
  refine ⟨rfl, rfl, ?_⟩
  refine gT_n 6 ?_
  refine ⟨⟨_, _, rfl, rfl, rfl⟩, (pk_in 3 4 (by decide) (by decide)), fun _ => ?_, fun c => absurd (by decide) c⟩
  refine gT_n 1 ?_
  refine ⟨rfl, ?_⟩
  refine gT_n 6 ?_
  refine ⟨⟨_, _, rfl, rfl, rfl⟩, (pk_in 1 2 (by decide) (by decide)), fun _ => ?_, fun c => absurd (by decide) c⟩
  refine gT_n 3 ?_
  refine ⟨(by decide), rfl, ?_⟩
  refine gT_nw (cu := (141, 932)) (n := 141) (b := b) zci23 zcj20 zcr103 rfl rfl rfl (hb _ (by decide)) rfl (by decide +kernel) ?_
  refine gT_n 3 ?_
  refine ⟨rfl, rfl, ?_⟩
  refine gT_nw (cu := (142, 937)) (n := 142) (b := b) zci23 zcj20 zcr104 rfl rfl rfl (hb _ (by decide)) rfl (by decide +kernel) ?_
  refine gT_n 3 ?_
  refine ⟨rfl, ?_⟩
  refine gT_gf (b := b) (n := 143) (x := 12) zci23 zcj20 zcr104 rfl rfl (by decide +kernel) ?_
  refine gT_n 2 ?_
  refine ⟨rfl, ?_⟩
  refine gT_gf (b := b) (n := 143) (x := 17) zci23 zcj20 zcr104 rfl rfl (by decide +kernel) ?_
  refine gT_n 1 ?_
  refine ⟨rfl, ?_⟩
  refine gT_n 5 ?_
  refine ⟨rfl, (by decide), rfl, ?_⟩
  refine gT_nw (cu := (1, 28)) (n := 143) (b := b) zci23 zcj20 zcr104 rfl rfl rfl (hb _ (by decide)) rfl (by decide +kernel) ?_
  refine gT_n 4 ?_
  refine ⟨rfl, (by decide), rfl, ?_⟩
  refine gT_nw (cu := (2, 56)) (n := 144) (b := b) zci23 zcj20 zcr105 rfl rfl rfl (hb _ (by decide)) rfl (by decide +kernel) ?_
  refine gT_n 8 ?_
  refine ⟨rfl, rfl, rfl, rfl, ?_⟩
  refine gT_n 3 ?_
  refine ⟨rfl, rfl, ?_⟩
  refine gT_nw (cu := (145, 1003)) (n := 145) (b := b) zci23 zcj20 zcr106 rfl rfl rfl (hb _ (by decide)) rfl (by decide +kernel) ?_
  refine gT_n 3 ?_
  refine ⟨rfl, ?_⟩
  refine gT_gf (b := b) (n := 146) (x := 12) zci23 zcj20 zcr106 rfl rfl (by decide +kernel) ?_
  refine gT_n 2 ?_
  refine ⟨rfl, ?_⟩
  refine gT_gf (b := b) (n := 146) (x := 17) zci23 zcj20 zcr106 rfl rfl (by decide +kernel) ?_
  refine gT_n 2 ?_
  refine ⟨rfl, ?_⟩
  refine gT_gf (b := b) (n := 146) (x := 142) zci23 zcj20 zcr106 rfl rfl (by decide +kernel) ?_
  refine gT_n 1 ?_
  refine ⟨rfl, ?_⟩
  refine gT_n 5 ?_
  refine ⟨rfl, (by decide), rfl, ?_⟩
  refine gT_nw (cu := (1, 10)) (n := 146) (b := b) zci23 zcj20 zcr106 rfl rfl rfl (hb _ (by decide)) rfl (by decide +kernel) ?_
  refine gT_n 15 ?_
  refine ⟨rfl, rfl, rfl, rfl, fun c => absurd c (by decide), fun _ => ?_⟩
  refine gT_n 2 ?_
  refine ⟨rfl, ?_⟩
  refine gT_gf (b := b) (n := 147) (x := 146) zci23 zcj20 zcr107 rfl rfl (by decide +kernel) ?_
  refine gT_n 2 ?_
  refine ⟨rfl, ?_⟩
  refine gT_nw (cu := (2, 18)) (n := 147) (b := b) zci23 zcj20 zcr107 rfl rfl rfl (hb _ (by decide)) rfl (by decide +kernel) ?_
  refine gT_n 2 ?_
  refine ⟨rfl, ?_⟩
  refine gT_n 5 ?_
  refine ⟨rfl, (by decide), rfl, ?_⟩
  refine gT_nw (cu := (1, 3)) (n := 148) (b := b) zci23 zcj20 zcr107 rfl rfl rfl (hb _ (by decide)) rfl (by decide +kernel) ?_
  refine gT_n 2 ?_
  refine ⟨rfl, rfl, ?_⟩
  refine gT_n 6 ?_
  refine ⟨⟨_, _, rfl, rfl, rfl⟩, (pk_in 0 10 (by decide) (by decide)), fun c => absurd c (by decide), fun _ => ?_⟩
  refine gT_n 2 ?_
  refine ⟨rfl, ?_⟩
  refine gT_gf (b := b) (n := 149) (x := 146) zci23 zcj20 zcr108 rfl rfl (by decide +kernel) ?_
  refine gT_n 2 ?_
  refine ⟨rfl, ?_⟩
  refine gT_nw (cu := (4, 29)) (n := 149) (b := b) zci23 zcj20 zcr108 rfl rfl rfl (hb _ (by decide)) rfl (by decide +kernel) ?_
  refine gT_n 2 ?_
  refine ⟨rfl, ?_⟩
  refine gT_n 5 ?_
  refine ⟨rfl, (by decide), rfl, ?_⟩
  refine gT_nw (cu := (1, 3)) (n := 150) (b := b) zci23 zcj20 zcr108 rfl rfl rfl (hb _ (by decide)) rfl (by decide +kernel) ?_
  refine gT_n 2 ?_
  refine ⟨rfl, rfl, ?_⟩
  refine gT_n 6 ?_
  refine ⟨⟨_, _, rfl, rfl, rfl⟩, (pk_in 1 10 (by decide) (by decide)), fun c => absurd c (by decide), fun _ => ?_⟩
  refine gT_n 2 ?_
  refine ⟨rfl, ?_⟩
  refine gT_gf (b := b) (n := 151) (x := 146) zci23 zcj20 zcr109 rfl rfl (by decide +kernel) ?_
  refine gT_n 2 ?_
  refine ⟨rfl, ?_⟩
  refine gT_nw (cu := (6, 40)) (n := 151) (b := b) zci23 zcj20 zcr109 rfl rfl rfl (hb _ (by decide)) rfl (by decide +kernel) ?_
  refine gT_n 2 ?_
  refine ⟨rfl, ?_⟩
  refine gT_n 5 ?_
  refine ⟨rfl, (by decide), rfl, ?_⟩
  refine gT_nw (cu := (1, 3)) (n := 152) (b := b) zci23 zcj20 zcr109 rfl rfl rfl (hb _ (by decide)) rfl (by decide +kernel) ?_
  refine gT_n 2 ?_
  refine ⟨rfl, rfl, ?_⟩
  refine gT_n 6 ?_
  refine ⟨⟨_, _, rfl, rfl, rfl⟩, (pk_in 2 10 (by decide) (by decide)), fun c => absurd c (by decide), fun _ => ?_⟩
  refine gT_n 2 ?_
  refine ⟨rfl, ?_⟩
  refine gT_gf (b := b) (n := 153) (x := 146) zci23 zcj20 zcr110 rfl rfl (by decide +kernel) ?_
  refine gT_n 2 ?_
  refine ⟨rfl, ?_⟩
  refine gT_nw (cu := (8, 51)) (n := 153) (b := b) zci23 zcj20 zcr110 rfl rfl rfl (hb _ (by decide)) rfl (by decide +kernel) ?_
  refine gT_n 2 ?_
  refine ⟨rfl, ?_⟩
  refine gT_n 5 ?_
  refine ⟨rfl, (by decide), rfl, ?_⟩
  refine gT_nw (cu := (1, 3)) (n := 154) (b := b) zci23 zcj20 zcr110 rfl rfl rfl (hb _ (by decide)) rfl (by decide +kernel) ?_
  refine gT_n 2 ?_
  refine ⟨rfl, rfl, ?_⟩
  refine gT_n 6 ?_
  refine ⟨⟨_, _, rfl, rfl, rfl⟩, (pk_in 3 10 (by decide) (by decide)), fun c => absurd c (by decide), fun _ => ?_⟩
  refine gT_n 2 ?_
  refine ⟨rfl, ?_⟩
  refine gT_gf (b := b) (n := 155) (x := 146) zci23 zcj20 zcr111 rfl rfl (by decide +kernel) ?_
  refine gT_n 2 ?_
  refine ⟨rfl, ?_⟩
  refine gT_nw (cu := (10, 62)) (n := 155) (b := b) zci23 zcj20 zcr111 rfl rfl rfl (hb _ (by decide)) rfl (by decide +kernel) ?_
  refine gT_n 2 ?_
  refine ⟨rfl, ?_⟩
  refine gT_n 5 ?_
  refine ⟨rfl, (by decide), rfl, ?_⟩
  refine gT_nw (cu := (1, 3)) (n := 156) (b := b) zci23 zcj20 zcr111 rfl rfl rfl (hb _ (by decide)) rfl (by decide +kernel) ?_
  refine gT_n 2 ?_
  refine ⟨rfl, rfl, ?_⟩
  refine gT_n 6 ?_
  refine ⟨⟨_, _, rfl, rfl, rfl⟩, (pk_in 4 10 (by decide) (by decide)), fun c => absurd c (by decide), fun _ => ?_⟩
  refine gT_n 2 ?_
  refine ⟨rfl, ?_⟩
  refine gT_gf (b := b) (n := 157) (x := 146) zci23 zcj20 zcr112 rfl rfl (by decide +kernel) ?_
  refine gT_n 2 ?_
  refine ⟨rfl, ?_⟩
  refine gT_nw (cu := (12, 73)) (n := 157) (b := b) zci23 zcj20 zcr112 rfl rfl rfl (hb _ (by decide)) rfl (by decide +kernel) ?_
  refine gT_n 2 ?_
  refine ⟨rfl, ?_⟩
  refine gT_n 5 ?_
  refine ⟨rfl, (by decide), rfl, ?_⟩
  refine gT_nw (cu := (1, 3)) (n := 158) (b := b) zci23 zcj20 zcr112 rfl rfl rfl (hb _ (by decide)) rfl (by decide +kernel) ?_
  refine gT_n 2 ?_
  refine ⟨rfl, rfl, ?_⟩
  refine gT_n 6 ?_
  refine ⟨⟨_, _, rfl, rfl, rfl⟩, (pk_in 5 10 (by decide) (by decide)), fun c => absurd c (by decide), fun _ => ?_⟩
  refine gT_n 2 ?_
  refine ⟨rfl, ?_⟩
  refine gT_gf (b := b) (n := 159) (x := 146) zci23 zcj20 zcr113 rfl rfl (by decide +kernel) ?_
  refine gT_n 2 ?_
  refine ⟨rfl, ?_⟩
  refine gT_nw (cu := (14, 84)) (n := 159) (b := b) zci23 zcj20 zcr113 rfl rfl rfl (hb _ (by decide)) rfl (by decide +kernel) ?_
  refine gT_n 2 ?_
  refine ⟨rfl, ?_⟩
  refine gT_n 5 ?_
  refine ⟨rfl, (by decide), rfl, ?_⟩
  refine gT_nw (cu := (1, 3)) (n := 160) (b := b) zci23 zcj20 zcr113 rfl rfl rfl (hb _ (by decide)) rfl (by decide +kernel) ?_
  refine gT_n 2 ?_
  refine ⟨rfl, rfl, ?_⟩
  refine gT_n 6 ?_
  refine ⟨⟨_, _, rfl, rfl, rfl⟩, (pk_in 6 10 (by decide) (by decide)), fun c => absurd c (by decide), fun _ => ?_⟩
  refine gT_n 2 ?_
  refine ⟨rfl, ?_⟩
  refine gT_gf (b := b) (n := 161) (x := 146) zci23 zcj20 zcr114 rfl rfl (by decide +kernel) ?_
  refine gT_n 2 ?_
  refine ⟨rfl, ?_⟩
  refine gT_nw (cu := (16, 95)) (n := 161) (b := b) zci23 zcj20 zcr114 rfl rfl rfl (hb _ (by decide)) rfl (by decide +kernel) ?_
  refine gT_n 2 ?_
  refine ⟨rfl, ?_⟩
  refine gT_n 5 ?_
  refine ⟨rfl, (by decide), rfl, ?_⟩
  refine gT_nw (cu := (1, 3)) (n := 162) (b := b) zci23 zcj20 zcr114 rfl rfl rfl (hb _ (by decide)) rfl (by decide +kernel) ?_
  refine gT_n 2 ?_
  refine ⟨rfl, rfl, ?_⟩
  refine gT_n 6 ?_
  refine ⟨⟨_, _, rfl, rfl, rfl⟩, (pk_in 7 10 (by decide) (by decide)), fun c => absurd c (by decide), fun _ => ?_⟩
  refine gT_n 2 ?_
  refine ⟨rfl, ?_⟩
  refine gT_gf (b := b) (n := 163) (x := 146) zci23 zcj20 zcr115 rfl rfl (by decide +kernel) ?_
  refine gT_n 2 ?_
  refine ⟨rfl, ?_⟩
  refine gT_nw (cu := (18, 106)) (n := 163) (b := b) zci23 zcj20 zcr115 rfl rfl rfl (hb _ (by decide)) rfl (by decide +kernel) ?_
  refine gT_n 2 ?_
  refine ⟨rfl, ?_⟩
  refine gT_n 5 ?_
  refine ⟨rfl, (by decide), rfl, ?_⟩
  refine gT_nw (cu := (1, 3)) (n := 164) (b := b) zci23 zcj20 zcr115 rfl rfl rfl (hb _ (by decide)) rfl (by decide +kernel) ?_
  refine gT_n 2 ?_
  refine ⟨rfl, rfl, ?_⟩
  refine gT_n 6 ?_
  refine ⟨⟨_, _, rfl, rfl, rfl⟩, (pk_in 8 10 (by decide) (by decide)), fun c => absurd c (by decide), fun _ => ?_⟩
  refine gT_n 2 ?_
  refine ⟨rfl, ?_⟩
  refine gT_gf (b := b) (n := 165) (x := 146) zci23 zcj20 zcr116 rfl rfl (by decide +kernel) ?_
  refine gT_n 2 ?_
  refine ⟨rfl, ?_⟩
  refine gT_nw (cu := (20, 117)) (n := 165) (b := b) zci23 zcj20 zcr116 rfl rfl rfl (hb _ (by decide)) rfl (by decide +kernel) ?_
  refine gT_n 2 ?_
  refine ⟨rfl, ?_⟩
  refine gT_n 5 ?_
  refine ⟨rfl, (by decide), rfl, ?_⟩
  refine gT_nw (cu := (1, 3)) (n := 166) (b := b) zci23 zcj20 zcr116 rfl rfl rfl (hb _ (by decide)) rfl (by decide +kernel) ?_
  refine gT_n 2 ?_
  refine ⟨rfl, rfl, ?_⟩
  refine gT_n 6 ?_
  refine ⟨⟨_, _, rfl, rfl, rfl⟩, (pk_in 9 10 (by decide) (by decide)), fun _ => ?_, fun c => absurd (by decide) c⟩
  refine gT_n 1 ?_
  refine ⟨rfl, ?_⟩
  refine gT_n 3 ?_
  refine ⟨rfl, rfl, ?_⟩
  refine gT_nw (cu := (167, 1133)) (n := 167) (b := b) zci23 zcj20 zcr117 rfl rfl rfl (hb _ (by decide)) rfl (by decide +kernel) ?_
  refine gT_n 3 ?_
  refine ⟨rfl, ?_⟩
  refine gT_gf (b := b) (n := 168) (x := 12) zci23 zcj20 zcr117 rfl rfl (by decide +kernel) ?_
  refine gT_n 2 ?_
  refine ⟨rfl, ?_⟩
  refine gT_gf (b := b) (n := 168) (x := 17) zci23 zcj20 zcr117 rfl rfl (by decide +kernel) ?_
  refine gT_n 2 ?_
  refine ⟨rfl, ?_⟩
  refine gT_gf (b := b) (n := 168) (x := 145) zci23 zcj20 zcr117 rfl rfl (by decide +kernel) ?_
  refine gT_n 1 ?_
  refine ⟨rfl, ?_⟩
  refine gT_n 5 ?_
  refine ⟨rfl, (by decide), rfl, ?_⟩
  refine gT_nw (cu := (1, 3)) (n := 168) (b := b) zci23 zcj20 zcr117 rfl rfl rfl (hb _ (by decide)) rfl (by decide +kernel) ?_
  refine gT_n 4 ?_
  refine ⟨rfl, (by decide), rfl, ?_⟩
  refine gT_nw (cu := (2, 6)) (n := 169) (b := b) zci23 zcj20 zcr118 rfl rfl rfl (hb _ (by decide)) rfl (by decide +kernel) ?_
  refine gT_n 4 ?_
  refine ⟨rfl, (by decide), rfl, ?_⟩
  refine gT_nw (cu := (3, 16)) (n := 170) (b := b) zci23 zcj20 zcr119 rfl rfl rfl (hb _ (by decide)) rfl (by decide +kernel) ?_
  refine gT_n 11 ?_
  refine ⟨rfl, rfl, rfl, rfl, rfl, ?_⟩
  refine gT_n 3 ?_
  refine ⟨rfl, rfl, rfl, ?_⟩
  refine gT_n 2 ?_
  refine ⟨rfl, ?_⟩
  refine gT_gf (b := b) (n := 171) (x := 17) zci23 zcj20 zcr120 rfl rfl (by decide +kernel) ?_
  refine gT_n 2 ?_
  refine ⟨rfl, ?_⟩
  refine gT_gf (b := b) (n := 171) (x := 12) zci23 zcj20 zcr120 rfl rfl (by decide +kernel) ?_
  refine gT_n 1 ?_
  refine ⟨rfl, rfl, ?_⟩
  refine gT_n 5 ?_
  refine ⟨rfl, rfl, ?_⟩
  refine gT_gf (b := b) (n := 171) (x := 25) zci121 zcj20 zcr120 rfl rfl (by decide +kernel) ?_
  refine gT_n 7 ?_
  refine ⟨rfl, fun c => absurd c (by decide), fun _ => ?_⟩
  refine gT_n 2 ?_
  refine ⟨rfl, ?_⟩
  refine gT_gf (b := b) (n := 171) (x := 22) zci122 zcj20 zcr120 rfl rfl (by decide +kernel) ?_
  refine gT_n 2 ?_
  refine ⟨rfl, (pk_in 0 4 (by decide) (by decide)), ?_⟩
  refine gT_al (b := b) (n := 171) (k := 0) (x := 34) zci122 zcj20 zcr120 rfl (by decide) (by decide +kernel) ?_
  refine gT_n 1 ?_
  refine ⟨rfl, rfl, ?_⟩
  refine gT_n 8 ?_
  refine ⟨rfl, fun c => absurd c (by decide), fun _ => ?_⟩
  refine gT_n 2 ?_
  refine ⟨rfl, ?_⟩
  refine gT_gf (b := b) (n := 171) (x := 35) zci123 zcj20 zcr120 rfl rfl (by decide +kernel) ?_
  refine gT_n 5 ?_
  refine ⟨rfl, (pk_in 0 3 (by decide) (by decide)), rfl, ?_⟩
  refine gT_gf (b := b) (n := 171) (x := 36) zci124 zcj20 zcr120 rfl rfl (by decide +kernel) ?_
  refine gT_n 8 ?_
  refine ⟨rfl, (pk_in 0 3 (by decide) (by decide)), fun c => absurd c (by decide), fun _ => ?_⟩
  refine gT_n 2 ?_
  refine ⟨rfl, ?_⟩
  refine gT_gf (b := b) (n := 171) (x := 35) zci125 zcj20 zcr120 rfl rfl (by decide +kernel) ?_
  refine gT_n 5 ?_
  refine ⟨rfl, (pk_in 1 3 (by decide) (by decide)), rfl, ?_⟩
  refine gT_gf (b := b) (n := 171) (x := 36) zci126 zcj20 zcr120 rfl rfl (by decide +kernel) ?_
  refine gT_n 8 ?_
  refine ⟨rfl, (pk_in 1 3 (by decide) (by decide)), fun c => absurd c (by decide), fun _ => ?_⟩
  refine gT_n 2 ?_
  refine ⟨rfl, ?_⟩
  refine gT_gf (b := b) (n := 171) (x := 35) zci127 zcj20 zcr120 rfl rfl (by decide +kernel) ?_
  refine gT_n 5 ?_
  refine ⟨rfl, (pk_in 2 3 (by decide) (by decide)), rfl, ?_⟩
  refine gT_gf (b := b) (n := 171) (x := 36) zci128 zcj20 zcr120 rfl rfl (by decide +kernel) ?_
  refine gT_n 8 ?_
  refine ⟨rfl, (pk_in 2 3 (by decide) (by decide)), fun _ => ?_, fun c => absurd (by decide) c⟩
  refine gT_n 1 ?_
  refine ⟨rfl, ?_⟩
  refine gT_n 2 ?_
  refine ⟨rfl, ?_⟩
  refine gT_gf (b := b) (n := 171) (x := 23) zci129 zcj20 zcr120 rfl rfl (by decide +kernel) ?_
  refine gT_n 2 ?_
  refine ⟨rfl, (pk_in 0 4 (by decide) (by decide)), ?_⟩
  refine gT_al (b := b) (n := 171) (k := 0) (x := 37) zci129 zcj20 zcr120 rfl (by decide) (by decide +kernel) ?_
  refine gT_n 1 ?_
  refine ⟨rfl, rfl, ?_⟩
  refine gT_n 8 ?_
  refine ⟨rfl, fun c => absurd c (by decide), fun _ => ?_⟩
  refine gT_n 2 ?_
  refine ⟨rfl, ?_⟩
  refine gT_gf (b := b) (n := 171) (x := 38) zci130 zcj20 zcr120 rfl rfl (by decide +kernel) ?_
  refine gT_n 5 ?_
  refine ⟨rfl, (pk_in 0 3 (by decide) (by decide)), rfl, ?_⟩
  refine gT_gf (b := b) (n := 171) (x := 39) zci131 zcj20 zcr120 rfl rfl (by decide +kernel) ?_
  refine gT_n 8 ?_
  refine ⟨rfl, (pk_in 0 3 (by decide) (by decide)), fun c => absurd c (by decide), fun _ => ?_⟩
  refine gT_n 2 ?_
  refine ⟨rfl, ?_⟩
  refine gT_gf (b := b) (n := 171) (x := 38) zci132 zcj20 zcr120 rfl rfl (by decide +kernel) ?_
  refine gT_n 5 ?_
  refine ⟨rfl, (pk_in 1 3 (by decide) (by decide)), rfl, ?_⟩
  refine gT_gf (b := b) (n := 171) (x := 39) zci133 zcj20 zcr120 rfl rfl (by decide +kernel) ?_
  refine gT_n 8 ?_
  refine ⟨rfl, (pk_in 1 3 (by decide) (by decide)), fun c => absurd c (by decide), fun _ => ?_⟩
  refine gT_n 2 ?_
  refine ⟨rfl, ?_⟩
  refine gT_gf (b := b) (n := 171) (x := 38) zci134 zcj20 zcr120 rfl rfl (by decide +kernel) ?_
  refine gT_n 5 ?_
  refine ⟨rfl, (pk_in 2 3 (by decide) (by decide)), rfl, ?_⟩
  refine gT_gf (b := b) (n := 171) (x := 39) zci135 zcj20 zcr120 rfl rfl (by decide +kernel) ?_
  refine gT_n 8 ?_
  refine ⟨rfl, (pk_in 2 3 (by decide) (by decide)), fun _ => ?_, fun c => absurd (by decide) c⟩
  refine gT_n 1 ?_
  refine ⟨rfl, ?_⟩
  refine gT_n 2 ?_
  refine ⟨rfl, ?_⟩
  refine gT_gf (b := b) (n := 171) (x := 24) zci136 zcj20 zcr120 rfl rfl (by decide +kernel) ?_
  refine gT_n 6 ?_
  refine ⟨rfl, (pk_in 0 4 (by decide) (by decide)), rfl, rfl, ?_⟩
  refine gT_n 2 ?_
  refine ⟨fun c => absurd c (by decide), fun _ => ?_⟩
  refine gT_n 3 ?_
  refine ⟨rfl, ?_⟩
  refine gT_gi (b := b) (n := 171) (v := 1) zci137 zcj20 zcr120 rfl hb (by decide) (fun _ => rfl) (by decide +kernel) ?_
  refine gT_n 1 ?_
  refine ⟨fun c => absurd c (by decide), fun _ => ?_⟩
  refine gT_n 3 ?_
  refine ⟨(Or.inr rfl), ?_⟩
  refine gT_n 1 ?_
  refine ⟨fun c => absurd c (by decide), fun _ => ?_⟩
  refine gT_n 2 ?_
  refine ⟨rfl, ?_⟩
  refine gT_gf (b := b) (n := 171) (x := 15) zci137 zcj20 zcr120 rfl rfl (by decide +kernel) ?_
  refine gT_n 2 ?_
  refine ⟨(Or.inr rfl), (pk_in 0 4 (by decide) (by decide)), ?_⟩
  refine gT_bl (b := b) (n := 171) (k := 0) (v := 1) zci137 zcj20 zcr120 rfl hb (by decide) (by decide) (by decide +kernel) ?_
  refine gT_n 1 ?_
  refine ⟨fun c => absurd c (by decide), fun _ => ?_⟩
  refine gT_n 2 ?_
  refine ⟨rfl, ?_⟩
  refine gT_gf (b := b) (n := 171) (x := 22) zci137 zcj20 zcr120 rfl rfl (by decide +kernel) ?_
  refine gT_n 2 ?_
  refine ⟨rfl, (pk_in 0 4 (by decide) (by decide)), ?_⟩
  refine gT_al (b := b) (n := 171) (k := 0) (x := 34) zci137 zcj20 zcr120 rfl (by decide) (by decide +kernel) ?_
  refine gT_n 5 ?_
  refine ⟨rfl, rfl, ?_⟩
  refine gT_n 2 ?_
  refine ⟨rfl, ?_⟩
  refine gT_gi (b := b) (n := 171) (v := 0) zci137 zcj20 zcr120 rfl hb (by decide) (fun _ => rfl) (by decide +kernel) ?_
  refine gT_n 2 ?_
  refine ⟨fun _ => ?_, fun c => absurd (by decide) c⟩
  refine gT_n 2 ?_
  refine ⟨rfl, ?_⟩
  refine gT_gi (b := b) (n := 171) (v := 0) zci137 zcj20 zcr120 rfl hb (by decide) (fun _ => rfl) (by decide +kernel) ?_
  refine gT_n 3 ?_
  refine ⟨fun _ => ?_, fun c => absurd (by decide) c⟩
  refine gT_n 2 ?_
  refine ⟨rfl, ?_⟩
  refine gT_gf (b := b) (n := 171) (x := 35) zci137 zcj20 zcr120 rfl rfl (by decide +kernel) ?_
  refine gT_n 5 ?_
  refine ⟨rfl, (pk_in 0 3 (by decide) (by decide)), rfl, ?_⟩
  refine gT_gf (b := b) (n := 171) (x := 36) zci138 zcj20 zcr120 rfl rfl (by decide +kernel) ?_
  refine gT_n 6 ?_
  refine ⟨rfl, (pk_in 0 3 (by decide) (by decide)), rfl, ?_⟩
  refine gT_gi (b := b) (n := 171) (v := 0) zci139 zcj20 zcr120 rfl hb (by decide) (fun _ => rfl) (by decide +kernel) ?_
  refine gT_n 4 ?_
  refine ⟨rfl, rfl, ?_⟩
  refine gT_n 2 ?_
  refine ⟨rfl, ?_⟩
  refine gT_gf (b := b) (n := 171) (x := 23) zci140 zcj20 zcr120 rfl rfl (by decide +kernel) ?_
  refine gT_n 2 ?_
  refine ⟨rfl, (pk_in 0 4 (by decide) (by decide)), ?_⟩
  refine gT_al (b := b) (n := 171) (k := 0) (x := 37) zci140 zcj20 zcr120 rfl (by decide) (by decide +kernel) ?_
  refine gT_n 5 ?_
  refine ⟨rfl, rfl, ?_⟩
  refine gT_n 2 ?_
  refine ⟨rfl, ?_⟩
  refine gT_gi (b := b) (n := 171) (v := 0) zci140 zcj20 zcr120 rfl hb (by decide) (fun _ => rfl) (by decide +kernel) ?_
  refine gT_n 2 ?_
  refine ⟨fun _ => ?_, fun c => absurd (by decide) c⟩
  refine gT_n 2 ?_
  refine ⟨rfl, ?_⟩
  refine gT_gi (b := b) (n := 171) (v := 0) zci140 zcj20 zcr120 rfl hb (by decide) (fun _ => rfl) (by decide +kernel) ?_
  refine gT_n 3 ?_
  refine ⟨fun _ => ?_, fun c => absurd (by decide) c⟩
  refine gT_n 2 ?_
  refine ⟨rfl, ?_⟩
  refine gT_gf (b := b) (n := 171) (x := 38) zci140 zcj20 zcr120 rfl rfl (by decide +kernel) ?_
  refine gT_n 5 ?_
  refine ⟨rfl, (pk_in 0 3 (by decide) (by decide)), rfl, ?_⟩
  refine gT_gf (b := b) (n := 171) (x := 39) zci141 zcj20 zcr120 rfl rfl (by decide +kernel) ?_
  refine gT_n 6 ?_
  refine ⟨rfl, (pk_in 0 3 (by decide) (by decide)), rfl, ?_⟩
  refine gT_gi (b := b) (n := 171) (v := 0) zci142 zcj20 zcr120 rfl hb (by decide) (fun _ => rfl) (by decide +kernel) ?_
  refine gT_n 4 ?_
  refine ⟨rfl, rfl, ?_⟩
  refine gT_n 2 ?_
  refine ⟨rfl, ?_⟩
  refine gT_gf (b := b) (n := 171) (x := 24) zci143 zcj20 zcr120 rfl rfl (by decide +kernel) ?_
  refine gT_n 10 ?_
  refine ⟨rfl, (pk_in 0 4 (by decide) (by decide)), fun c => absurd c (by decide), fun _ => ?_⟩
  refine gT_n 2 ?_
  refine ⟨rfl, ?_⟩
  refine gT_gf (b := b) (n := 171) (x := 22) zci144 zcj20 zcr120 rfl rfl (by decide +kernel) ?_
  refine gT_n 2 ?_
  refine ⟨rfl, (pk_in 1 4 (by decide) (by decide)), ?_⟩
  refine gT_al (b := b) (n := 171) (k := 1) (x := 40) zci144 zcj20 zcr120 rfl (by decide) (by decide +kernel) ?_
  refine gT_n 1 ?_
  refine ⟨rfl, rfl, ?_⟩
  refine gT_n 8 ?_
  refine ⟨rfl, fun c => absurd c (by decide), fun _ => ?_⟩
  refine gT_n 2 ?_
  refine ⟨rfl, ?_⟩
  refine gT_gf (b := b) (n := 171) (x := 41) zci145 zcj20 zcr120 rfl rfl (by decide +kernel) ?_
  refine gT_n 5 ?_
  refine ⟨rfl, (pk_in 0 3 (by decide) (by decide)), rfl, ?_⟩
  refine gT_gf (b := b) (n := 171) (x := 42) zci146 zcj20 zcr120 rfl rfl (by decide +kernel) ?_
  refine gT_n 8 ?_
  refine ⟨rfl, (pk_in 0 3 (by decide) (by decide)), fun c => absurd c (by decide), fun _ => ?_⟩
  refine gT_n 2 ?_
  refine ⟨rfl, ?_⟩
  refine gT_gf (b := b) (n := 171) (x := 41) zci147 zcj20 zcr120 rfl rfl (by decide +kernel) ?_
  refine gT_n 5 ?_
  refine ⟨rfl, (pk_in 1 3 (by decide) (by decide)), rfl, ?_⟩
  refine gT_gf (b := b) (n := 171) (x := 42) zci148 zcj20 zcr120 rfl rfl (by decide +kernel) ?_
  refine gT_n 8 ?_
  refine ⟨rfl, (pk_in 1 3 (by decide) (by decide)), fun c => absurd c (by decide), fun _ => ?_⟩
  refine gT_n 2 ?_
  refine ⟨rfl, ?_⟩
  refine gT_gf (b := b) (n := 171) (x := 41) zci149 zcj20 zcr120 rfl rfl (by decide +kernel) ?_
  refine gT_n 5 ?_
  refine ⟨rfl, (pk_in 2 3 (by decide) (by decide)), rfl, ?_⟩
  refine gT_gf (b := b) (n := 171) (x := 42) zci150 zcj20 zcr120 rfl rfl (by decide +kernel) ?_
  refine gT_n 8 ?_
  refine ⟨rfl, (pk_in 2 3 (by decide) (by decide)), fun _ => ?_, fun c => absurd (by decide) c⟩
  refine gT_n 1 ?_
  refine ⟨rfl, ?_⟩
  refine gT_n 2 ?_
  refine ⟨rfl, ?_⟩
  refine gT_gf (b := b) (n := 171) (x := 23) zci151 zcj20 zcr120 rfl rfl (by decide +kernel) ?_
  refine gT_n 2 ?_
  refine ⟨rfl, (pk_in 1 4 (by decide) (by decide)), ?_⟩
  refine gT_al (b := b) (n := 171) (k := 1) (x := 43) zci151 zcj20 zcr120 rfl (by decide) (by decide +kernel) ?_
  refine gT_n 1 ?_
  refine ⟨rfl, rfl, ?_⟩
  refine gT_n 8 ?_
  refine ⟨rfl, fun c => absurd c (by decide), fun _ => ?_⟩
  refine gT_n 2 ?_
  refine ⟨rfl, ?_⟩
  refine gT_gf (b := b) (n := 171) (x := 44) zci152 zcj20 zcr120 rfl rfl (by decide +kernel) ?_
  refine gT_n 5 ?_
  refine ⟨rfl, (pk_in 0 3 (by decide) (by decide)), rfl, ?_⟩
  refine gT_gf (b := b) (n := 171) (x := 45) zci153 zcj20 zcr120 rfl rfl (by decide +kernel) ?_
  refine gT_n 8 ?_
  refine ⟨rfl, (pk_in 0 3 (by decide) (by decide)), fun c => absurd c (by decide), fun _ => ?_⟩
  refine gT_n 2 ?_
  refine ⟨rfl, ?_⟩
  refine gT_gf (b := b) (n := 171) (x := 44) zci154 zcj20 zcr120 rfl rfl (by decide +kernel) ?_
  refine gT_n 5 ?_
  refine ⟨rfl, (pk_in 1 3 (by decide) (by decide)), rfl, ?_⟩
  refine gT_gf (b := b) (n := 171) (x := 45) zci155 zcj20 zcr120 rfl rfl (by decide +kernel) ?_
  refine gT_n 8 ?_
  refine ⟨rfl, (pk_in 1 3 (by decide) (by decide)), fun c => absurd c (by decide), fun _ => ?_⟩
  refine gT_n 2 ?_
  refine ⟨rfl, ?_⟩
  refine gT_gf (b := b) (n := 171) (x := 44) zci156 zcj20 zcr120 rfl rfl (by decide +kernel) ?_
  refine gT_n 5 ?_
  refine ⟨rfl, (pk_in 2 3 (by decide) (by decide)), rfl, ?_⟩
  refine gT_gf (b := b) (n := 171) (x := 45) zci157 zcj20 zcr120 rfl rfl (by decide +kernel) ?_
  refine gT_n 8 ?_
  refine ⟨rfl, (pk_in 2 3 (by decide) (by decide)), fun _ => ?_, fun c => absurd (by decide) c⟩
  refine gT_n 1 ?_
  refine ⟨rfl, ?_⟩
  refine gT_n 2 ?_
  refine ⟨rfl, ?_⟩
  refine gT_gf (b := b) (n := 171) (x := 24) zci158 zcj20 zcr120 rfl rfl (by decide +kernel) ?_
  refine gT_n 6 ?_
  refine ⟨rfl, (pk_in 1 4 (by decide) (by decide)), rfl, rfl, ?_⟩
  refine gT_n 2 ?_
  refine ⟨fun c => absurd c (by decide), fun _ => ?_⟩
  refine gT_n 3 ?_
  refine ⟨rfl, ?_⟩
  refine gT_gi (b := b) (n := 171) (v := 1) zci159 zcj20 zcr120 rfl hb (by decide) (fun _ => rfl) (by decide +kernel) ?_
  refine gT_n 1 ?_
  refine ⟨fun _ => ?_, fun c => absurd (by decide) c⟩
  refine gT_n 2 ?_
  refine ⟨(Or.inl rfl), ?_⟩
  refine gT_n 1 ?_
  refine ⟨fun _ => ?_, fun c => absurd (by decide) c⟩
  refine gT_n 5 ?_
  refine ⟨fun c => absurd c (by decide), fun _ => ?_⟩
  refine gT_n 2 ?_
  refine ⟨rfl, ?_⟩
  refine gT_gf (b := b) (n := 171) (x := 22) zci159 zcj20 zcr120 rfl rfl (by decide +kernel) ?_
  refine gT_n 2 ?_
  refine ⟨rfl, (pk_in 2 4 (by decide) (by decide)), ?_⟩
  refine gT_al (b := b) (n := 171) (k := 2) (x := 46) zci159 zcj20 zcr120 rfl (by decide) (by decide +kernel) ?_
  refine gT_n 1 ?_
  refine ⟨rfl, rfl, ?_⟩
  refine gT_n 8 ?_
  refine ⟨rfl, fun c => absurd c (by decide), fun _ => ?_⟩
  refine gT_n 2 ?_
  refine ⟨rfl, ?_⟩
  refine gT_gf (b := b) (n := 171) (x := 47) zci160 zcj20 zcr120 rfl rfl (by decide +kernel) ?_
  refine gT_n 5 ?_
  refine ⟨rfl, (pk_in 0 3 (by decide) (by decide)), rfl, ?_⟩
  refine gT_gf (b := b) (n := 171) (x := 48) zci161 zcj20 zcr120 rfl rfl (by decide +kernel) ?_
  refine gT_n 8 ?_
  refine ⟨rfl, (pk_in 0 3 (by decide) (by decide)), fun c => absurd c (by decide), fun _ => ?_⟩
  refine gT_n 2 ?_
  refine ⟨rfl, ?_⟩
  refine gT_gf (b := b) (n := 171) (x := 47) zci162 zcj20 zcr120 rfl rfl (by decide +kernel) ?_
  refine gT_n 5 ?_
  refine ⟨rfl, (pk_in 1 3 (by decide) (by decide)), rfl, ?_⟩
  refine gT_gf (b := b) (n := 171) (x := 48) zci163 zcj20 zcr120 rfl rfl (by decide +kernel) ?_
  refine gT_n 8 ?_
  refine ⟨rfl, (pk_in 1 3 (by decide) (by decide)), fun c => absurd c (by decide), fun _ => ?_⟩
  refine gT_n 2 ?_
  refine ⟨rfl, ?_⟩
  refine gT_gf (b := b) (n := 171) (x := 47) zci164 zcj20 zcr120 rfl rfl (by decide +kernel) ?_
  refine gT_n 5 ?_
  refine ⟨rfl, (pk_in 2 3 (by decide) (by decide)), rfl, ?_⟩
  refine gT_gf (b := b) (n := 171) (x := 48) zci165 zcj20 zcr120 rfl rfl (by decide +kernel) ?_
  refine gT_n 8 ?_
  refine ⟨rfl, (pk_in 2 3 (by decide) (by decide)), fun _ => ?_, fun c => absurd (by decide) c⟩
  refine gT_n 1 ?_
  refine ⟨rfl, ?_⟩
  refine gT_n 2 ?_
  refine ⟨rfl, ?_⟩
  refine gT_gf (b := b) (n := 171) (x := 23) zci166 zcj20 zcr120 rfl rfl (by decide +kernel) ?_
  refine gT_n 2 ?_
  refine ⟨rfl, (pk_in 2 4 (by decide) (by decide)), ?_⟩
  refine gT_al (b := b) (n := 171) (k := 2) (x := 49) zci166 zcj20 zcr120 rfl (by decide) (by decide +kernel) ?_
  refine gT_n 1 ?_
  refine ⟨rfl, rfl, ?_⟩
  refine gT_n 8 ?_
  refine ⟨rfl, fun c => absurd c (by decide), fun _ => ?_⟩
  refine gT_n 2 ?_
  refine ⟨rfl, ?_⟩
  refine gT_gf (b := b) (n := 171) (x := 50) zci167 zcj20 zcr120 rfl rfl (by decide +kernel) ?_
  refine gT_n 5 ?_
  refine ⟨rfl, (pk_in 0 3 (by decide) (by decide)), rfl, ?_⟩
  refine gT_gf (b := b) (n := 171) (x := 51) zci168 zcj20 zcr120 rfl rfl (by decide +kernel) ?_
  refine gT_n 8 ?_
  refine ⟨rfl, (pk_in 0 3 (by decide) (by decide)), fun c => absurd c (by decide), fun _ => ?_⟩
  refine gT_n 2 ?_
  refine ⟨rfl, ?_⟩
  refine gT_gf (b := b) (n := 171) (x := 50) zci169 zcj20 zcr120 rfl rfl (by decide +kernel) ?_
  refine gT_n 5 ?_
  refine ⟨rfl, (pk_in 1 3 (by decide) (by decide)), rfl, ?_⟩
  refine gT_gf (b := b) (n := 171) (x := 51) zci170 zcj20 zcr120 rfl rfl (by decide +kernel) ?_
  refine gT_n 8 ?_
  refine ⟨rfl, (pk_in 1 3 (by decide) (by decide)), fun c => absurd c (by decide), fun _ => ?_⟩
  refine gT_n 2 ?_
  refine ⟨rfl, ?_⟩
  refine gT_gf (b := b) (n := 171) (x := 50) zci171 zcj20 zcr120 rfl rfl (by decide +kernel) ?_
  refine gT_n 5 ?_
  refine ⟨rfl, (pk_in 2 3 (by decide) (by decide)), rfl, ?_⟩
  refine gT_gf (b := b) (n := 171) (x := 51) zci172 zcj20 zcr120 rfl rfl (by decide +kernel) ?_
  refine gT_n 8 ?_
  refine ⟨rfl, (pk_in 2 3 (by decide) (by decide)), fun _ => ?_, fun c => absurd (by decide) c⟩
  refine gT_n 1 ?_
  refine ⟨rfl, ?_⟩
  refine gT_n 2 ?_
  refine ⟨rfl, ?_⟩
  refine gT_gf (b := b) (n := 171) (x := 24) zci173 zcj20 zcr120 rfl rfl (by decide +kernel) ?_
  refine gT_n 6 ?_
  refine ⟨rfl, (pk_in 2 4 (by decide) (by decide)), rfl, rfl, ?_⟩
  refine gT_n 2 ?_
  refine ⟨fun c => absurd c (by decide), fun _ => ?_⟩
  refine gT_n 3 ?_
  refine ⟨rfl, ?_⟩
  refine gT_gi (b := b) (n := 171) (v := 1) zci174 zcj20 zcr120 rfl hb (by decide) (fun _ => rfl) (by decide +kernel) ?_
  refine gT_n 1 ?_
  refine ⟨fun _ => ?_, fun c => absurd (by decide) c⟩
  refine gT_n 2 ?_
  refine ⟨(Or.inl rfl), ?_⟩
  refine gT_n 1 ?_
  refine ⟨fun _ => ?_, fun c => absurd (by decide) c⟩
  refine gT_n 5 ?_
  refine ⟨fun c => absurd c (by decide), fun _ => ?_⟩
  refine gT_n 2 ?_
  refine ⟨rfl, ?_⟩
  refine gT_gf (b := b) (n := 171) (x := 22) zci174 zcj20 zcr120 rfl rfl (by decide +kernel) ?_
  refine gT_n 2 ?_
  refine ⟨rfl, (pk_in 3 4 (by decide) (by decide)), ?_⟩
  refine gT_al (b := b) (n := 171) (k := 3) (x := 52) zci174 zcj20 zcr120 rfl (by decide) (by decide +kernel) ?_
  refine gT_n 1 ?_
  refine ⟨rfl, rfl, ?_⟩
  refine gT_n 8 ?_
  refine ⟨rfl, fun c => absurd c (by decide), fun _ => ?_⟩
  refine gT_n 2 ?_
  refine ⟨rfl, ?_⟩
  refine gT_gf (b := b) (n := 171) (x := 53) zci175 zcj20 zcr120 rfl rfl (by decide +kernel) ?_
  refine gT_n 5 ?_
  refine ⟨rfl, (pk_in 0 3 (by decide) (by decide)), rfl, ?_⟩
  refine gT_gf (b := b) (n := 171) (x := 54) zci176 zcj20 zcr120 rfl rfl (by decide +kernel) ?_
  refine gT_n 8 ?_
  refine ⟨rfl, (pk_in 0 3 (by decide) (by decide)), fun c => absurd c (by decide), fun _ => ?_⟩
  refine gT_n 2 ?_
  refine ⟨rfl, ?_⟩
  refine gT_gf (b := b) (n := 171) (x := 53) zci177 zcj20 zcr120 rfl rfl (by decide +kernel) ?_
  refine gT_n 5 ?_
  refine ⟨rfl, (pk_in 1 3 (by decide) (by decide)), rfl, ?_⟩
  refine gT_gf (b := b) (n := 171) (x := 54) zci178 zcj20 zcr120 rfl rfl (by decide +kernel) ?_
  refine gT_n 8 ?_
  refine ⟨rfl, (pk_in 1 3 (by decide) (by decide)), fun c => absurd c (by decide), fun _ => ?_⟩
  refine gT_n 2 ?_
  refine ⟨rfl, ?_⟩
  refine gT_gf (b := b) (n := 171) (x := 53) zci179 zcj20 zcr120 rfl rfl (by decide +kernel) ?_
  refine gT_n 5 ?_
  refine ⟨rfl, (pk_in 2 3 (by decide) (by decide)), rfl, ?_⟩
  refine gT_gf (b := b) (n := 171) (x := 54) zci180 zcj20 zcr120 rfl rfl (by decide +kernel) ?_
  refine gT_n 8 ?_
  refine ⟨rfl, (pk_in 2 3 (by decide) (by decide)), fun _ => ?_, fun c => absurd (by decide) c⟩
  refine gT_n 1 ?_
  refine ⟨rfl, ?_⟩
  refine gT_n 2 ?_
  refine ⟨rfl, ?_⟩
  refine gT_gf (b := b) (n := 171) (x := 23) zci181 zcj20 zcr120 rfl rfl (by decide +kernel) ?_
  refine gT_n 2 ?_
  refine ⟨rfl, (pk_in 3 4 (by decide) (by decide)), ?_⟩
  refine gT_al (b := b) (n := 171) (k := 3) (x := 55) zci181 zcj20 zcr120 rfl (by decide) (by decide +kernel) ?_
  refine gT_n 1 ?_
  refine ⟨rfl, rfl, ?_⟩
  refine gT_n 8 ?_
  refine ⟨rfl, fun c => absurd c (by decide), fun _ => ?_⟩
  refine gT_n 2 ?_
  refine ⟨rfl, ?_⟩
  refine gT_gf (b := b) (n := 171) (x := 56) zci182 zcj20 zcr120 rfl rfl (by decide +kernel) ?_
  refine gT_n 5 ?_
  refine ⟨rfl, (pk_in 0 3 (by decide) (by decide)), rfl, ?_⟩
  refine gT_gf (b := b) (n := 171) (x := 57) zci183 zcj20 zcr120 rfl rfl (by decide +kernel) ?_
  refine gT_n 8 ?_
  refine ⟨rfl, (pk_in 0 3 (by decide) (by decide)), fun c => absurd c (by decide), fun _ => ?_⟩
  refine gT_n 2 ?_
  refine ⟨rfl, ?_⟩
  refine gT_gf (b := b) (n := 171) (x := 56) zci184 zcj20 zcr120 rfl rfl (by decide +kernel) ?_
  refine gT_n 5 ?_
  refine ⟨rfl, (pk_in 1 3 (by decide) (by decide)), rfl, ?_⟩
  refine gT_gf (b := b) (n := 171) (x := 57) zci185 zcj20 zcr120 rfl rfl (by decide +kernel) ?_
  refine gT_n 8 ?_
  refine ⟨rfl, (pk_in 1 3 (by decide) (by decide)), fun c => absurd c (by decide), fun _ => ?_⟩
  refine gT_n 2 ?_
  refine ⟨rfl, ?_⟩
  refine gT_gf (b := b) (n := 171) (x := 56) zci186 zcj20 zcr120 rfl rfl (by decide +kernel) ?_
  refine gT_n 5 ?_
  refine ⟨rfl, (pk_in 2 3 (by decide) (by decide)), rfl, ?_⟩
  refine gT_gf (b := b) (n := 171) (x := 57) zci187 zcj20 zcr120 rfl rfl (by decide +kernel) ?_
  refine gT_n 8 ?_
  refine ⟨rfl, (pk_in 2 3 (by decide) (by decide)), fun _ => ?_, fun c => absurd (by decide) c⟩
  refine gT_n 1 ?_
  refine ⟨rfl, ?_⟩
  refine gT_n 2 ?_
  refine ⟨rfl, ?_⟩
  refine gT_gf (b := b) (n := 171) (x := 24) zci188 zcj20 zcr120 rfl rfl (by decide +kernel) ?_
  refine gT_n 6 ?_
  refine ⟨rfl, (pk_in 3 4 (by decide) (by decide)), rfl, rfl, ?_⟩
  refine gT_n 2 ?_
  refine ⟨fun c => absurd c (by decide), fun _ => ?_⟩
  refine gT_n 3 ?_
  refine ⟨rfl, ?_⟩
  refine gT_gi (b := b) (n := 171) (v := 1) zci189 zcj20 zcr120 rfl hb (by decide) (fun _ => rfl) (by decide +kernel) ?_
  refine gT_n 1 ?_
  refine ⟨fun _ => ?_, fun c => absurd (by decide) c⟩
  refine gT_n 2 ?_
  refine ⟨(Or.inl rfl), ?_⟩
  refine gT_n 1 ?_
  refine ⟨fun _ => ?_, fun c => absurd (by decide) c⟩
  refine gT_n 5 ?_
  refine ⟨fun _ => ?_, fun c => absurd (by decide) c⟩
  refine gT_n 1 ?_
  refine ⟨rfl, ?_⟩
  refine gT_n 2 ?_
  refine ⟨rfl, ?_⟩
  refine gT_gf (b := b) (n := 171) (x := 145) zci189 zcj20 zcr120 rfl rfl (by decide +kernel) ?_
  refine gT_n 4 ?_
  refine ⟨rfl, (Or.inl rfl), rfl, ?_⟩
  refine gT_gf (b := b) (n := 171) (x := 167) zci190 zcj20 zcr120 rfl rfl (by decide +kernel) ?_
  refine gT_n 7 ?_
  refine ⟨rfl, (Or.inl rfl), fun c => absurd c (by decide), fun _ => ?_⟩
  refine gT_n 2 ?_
  refine ⟨rfl, ?_⟩
  refine gT_gf (b := b) (n := 171) (x := 141) zci191 zcj20 zcr120 rfl rfl (by decide +kernel) ?_
  refine gT_n 8 ?_
  refine ⟨(Or.inr rfl), (pk_in 0 2 (by decide) (by decide)), (Or.inr ⟨rfl, Or.inl rfl⟩), fun c => absurd c (by decide), fun _ => ?_⟩
  refine gT_n 2 ?_
  refine ⟨rfl, ?_⟩
  refine gT_gf (b := b) (n := 171) (x := 141) zci192 zcj20 zcr120 rfl rfl (by decide +kernel) ?_
  refine gT_n 8 ?_
  refine ⟨(Or.inr rfl), (pk_in 1 2 (by decide) (by decide)), (Or.inr ⟨rfl, Or.inl rfl⟩), fun _ => ?_, fun c => absurd (by decide) c⟩
  refine gT_n 4 ?_
  refine ⟨rfl, rfl, ?_⟩
  refine gT_n 1 ?_
  refine ⟨rfl, ?_⟩
  exact hQ
