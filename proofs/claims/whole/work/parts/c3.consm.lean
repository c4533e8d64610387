/-! the reference's constructor, run -/
def zmr1 : List (Nat × Nat × Option Nat) := (171, 0, some 172) :: zcr120
def zmi2 : List (Nat × Nat × Int32) := (171, 3, 10) :: (171, 2, 1) :: zci193
def zmr3 : List (Nat × Nat × Option Nat) := (171, 1, some 173) :: zmr1
def zmr4 : List (Nat × Nat × Option Nat) := (171, 4, some 174) :: zmr3
def zmr5 : List (Nat × Nat × Option Nat) := (171, 5, some 175) :: zmr4
def zmr6 : List (Nat × Nat × Option Nat) := (171, 6, some 176) :: zmr5
def zmr7 : List (Nat × Nat × Option Nat) := (171, 8, some 177) :: zmr6
def zmr8 : List (Nat × Nat × Option Nat) := (171, 9, some 178) :: zmr7
def zmr9 : List (Nat × Nat × Option Nat) := (171, 10, some 179) :: zmr8
def zmr10 : List (Nat × Nat × Option Nat) := (171, 11, some 180) :: zmr9
def zmr11 : List (Nat × Nat × Option Nat) := (171, 12, some 181) :: zmr10
def zmr12 : List (Nat × Nat × Option Nat) := (171, 13, some 182) :: zmr11
def zmr13 : List (Nat × Nat × Option Nat) := (171, 14, some 183) :: zmr12
def zmr14 : List (Nat × Nat × Option Nat) := (171, 17, some 184) :: zmr13
def zmi15 : List (Nat × Nat × Int32) := (185, 1, 4) :: (185, 0, 0) :: zmi2
def zmi16 : List (Nat × Nat × Int32) := (185, 3, 12) :: (185, 2, 9) :: zmi15
def zmi17 : List (Nat × Nat × Int32) := (185, 4, 16) :: zmi16
def zmr18 : List (Nat × Nat × Option Nat) := (171, 25, some 185) :: zmr14
def zmi19 : List (Nat × Nat × Int32) := (186, 1, 111) :: (186, 0, 122) :: zmi17
def zmi20 : List (Nat × Nat × Int32) := (186, 3, 101) :: (186, 2, 110) :: zmi19
def zmi21 : List (Nat × Nat × Int32) := (186, 5, 108) :: (186, 4, 112) :: zmi20
def zmi22 : List (Nat × Nat × Int32) := (186, 7, 105) :: (186, 6, 97) :: zmi21
def zmi23 : List (Nat × Nat × Int32) := (186, 9, 114) :: (186, 8, 110) :: zmi22
def zmi24 : List (Nat × Nat × Int32) := (186, 11, 99) :: (186, 10, 101) :: zmi23
def zmi25 : List (Nat × Nat × Int32) := (186, 13, 112) :: (186, 12, 115) :: zmi24
def zmi26 : List (Nat × Nat × Int32) := (186, 15, 110) :: (186, 14, 97) :: zmi25
def zmr27 : List (Nat × Nat × Option Nat) := (171, 26, some 186) :: zmr18
def zmr28 : List (Nat × Nat × Option Nat) := (171, 27, some 187) :: zmr27
def zmr29 : List (Nat × Nat × Option Nat) := (171, 28, some 188) :: zmr28
def zmr30 : List (Nat × Nat × Option Nat) := (171, 30, some 189) :: zmr29
def zmr31 : List (Nat × Nat × Option Nat) := (171, 31, some 190) :: zmr30
def zmr32 : List (Nat × Nat × Option Nat) := (171, 32, some 191) :: zmr31
def zmr33 : List (Nat × Nat × Option Nat) := (171, 36, some 192) :: zmr32
def zmr34 : List (Nat × Nat × Option Nat) := (171, 37, some 193) :: zmr33
def zmr35 : List (Nat × Nat × Option Nat) := (171, 38, some 194) :: zmr34
def zmr36 : List (Nat × Nat × Option Nat) := (171, 39, some 195) :: zmr35
def zmr37 : List (Nat × Nat × Option Nat) := (171, 40, some 196) :: zmr36
def zmr38 : List (Nat × Nat × Option Nat) := (171, 41, some 197) :: zmr37
def zmr39 : List (Nat × Nat × Option Nat) := (171, 42, some 198) :: zmr38
def zmr40 : List (Nat × Nat × Option Nat) := (171, 43, some 199) :: zmr39
def zmr41 : List (Nat × Nat × Option Nat) := (171, 44, some 200) :: zmr40
def zmr42 : List (Nat × Nat × Option Nat) := (171, 50, some 201) :: zmr41
def zmr43 : List (Nat × Nat × Option Nat) := (171, 52, some 202) :: zmr42
def zmr44 : List (Nat × Nat × Option Nat) := (171, 53, some 203) :: zmr43
def zmr45 : List (Nat × Nat × Option Nat) := (171, 54, some 204) :: zmr44
def zmr46 : List (Nat × Nat × Option Nat) := (171, 55, some 205) :: zmr45
def zmr47 : List (Nat × Nat × Option Nat) := (171, 61, some 206) :: zmr46
def zmr48 : List (Nat × Nat × Option Nat) := (171, 62, some 207) :: zmr47
def zmr49 : List (Nat × Nat × Option Nat) := (171, 63, some 208) :: zmr48
def zmr50 : List (Nat × Nat × Option Nat) := (171, 64, some 209) :: zmr49
def zmr51 : List (Nat × Nat × Option Nat) := (171, 65, some 210) :: zmr50
def zmr52 : List (Nat × Nat × Option Nat) := (171, 66, some 211) :: zmr51
def zmr53 : List (Nat × Nat × Option Nat) := (171, 67, some 212) :: zmr52
def zmi54 : List (Nat × Nat × Int32) := (171, 15, 0) :: (173, 0, 1) :: zmi26
def zmi55 : List (Nat × Nat × Int32) := (179, 0, 0) :: zmi54
def zmi56 : List (Nat × Nat × Int32) := (183, 0, 0) :: zmi55
def zmi57 : List (Nat × Nat × Int32) := (180, 0, (-4)) :: zmi56
def zmi58 : List (Nat × Nat × Int32) := (179, 0, 1) :: zmi57
def zmi59 : List (Nat × Nat × Int32) := (177, 0, (10 + 0)) :: zmi58
def zmi60 : List (Nat × Nat × Int32) := (178, 0, 0) :: zmi59
def zmi61 : List (Nat × Nat × Int32) := (180, 0, (10 + 0)) :: zmi60
def zmi62 : List (Nat × Nat × Int32) := (183, 0, 1) :: zmi61
def zmi63 : List (Nat × Nat × Int32) := (181, 0, (10 + 0)) :: zmi62
def zmi64 : List (Nat × Nat × Int32) := (182, 0, 0) :: zmi63
def zmi65 : List (Nat × Nat × Int32) := (179, 1, 0) :: zmi64
def zmi66 : List (Nat × Nat × Int32) := (183, 1, 0) :: zmi65
def zmi67 : List (Nat × Nat × Int32) := (180, 1, (-4)) :: zmi66
def zmi68 : List (Nat × Nat × Int32) := (179, 2, 0) :: zmi67
def zmi69 : List (Nat × Nat × Int32) := (183, 2, 0) :: zmi68
def zmi70 : List (Nat × Nat × Int32) := (180, 2, (-4)) :: zmi69
def zmi71 : List (Nat × Nat × Int32) := (179, 3, 0) :: zmi70
def zmi72 : List (Nat × Nat × Int32) := (183, 3, 0) :: zmi71
def zmi73 : List (Nat × Nat × Int32) := (180, 3, (-4)) :: zmi72
def zmi74 : List (Nat × Nat × Int32) := (171, 56, 0) :: (171, 57, 0) :: (171, 46, 0) :: zmi73
def zmi75 : List (Nat × Nat × Int32) := (209, 0, 0) :: zmi74
def zmi76 : List (Nat × Nat × Int32) := (209, 1, 0) :: zmi75
def zmj77 : List (Nat × Nat × Int64) := (171, 16, 0) :: zcj194
set_option maxRecDepth 65536 in
set_option maxHeartbeats 4000000 in
theorem k_model {b : Nat → Nat → Int32} {Q : Option Value → gW → Prop} (hb : ∀ m, m < 1000 → b m = fun _ => 0) (hQ : Q none (gD b 213 zmi76 zmj77 zmr53)) : gTM 14 155 [.ref 171] (gD b 172 zci193 zcj194 zcr120) Q := by
  refine gT_n 5 ?_
  refine ⟨rfl, (by decide), rfl, ?_⟩
  refine gT_nw (cu := (1, 4)) (n := 172) (b := b) zci193 zcj194 zcr120 rfl rfl rfl (hb _ (by decide)) rfl (by decide +kernel) ?_
  refine gT_n 4 ?_
  refine ⟨rfl, (by decide), rfl, ?_⟩
  refine gT_nw (cu := (2, 8)) (n := 173) (b := b) zci193 zcj194 zmr1 rfl rfl rfl (hb _ (by decide)) rfl (by decide +kernel) ?_
  refine gT_n 10 ?_
  refine ⟨rfl, rfl, rfl, (by decide), rfl, ?_⟩
  refine gT_nw (cu := (3, 33)) (n := 174) (b := b) zmi2 zcj194 zmr3 rfl rfl rfl (hb _ (by decide)) rfl (by decide +kernel) ?_
  refine gT_n 4 ?_
  refine ⟨rfl, (by decide), rfl, ?_⟩
  refine gT_nw (cu := (4, 58)) (n := 175) (b := b) zmi2 zcj194 zmr4 rfl rfl rfl (hb _ (by decide)) rfl (by decide +kernel) ?_
  refine gT_n 4 ?_
  refine ⟨rfl, (by decide), rfl, ?_⟩
  refine gT_nw (cu := (5, 83)) (n := 176) (b := b) zmi2 zcj194 zmr5 rfl rfl rfl (hb _ (by decide)) rfl (by decide +kernel) ?_
  refine gT_n 4 ?_
  refine ⟨rfl, (by decide), rfl, ?_⟩
  refine gT_nw (cu := (6, 95)) (n := 177) (b := b) zmi2 zcj194 zmr6 rfl rfl rfl (hb _ (by decide)) rfl (by decide +kernel) ?_
  refine gT_n 4 ?_
  refine ⟨rfl, (by decide), rfl, ?_⟩
  refine gT_nw (cu := (7, 107)) (n := 178) (b := b) zmi2 zcj194 zmr7 rfl rfl rfl (hb _ (by decide)) rfl (by decide +kernel) ?_
  refine gT_n 4 ?_
  refine ⟨rfl, (by decide), rfl, ?_⟩
  refine gT_nw (cu := (8, 111)) (n := 179) (b := b) zmi2 zcj194 zmr8 rfl rfl rfl (hb _ (by decide)) rfl (by decide +kernel) ?_
  refine gT_n 4 ?_
  refine ⟨rfl, (by decide), rfl, ?_⟩
  refine gT_nw (cu := (9, 115)) (n := 180) (b := b) zmi2 zcj194 zmr9 rfl rfl rfl (hb _ (by decide)) rfl (by decide +kernel) ?_
  refine gT_n 4 ?_
  refine ⟨rfl, (by decide), rfl, ?_⟩
  refine gT_nw (cu := (10, 123)) (n := 181) (b := b) zmi2 zcj194 zmr10 rfl rfl rfl (hb _ (by decide)) rfl (by decide +kernel) ?_
  refine gT_n 4 ?_
  refine ⟨rfl, (by decide), rfl, ?_⟩
  refine gT_nw (cu := (11, 131)) (n := 182) (b := b) zmi2 zcj194 zmr11 rfl rfl rfl (hb _ (by decide)) rfl (by decide +kernel) ?_
  refine gT_n 4 ?_
  refine ⟨rfl, (by decide), rfl, ?_⟩
  refine gT_nw (cu := (12, 135)) (n := 183) (b := b) zmi2 zcj194 zmr12 rfl rfl rfl (hb _ (by decide)) rfl (by decide +kernel) ?_
  refine gT_n 4 ?_
  refine ⟨rfl, (by decide), rfl, ?_⟩
  refine gT_nw (cu := (13, 335)) (n := 184) (b := b) zmi2 zcj194 zmr13 rfl rfl rfl (hb _ (by decide)) rfl (by decide +kernel) ?_
  refine gT_n 4 ?_
  refine ⟨rfl, (by decide), rfl, ?_⟩
  refine gT_nw (cu := (14, 340)) (n := 185) (b := b) zmi2 zcj194 zmr14 rfl rfl rfl (hb _ (by decide)) rfl (by decide +kernel) ?_
  refine gT_n 8 ?_
  refine ⟨rfl, (pk_in 0 5 (by decide) (by decide)), rfl, (pk_in 1 5 (by decide) (by decide)), ?_⟩
  refine gT_dn (b := b) (n := 186) zmi15 zcj194 zmr14 rfl ?_
  refine gT_n 8 ?_
  refine ⟨rfl, (pk_in 2 5 (by decide) (by decide)), rfl, (pk_in 3 5 (by decide) (by decide)), ?_⟩
  refine gT_dn (b := b) (n := 186) zmi16 zcj194 zmr14 rfl ?_
  refine gT_n 8 ?_
  refine ⟨rfl, (pk_in 4 5 (by decide) (by decide)), rfl, (by decide), rfl, ?_⟩
  refine gT_nw (cu := (15, 356)) (n := 186) (b := b) zmi17 zcj194 zmr18 rfl rfl rfl (hb _ (by decide)) rfl (by decide +kernel) ?_
  refine gT_n 8 ?_
  refine ⟨rfl, (pk_in 0 16 (by decide) (by decide)), rfl, (pk_in 1 16 (by decide) (by decide)), ?_⟩
  refine gT_dn (b := b) (n := 187) zmi19 zcj194 zmr18 rfl ?_
  refine gT_n 8 ?_
  refine ⟨rfl, (pk_in 2 16 (by decide) (by decide)), rfl, (pk_in 3 16 (by decide) (by decide)), ?_⟩
  refine gT_dn (b := b) (n := 187) zmi20 zcj194 zmr18 rfl ?_
  refine gT_n 8 ?_
  refine ⟨rfl, (pk_in 4 16 (by decide) (by decide)), rfl, (pk_in 5 16 (by decide) (by decide)), ?_⟩
  refine gT_dn (b := b) (n := 187) zmi21 zcj194 zmr18 rfl ?_
  refine gT_n 8 ?_
  refine ⟨rfl, (pk_in 6 16 (by decide) (by decide)), rfl, (pk_in 7 16 (by decide) (by decide)), ?_⟩
  refine gT_dn (b := b) (n := 187) zmi22 zcj194 zmr18 rfl ?_
  refine gT_n 8 ?_
  refine ⟨rfl, (pk_in 8 16 (by decide) (by decide)), rfl, (pk_in 9 16 (by decide) (by decide)), ?_⟩
  refine gT_dn (b := b) (n := 187) zmi23 zcj194 zmr18 rfl ?_
  refine gT_n 8 ?_
  refine ⟨rfl, (pk_in 10 16 (by decide) (by decide)), rfl, (pk_in 11 16 (by decide) (by decide)), ?_⟩
  refine gT_dn (b := b) (n := 187) zmi24 zcj194 zmr18 rfl ?_
  refine gT_n 8 ?_
  refine ⟨rfl, (pk_in 12 16 (by decide) (by decide)), rfl, (pk_in 13 16 (by decide) (by decide)), ?_⟩
  refine gT_dn (b := b) (n := 187) zmi25 zcj194 zmr18 rfl ?_
  refine gT_n 8 ?_
  refine ⟨rfl, (pk_in 14 16 (by decide) (by decide)), rfl, (pk_in 15 16 (by decide) (by decide)), ?_⟩
  refine gT_dn (b := b) (n := 187) zmi26 zcj194 zmr18 rfl ?_
  refine gT_n 4 ?_
  refine ⟨rfl, (by decide), rfl, ?_⟩
  refine gT_nw (cu := (16, 360)) (n := 187) (b := b) zmi26 zcj194 zmr27 rfl rfl rfl (hb _ (by decide)) rfl (by decide +kernel) ?_
  refine gT_n 4 ?_
  refine ⟨rfl, (by decide), rfl, ?_⟩
  refine gT_nw (cu := (17, 364)) (n := 188) (b := b) zmi26 zcj194 zmr28 rfl rfl rfl (hb _ (by decide)) rfl (by decide +kernel) ?_
  refine gT_n 4 ?_
  refine ⟨rfl, (by decide), rfl, ?_⟩
  refine gT_nw (cu := (18, 389)) (n := 189) (b := b) zmi26 zcj194 zmr29 rfl rfl rfl (hb _ (by decide)) rfl (by decide +kernel) ?_
  refine gT_n 4 ?_
  refine ⟨rfl, (by decide), rfl, ?_⟩
  refine gT_nw (cu := (19, 414)) (n := 190) (b := b) zmi26 zcj194 zmr30 rfl rfl rfl (hb _ (by decide)) rfl (by decide +kernel) ?_
  refine gT_n 4 ?_
  refine ⟨rfl, (by decide), rfl, ?_⟩
  refine gT_nw (cu := (20, 439)) (n := 191) (b := b) zmi26 zcj194 zmr31 rfl rfl rfl (hb _ (by decide)) rfl (by decide +kernel) ?_
  refine gT_n 4 ?_
  refine ⟨rfl, (by decide), rfl, ?_⟩
  refine gT_nw (cu := (21, 444)) (n := 192) (b := b) zmi26 zcj194 zmr32 rfl rfl rfl (hb _ (by decide)) rfl (by decide +kernel) ?_
  refine gT_n 4 ?_
  refine ⟨rfl, (by decide), rfl, ?_⟩
  refine gT_nw (cu := (22, 454)) (n := 193) (b := b) zmi26 zcj194 zmr33 rfl rfl rfl (hb _ (by decide)) rfl (by decide +kernel) ?_
  refine gT_n 4 ?_
  refine ⟨rfl, (by decide), rfl, ?_⟩
  refine gT_nw (cu := (23, 464)) (n := 194) (b := b) zmi26 zcj194 zmr34 rfl rfl rfl (hb _ (by decide)) rfl (by decide +kernel) ?_
  refine gT_n 4 ?_
  refine ⟨rfl, (by decide), rfl, ?_⟩
  refine gT_nw (cu := (24, 474)) (n := 195) (b := b) zmi26 zcj194 zmr35 rfl rfl rfl (hb _ (by decide)) rfl (by decide +kernel) ?_
  refine gT_n 4 ?_
  refine ⟨rfl, (by decide), rfl, ?_⟩
  refine gT_nw (cu := (25, 484)) (n := 196) (b := b) zmi26 zcj194 zmr36 rfl rfl rfl (hb _ (by decide)) rfl (by decide +kernel) ?_
  refine gT_n 4 ?_
  refine ⟨rfl, (by decide), rfl, ?_⟩
  refine gT_nw (cu := (26, 494)) (n := 197) (b := b) zmi26 zcj194 zmr37 rfl rfl rfl (hb _ (by decide)) rfl (by decide +kernel) ?_
  refine gT_n 4 ?_
  refine ⟨rfl, (by decide), rfl, ?_⟩
  refine gT_nw (cu := (27, 524)) (n := 198) (b := b) zmi26 zcj194 zmr38 rfl rfl rfl (hb _ (by decide)) rfl (by decide +kernel) ?_
  refine gT_n 4 ?_
  refine ⟨rfl, (by decide), rfl, ?_⟩
  refine gT_nw (cu := (28, 534)) (n := 199) (b := b) zmi26 zcj194 zmr39 rfl rfl rfl (hb _ (by decide)) rfl (by decide +kernel) ?_
  refine gT_n 4 ?_
  refine ⟨rfl, (by decide), rfl, ?_⟩
  refine gT_nw (cu := (29, 544)) (n := 200) (b := b) zmi26 zcj194 zmr40 rfl rfl rfl (hb _ (by decide)) rfl (by decide +kernel) ?_
  refine gT_n 4 ?_
  refine ⟨rfl, (by decide), rfl, ?_⟩
  refine gT_nw (cu := (30, 548)) (n := 201) (b := b) zmi26 zcj194 zmr41 rfl rfl rfl (hb _ (by decide)) rfl (by decide +kernel) ?_
  refine gT_n 4 ?_
  refine ⟨rfl, (by decide), rfl, ?_⟩
  refine gT_nw (cu := (31, 553)) (n := 202) (b := b) zmi26 zcj194 zmr42 rfl rfl rfl (hb _ (by decide)) rfl (by decide +kernel) ?_
  refine gT_n 4 ?_
  refine ⟨rfl, (by decide), rfl, ?_⟩
  refine gT_nw (cu := (32, 558)) (n := 203) (b := b) zmi26 zcj194 zmr43 rfl rfl rfl (hb _ (by decide)) rfl (by decide +kernel) ?_
  refine gT_n 4 ?_
  refine ⟨rfl, (by decide), rfl, ?_⟩
  refine gT_nw (cu := (33, 573)) (n := 204) (b := b) zmi26 zcj194 zmr44 rfl rfl rfl (hb _ (by decide)) rfl (by decide +kernel) ?_
  refine gT_n 4 ?_
  refine ⟨rfl, (by decide), rfl, ?_⟩
  refine gT_nw (cu := (34, 578)) (n := 205) (b := b) zmi26 zcj194 zmr45 rfl rfl rfl (hb _ (by decide)) rfl (by decide +kernel) ?_
  refine gT_n 4 ?_
  refine ⟨rfl, (by decide), rfl, ?_⟩
  refine gT_nw (cu := (35, 581)) (n := 206) (b := b) zmi26 zcj194 zmr46 rfl rfl rfl (hb _ (by decide)) rfl (by decide +kernel) ?_
  refine gT_n 4 ?_
  refine ⟨rfl, (by decide), rfl, ?_⟩
  refine gT_nw (cu := (36, 584)) (n := 207) (b := b) zmi26 zcj194 zmr47 rfl rfl rfl (hb _ (by decide)) rfl (by decide +kernel) ?_
  refine gT_n 4 ?_
  refine ⟨rfl, (by decide), rfl, ?_⟩
  refine gT_nw (cu := (37, 587)) (n := 208) (b := b) zmi26 zcj194 zmr48 rfl rfl rfl (hb _ (by decide)) rfl (by decide +kernel) ?_
  refine gT_n 4 ?_
  refine ⟨rfl, (by decide), rfl, ?_⟩
  refine gT_nw (cu := (38, 589)) (n := 209) (b := b) zmi26 zcj194 zmr49 rfl rfl rfl (hb _ (by decide)) rfl (by decide +kernel) ?_
  refine gT_n 4 ?_
  refine ⟨rfl, (by decide), rfl, ?_⟩
  refine gT_nw (cu := (39, 639)) (n := 210) (b := b) zmi26 zcj194 zmr50 rfl rfl rfl (hb _ (by decide)) rfl (by decide +kernel) ?_
  refine gT_n 4 ?_
  refine ⟨rfl, (by decide), rfl, ?_⟩
  refine gT_nw (cu := (40, 649)) (n := 211) (b := b) zmi26 zcj194 zmr51 rfl rfl rfl (hb _ (by decide)) rfl (by decide +kernel) ?_
  refine gT_n 4 ?_
  refine ⟨rfl, (by decide), rfl, ?_⟩
  refine gT_nw (cu := (41, 909)) (n := 212) (b := b) zmi26 zcj194 zmr52 rfl rfl rfl (hb _ (by decide)) rfl (by decide +kernel) ?_
  refine gT_n 3 ?_
  refine ⟨rfl, rfl, ?_⟩
  refine gT_gf (b := b) (n := 213) (x := 173) zmi26 zcj194 zmr53 rfl rfl (by decide +kernel) ?_
  refine gT_n 5 ?_
  refine ⟨(Or.inr rfl), (pk_in 0 4 (by decide) (by decide)), (Or.inr ⟨rfl, Or.inr rfl⟩), rfl, rfl, ?_⟩
  refine gT_n 8 ?_
  refine ⟨rfl, fun c => absurd c (by decide), fun _ => ?_⟩
  refine gT_n 2 ?_
  refine ⟨rfl, ?_⟩
  refine gT_gf (b := b) (n := 213) (x := 179) zmi54 zcj194 zmr53 rfl rfl (by decide +kernel) ?_
  refine gT_n 5 ?_
  refine ⟨rfl, (pk_in 0 4 (by decide) (by decide)), rfl, ?_⟩
  refine gT_gf (b := b) (n := 213) (x := 183) zmi55 zcj194 zmr53 rfl rfl (by decide +kernel) ?_
  refine gT_n 5 ?_
  refine ⟨rfl, (pk_in 0 4 (by decide) (by decide)), rfl, ?_⟩
  refine gT_gf (b := b) (n := 213) (x := 180) zmi56 zcj194 zmr53 rfl rfl (by decide +kernel) ?_
  refine gT_n 6 ?_
  refine ⟨rfl, (pk_in 0 4 (by decide) (by decide)), rfl, ?_⟩
  refine gT_gi (b := b) (n := 213) (v := 1) zmi57 zcj194 zmr53 rfl hb (by decide) (fun _ => rfl) (by decide +kernel) ?_
  refine gT_n 1 ?_
  refine ⟨fun c => absurd c (by decide), fun _ => ?_⟩
  refine gT_n 2 ?_
  refine ⟨rfl, ?_⟩
  refine gT_gf (b := b) (n := 213) (x := 173) zmi57 zcj194 zmr53 rfl rfl (by decide +kernel) ?_
  refine gT_n 2 ?_
  refine ⟨(Or.inr rfl), (pk_in 0 4 (by decide) (by decide)), ?_⟩
  refine gT_bl (b := b) (n := 213) (k := 0) (v := 1) zmi57 zcj194 zmr53 rfl hb (by decide) (by decide) (by decide +kernel) ?_
  refine gT_n 1 ?_
  refine ⟨fun c => absurd c (by decide), fun _ => ?_⟩
  refine gT_n 2 ?_
  refine ⟨rfl, ?_⟩
  refine gT_gf (b := b) (n := 213) (x := 179) zmi57 zcj194 zmr53 rfl rfl (by decide +kernel) ?_
  refine gT_n 5 ?_
  refine ⟨rfl, (pk_in 0 4 (by decide) (by decide)), rfl, ?_⟩
  refine gT_gf (b := b) (n := 213) (x := 177) zmi58 zcj194 zmr53 rfl rfl (by decide +kernel) ?_
  refine gT_n 9 ?_
  refine ⟨rfl, (pk_in 0 12 (by decide) (by decide)), rfl, ?_⟩
  refine gT_gf (b := b) (n := 213) (x := 178) zmi59 zcj194 zmr53 rfl rfl (by decide +kernel) ?_
  refine gT_n 7 ?_
  refine ⟨rfl, (pk_in 0 12 (by decide) (by decide)), rfl, ?_⟩
  refine gT_gf (b := b) (n := 213) (x := 180) zmi60 zcj194 zmr53 rfl rfl (by decide +kernel) ?_
  refine gT_n 7 ?_
  refine ⟨rfl, (pk_in 0 4 (by decide) (by decide)), rfl, ?_⟩
  refine gT_gf (b := b) (n := 213) (x := 183) zmi61 zcj194 zmr53 rfl rfl (by decide +kernel) ?_
  refine gT_n 5 ?_
  refine ⟨rfl, (pk_in 0 4 (by decide) (by decide)), rfl, ?_⟩
  refine gT_gf (b := b) (n := 213) (x := 181) zmi62 zcj194 zmr53 rfl rfl (by decide +kernel) ?_
  refine gT_n 9 ?_
  refine ⟨rfl, (pk_in 0 8 (by decide) (by decide)), rfl, ?_⟩
  refine gT_gf (b := b) (n := 213) (x := 182) zmi63 zcj194 zmr53 rfl rfl (by decide +kernel) ?_
  refine gT_n 10 ?_
  refine ⟨rfl, (pk_in 0 8 (by decide) (by decide)), fun c => absurd c (by decide), fun _ => ?_⟩
  refine gT_n 2 ?_
  refine ⟨rfl, ?_⟩
  refine gT_gf (b := b) (n := 213) (x := 179) zmi64 zcj194 zmr53 rfl rfl (by decide +kernel) ?_
  refine gT_n 5 ?_
  refine ⟨rfl, (pk_in 1 4 (by decide) (by decide)), rfl, ?_⟩
  refine gT_gf (b := b) (n := 213) (x := 183) zmi65 zcj194 zmr53 rfl rfl (by decide +kernel) ?_
  refine gT_n 5 ?_
  refine ⟨rfl, (pk_in 1 4 (by decide) (by decide)), rfl, ?_⟩
  refine gT_gf (b := b) (n := 213) (x := 180) zmi66 zcj194 zmr53 rfl rfl (by decide +kernel) ?_
  refine gT_n 6 ?_
  refine ⟨rfl, (pk_in 1 4 (by decide) (by decide)), rfl, ?_⟩
  refine gT_gi (b := b) (n := 213) (v := 1) zmi67 zcj194 zmr53 rfl hb (by decide) (fun _ => rfl) (by decide +kernel) ?_
  refine gT_n 1 ?_
  refine ⟨fun _ => ?_, fun c => absurd (by decide) c⟩
  refine gT_n 5 ?_
  refine ⟨fun c => absurd c (by decide), fun _ => ?_⟩
  refine gT_n 2 ?_
  refine ⟨rfl, ?_⟩
  refine gT_gf (b := b) (n := 213) (x := 179) zmi67 zcj194 zmr53 rfl rfl (by decide +kernel) ?_
  refine gT_n 5 ?_
  refine ⟨rfl, (pk_in 2 4 (by decide) (by decide)), rfl, ?_⟩
  refine gT_gf (b := b) (n := 213) (x := 183) zmi68 zcj194 zmr53 rfl rfl (by decide +kernel) ?_
  refine gT_n 5 ?_
  refine ⟨rfl, (pk_in 2 4 (by decide) (by decide)), rfl, ?_⟩
  refine gT_gf (b := b) (n := 213) (x := 180) zmi69 zcj194 zmr53 rfl rfl (by decide +kernel) ?_
  refine gT_n 6 ?_
  refine ⟨rfl, (pk_in 2 4 (by decide) (by decide)), rfl, ?_⟩
  refine gT_gi (b := b) (n := 213) (v := 1) zmi70 zcj194 zmr53 rfl hb (by decide) (fun _ => rfl) (by decide +kernel) ?_
  refine gT_n 1 ?_
  refine ⟨fun _ => ?_, fun c => absurd (by decide) c⟩
  refine gT_n 5 ?_
  refine ⟨fun c => absurd c (by decide), fun _ => ?_⟩
  refine gT_n 2 ?_
  refine ⟨rfl, ?_⟩
  refine gT_gf (b := b) (n := 213) (x := 179) zmi70 zcj194 zmr53 rfl rfl (by decide +kernel) ?_
  refine gT_n 5 ?_
  refine ⟨rfl, (pk_in 3 4 (by decide) (by decide)), rfl, ?_⟩
  refine gT_gf (b := b) (n := 213) (x := 183) zmi71 zcj194 zmr53 rfl rfl (by decide +kernel) ?_
  refine gT_n 5 ?_
  refine ⟨rfl, (pk_in 3 4 (by decide) (by decide)), rfl, ?_⟩
  refine gT_gf (b := b) (n := 213) (x := 180) zmi72 zcj194 zmr53 rfl rfl (by decide +kernel) ?_
  refine gT_n 6 ?_
  refine ⟨rfl, (pk_in 3 4 (by decide) (by decide)), rfl, ?_⟩
  refine gT_gi (b := b) (n := 213) (v := 1) zmi73 zcj194 zmr53 rfl hb (by decide) (fun _ => rfl) (by decide +kernel) ?_
  refine gT_n 1 ?_
  refine ⟨fun _ => ?_, fun c => absurd (by decide) c⟩
  refine gT_n 5 ?_
  refine ⟨fun _ => ?_, fun c => absurd (by decide) c⟩
  refine gT_n 11 ?_
  refine ⟨rfl, (Or.inl rfl), rfl, (Or.inl rfl), rfl, rfl, ?_⟩
  refine gT_gf (b := b) (n := 213) (x := 209) zmi74 zcj194 zmr53 rfl rfl (by decide +kernel) ?_
  refine gT_n 5 ?_
  refine ⟨(Or.inr rfl), (pk_in 0 2 (by decide) (by decide)), (Or.inr ⟨rfl, Or.inl rfl⟩), rfl, ?_⟩
  refine gT_gf (b := b) (n := 213) (x := 209) zmi75 zcj194 zmr53 rfl rfl (by decide +kernel) ?_
  refine gT_n 7 ?_
  refine ⟨(Or.inr rfl), (pk_in 1 2 (by decide) (by decide)), (Or.inr ⟨rfl, Or.inl rfl⟩), rfl, rfl, ?_⟩
  refine gT_n 1 ?_
  refine ⟨rfl, ?_⟩
  exact hQ
