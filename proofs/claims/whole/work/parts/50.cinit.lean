section S2P
variable {B : Nat → Nat → Nat} {G : Ctx} {s s2 : Nat → Nat → Int32} {t : Nat → Nat → Nat} {ka : List Nat} {u : Mem}
theorem c_init {G : Ctx} {d MC MS : Nat} (hd : OB u d 6) (hmc : 100 ≤ MC) (hms : 1000 ≤ MS) {K : Mem → Prop} (hK : ∀ u' a3 a4 a5 a6 a7 a8 b r e, BD G d a3 a4 a5 a6 a7 a8 u' → StB a3 b r 8 u' → EsB a4 e 4 u' → K u') : w_X5_init G d MC MS u K := by
  refine ⟨by omega, by omega, fun q1 hq1 u2 h2 => ?_⟩
  have Xq1 : Ext u u2 := by rw [h2]; exact Ext.rf.new hq1
  have k1 : OB u2 d 6 := Xq1.ob hd
  have k2 : OB u2 q1 11 := by rw [h2]; exact (gO_self : OB (mNew u q1 11 8) q1 11)
  have k3 : mN u2 q1 = 8 := by rw [h2, gN_mNew, if_pos rfl]
  refine ⟨k1, fun u3 h3 => ?_⟩
  have k4 : OB u3 d 6 := by rw [h3]; exact k1
  have k5 : OB u3 q1 11 := by rw [h3]; exact k2
  have k6 : mN u3 q1 = 8 := by rw [h3]; exact k3
  have k7 : mR u3 192 d = some q1 := by rw [h3, gR_setR, if_pos ⟨rfl, rfl⟩]
  refine ⟨by omega, by omega, fun q4 hq4 u5 h5 => ?_⟩
  have Xq4 : Ext u3 u5 := by rw [h5]; exact Ext.rf.new hq4
  have k8 : OB u5 d 6 := Xq4.ob k4
  have k9 : OB u5 q1 11 := Xq4.ob k5
  have k10 : mN u5 q1 = 8 := by rw [(Xq4 _ k5.1).2.2.1]; exact k6
  have k11 : mR u5 192 d = some q1 := by rw [(Xq4 _ k4.1).2.2.2.2.1]; exact k7
  have k12 : OB u5 q4 12 := by rw [h5]; exact (gO_self : OB (mNew u3 q4 12 4) q4 12)
  have k13 : mN u5 q4 = 4 := by rw [h5, gN_mNew, if_pos rfl]
  refine ⟨k8, fun u6 h6 => ?_⟩
  have k14 : OB u6 d 6 := by rw [h6]; exact k8
  have k15 : OB u6 q1 11 := by rw [h6]; exact k9
  have k16 : mN u6 q1 = 8 := by rw [h6]; exact k10
  have k17 : mR u6 192 d = some q1 := by rw [h6, gR_setR, if_neg (fun z => absurd z.1 (by decide))]; exact k11
  have k18 : OB u6 q4 12 := by rw [h6]; exact k12
  have k19 : mN u6 q4 = 4 := by rw [h6]; exact k13
  have k20 : mR u6 193 d = some q4 := by rw [h6, gR_setR, if_pos ⟨rfl, rfl⟩]
  refine ⟨by omega, by omega, fun q7 hq7 u8 h8 => ?_⟩
  rw [h8]
  refine c_lst hq7 (fun u9 E9 l9 => ?_)
  have k21 : OB u9 d 6 := E9.ob k14
  have k22 : OB u9 q1 11 := E9.ob k15
  have k23 : mN u9 q1 = 8 := by rw [(E9 _ k15.1).2.2.1]; exact k16
  have k24 : mR u9 192 d = some q1 := by rw [(E9 _ k14.1).2.2.2.2.1]; exact k17
  have k25 : OB u9 q4 12 := E9.ob k18
  have k26 : mN u9 q4 = 4 := by rw [(E9 _ k18.1).2.2.1]; exact k19
  have k27 : mR u9 193 d = some q4 := by rw [(E9 _ k14.1).2.2.2.2.1]; exact k20
  have k28 : OB u9 q7 0 := l9.1
  have k29 : mR u9 1 q7 = some (G.2.2 1) := l9.2.1
  have k30 : mI u9 2 q7 = 0 := l9.2.2
  refine ⟨k21, fun u11 h11 => ?_⟩
  have k31 : OB u11 d 6 := by rw [h11]; exact k21
  have k32 : OB u11 q1 11 := by rw [h11]; exact k22
  have k33 : mN u11 q1 = 8 := by rw [h11]; exact k23
  have k34 : mR u11 192 d = some q1 := by rw [h11, gR_setR, if_neg (fun z => absurd z.1 (by decide))]; exact k24
  have k35 : OB u11 q4 12 := by rw [h11]; exact k25
  have k36 : mN u11 q4 = 4 := by rw [h11]; exact k26
  have k37 : mR u11 193 d = some q4 := by rw [h11, gR_setR, if_neg (fun z => absurd z.1 (by decide))]; exact k27
  have k38 : OB u11 q7 0 := by rw [h11]; exact k28
  have k39 : mR u11 1 q7 = some (G.2.2 1) := by rw [h11, gR_setR, if_neg (fun z => absurd z.1 (by decide))]; exact k29
  have k40 : mI u11 2 q7 = 0 := by rw [h11]; exact k30
  have k41 : mR u11 194 d = some q7 := by rw [h11, gR_setR, if_pos ⟨rfl, rfl⟩]
  refine ⟨by omega, by omega, fun q12 hq12 u13 h13 => ?_⟩
  have Xq12 : Ext u11 u13 := by rw [h13]; exact Ext.rf.new hq12
  have k42 : OB u13 d 6 := Xq12.ob k31
  have k43 : OB u13 q1 11 := Xq12.ob k32
  have k44 : mN u13 q1 = 8 := by rw [(Xq12 _ k32.1).2.2.1]; exact k33
  have k45 : mR u13 192 d = some q1 := by rw [(Xq12 _ k31.1).2.2.2.2.1]; exact k34
  have k46 : OB u13 q4 12 := Xq12.ob k35
  have k47 : mN u13 q4 = 4 := by rw [(Xq12 _ k35.1).2.2.1]; exact k36
  have k48 : mR u13 193 d = some q4 := by rw [(Xq12 _ k31.1).2.2.2.2.1]; exact k37
  have k49 : OB u13 q7 0 := Xq12.ob k38
  have k50 : mR u13 1 q7 = some (G.2.2 1) := by rw [(Xq12 _ k38.1).2.2.2.2.1]; exact k39
  have k51 : mI u13 2 q7 = 0 := by rw [(Xq12 _ k38.1).2.2.2.1]; exact k40
  have k52 : mR u13 194 d = some q7 := by rw [(Xq12 _ k31.1).2.2.2.2.1]; exact k41
  have k53 : OB u13 q12 1 := by rw [h13]; exact (gO_self : OB (mNew u11 q12 1 0) q12 1)
  have k54 : mN u13 q12 = 0 := by rw [h13, gN_mNew, if_pos rfl]
  refine ⟨2, 6, by omega, by omega, by omega, by omega, fun qa hqa w2 g2 => ?_⟩
  have ne57 : q7 ≠ qa := ob_fresh k49 hqa
  rw [g2]
  refine c_lst hqa (fun w3 E3 l3 => ?_)
  have k55 : OB w3 d 6 := E3.ob k42
  have k56 : OB w3 q1 11 := E3.ob k43
  have k57 : mN w3 q1 = 8 := by rw [(E3 _ k43.1).2.2.1]; exact k44
  have k58 : mR w3 192 d = some q1 := by rw [(E3 _ k42.1).2.2.2.2.1]; exact k45
  have k59 : OB w3 q4 12 := E3.ob k46
  have k60 : mN w3 q4 = 4 := by rw [(E3 _ k46.1).2.2.1]; exact k47
  have k61 : mR w3 193 d = some q4 := by rw [(E3 _ k42.1).2.2.2.2.1]; exact k48
  have k62 : OB w3 q7 0 := E3.ob k49
  have k63 : mR w3 1 q7 = some (G.2.2 1) := by rw [(E3 _ k49.1).2.2.2.2.1]; exact k50
  have k64 : mI w3 2 q7 = 0 := by rw [(E3 _ k49.1).2.2.2.1]; exact k51
  have k65 : mR w3 194 d = some q7 := by rw [(E3 _ k42.1).2.2.2.2.1]; exact k52
  have k66 : OB w3 q12 1 := E3.ob k53
  have k67 : mN w3 q12 = 0 := by rw [(E3 _ k53.1).2.2.1]; exact k54
  have k68 : OB w3 qa 0 := l3.1
  have k69 : mR w3 1 qa = some (G.2.2 1) := l3.2.1
  have k70 : mI w3 2 qa = 0 := l3.2.2
  refine ⟨k66, fun w5 g5 => ?_⟩
  have k71 : OB w5 d 6 := by rw [g5]; exact k55
  have k72 : OB w5 q1 11 := by rw [g5]; exact k56
  have k73 : mN w5 q1 = 8 := by rw [g5]; exact k57
  have k74 : mR w5 192 d = some q1 := by rw [g5, gR_setR, if_neg (fun z => absurd z.1 (by decide))]; exact k58
  have k75 : OB w5 q4 12 := by rw [g5]; exact k59
  have k76 : mN w5 q4 = 4 := by rw [g5]; exact k60
  have k77 : mR w5 193 d = some q4 := by rw [g5, gR_setR, if_neg (fun z => absurd z.1 (by decide))]; exact k61
  have k78 : OB w5 q7 0 := by rw [g5]; exact k62
  have k79 : mR w5 1 q7 = some (G.2.2 1) := by rw [g5, gR_setR, if_neg (fun z => absurd z.1 (by decide))]; exact k63
  have k80 : mI w5 2 q7 = 0 := by rw [g5]; exact k64
  have k81 : mR w5 194 d = some q7 := by rw [g5, gR_setR, if_neg (fun z => absurd z.1 (by decide))]; exact k65
  have k82 : OB w5 q12 1 := by rw [g5]; exact k66
  have k83 : mN w5 q12 = 0 := by rw [g5]; exact k67
  have k84 : OB w5 qa 0 := by rw [g5]; exact k68
  have k85 : mR w5 1 qa = some (G.2.2 1) := by rw [g5, gR_setR, if_neg (fun z => absurd z.1 (by decide))]; exact k69
  have k86 : mI w5 2 qa = 0 := by rw [g5]; exact k70
  have k87 : mR w5 32 q12 = some qa := by rw [g5, gR_setR, if_pos ⟨rfl, rfl⟩]
  refine ⟨by omega, by omega, fun qb hqb w7 g7 => ?_⟩
  have ne58 : q7 ≠ qb := ob_fresh k78 hqb
  have ne78 : qa ≠ qb := ob_fresh k84 hqb
  rw [g7]
  refine c_lst hqb (fun w8 E8 l8 => ?_)
  have k88 : OB w8 d 6 := E8.ob k71
  have k89 : OB w8 q1 11 := E8.ob k72
  have k90 : mN w8 q1 = 8 := by rw [(E8 _ k72.1).2.2.1]; exact k73
  have k91 : mR w8 192 d = some q1 := by rw [(E8 _ k71.1).2.2.2.2.1]; exact k74
  have k92 : OB w8 q4 12 := E8.ob k75
  have k93 : mN w8 q4 = 4 := by rw [(E8 _ k75.1).2.2.1]; exact k76
  have k94 : mR w8 193 d = some q4 := by rw [(E8 _ k71.1).2.2.2.2.1]; exact k77
  have k95 : OB w8 q7 0 := E8.ob k78
  have k96 : mR w8 1 q7 = some (G.2.2 1) := by rw [(E8 _ k78.1).2.2.2.2.1]; exact k79
  have k97 : mI w8 2 q7 = 0 := by rw [(E8 _ k78.1).2.2.2.1]; exact k80
  have k98 : mR w8 194 d = some q7 := by rw [(E8 _ k71.1).2.2.2.2.1]; exact k81
  have k99 : OB w8 q12 1 := E8.ob k82
  have k100 : mN w8 q12 = 0 := by rw [(E8 _ k82.1).2.2.1]; exact k83
  have k101 : OB w8 qa 0 := E8.ob k84
  have k102 : mR w8 1 qa = some (G.2.2 1) := by rw [(E8 _ k84.1).2.2.2.2.1]; exact k85
  have k103 : mI w8 2 qa = 0 := by rw [(E8 _ k84.1).2.2.2.1]; exact k86
  have k104 : mR w8 32 q12 = some qa := by rw [(E8 _ k82.1).2.2.2.2.1]; exact k87
  have k105 : OB w8 qb 0 := l8.1
  have k106 : mR w8 1 qb = some (G.2.2 1) := l8.2.1
  have k107 : mI w8 2 qb = 0 := l8.2.2
  refine ⟨k99, fun w10 g10 => ?_⟩
  have k108 : OB w10 d 6 := by rw [g10]; exact k88
  have k109 : OB w10 q1 11 := by rw [g10]; exact k89
  have k110 : mN w10 q1 = 8 := by rw [g10]; exact k90
  have k111 : mR w10 192 d = some q1 := by rw [g10, gR_setR, if_neg (fun z => absurd z.1 (by decide))]; exact k91
  have k112 : OB w10 q4 12 := by rw [g10]; exact k92
  have k113 : mN w10 q4 = 4 := by rw [g10]; exact k93
  have k114 : mR w10 193 d = some q4 := by rw [g10, gR_setR, if_neg (fun z => absurd z.1 (by decide))]; exact k94
  have k115 : OB w10 q7 0 := by rw [g10]; exact k95
  have k116 : mR w10 1 q7 = some (G.2.2 1) := by rw [g10, gR_setR, if_neg (fun z => absurd z.1 (by decide))]; exact k96
  have k117 : mI w10 2 q7 = 0 := by rw [g10]; exact k97
  have k118 : mR w10 194 d = some q7 := by rw [g10, gR_setR, if_neg (fun z => absurd z.1 (by decide))]; exact k98
  have k119 : OB w10 q12 1 := by rw [g10]; exact k99
  have k120 : mN w10 q12 = 0 := by rw [g10]; exact k100
  have k121 : OB w10 qa 0 := by rw [g10]; exact k101
  have k122 : mR w10 1 qa = some (G.2.2 1) := by rw [g10, gR_setR, if_neg (fun z => absurd z.1 (by decide))]; exact k102
  have k123 : mI w10 2 qa = 0 := by rw [g10]; exact k103
  have k124 : mR w10 32 q12 = some qa := by rw [g10, gR_setR, if_neg (fun z => absurd z.1 (by decide))]; exact k104
  have k125 : OB w10 qb 0 := by rw [g10]; exact k105
  have k126 : mR w10 1 qb = some (G.2.2 1) := by rw [g10, gR_setR, if_neg (fun z => absurd z.1 (by decide))]; exact k106
  have k127 : mI w10 2 qb = 0 := by rw [g10]; exact k107
  have k128 : mR w10 33 q12 = some qb := by rw [g10, gR_setR, if_pos ⟨rfl, rfl⟩]
  refine ⟨k108, fun u18 h18 => ?_⟩
  have k129 : OB u18 d 6 := by rw [h18]; exact k108
  have k130 : OB u18 q1 11 := by rw [h18]; exact k109
  have k131 : mN u18 q1 = 8 := by rw [h18]; exact k110
  have k132 : mR u18 192 d = some q1 := by rw [h18, gR_setR, if_neg (fun z => absurd z.1 (by decide))]; exact k111
  have k133 : OB u18 q4 12 := by rw [h18]; exact k112
  have k134 : mN u18 q4 = 4 := by rw [h18]; exact k113
  have k135 : mR u18 193 d = some q4 := by rw [h18, gR_setR, if_neg (fun z => absurd z.1 (by decide))]; exact k114
  have k136 : OB u18 q7 0 := by rw [h18]; exact k115
  have k137 : mR u18 1 q7 = some (G.2.2 1) := by rw [h18, gR_setR, if_neg (fun z => absurd z.1 (by decide))]; exact k116
  have k138 : mI u18 2 q7 = 0 := by rw [h18]; exact k117
  have k139 : mR u18 194 d = some q7 := by rw [h18, gR_setR, if_neg (fun z => absurd z.1 (by decide))]; exact k118
  have k140 : OB u18 q12 1 := by rw [h18]; exact k119
  have k141 : mN u18 q12 = 0 := by rw [h18]; exact k120
  have k142 : OB u18 qa 0 := by rw [h18]; exact k121
  have k143 : mR u18 1 qa = some (G.2.2 1) := by rw [h18, gR_setR, if_neg (fun z => absurd z.1 (by decide))]; exact k122
  have k144 : mI u18 2 qa = 0 := by rw [h18]; exact k123
  have k145 : mR u18 32 q12 = some qa := by rw [h18, gR_setR, if_neg (fun z => absurd z.1 (by decide))]; exact k124
  have k146 : OB u18 qb 0 := by rw [h18]; exact k125
  have k147 : mR u18 1 qb = some (G.2.2 1) := by rw [h18, gR_setR, if_neg (fun z => absurd z.1 (by decide))]; exact k126
  have k148 : mI u18 2 qb = 0 := by rw [h18]; exact k127
  have k149 : mR u18 33 q12 = some qb := by rw [h18, gR_setR, if_neg (fun z => absurd z.1 (by decide))]; exact k128
  have k150 : mR u18 195 d = some q12 := by rw [h18, gR_setR, if_pos ⟨rfl, rfl⟩]
  refine ⟨k129, fun u19 h19 => ?_⟩
  have k151 : OB u19 d 6 := by rw [h19]; exact k129
  have k152 : OB u19 q1 11 := by rw [h19]; exact k130
  have k153 : mN u19 q1 = 8 := by rw [h19]; exact k131
  have k154 : mR u19 192 d = some q1 := by rw [h19]; exact k132
  have k155 : OB u19 q4 12 := by rw [h19]; exact k133
  have k156 : mN u19 q4 = 4 := by rw [h19]; exact k134
  have k157 : mR u19 193 d = some q4 := by rw [h19]; exact k135
  have k158 : OB u19 q7 0 := by rw [h19]; exact k136
  have k159 : mR u19 1 q7 = some (G.2.2 1) := by rw [h19]; exact k137
  have k160 : mI u19 2 q7 = 0 := by rw [h19, gsn (by decide)]; exact k138
  have k161 : mR u19 194 d = some q7 := by rw [h19]; exact k139
  have k162 : OB u19 q12 1 := by rw [h19]; exact k140
  have k163 : mN u19 q12 = 0 := by rw [h19]; exact k141
  have k164 : OB u19 qa 0 := by rw [h19]; exact k142
  have k165 : mR u19 1 qa = some (G.2.2 1) := by rw [h19]; exact k143
  have k166 : mI u19 2 qa = 0 := by rw [h19, gsn (by decide)]; exact k144
  have k167 : mR u19 32 q12 = some qa := by rw [h19]; exact k145
  have k168 : OB u19 qb 0 := by rw [h19]; exact k146
  have k169 : mR u19 1 qb = some (G.2.2 1) := by rw [h19]; exact k147
  have k170 : mI u19 2 qb = 0 := by rw [h19, gsn (by decide)]; exact k148
  have k171 : mR u19 33 q12 = some qb := by rw [h19]; exact k149
  have k172 : mR u19 195 d = some q12 := by rw [h19]; exact k150
  have k173 : mI u19 196 d = 0 := by rw [h19, gse]
  refine ⟨k151, fun u20 h20 => ⟨9, ?_⟩⟩
  have k174 : OB u20 d 6 := by rw [h20]; exact k151
  have k175 : OB u20 q1 11 := by rw [h20]; exact k152
  have k176 : mN u20 q1 = 8 := by rw [h20]; exact k153
  have k177 : mR u20 192 d = some q1 := by rw [h20]; exact k154
  have k178 : OB u20 q4 12 := by rw [h20]; exact k155
  have k179 : mN u20 q4 = 4 := by rw [h20]; exact k156
  have k180 : mR u20 193 d = some q4 := by rw [h20]; exact k157
  have k181 : OB u20 q7 0 := by rw [h20]; exact k158
  have k182 : mR u20 1 q7 = some (G.2.2 1) := by rw [h20]; exact k159
  have k183 : mI u20 2 q7 = 0 := by rw [h20, gsn (by decide)]; exact k160
  have k184 : mR u20 194 d = some q7 := by rw [h20]; exact k161
  have k185 : OB u20 q12 1 := by rw [h20]; exact k162
  have k186 : mN u20 q12 = 0 := by rw [h20]; exact k163
  have k187 : OB u20 qa 0 := by rw [h20]; exact k164
  have k188 : mR u20 1 qa = some (G.2.2 1) := by rw [h20]; exact k165
  have k189 : mI u20 2 qa = 0 := by rw [h20, gsn (by decide)]; exact k166
  have k190 : mR u20 32 q12 = some qa := by rw [h20]; exact k167
  have k191 : OB u20 qb 0 := by rw [h20]; exact k168
  have k192 : mR u20 1 qb = some (G.2.2 1) := by rw [h20]; exact k169
  have k193 : mI u20 2 qb = 0 := by rw [h20, gsn (by decide)]; exact k170
  have k194 : mR u20 33 q12 = some qb := by rw [h20]; exact k171
  have k195 : mR u20 195 d = some q12 := by rw [h20]; exact k172
  have k196 : mI u20 196 d = 0 := by rw [h20, gsn (by decide)]; exact k173
  have k197 : mI u20 197 d = 0 := by rw [h20, gse]
  refine c_l55 (fun u' b r e hD hS hE => hK u' q1 q4 q7 q12 qa qb b r e hD hS hE) 8 0 _ _ (fun _ => 0) (fun _ => 0) u20 (by omega) ⟨k174, k177, k180, k184, k195, k196, k197, k175, k176, k178, k179, k185, k190, k194, ⟨k181, k182, k183⟩, ⟨k187, k188, k189⟩, ⟨k191, k192, k193⟩, ne57, ne58, ne78⟩ ⟨fun j hj => absurd hj (by omega), fun j k hj => absurd hj (by omega), fun j k hj => absurd hj (by omega)⟩ (by omega) (by omega)
end S2P
