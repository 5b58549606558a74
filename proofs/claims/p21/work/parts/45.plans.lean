/-! PLANS BY HAND: the run -/
set_option maxRecDepth 100000 in
set_option maxHeartbeats 4000000 in
theorem mf_plans {l : Launch} {G : mG}  : MF l G 9 31 1915 yL_plans cL_plans 1 (some .boolean) [] (fun z => z = 1) := by
  refine MF.intro (by decide) rfl (by decide) [none] (Nat.le_of_ble_eq_true rfl) rfl (fun _ => rfl) dL_plans_0 dL_plans_3 dL_plans_4 (fun G K hC => ?_)
  have hO := mw0_ob
  have hO := hO.to plv0
  generalize mw0 = w at hO ⊢
  refine wm_astore_n hC 0 (pc := 7) dL_plans_7 rfl (by decide) rfl ?_
  refine wm_aload_n hC 0 (pc := 8) dL_plans_8 rfl rfl ?_
  refine wm_iconst hC (pc := 9) dL_plans_9 ?_
  refine wm_iV hC cv_L_22 kc_X8_count rfl rfl (t_count hO (by omega)) rfl (by decide) rfl (Nat.le_of_ble_eq_true rfl) (pc := 10) dL_plans_10 (fun z10 w10 hw10 => ?_)
  obtain ⟨e10, hO⟩ := hw10
  rw [countA_st (by decide) (by decide)] at e10
  have e10 := e10.trans plv1
  subst e10
  refine wm_if_ne hC 99 (pc := 13) dL_plans_13 (by decide) (by omega) (fun h => absurd h (by decide)) (fun _ => ?_)
  refine wm_aload_n hC 0 (pc := 16) dL_plans_16 rfl rfl ?_
  refine wm_iconst hC (pc := 17) dL_plans_17 ?_
  refine wm_iconst hC (pc := 18) dL_plans_18 ?_
  refine wm_iconst hC (pc := 19) dL_plans_19 ?_
  refine wm_iV hC cv_L_19 kc_X8_talk rfl rfl (t_talkW hO (by decide)) rfl (by decide) rfl (Nat.le_of_ble_eq_true rfl) (pc := 20) dL_plans_20 (fun z20 w20 hw20 => ?_)
  obtain ⟨e20, hO⟩ := hw20
  have e20 := e20.trans plv2
  subst e20
  refine wm_iconst hC (pc := 23) dL_plans_23 ?_
  refine wm_icmp_ne hC 99 (pc := 24) dL_plans_24 (by decide) (by omega) (by omega) (fun h => absurd h (by decide)) (fun _ => ?_)
  refine wm_aload_n hC 0 (pc := 27) dL_plans_27 rfl rfl ?_
  refine wm_iconst hC (pc := 28) dL_plans_28 ?_
  refine wm_iconst hC (pc := 29) dL_plans_29 ?_
  refine wm_iconst hC (pc := 30) dL_plans_30 ?_
  refine wm_iV hC cv_L_19 kc_X8_talk rfl rfl (t_talkW hO (by decide)) rfl (by decide) rfl (Nat.le_of_ble_eq_true rfl) (pc := 31) dL_plans_31 (fun z31 w31 hw31 => ?_)
  obtain ⟨e31, hO⟩ := hw31
  have e31 := e31.trans plv3
  subst e31
  refine wm_iconst hC (pc := 34) dL_plans_34 ?_
  refine wm_icmp_ne hC 99 (pc := 35) dL_plans_35 (by decide) (by omega) (by omega) (fun h => absurd h (by decide)) (fun _ => ?_)
  refine wm_aload_n hC 0 (pc := 38) dL_plans_38 rfl rfl ?_
  refine wm_iconst hC (pc := 39) dL_plans_39 ?_
  refine wm_iconst hC (pc := 40) dL_plans_40 ?_
  refine wm_iconst hC (pc := 41) dL_plans_41 ?_
  refine wm_iV hC cv_L_19 kc_X8_talk rfl rfl (t_talkW hO (by decide)) rfl (by decide) rfl (Nat.le_of_ble_eq_true rfl) (pc := 42) dL_plans_42 (fun z42 w42 hw42 => ?_)
  obtain ⟨e42, hO⟩ := hw42
  have e42 := e42.trans plv4
  subst e42
  refine wm_if_ne hC 99 (pc := 45) dL_plans_45 (by decide) (by omega) (fun h => absurd h (by decide)) (fun _ => ?_)
  refine wm_aload_n hC 0 (pc := 48) dL_plans_48 rfl rfl ?_
  refine wm_iconst hC (pc := 49) dL_plans_49 ?_
  refine wm_iconst hC (pc := 50) dL_plans_50 ?_
  refine wm_jV hC cv_L_56 kc_X8_talks rfl rfl (t_talksW hO (by decide)) rfl (by decide) rfl (Nat.le_of_ble_eq_true rfl) (pc := 51) dL_plans_51 (fun z51 w51 hw51 => ?_)
  obtain ⟨e51, hO⟩ := hw51
  have e51 := e51.trans plv5
  subst e51
  refine wm_lconst hC 1 (pc := 54) dL_plans_54 rfl ?_
  refine wm_lcmp_eq hC (pc := 55) dL_plans_55 rfl ?_
  refine wm_if_ne hC 99 (pc := 56) dL_plans_56 (by decide) (by omega) (fun h => absurd h (by decide)) (fun _ => ?_)
  refine wm_aload_n hC 0 (pc := 59) dL_plans_59 rfl rfl ?_
  refine wm_iconst hC (pc := 60) dL_plans_60 ?_
  refine wm_iconst hC (pc := 61) dL_plans_61 ?_
  refine wm_iV hC cv_L_62 kc_X8_standsIn rfl rfl (t_standsInV hO (by decide)) rfl (by decide) rfl (Nat.le_of_ble_eq_true rfl) (pc := 62) dL_plans_62 (fun z62 w62 hw62 => ?_)
  obtain ⟨e62, hO⟩ := hw62
  have e62 := e62.trans plv6
  subst e62
  refine wm_iconst hC (pc := 65) dL_plans_65 ?_
  refine wm_icmp_ne hC 99 (pc := 66) dL_plans_66 (by decide) (by omega) (by omega) (fun h => absurd h (by decide)) (fun _ => ?_)
  refine wm_aload_n hC 0 (pc := 69) dL_plans_69 rfl rfl ?_
  refine wm_iconst hC (pc := 70) dL_plans_70 ?_
  refine wm_iV hC cv_L_46 kc_X8_unlike rfl rfl (t_unlikeV hO (by decide)) rfl (by decide) rfl (Nat.le_of_ble_eq_true rfl) (pc := 71) dL_plans_71 (fun z71 w71 hw71 => ?_)
  obtain ⟨e71, hO⟩ := hw71
  have e71 := e71.trans plv7
  subst e71
  refine wm_iconst hC (pc := 74) dL_plans_74 ?_
  refine wm_icmp_ne hC 99 (pc := 75) dL_plans_75 (by decide) (by omega) (by omega) (fun h => absurd h (by decide)) (fun _ => ?_)
  refine wm_aload_n hC 0 (pc := 78) dL_plans_78 rfl rfl ?_
  refine wm_iV hC cv_L_130 kc_X8_undo rfl rfl (t_undoN hO rfl) rfl (by decide) rfl (Nat.le_of_ble_eq_true rfl) (pc := 79) dL_plans_79 (fun z79 w79 hw79 => ?_)
  obtain ⟨rfl, hO⟩ := hw79
  refine wm_ldc hC (-1000002) kI_L_89 (pc := 82) dL_plans_82 ?_
  refine wm_icmp_ne hC 99 (pc := 84) dL_plans_84 (by decide) (by omega) (by omega) (fun h => absurd h (by decide)) (fun _ => ?_)
  refine wm_aload_n hC 0 (pc := 87) dL_plans_87 rfl rfl ?_
  refine wm_iconst hC (pc := 88) dL_plans_88 ?_
  refine wm_iconst hC (pc := 89) dL_plans_89 ?_
  refine wm_iconst hC (pc := 90) dL_plans_90 ?_
  refine wm_iV hC cv_L_36 kc_X8_erase rfl rfl (t_eraseU hO (by decide) plv8) rfl (by decide) rfl (Nat.le_of_ble_eq_true rfl) (pc := 91) dL_plans_91 (fun z91 w91 hw91 => ?_)
  obtain ⟨rfl, hO⟩ := hw91
  refine wm_ldc hC (-1000002) kI_L_89 (pc := 94) dL_plans_94 ?_
  refine wm_icmp_eq hC 101 (pc := 96) dL_plans_96 (by decide) (by omega) (by omega) (fun _ => ?_) (fun h => absurd h (by decide))
  refine wm_aload_n hC 0 (pc := 101) dL_plans_101 rfl rfl ?_
  refine wm_ldc2 hC (13547500206174779) kJ_L_134 (pc := 102) dL_plans_102 ?_
  refine wm_iS hC cs_L_85 kc_L_puts (t_puts hO plv9 (by decide)) rfl (by decide) rfl (Nat.le_of_ble_eq_true rfl) (pc := 105) dL_plans_105 (fun z105 w105 hw105 => ?_)
  obtain ⟨rfl, hO⟩ := hw105
  rw [plv10] at hO
  refine wm_if_eq hC 228 (pc := 108) dL_plans_108 (by decide) (by omega) (fun h => absurd h (by decide)) (fun _ => ?_)
  refine wm_aload_n hC 0 (pc := 111) dL_plans_111 rfl rfl ?_
  refine wm_ldc2 hC (3548661891170709051) kJ_L_136 (pc := 112) dL_plans_112 ?_
  refine wm_iS hC cs_L_85 kc_L_puts (t_puts hO plv11 (by decide)) rfl (by decide) rfl (Nat.le_of_ble_eq_true rfl) (pc := 115) dL_plans_115 (fun z115 w115 hw115 => ?_)
  obtain ⟨rfl, hO⟩ := hw115
  rw [plv12] at hO
  refine wm_if_eq hC 228 (pc := 118) dL_plans_118 (by decide) (by omega) (fun h => absurd h (by decide)) (fun _ => ?_)
  refine wm_aload_n hC 0 (pc := 121) dL_plans_121 rfl rfl ?_
  refine wm_iconst hC (pc := 122) dL_plans_122 ?_
  refine wm_iV hC cv_L_49 kc_X8_read rfl rfl (t_readV hO (by decide) plv13) rfl (by decide) rfl (Nat.le_of_ble_eq_true rfl) (pc := 123) dL_plans_123 (fun z123 w123 hw123 => ?_)
  obtain ⟨e123, hO⟩ := hw123
  have e123 := e123.trans plv14
  subst e123
  have hO := hO.to plv15
  generalize push [] (tb plN0) = Hs at hO
  refine wm_iconst hC (pc := 126) dL_plans_126 ?_
  refine wm_icmp_ne hC 228 (pc := 127) dL_plans_127 (by decide) (by omega) (by omega) (fun h => absurd h (by decide)) (fun _ => ?_)
  refine wm_aload_n hC 0 (pc := 130) dL_plans_130 rfl rfl ?_
  refine wm_iconst hC (pc := 131) dL_plans_131 ?_
  refine wm_iconst hC (pc := 132) dL_plans_132 ?_
  refine wm_iconst hC (pc := 133) dL_plans_133 ?_
  refine wm_iV hC cv_L_13 kc_X8_stateOf rfl rfl (t_stateOfV hO (by decide)) rfl (by decide) rfl (Nat.le_of_ble_eq_true rfl) (pc := 134) dL_plans_134 (fun z134 w134 hw134 => ?_)
  obtain ⟨e134, hO⟩ := hw134
  have e134 := e134.trans plv16
  subst e134
  refine wm_iconst hC (pc := 137) dL_plans_137 ?_
  refine wm_icmp_ne hC 228 (pc := 138) dL_plans_138 (by decide) (by omega) (by omega) (fun h => absurd h (by decide)) (fun _ => ?_)
  refine wm_aload_n hC 0 (pc := 141) dL_plans_141 rfl rfl ?_
  refine wm_iconst hC (pc := 142) dL_plans_142 ?_
  refine wm_iconst hC (pc := 143) dL_plans_143 ?_
  refine wm_iconst hC (pc := 144) dL_plans_144 ?_
  refine wm_iV hC cv_L_13 kc_X8_stateOf rfl rfl (t_stateOfV hO (by decide)) rfl (by decide) rfl (Nat.le_of_ble_eq_true rfl) (pc := 145) dL_plans_145 (fun z145 w145 hw145 => ?_)
  obtain ⟨e145, hO⟩ := hw145
  have e145 := e145.trans plv17
  subst e145
  refine wm_iconst hC (pc := 148) dL_plans_148 ?_
  refine wm_icmp_ne hC 228 (pc := 149) dL_plans_149 (by decide) (by omega) (by omega) (fun h => absurd h (by decide)) (fun _ => ?_)
  refine wm_aload_n hC 0 (pc := 152) dL_plans_152 rfl rfl ?_
  refine wm_iconst hC (pc := 153) dL_plans_153 ?_
  refine wm_iconst hC (pc := 154) dL_plans_154 ?_
  refine wm_bipush hC (pc := 155) dL_plans_155 (by decide) ?_
  refine wm_iV hC cv_L_13 kc_X8_stateOf rfl rfl (t_stateOfV hO (by decide)) rfl (by decide) rfl (Nat.le_of_ble_eq_true rfl) (pc := 157) dL_plans_157 (fun z157 w157 hw157 => ?_)
  obtain ⟨e157, hO⟩ := hw157
  have e157 := e157.trans plv18
  subst e157
  refine wm_iconst hC (pc := 160) dL_plans_160 ?_
  refine wm_icmp_ne hC 228 (pc := 161) dL_plans_161 (by decide) (by omega) (by omega) (fun h => absurd h (by decide)) (fun _ => ?_)
  refine wm_aload_n hC 0 (pc := 164) dL_plans_164 rfl rfl ?_
  refine wm_iconst hC (pc := 165) dL_plans_165 ?_
  refine wm_iconst hC (pc := 166) dL_plans_166 ?_
  refine wm_bipush hC (pc := 167) dL_plans_167 (by decide) ?_
  refine wm_iV hC cv_L_13 kc_X8_stateOf rfl rfl (t_stateOfV hO (by decide)) rfl (by decide) rfl (Nat.le_of_ble_eq_true rfl) (pc := 169) dL_plans_169 (fun z169 w169 hw169 => ?_)
  obtain ⟨e169, hO⟩ := hw169
  have e169 := e169.trans plv19
  subst e169
  refine wm_ldc hC (-1000004) kI_L_55 (pc := 172) dL_plans_172 ?_
  refine wm_icmp_ne hC 228 (pc := 174) dL_plans_174 (by decide) (by omega) (by omega) (fun h => absurd h (by decide)) (fun _ => ?_)
  refine wm_aload_n hC 0 (pc := 177) dL_plans_177 rfl rfl ?_
  refine wm_iconst hC (pc := 178) dL_plans_178 ?_
  refine wm_iconst hC (pc := 179) dL_plans_179 ?_
  refine wm_iconst hC (pc := 180) dL_plans_180 ?_
  refine wm_iV hC cv_L_13 kc_X8_stateOf rfl rfl (t_stateOfV hO (by decide)) rfl (by decide) rfl (Nat.le_of_ble_eq_true rfl) (pc := 181) dL_plans_181 (fun z181 w181 hw181 => ?_)
  obtain ⟨e181, hO⟩ := hw181
  have e181 := e181.trans plv20
  subst e181
  refine wm_bipush hC (pc := 184) dL_plans_184 (by decide) ?_
  refine wm_icmp_ne hC 228 (pc := 186) dL_plans_186 (by decide) (by omega) (by omega) (fun h => absurd h (by decide)) (fun _ => ?_)
  refine wm_aload_n hC 0 (pc := 189) dL_plans_189 rfl rfl ?_
  refine wm_iconst hC (pc := 190) dL_plans_190 ?_
  refine wm_iconst hC (pc := 191) dL_plans_191 ?_
  refine wm_iconst hC (pc := 192) dL_plans_192 ?_
  refine wm_iV hC cv_L_13 kc_X8_stateOf rfl rfl (t_stateOfV hO (by decide)) rfl (by decide) rfl (Nat.le_of_ble_eq_true rfl) (pc := 193) dL_plans_193 (fun z193 w193 hw193 => ?_)
  obtain ⟨e193, hO⟩ := hw193
  have e193 := e193.trans plv21
  subst e193
  refine wm_iconst hC (pc := 196) dL_plans_196 ?_
  refine wm_icmp_ne hC 228 (pc := 197) dL_plans_197 (by decide) (by omega) (by omega) (fun h => absurd h (by decide)) (fun _ => ?_)
  refine wm_aload_n hC 0 (pc := 200) dL_plans_200 rfl rfl ?_
  refine wm_iconst hC (pc := 201) dL_plans_201 ?_
  refine wm_iV hC cv_L_46 kc_X8_unlike rfl rfl (t_unlikeV hO (by decide)) rfl (by decide) rfl (Nat.le_of_ble_eq_true rfl) (pc := 202) dL_plans_202 (fun z202 w202 hw202 => ?_)
  obtain ⟨e202, hO⟩ := hw202
  have e202 := e202.trans plv22
  subst e202
  refine wm_iconst hC (pc := 205) dL_plans_205 ?_
  refine wm_icmp_ne hC 228 (pc := 206) dL_plans_206 (by decide) (by omega) (by omega) (fun h => absurd h (by decide)) (fun _ => ?_)
  refine wm_aload_n hC 0 (pc := 209) dL_plans_209 rfl rfl ?_
  refine wm_iconst hC (pc := 210) dL_plans_210 ?_
  refine wm_iconst hC (pc := 211) dL_plans_211 ?_
  refine wm_iV hC cv_L_39 kc_X8_copy rfl rfl (t_copyV hO (by decide)) rfl (by decide) rfl (Nat.le_of_ble_eq_true rfl) (pc := 212) dL_plans_212 (fun z212 w212 hw212 => ?_)
  obtain ⟨e212, hO⟩ := hw212
  have e212 := e212.trans plv23
  subst e212
  have hO := hO.to plv24
  generalize push Hs (tb plN1) = Hs at hO
  refine wm_iconst hC (pc := 215) dL_plans_215 ?_
  refine wm_icmp_ne hC 228 (pc := 216) dL_plans_216 (by decide) (by omega) (by omega) (fun h => absurd h (by decide)) (fun _ => ?_)
  refine wm_aload_n hC 0 (pc := 219) dL_plans_219 rfl rfl ?_
  refine wm_iconst hC (pc := 220) dL_plans_220 ?_
  refine wm_iV hC cv_L_43 kc_X8_mirror rfl rfl (t_mirrorV hO (by decide)) rfl (by decide) rfl (Nat.le_of_ble_eq_true rfl) (pc := 221) dL_plans_221 (fun z221 w221 hw221 => ?_)
  obtain ⟨e221, hO⟩ := hw221
  have e221 := e221.trans plv25
  subst e221
  have hO := hO.to plv26
  generalize push Hs (tb plN2) = Hs at hO
  refine wm_iconst hC (pc := 224) dL_plans_224 ?_
  refine wm_icmp_eq hC 230 (pc := 225) dL_plans_225 (by decide) (by omega) (by omega) (fun _ => ?_) (fun h => absurd h (by decide))
  refine wm_aload_n hC 0 (pc := 230) dL_plans_230 rfl rfl ?_
  refine wm_iconst hC (pc := 231) dL_plans_231 ?_
  refine wm_iconst hC (pc := 232) dL_plans_232 ?_
  refine wm_iconst hC (pc := 233) dL_plans_233 ?_
  refine wm_iV hC cv_L_19 kc_X8_talk rfl rfl (t_talkW hO (by decide)) rfl (by decide) rfl (Nat.le_of_ble_eq_true rfl) (pc := 234) dL_plans_234 (fun z234 w234 hw234 => ?_)
  obtain ⟨e234, hO⟩ := hw234
  have e234 := e234.trans plv27
  subst e234
  refine wm_iconst hC (pc := 237) dL_plans_237 ?_
  refine wm_icmp_ne hC 360 (pc := 238) dL_plans_238 (by decide) (by omega) (by omega) (fun h => absurd h (by decide)) (fun _ => ?_)
  refine wm_aload_n hC 0 (pc := 241) dL_plans_241 rfl rfl ?_
  refine wm_iconst hC (pc := 242) dL_plans_242 ?_
  refine wm_iconst hC (pc := 243) dL_plans_243 ?_
  refine wm_iconst hC (pc := 244) dL_plans_244 ?_
  refine wm_iV hC cv_L_19 kc_X8_talk rfl rfl (t_talkW hO (by decide)) rfl (by decide) rfl (Nat.le_of_ble_eq_true rfl) (pc := 245) dL_plans_245 (fun z245 w245 hw245 => ?_)
  obtain ⟨e245, hO⟩ := hw245
  have e245 := e245.trans plv28
  subst e245
  refine wm_if_ne hC 360 (pc := 248) dL_plans_248 (by decide) (by omega) (fun h => absurd h (by decide)) (fun _ => ?_)
  refine wm_aload_n hC 0 (pc := 251) dL_plans_251 rfl rfl ?_
  refine wm_iconst hC (pc := 252) dL_plans_252 ?_
  refine wm_iconst hC (pc := 253) dL_plans_253 ?_
  refine wm_iconst hC (pc := 254) dL_plans_254 ?_
  refine wm_iV hC cv_L_19 kc_X8_talk rfl rfl (t_talkW hO (by decide)) rfl (by decide) rfl (Nat.le_of_ble_eq_true rfl) (pc := 255) dL_plans_255 (fun z255 w255 hw255 => ?_)
  obtain ⟨e255, hO⟩ := hw255
  have e255 := e255.trans plv29
  subst e255
  refine wm_iconst hC (pc := 258) dL_plans_258 ?_
  refine wm_icmp_ne hC 360 (pc := 259) dL_plans_259 (by decide) (by omega) (by omega) (fun h => absurd h (by decide)) (fun _ => ?_)
  refine wm_aload_n hC 0 (pc := 262) dL_plans_262 rfl rfl ?_
  refine wm_iconst hC (pc := 263) dL_plans_263 ?_
  refine wm_iconst hC (pc := 264) dL_plans_264 ?_
  refine wm_iconst hC (pc := 265) dL_plans_265 ?_
  refine wm_iV hC cv_L_19 kc_X8_talk rfl rfl (t_talkW hO (by decide)) rfl (by decide) rfl (Nat.le_of_ble_eq_true rfl) (pc := 266) dL_plans_266 (fun z266 w266 hw266 => ?_)
  obtain ⟨e266, hO⟩ := hw266
  have e266 := e266.trans plv30
  subst e266
  refine wm_iconst hC (pc := 269) dL_plans_269 ?_
  refine wm_icmp_ne hC 360 (pc := 270) dL_plans_270 (by decide) (by omega) (by omega) (fun h => absurd h (by decide)) (fun _ => ?_)
  refine wm_aload_n hC 0 (pc := 273) dL_plans_273 rfl rfl ?_
  refine wm_iconst hC (pc := 274) dL_plans_274 ?_
  refine wm_iconst hC (pc := 275) dL_plans_275 ?_
  refine wm_iconst hC (pc := 276) dL_plans_276 ?_
  refine wm_iV hC cv_L_19 kc_X8_talk rfl rfl (t_talkW hO (by decide)) rfl (by decide) rfl (Nat.le_of_ble_eq_true rfl) (pc := 277) dL_plans_277 (fun z277 w277 hw277 => ?_)
  obtain ⟨e277, hO⟩ := hw277
  have e277 := e277.trans plv31
  subst e277
  refine wm_iconst hC (pc := 280) dL_plans_280 ?_
  refine wm_icmp_ne hC 360 (pc := 281) dL_plans_281 (by decide) (by omega) (by omega) (fun h => absurd h (by decide)) (fun _ => ?_)
  refine wm_aload_n hC 0 (pc := 284) dL_plans_284 rfl rfl ?_
  refine wm_iconst hC (pc := 285) dL_plans_285 ?_
  refine wm_iconst hC (pc := 286) dL_plans_286 ?_
  refine wm_iconst hC (pc := 287) dL_plans_287 ?_
  refine wm_iV hC cv_L_19 kc_X8_talk rfl rfl (t_talkW hO (by decide)) rfl (by decide) rfl (Nat.le_of_ble_eq_true rfl) (pc := 288) dL_plans_288 (fun z288 w288 hw288 => ?_)
  obtain ⟨e288, hO⟩ := hw288
  have e288 := e288.trans plv32
  subst e288
  refine wm_bipush hC (pc := 291) dL_plans_291 (by decide) ?_
  refine wm_icmp_ne hC 360 (pc := 293) dL_plans_293 (by decide) (by omega) (by omega) (fun h => absurd h (by decide)) (fun _ => ?_)
  refine wm_aload_n hC 0 (pc := 296) dL_plans_296 rfl rfl ?_
  refine wm_iconst hC (pc := 297) dL_plans_297 ?_
  refine wm_iconst hC (pc := 298) dL_plans_298 ?_
  refine wm_jV hC cv_L_56 kc_X8_talks rfl rfl (t_talksW hO (by decide)) rfl (by decide) rfl (Nat.le_of_ble_eq_true rfl) (pc := 299) dL_plans_299 (fun z299 w299 hw299 => ?_)
  obtain ⟨e299, hO⟩ := hw299
  have e299 := e299.trans plv33
  subst e299
  refine wm_ldc2 hC (-1000002) kJ_L_138 (pc := 302) dL_plans_302 ?_
  refine wm_lcmp_eq hC (pc := 305) dL_plans_305 rfl ?_
  refine wm_if_ne hC 360 (pc := 306) dL_plans_306 (by decide) (by omega) (fun h => absurd h (by decide)) (fun _ => ?_)
  refine wm_aload_n hC 0 (pc := 309) dL_plans_309 rfl rfl ?_
  refine wm_iconst hC (pc := 310) dL_plans_310 ?_
  refine wm_iconst hC (pc := 311) dL_plans_311 ?_
  refine wm_iconst hC (pc := 312) dL_plans_312 ?_
  refine wm_iconst hC (pc := 313) dL_plans_313 ?_
  refine wm_iV hC cv_L_52 kc_X8_pairOf rfl rfl (t_pairOfV hO (by decide) (by decide)) rfl (by decide) rfl (Nat.le_of_ble_eq_true rfl) (pc := 314) dL_plans_314 (fun z314 w314 hw314 => ?_)
  obtain ⟨e314, hO⟩ := hw314
  have e314 := e314.trans plv34
  subst e314
  refine wm_iconst hC (pc := 317) dL_plans_317 ?_
  refine wm_icmp_ne hC 360 (pc := 318) dL_plans_318 (by decide) (by omega) (by omega) (fun h => absurd h (by decide)) (fun _ => ?_)
  refine wm_aload_n hC 0 (pc := 321) dL_plans_321 rfl rfl ?_
  refine wm_iconst hC (pc := 322) dL_plans_322 ?_
  refine wm_iconst hC (pc := 323) dL_plans_323 ?_
  refine wm_iconst hC (pc := 324) dL_plans_324 ?_
  refine wm_bipush hC (pc := 325) dL_plans_325 (by decide) ?_
  refine wm_iV hC cv_L_52 kc_X8_pairOf rfl rfl (t_pairOfV hO (by decide) (by decide)) rfl (by decide) rfl (Nat.le_of_ble_eq_true rfl) (pc := 327) dL_plans_327 (fun z327 w327 hw327 => ?_)
  obtain ⟨e327, hO⟩ := hw327
  have e327 := e327.trans plv35
  subst e327
  refine wm_iconst hC (pc := 330) dL_plans_330 ?_
  refine wm_icmp_ne hC 360 (pc := 331) dL_plans_331 (by decide) (by omega) (by omega) (fun h => absurd h (by decide)) (fun _ => ?_)
  refine wm_aload_n hC 0 (pc := 334) dL_plans_334 rfl rfl ?_
  refine wm_iconst hC (pc := 335) dL_plans_335 ?_
  refine wm_iconst hC (pc := 336) dL_plans_336 ?_
  refine wm_iconst hC (pc := 337) dL_plans_337 ?_
  refine wm_iconst hC (pc := 338) dL_plans_338 ?_
  refine wm_iV hC cv_L_52 kc_X8_pairOf rfl rfl (t_pairOfV hO (by decide) (by decide)) rfl (by decide) rfl (Nat.le_of_ble_eq_true rfl) (pc := 339) dL_plans_339 (fun z339 w339 hw339 => ?_)
  obtain ⟨e339, hO⟩ := hw339
  have e339 := e339.trans plv36
  subst e339
  refine wm_ldc hC (-1000004) kI_L_55 (pc := 342) dL_plans_342 ?_
  refine wm_icmp_ne hC 360 (pc := 344) dL_plans_344 (by decide) (by omega) (by omega) (fun h => absurd h (by decide)) (fun _ => ?_)
  refine wm_aload_n hC 0 (pc := 347) dL_plans_347 rfl rfl ?_
  refine wm_iconst hC (pc := 348) dL_plans_348 ?_
  refine wm_iconst hC (pc := 349) dL_plans_349 ?_
  refine wm_iconst hC (pc := 350) dL_plans_350 ?_
  refine wm_iconst hC (pc := 351) dL_plans_351 ?_
  refine wm_iV hC cv_L_52 kc_X8_pairOf rfl rfl (t_pairOfV hO (by decide) (by decide)) rfl (by decide) rfl (Nat.le_of_ble_eq_true rfl) (pc := 352) dL_plans_352 (fun z352 w352 hw352 => ?_)
  obtain ⟨e352, hO⟩ := hw352
  have e352 := e352.trans plv37
  subst e352
  refine wm_ldc hC (-1000004) kI_L_55 (pc := 355) dL_plans_355 ?_
  refine wm_icmp_eq hC 362 (pc := 357) dL_plans_357 (by decide) (by omega) (by omega) (fun _ => ?_) (fun h => absurd h (by decide))
  refine wm_aload_n hC 0 (pc := 362) dL_plans_362 rfl rfl ?_
  refine wm_iconst hC (pc := 363) dL_plans_363 ?_
  refine wm_iconst hC (pc := 364) dL_plans_364 ?_
  refine wm_iconst hC (pc := 365) dL_plans_365 ?_
  refine wm_iV hC cv_L_19 kc_X8_talk rfl rfl (t_talkW hO (by decide)) rfl (by decide) rfl (Nat.le_of_ble_eq_true rfl) (pc := 366) dL_plans_366 (fun z366 w366 hw366 => ?_)
  obtain ⟨e366, hO⟩ := hw366
  have e366 := e366.trans plv38
  subst e366
  refine wm_iconst hC (pc := 369) dL_plans_369 ?_
  refine wm_icmp_ne hC 432 (pc := 370) dL_plans_370 (by decide) (by omega) (by omega) (fun h => absurd h (by decide)) (fun _ => ?_)
  refine wm_aload_n hC 0 (pc := 373) dL_plans_373 rfl rfl ?_
  refine wm_iconst hC (pc := 374) dL_plans_374 ?_
  refine wm_iconst hC (pc := 375) dL_plans_375 ?_
  refine wm_iconst hC (pc := 376) dL_plans_376 ?_
  refine wm_iconst hC (pc := 377) dL_plans_377 ?_
  refine wm_iV hC cv_L_52 kc_X8_pairOf rfl rfl (t_pairOfV hO (by decide) (by decide)) rfl (by decide) rfl (Nat.le_of_ble_eq_true rfl) (pc := 378) dL_plans_378 (fun z378 w378 hw378 => ?_)
  obtain ⟨e378, hO⟩ := hw378
  have e378 := e378.trans plv39
  subst e378
  refine wm_iconst hC (pc := 381) dL_plans_381 ?_
  refine wm_icmp_ne hC 432 (pc := 382) dL_plans_382 (by decide) (by omega) (by omega) (fun h => absurd h (by decide)) (fun _ => ?_)
  refine wm_aload_n hC 0 (pc := 385) dL_plans_385 rfl rfl ?_
  refine wm_iconst hC (pc := 386) dL_plans_386 ?_
  refine wm_iconst hC (pc := 387) dL_plans_387 ?_
  refine wm_iconst hC (pc := 388) dL_plans_388 ?_
  refine wm_iconst hC (pc := 389) dL_plans_389 ?_
  refine wm_iV hC cv_L_52 kc_X8_pairOf rfl rfl (t_pairOfV hO (by decide) (by decide)) rfl (by decide) rfl (Nat.le_of_ble_eq_true rfl) (pc := 390) dL_plans_390 (fun z390 w390 hw390 => ?_)
  obtain ⟨e390, hO⟩ := hw390
  have e390 := e390.trans plv40
  subst e390
  refine wm_iconst hC (pc := 393) dL_plans_393 ?_
  refine wm_icmp_ne hC 432 (pc := 394) dL_plans_394 (by decide) (by omega) (by omega) (fun h => absurd h (by decide)) (fun _ => ?_)
  refine wm_aload_n hC 0 (pc := 397) dL_plans_397 rfl rfl ?_
  refine wm_iconst hC (pc := 398) dL_plans_398 ?_
  refine wm_iconst hC (pc := 399) dL_plans_399 ?_
  refine wm_iconst hC (pc := 400) dL_plans_400 ?_
  refine wm_iV hC cv_L_19 kc_X8_talk rfl rfl (t_talkW hO (by decide)) rfl (by decide) rfl (Nat.le_of_ble_eq_true rfl) (pc := 401) dL_plans_401 (fun z401 w401 hw401 => ?_)
  obtain ⟨e401, hO⟩ := hw401
  have e401 := e401.trans plv41
  subst e401
  refine wm_ldc hC (-1000004) kI_L_55 (pc := 404) dL_plans_404 ?_
  refine wm_icmp_ne hC 432 (pc := 406) dL_plans_406 (by decide) (by omega) (by omega) (fun h => absurd h (by decide)) (fun _ => ?_)
  refine wm_aload_n hC 0 (pc := 409) dL_plans_409 rfl rfl ?_
  refine wm_iconst hC (pc := 410) dL_plans_410 ?_
  refine wm_iconst hC (pc := 411) dL_plans_411 ?_
  refine wm_jV hC cv_L_56 kc_X8_talks rfl rfl (t_talksW hO (by decide)) rfl (by decide) rfl (Nat.le_of_ble_eq_true rfl) (pc := 412) dL_plans_412 (fun z412 w412 hw412 => ?_)
  obtain ⟨e412, hO⟩ := hw412
  have e412 := e412.trans plv42
  subst e412
  refine wm_lconst hC 0 (pc := 415) dL_plans_415 rfl ?_
  refine wm_lcmp_eq hC (pc := 416) dL_plans_416 rfl ?_
  refine wm_if_ne hC 432 (pc := 417) dL_plans_417 (by decide) (by omega) (fun h => absurd h (by decide)) (fun _ => ?_)
  refine wm_aload_n hC 0 (pc := 420) dL_plans_420 rfl rfl ?_
  refine wm_iconst hC (pc := 421) dL_plans_421 ?_
  refine wm_iconst hC (pc := 422) dL_plans_422 ?_
  refine wm_iconst hC (pc := 423) dL_plans_423 ?_
  refine wm_iconst hC (pc := 424) dL_plans_424 ?_
  refine wm_iV hC cv_L_52 kc_X8_pairOf rfl rfl (t_pairOfV hO (by decide) (by decide)) rfl (by decide) rfl (Nat.le_of_ble_eq_true rfl) (pc := 425) dL_plans_425 (fun z425 w425 hw425 => ?_)
  obtain ⟨e425, hO⟩ := hw425
  have e425 := e425.trans plv43
  subst e425
  refine wm_iconst hC (pc := 428) dL_plans_428 ?_
  refine wm_icmp_eq hC 434 (pc := 429) dL_plans_429 (by decide) (by omega) (by omega) (fun _ => ?_) (fun h => absurd h (by decide))
  refine wm_aload_n hC 0 (pc := 434) dL_plans_434 rfl rfl ?_
  refine wm_iconst hC (pc := 435) dL_plans_435 ?_
  refine wm_iconst hC (pc := 436) dL_plans_436 ?_
  refine wm_iconst hC (pc := 437) dL_plans_437 ?_
  refine wm_iV hC cv_L_36 kc_X8_erase rfl rfl (t_eraseV hO (by decide) plv44) rfl (by decide) rfl (Nat.le_of_ble_eq_true rfl) (pc := 438) dL_plans_438 (fun z438 w438 hw438 => ?_)
  obtain ⟨e438, hO⟩ := hw438
  have e438 := e438.trans plv45
  subst e438
  have hO := hO.to plv46
  generalize push Hs (tb plN3) = Hs at hO
  refine wm_if_ne hC 550 (pc := 441) dL_plans_441 (by decide) (by omega) (fun h => absurd h (by decide)) (fun _ => ?_)
  refine wm_aload_n hC 0 (pc := 444) dL_plans_444 rfl rfl ?_
  refine wm_iconst hC (pc := 445) dL_plans_445 ?_
  refine wm_iconst hC (pc := 446) dL_plans_446 ?_
  refine wm_iconst hC (pc := 447) dL_plans_447 ?_
  refine wm_iV hC cv_L_19 kc_X8_talk rfl rfl (t_talkW hO (by decide)) rfl (by decide) rfl (Nat.le_of_ble_eq_true rfl) (pc := 448) dL_plans_448 (fun z448 w448 hw448 => ?_)
  obtain ⟨e448, hO⟩ := hw448
  have e448 := e448.trans plv47
  subst e448
  refine wm_if_ne hC 550 (pc := 451) dL_plans_451 (by decide) (by omega) (fun h => absurd h (by decide)) (fun _ => ?_)
  refine wm_aload_n hC 0 (pc := 454) dL_plans_454 rfl rfl ?_
  refine wm_iconst hC (pc := 455) dL_plans_455 ?_
  refine wm_iconst hC (pc := 456) dL_plans_456 ?_
  refine wm_jV hC cv_L_56 kc_X8_talks rfl rfl (t_talksW hO (by decide)) rfl (by decide) rfl (Nat.le_of_ble_eq_true rfl) (pc := 457) dL_plans_457 (fun z457 w457 hw457 => ?_)
  obtain ⟨e457, hO⟩ := hw457
  have e457 := e457.trans plv48
  subst e457
  refine wm_lconst hC 1 (pc := 460) dL_plans_460 rfl ?_
  refine wm_lcmp_eq hC (pc := 461) dL_plans_461 rfl ?_
  refine wm_if_ne hC 550 (pc := 462) dL_plans_462 (by decide) (by omega) (fun h => absurd h (by decide)) (fun _ => ?_)
  refine wm_aload_n hC 0 (pc := 465) dL_plans_465 rfl rfl ?_
  refine wm_iconst hC (pc := 466) dL_plans_466 ?_
  refine wm_iconst hC (pc := 467) dL_plans_467 ?_
  refine wm_iconst hC (pc := 468) dL_plans_468 ?_
  refine wm_iV hC cv_L_19 kc_X8_talk rfl rfl (t_talkW hO (by decide)) rfl (by decide) rfl (Nat.le_of_ble_eq_true rfl) (pc := 469) dL_plans_469 (fun z469 w469 hw469 => ?_)
  obtain ⟨e469, hO⟩ := hw469
  have e469 := e469.trans plv49
  subst e469
  refine wm_iconst hC (pc := 472) dL_plans_472 ?_
  refine wm_icmp_ne hC 550 (pc := 473) dL_plans_473 (by decide) (by omega) (by omega) (fun h => absurd h (by decide)) (fun _ => ?_)
  refine wm_aload_n hC 0 (pc := 476) dL_plans_476 rfl rfl ?_
  refine wm_iconst hC (pc := 477) dL_plans_477 ?_
  refine wm_iconst hC (pc := 478) dL_plans_478 ?_
  refine wm_iconst hC (pc := 479) dL_plans_479 ?_
  refine wm_iconst hC (pc := 480) dL_plans_480 ?_
  refine wm_iV hC cv_L_52 kc_X8_pairOf rfl rfl (t_pairOfV hO (by decide) (by decide)) rfl (by decide) rfl (Nat.le_of_ble_eq_true rfl) (pc := 481) dL_plans_481 (fun z481 w481 hw481 => ?_)
  obtain ⟨e481, hO⟩ := hw481
  have e481 := e481.trans plv50
  subst e481
  refine wm_iconst hC (pc := 484) dL_plans_484 ?_
  refine wm_icmp_ne hC 550 (pc := 485) dL_plans_485 (by decide) (by omega) (by omega) (fun h => absurd h (by decide)) (fun _ => ?_)
  refine wm_aload_n hC 0 (pc := 488) dL_plans_488 rfl rfl ?_
  refine wm_iconst hC (pc := 489) dL_plans_489 ?_
  refine wm_iconst hC (pc := 490) dL_plans_490 ?_
  refine wm_iconst hC (pc := 491) dL_plans_491 ?_
  refine wm_iconst hC (pc := 492) dL_plans_492 ?_
  refine wm_iV hC cv_L_52 kc_X8_pairOf rfl rfl (t_pairOfV hO (by decide) (by decide)) rfl (by decide) rfl (Nat.le_of_ble_eq_true rfl) (pc := 493) dL_plans_493 (fun z493 w493 hw493 => ?_)
  obtain ⟨e493, hO⟩ := hw493
  have e493 := e493.trans plv51
  subst e493
  refine wm_iconst hC (pc := 496) dL_plans_496 ?_
  refine wm_icmp_ne hC 550 (pc := 497) dL_plans_497 (by decide) (by omega) (by omega) (fun h => absurd h (by decide)) (fun _ => ?_)
  refine wm_aload_n hC 0 (pc := 500) dL_plans_500 rfl rfl ?_
  refine wm_iconst hC (pc := 501) dL_plans_501 ?_
  refine wm_iconst hC (pc := 502) dL_plans_502 ?_
  refine wm_iconst hC (pc := 503) dL_plans_503 ?_
  refine wm_iconst hC (pc := 504) dL_plans_504 ?_
  refine wm_iV hC cv_L_52 kc_X8_pairOf rfl rfl (t_pairOfV hO (by decide) (by decide)) rfl (by decide) rfl (Nat.le_of_ble_eq_true rfl) (pc := 505) dL_plans_505 (fun z505 w505 hw505 => ?_)
  obtain ⟨e505, hO⟩ := hw505
  have e505 := e505.trans plv52
  subst e505
  refine wm_if_ne hC 550 (pc := 508) dL_plans_508 (by decide) (by omega) (fun h => absurd h (by decide)) (fun _ => ?_)
  refine wm_aload_n hC 0 (pc := 511) dL_plans_511 rfl rfl ?_
  refine wm_iconst hC (pc := 512) dL_plans_512 ?_
  refine wm_iconst hC (pc := 513) dL_plans_513 ?_
  refine wm_iconst hC (pc := 514) dL_plans_514 ?_
  refine wm_bipush hC (pc := 515) dL_plans_515 (by decide) ?_
  refine wm_iV hC cv_L_52 kc_X8_pairOf rfl rfl (t_pairOfV hO (by decide) (by decide)) rfl (by decide) rfl (Nat.le_of_ble_eq_true rfl) (pc := 517) dL_plans_517 (fun z517 w517 hw517 => ?_)
  obtain ⟨e517, hO⟩ := hw517
  have e517 := e517.trans plv53
  subst e517
  refine wm_if_ne hC 550 (pc := 520) dL_plans_520 (by decide) (by omega) (fun h => absurd h (by decide)) (fun _ => ?_)
  refine wm_aload_n hC 0 (pc := 523) dL_plans_523 rfl rfl ?_
  refine wm_iconst hC (pc := 524) dL_plans_524 ?_
  refine wm_iconst hC (pc := 525) dL_plans_525 ?_
  refine wm_iconst hC (pc := 526) dL_plans_526 ?_
  refine wm_bipush hC (pc := 527) dL_plans_527 (by decide) ?_
  refine wm_iV hC cv_L_52 kc_X8_pairOf rfl rfl (t_pairOfV hO (by decide) (by decide)) rfl (by decide) rfl (Nat.le_of_ble_eq_true rfl) (pc := 529) dL_plans_529 (fun z529 w529 hw529 => ?_)
  obtain ⟨e529, hO⟩ := hw529
  have e529 := e529.trans plv54
  subst e529
  refine wm_ldc hC (-1000004) kI_L_55 (pc := 532) dL_plans_532 ?_
  refine wm_icmp_ne hC 550 (pc := 534) dL_plans_534 (by decide) (by omega) (by omega) (fun h => absurd h (by decide)) (fun _ => ?_)
  refine wm_aload_n hC 0 (pc := 537) dL_plans_537 rfl rfl ?_
  refine wm_iconst hC (pc := 538) dL_plans_538 ?_
  refine wm_iconst hC (pc := 539) dL_plans_539 ?_
  refine wm_iconst hC (pc := 540) dL_plans_540 ?_
  refine wm_iconst hC (pc := 541) dL_plans_541 ?_
  refine wm_iV hC cv_L_52 kc_X8_pairOf rfl rfl (t_pairOfV hO (by decide) (by decide)) rfl (by decide) rfl (Nat.le_of_ble_eq_true rfl) (pc := 542) dL_plans_542 (fun z542 w542 hw542 => ?_)
  obtain ⟨e542, hO⟩ := hw542
  have e542 := e542.trans plv55
  subst e542
  refine wm_ldc hC (-1000004) kI_L_55 (pc := 545) dL_plans_545 ?_
  refine wm_icmp_eq hC 552 (pc := 547) dL_plans_547 (by decide) (by omega) (by omega) (fun _ => ?_) (fun h => absurd h (by decide))
  refine wm_aload_n hC 0 (pc := 552) dL_plans_552 rfl rfl ?_
  refine wm_iconst hC (pc := 553) dL_plans_553 ?_
  refine wm_iconst hC (pc := 554) dL_plans_554 ?_
  refine wm_iV hC cv_L_62 kc_X8_standsIn rfl rfl (t_standsInV hO (by decide)) rfl (by decide) rfl (Nat.le_of_ble_eq_true rfl) (pc := 555) dL_plans_555 (fun z555 w555 hw555 => ?_)
  obtain ⟨e555, hO⟩ := hw555
  have e555 := e555.trans plv56
  subst e555
  refine wm_iconst hC (pc := 558) dL_plans_558 ?_
  refine wm_icmp_ne hC 680 (pc := 559) dL_plans_559 (by decide) (by omega) (by omega) (fun h => absurd h (by decide)) (fun _ => ?_)
  refine wm_aload_n hC 0 (pc := 562) dL_plans_562 rfl rfl ?_
  refine wm_iconst hC (pc := 563) dL_plans_563 ?_
  refine wm_iconst hC (pc := 564) dL_plans_564 ?_
  refine wm_iV hC cv_L_62 kc_X8_standsIn rfl rfl (t_standsInV hO (by decide)) rfl (by decide) rfl (Nat.le_of_ble_eq_true rfl) (pc := 565) dL_plans_565 (fun z565 w565 hw565 => ?_)
  obtain ⟨e565, hO⟩ := hw565
  have e565 := e565.trans plv57
  subst e565
  refine wm_if_ne hC 680 (pc := 568) dL_plans_568 (by decide) (by omega) (fun h => absurd h (by decide)) (fun _ => ?_)
  refine wm_aload_n hC 0 (pc := 571) dL_plans_571 rfl rfl ?_
  refine wm_iconst hC (pc := 572) dL_plans_572 ?_
  refine wm_iconst hC (pc := 573) dL_plans_573 ?_
  refine wm_iconst hC (pc := 574) dL_plans_574 ?_
  refine wm_iV hC cv_L_65 kc_X8_against rfl rfl (t_againstV hO (by decide)) rfl (by decide) rfl (Nat.le_of_ble_eq_true rfl) (pc := 575) dL_plans_575 (fun z575 w575 hw575 => ?_)
  obtain ⟨e575, hO⟩ := hw575
  have e575 := e575.trans plv58
  subst e575
  refine wm_if_ne hC 680 (pc := 578) dL_plans_578 (by decide) (by omega) (fun h => absurd h (by decide)) (fun _ => ?_)
  refine wm_aload_n hC 0 (pc := 581) dL_plans_581 rfl rfl ?_
  refine wm_iconst hC (pc := 582) dL_plans_582 ?_
  refine wm_iconst hC (pc := 583) dL_plans_583 ?_
  refine wm_iconst hC (pc := 584) dL_plans_584 ?_
  refine wm_iV hC cv_L_65 kc_X8_against rfl rfl (t_againstV hO (by decide)) rfl (by decide) rfl (Nat.le_of_ble_eq_true rfl) (pc := 585) dL_plans_585 (fun z585 w585 hw585 => ?_)
  obtain ⟨e585, hO⟩ := hw585
  have e585 := e585.trans plv59
  subst e585
  refine wm_iconst hC (pc := 588) dL_plans_588 ?_
  refine wm_icmp_ne hC 680 (pc := 589) dL_plans_589 (by decide) (by omega) (by omega) (fun h => absurd h (by decide)) (fun _ => ?_)
  refine wm_aload_n hC 0 (pc := 592) dL_plans_592 rfl rfl ?_
  refine wm_iconst hC (pc := 593) dL_plans_593 ?_
  refine wm_iconst hC (pc := 594) dL_plans_594 ?_
  refine wm_iconst hC (pc := 595) dL_plans_595 ?_
  refine wm_iV hC cv_L_65 kc_X8_against rfl rfl (t_againstV hO (by decide)) rfl (by decide) rfl (Nat.le_of_ble_eq_true rfl) (pc := 596) dL_plans_596 (fun z596 w596 hw596 => ?_)
  obtain ⟨e596, hO⟩ := hw596
  have e596 := e596.trans plv60
  subst e596
  refine wm_ldc hC (-1000004) kI_L_55 (pc := 599) dL_plans_599 ?_
  refine wm_icmp_ne hC 680 (pc := 601) dL_plans_601 (by decide) (by omega) (by omega) (fun h => absurd h (by decide)) (fun _ => ?_)
  refine wm_aload_n hC 0 (pc := 604) dL_plans_604 rfl rfl ?_
  refine wm_iconst hC (pc := 605) dL_plans_605 ?_
  refine wm_iconst hC (pc := 606) dL_plans_606 ?_
  refine wm_bipush hC (pc := 607) dL_plans_607 (by decide) ?_
  refine wm_iV hC cv_L_65 kc_X8_against rfl rfl (t_againstV hO (by decide)) rfl (by decide) rfl (Nat.le_of_ble_eq_true rfl) (pc := 609) dL_plans_609 (fun z609 w609 hw609 => ?_)
  obtain ⟨e609, hO⟩ := hw609
  have e609 := e609.trans plv61
  subst e609
  refine wm_ldc hC (-1000004) kI_L_55 (pc := 612) dL_plans_612 ?_
  refine wm_icmp_ne hC 680 (pc := 614) dL_plans_614 (by decide) (by omega) (by omega) (fun h => absurd h (by decide)) (fun _ => ?_)
  refine wm_aload_n hC 0 (pc := 617) dL_plans_617 rfl rfl ?_
  refine wm_iconst hC (pc := 618) dL_plans_618 ?_
  refine wm_iconst hC (pc := 619) dL_plans_619 ?_
  refine wm_iV hC cv_L_39 kc_X8_copy rfl rfl (t_copyV hO (by decide)) rfl (by decide) rfl (Nat.le_of_ble_eq_true rfl) (pc := 620) dL_plans_620 (fun z620 w620 hw620 => ?_)
  obtain ⟨e620, hO⟩ := hw620
  have e620 := e620.trans plv62
  subst e620
  have hO := hO.to plv63
  generalize push Hs (tb plN4) = Hs at hO
  refine wm_iconst hC (pc := 623) dL_plans_623 ?_
  refine wm_icmp_ne hC 680 (pc := 624) dL_plans_624 (by decide) (by omega) (by omega) (fun h => absurd h (by decide)) (fun _ => ?_)
  refine wm_aload_n hC 0 (pc := 627) dL_plans_627 rfl rfl ?_
  refine wm_iconst hC (pc := 628) dL_plans_628 ?_
  refine wm_iconst hC (pc := 629) dL_plans_629 ?_
  refine wm_iconst hC (pc := 630) dL_plans_630 ?_
  refine wm_iconst hC (pc := 631) dL_plans_631 ?_
  refine wm_iV hC cv_L_32 kc_X8_arrow rfl rfl (t_arrowV hO (by decide)) rfl (by decide) rfl (Nat.le_of_ble_eq_true rfl) (pc := 632) dL_plans_632 (fun z632 w632 hw632 => ?_)
  obtain ⟨e632, hO⟩ := hw632
  have e632 := e632.trans plv64
  subst e632
  have hO := hO.to plv65
  generalize push Hs (tb plN5) = Hs at hO
  refine wm_iconst hC (pc := 635) dL_plans_635 ?_
  refine wm_icmp_ne hC 680 (pc := 636) dL_plans_636 (by decide) (by omega) (by omega) (fun h => absurd h (by decide)) (fun _ => ?_)
  refine wm_aload_n hC 0 (pc := 639) dL_plans_639 rfl rfl ?_
  refine wm_iconst hC (pc := 640) dL_plans_640 ?_
  refine wm_iconst hC (pc := 641) dL_plans_641 ?_
  refine wm_iV hC cv_L_62 kc_X8_standsIn rfl rfl (t_standsInV hO (by decide)) rfl (by decide) rfl (Nat.le_of_ble_eq_true rfl) (pc := 642) dL_plans_642 (fun z642 w642 hw642 => ?_)
  obtain ⟨e642, hO⟩ := hw642
  have e642 := e642.trans plv66
  subst e642
  refine wm_iconst hC (pc := 645) dL_plans_645 ?_
  refine wm_icmp_ne hC 680 (pc := 646) dL_plans_646 (by decide) (by omega) (by omega) (fun h => absurd h (by decide)) (fun _ => ?_)
  refine wm_aload_n hC 0 (pc := 649) dL_plans_649 rfl rfl ?_
  refine wm_iconst hC (pc := 650) dL_plans_650 ?_
  refine wm_iconst hC (pc := 651) dL_plans_651 ?_
  refine wm_iV hC cv_L_62 kc_X8_standsIn rfl rfl (t_standsInV hO (by decide)) rfl (by decide) rfl (Nat.le_of_ble_eq_true rfl) (pc := 652) dL_plans_652 (fun z652 w652 hw652 => ?_)
  obtain ⟨e652, hO⟩ := hw652
  have e652 := e652.trans plv67
  subst e652
  refine wm_if_ne hC 680 (pc := 655) dL_plans_655 (by decide) (by omega) (fun h => absurd h (by decide)) (fun _ => ?_)
  refine wm_aload_n hC 0 (pc := 658) dL_plans_658 rfl rfl ?_
  refine wm_iconst hC (pc := 659) dL_plans_659 ?_
  refine wm_iconst hC (pc := 660) dL_plans_660 ?_
  refine wm_iconst hC (pc := 661) dL_plans_661 ?_
  refine wm_iV hC cv_L_65 kc_X8_against rfl rfl (t_againstV hO (by decide)) rfl (by decide) rfl (Nat.le_of_ble_eq_true rfl) (pc := 662) dL_plans_662 (fun z662 w662 hw662 => ?_)
  obtain ⟨e662, hO⟩ := hw662
  have e662 := e662.trans plv68
  subst e662
  refine wm_iconst hC (pc := 665) dL_plans_665 ?_
  refine wm_icmp_ne hC 680 (pc := 666) dL_plans_666 (by decide) (by omega) (by omega) (fun h => absurd h (by decide)) (fun _ => ?_)
  refine wm_aload_n hC 0 (pc := 669) dL_plans_669 rfl rfl ?_
  refine wm_iconst hC (pc := 670) dL_plans_670 ?_
  refine wm_iconst hC (pc := 671) dL_plans_671 ?_
  refine wm_iconst hC (pc := 672) dL_plans_672 ?_
  refine wm_iV hC cv_L_65 kc_X8_against rfl rfl (t_againstV hO (by decide)) rfl (by decide) rfl (Nat.le_of_ble_eq_true rfl) (pc := 673) dL_plans_673 (fun z673 w673 hw673 => ?_)
  obtain ⟨e673, hO⟩ := hw673
  have e673 := e673.trans plv69
  subst e673
  refine wm_iconst hC (pc := 676) dL_plans_676 ?_
  refine wm_icmp_eq hC 682 (pc := 677) dL_plans_677 (by decide) (by omega) (by omega) (fun _ => ?_) (fun h => absurd h (by decide))
  refine wm_aload_n hC 0 (pc := 682) dL_plans_682 rfl rfl ?_
  refine wm_iconst hC (pc := 683) dL_plans_683 ?_
  refine wm_iconst hC (pc := 684) dL_plans_684 ?_
  refine wm_iconst hC (pc := 685) dL_plans_685 ?_
  refine wm_iconst hC (pc := 686) dL_plans_686 ?_
  refine wm_iV hC cv_L_32 kc_X8_arrow rfl rfl (t_arrowV hO (by decide)) rfl (by decide) rfl (Nat.le_of_ble_eq_true rfl) (pc := 687) dL_plans_687 (fun z687 w687 hw687 => ?_)
  obtain ⟨e687, hO⟩ := hw687
  have e687 := e687.trans plv70
  subst e687
  have hO := hO.to plv71
  generalize push Hs (tb plN6) = Hs at hO
  refine wm_iconst hC (pc := 690) dL_plans_690 ?_
  refine wm_icmp_ne hC 801 (pc := 691) dL_plans_691 (by decide) (by omega) (by omega) (fun h => absurd h (by decide)) (fun _ => ?_)
  refine wm_aload_n hC 0 (pc := 694) dL_plans_694 rfl rfl ?_
  refine wm_iconst hC (pc := 695) dL_plans_695 ?_
  refine wm_iconst hC (pc := 696) dL_plans_696 ?_
  refine wm_iV hC cv_L_62 kc_X8_standsIn rfl rfl (t_standsInV hO (by decide)) rfl (by decide) rfl (Nat.le_of_ble_eq_true rfl) (pc := 697) dL_plans_697 (fun z697 w697 hw697 => ?_)
  obtain ⟨e697, hO⟩ := hw697
  have e697 := e697.trans plv72
  subst e697
  refine wm_if_ne hC 801 (pc := 700) dL_plans_700 (by decide) (by omega) (fun h => absurd h (by decide)) (fun _ => ?_)
  refine wm_aload_n hC 0 (pc := 703) dL_plans_703 rfl rfl ?_
  refine wm_iconst hC (pc := 704) dL_plans_704 ?_
  refine wm_iconst hC (pc := 705) dL_plans_705 ?_
  refine wm_iconst hC (pc := 706) dL_plans_706 ?_
  refine wm_iV hC cv_L_65 kc_X8_against rfl rfl (t_againstV hO (by decide)) rfl (by decide) rfl (Nat.le_of_ble_eq_true rfl) (pc := 707) dL_plans_707 (fun z707 w707 hw707 => ?_)
  obtain ⟨e707, hO⟩ := hw707
  have e707 := e707.trans plv73
  subst e707
  refine wm_iconst hC (pc := 710) dL_plans_710 ?_
  refine wm_icmp_ne hC 801 (pc := 711) dL_plans_711 (by decide) (by omega) (by omega) (fun h => absurd h (by decide)) (fun _ => ?_)
  refine wm_aload_n hC 0 (pc := 714) dL_plans_714 rfl rfl ?_
  refine wm_iconst hC (pc := 715) dL_plans_715 ?_
  refine wm_iconst hC (pc := 716) dL_plans_716 ?_
  refine wm_iconst hC (pc := 717) dL_plans_717 ?_
  refine wm_iV hC cv_L_65 kc_X8_against rfl rfl (t_againstV hO (by decide)) rfl (by decide) rfl (Nat.le_of_ble_eq_true rfl) (pc := 718) dL_plans_718 (fun z718 w718 hw718 => ?_)
  obtain ⟨e718, hO⟩ := hw718
  have e718 := e718.trans plv74
  subst e718
  refine wm_iconst hC (pc := 721) dL_plans_721 ?_
  refine wm_icmp_ne hC 801 (pc := 722) dL_plans_722 (by decide) (by omega) (by omega) (fun h => absurd h (by decide)) (fun _ => ?_)
  refine wm_aload_n hC 0 (pc := 725) dL_plans_725 rfl rfl ?_
  refine wm_iconst hC (pc := 726) dL_plans_726 ?_
  refine wm_iconst hC (pc := 727) dL_plans_727 ?_
  refine wm_iconst hC (pc := 728) dL_plans_728 ?_
  refine wm_iV hC cv_L_65 kc_X8_against rfl rfl (t_againstV hO (by decide)) rfl (by decide) rfl (Nat.le_of_ble_eq_true rfl) (pc := 729) dL_plans_729 (fun z729 w729 hw729 => ?_)
  obtain ⟨e729, hO⟩ := hw729
  have e729 := e729.trans plv75
  subst e729
  refine wm_iconst hC (pc := 732) dL_plans_732 ?_
  refine wm_icmp_ne hC 801 (pc := 733) dL_plans_733 (by decide) (by omega) (by omega) (fun h => absurd h (by decide)) (fun _ => ?_)
  refine wm_aload_n hC 0 (pc := 736) dL_plans_736 rfl rfl ?_
  refine wm_iconst hC (pc := 737) dL_plans_737 ?_
  refine wm_iconst hC (pc := 738) dL_plans_738 ?_
  refine wm_iconst hC (pc := 739) dL_plans_739 ?_
  refine wm_iV hC cv_L_65 kc_X8_against rfl rfl (t_againstV hO (by decide)) rfl (by decide) rfl (Nat.le_of_ble_eq_true rfl) (pc := 740) dL_plans_740 (fun z740 w740 hw740 => ?_)
  obtain ⟨e740, hO⟩ := hw740
  have e740 := e740.trans plv76
  subst e740
  refine wm_iconst hC (pc := 743) dL_plans_743 ?_
  refine wm_icmp_ne hC 801 (pc := 744) dL_plans_744 (by decide) (by omega) (by omega) (fun h => absurd h (by decide)) (fun _ => ?_)
  refine wm_aload_n hC 0 (pc := 747) dL_plans_747 rfl rfl ?_
  refine wm_iconst hC (pc := 748) dL_plans_748 ?_
  refine wm_iconst hC (pc := 749) dL_plans_749 ?_
  refine wm_iconst hC (pc := 750) dL_plans_750 ?_
  refine wm_iV hC cv_L_65 kc_X8_against rfl rfl (t_againstV hO (by decide)) rfl (by decide) rfl (Nat.le_of_ble_eq_true rfl) (pc := 751) dL_plans_751 (fun z751 w751 hw751 => ?_)
  obtain ⟨e751, hO⟩ := hw751
  have e751 := e751.trans plv77
  subst e751
  refine wm_iconst hC (pc := 754) dL_plans_754 ?_
  refine wm_icmp_ne hC 801 (pc := 755) dL_plans_755 (by decide) (by omega) (by omega) (fun h => absurd h (by decide)) (fun _ => ?_)
  refine wm_aload_n hC 0 (pc := 758) dL_plans_758 rfl rfl ?_
  refine wm_iconst hC (pc := 759) dL_plans_759 ?_
  refine wm_iconst hC (pc := 760) dL_plans_760 ?_
  refine wm_bipush hC (pc := 761) dL_plans_761 (by decide) ?_
  refine wm_iV hC cv_L_65 kc_X8_against rfl rfl (t_againstV hO (by decide)) rfl (by decide) rfl (Nat.le_of_ble_eq_true rfl) (pc := 763) dL_plans_763 (fun z763 w763 hw763 => ?_)
  obtain ⟨e763, hO⟩ := hw763
  have e763 := e763.trans plv78
  subst e763
  refine wm_if_ne hC 801 (pc := 766) dL_plans_766 (by decide) (by omega) (fun h => absurd h (by decide)) (fun _ => ?_)
  refine wm_aload_n hC 0 (pc := 769) dL_plans_769 rfl rfl ?_
  refine wm_iconst hC (pc := 770) dL_plans_770 ?_
  refine wm_iconst hC (pc := 771) dL_plans_771 ?_
  refine wm_bipush hC (pc := 772) dL_plans_772 (by decide) ?_
  refine wm_iV hC cv_L_65 kc_X8_against rfl rfl (t_againstV hO (by decide)) rfl (by decide) rfl (Nat.le_of_ble_eq_true rfl) (pc := 774) dL_plans_774 (fun z774 w774 hw774 => ?_)
  obtain ⟨e774, hO⟩ := hw774
  have e774 := e774.trans plv79
  subst e774
  refine wm_ldc hC (-1000004) kI_L_55 (pc := 777) dL_plans_777 ?_
  refine wm_icmp_ne hC 801 (pc := 779) dL_plans_779 (by decide) (by omega) (by omega) (fun h => absurd h (by decide)) (fun _ => ?_)
  refine wm_aload_n hC 0 (pc := 782) dL_plans_782 rfl rfl ?_
  refine wm_bipush hC (pc := 783) dL_plans_783 (by decide) ?_
  refine wm_iV hC cv_L_22 kc_X8_count rfl rfl (t_count hO (by omega)) rfl (by decide) rfl (Nat.le_of_ble_eq_true rfl) (pc := 785) dL_plans_785 (fun z785 w785 hw785 => ?_)
  obtain ⟨e785, hO⟩ := hw785
  rw [countA_st (by decide) (by decide)] at e785
  have e785 := e785.trans plv80
  subst e785
  refine wm_iconst hC (pc := 788) dL_plans_788 ?_
  refine wm_icmp_ne hC 801 (pc := 789) dL_plans_789 (by decide) (by omega) (by omega) (fun h => absurd h (by decide)) (fun _ => ?_)
  refine wm_aload_n hC 0 (pc := 792) dL_plans_792 rfl rfl ?_
  refine wm_bipush hC (pc := 793) dL_plans_793 (by decide) ?_
  refine wm_iV hC cv_L_22 kc_X8_count rfl rfl (t_count hO (by omega)) rfl (by decide) rfl (Nat.le_of_ble_eq_true rfl) (pc := 795) dL_plans_795 (fun z795 w795 hw795 => ?_)
  obtain ⟨e795, hO⟩ := hw795
  rw [countA_st (by decide) (by decide)] at e795
  have e795 := e795.trans plv81
  subst e795
  refine wm_if_eq hC 803 (pc := 798) dL_plans_798 (by decide) (by omega) (fun _ => ?_) (fun h => absurd h (by decide))
  refine wm_aload_n hC 0 (pc := 803) dL_plans_803 rfl rfl ?_
  refine wm_iconst hC (pc := 804) dL_plans_804 ?_
  refine wm_iconst hC (pc := 805) dL_plans_805 ?_
  refine wm_iconst hC (pc := 806) dL_plans_806 ?_
  refine wm_iV hC cv_L_26 kc_X8_kind rfl rfl (t_kindV hO (by decide)) rfl (by decide) rfl (Nat.le_of_ble_eq_true rfl) (pc := 807) dL_plans_807 (fun z807 w807 hw807 => ?_)
  obtain ⟨e807, hO⟩ := hw807
  have e807 := e807.trans plv82
  subst e807
  have hO := hO.to plv83
  generalize push Hs (tb plN7) = Hs at hO
  refine wm_iconst hC (pc := 810) dL_plans_810 ?_
  refine wm_icmp_ne hC 900 (pc := 811) dL_plans_811 (by decide) (by omega) (by omega) (fun h => absurd h (by decide)) (fun _ => ?_)
  refine wm_aload_n hC 0 (pc := 814) dL_plans_814 rfl rfl ?_
  refine wm_iconst hC (pc := 815) dL_plans_815 ?_
  refine wm_iconst hC (pc := 816) dL_plans_816 ?_
  refine wm_iconst hC (pc := 817) dL_plans_817 ?_
  refine wm_iV hC cv_L_13 kc_X8_stateOf rfl rfl (t_stateOfV hO (by decide)) rfl (by decide) rfl (Nat.le_of_ble_eq_true rfl) (pc := 818) dL_plans_818 (fun z818 w818 hw818 => ?_)
  obtain ⟨e818, hO⟩ := hw818
  have e818 := e818.trans plv84
  subst e818
  refine wm_bipush hC (pc := 821) dL_plans_821 (by decide) ?_
  refine wm_icmp_ne hC 900 (pc := 823) dL_plans_823 (by decide) (by omega) (by omega) (fun h => absurd h (by decide)) (fun _ => ?_)
  refine wm_aload_n hC 0 (pc := 826) dL_plans_826 rfl rfl ?_
  refine wm_iconst hC (pc := 827) dL_plans_827 ?_
  refine wm_iconst hC (pc := 828) dL_plans_828 ?_
  refine wm_bipush hC (pc := 829) dL_plans_829 (by decide) ?_
  refine wm_iV hC cv_L_13 kc_X8_stateOf rfl rfl (t_stateOfV hO (by decide)) rfl (by decide) rfl (Nat.le_of_ble_eq_true rfl) (pc := 831) dL_plans_831 (fun z831 w831 hw831 => ?_)
  obtain ⟨e831, hO⟩ := hw831
  have e831 := e831.trans plv85
  subst e831
  refine wm_iconst hC (pc := 834) dL_plans_834 ?_
  refine wm_icmp_ne hC 900 (pc := 835) dL_plans_835 (by decide) (by omega) (by omega) (fun h => absurd h (by decide)) (fun _ => ?_)
  refine wm_aload_n hC 0 (pc := 838) dL_plans_838 rfl rfl ?_
  refine wm_iconst hC (pc := 839) dL_plans_839 ?_
  refine wm_iconst hC (pc := 840) dL_plans_840 ?_
  refine wm_iconst hC (pc := 841) dL_plans_841 ?_
  refine wm_iV hC cv_L_13 kc_X8_stateOf rfl rfl (t_stateOfV hO (by decide)) rfl (by decide) rfl (Nat.le_of_ble_eq_true rfl) (pc := 842) dL_plans_842 (fun z842 w842 hw842 => ?_)
  obtain ⟨e842, hO⟩ := hw842
  have e842 := e842.trans plv86
  subst e842
  refine wm_iconst hC (pc := 845) dL_plans_845 ?_
  refine wm_icmp_ne hC 900 (pc := 846) dL_plans_846 (by decide) (by omega) (by omega) (fun h => absurd h (by decide)) (fun _ => ?_)
  refine wm_aload_n hC 0 (pc := 849) dL_plans_849 rfl rfl ?_
  refine wm_iconst hC (pc := 850) dL_plans_850 ?_
  refine wm_iV hC cv_L_46 kc_X8_unlike rfl rfl (t_unlikeV hO (by decide)) rfl (by decide) rfl (Nat.le_of_ble_eq_true rfl) (pc := 851) dL_plans_851 (fun z851 w851 hw851 => ?_)
  obtain ⟨e851, hO⟩ := hw851
  have e851 := e851.trans plv87
  subst e851
  refine wm_iconst hC (pc := 854) dL_plans_854 ?_
  refine wm_icmp_ne hC 900 (pc := 855) dL_plans_855 (by decide) (by omega) (by omega) (fun h => absurd h (by decide)) (fun _ => ?_)
  refine wm_aload_n hC 0 (pc := 858) dL_plans_858 rfl rfl ?_
  refine wm_iconst hC (pc := 859) dL_plans_859 ?_
  refine wm_iV hC cv_L_22 kc_X8_count rfl rfl (t_count hO (by omega)) rfl (by decide) rfl (Nat.le_of_ble_eq_true rfl) (pc := 860) dL_plans_860 (fun z860 w860 hw860 => ?_)
  obtain ⟨e860, hO⟩ := hw860
  rw [countA_st (by decide) (by decide)] at e860
  have e860 := e860.trans plv88
  subst e860
  refine wm_iconst hC (pc := 863) dL_plans_863 ?_
  refine wm_icmp_ne hC 900 (pc := 864) dL_plans_864 (by decide) (by omega) (by omega) (fun h => absurd h (by decide)) (fun _ => ?_)
  refine wm_aload_n hC 0 (pc := 867) dL_plans_867 rfl rfl ?_
  refine wm_iconst hC (pc := 868) dL_plans_868 ?_
  refine wm_iV hC cv_L_22 kc_X8_count rfl rfl (t_count hO (by omega)) rfl (by decide) rfl (Nat.le_of_ble_eq_true rfl) (pc := 869) dL_plans_869 (fun z869 w869 hw869 => ?_)
  obtain ⟨e869, hO⟩ := hw869
  rw [countA_st (by decide) (by decide)] at e869
  have e869 := e869.trans plv89
  subst e869
  refine wm_bipush hC (pc := 872) dL_plans_872 (by decide) ?_
  refine wm_icmp_ne hC 900 (pc := 874) dL_plans_874 (by decide) (by omega) (by omega) (fun h => absurd h (by decide)) (fun _ => ?_)
  refine wm_aload_n hC 0 (pc := 877) dL_plans_877 rfl rfl ?_
  refine wm_iconst hC (pc := 878) dL_plans_878 ?_
  refine wm_iconst hC (pc := 879) dL_plans_879 ?_
  refine wm_iconst hC (pc := 880) dL_plans_880 ?_
  refine wm_iconst hC (pc := 881) dL_plans_881 ?_
  refine wm_iV hC cv_L_52 kc_X8_pairOf rfl rfl (t_pairOfV hO (by decide) (by decide)) rfl (by decide) rfl (Nat.le_of_ble_eq_true rfl) (pc := 882) dL_plans_882 (fun z882 w882 hw882 => ?_)
  obtain ⟨e882, hO⟩ := hw882
  have e882 := e882.trans plv90
  subst e882
  refine wm_iconst hC (pc := 885) dL_plans_885 ?_
  refine wm_icmp_ne hC 900 (pc := 886) dL_plans_886 (by decide) (by omega) (by omega) (fun h => absurd h (by decide)) (fun _ => ?_)
  refine wm_aload_n hC 0 (pc := 889) dL_plans_889 rfl rfl ?_
  refine wm_iconst hC (pc := 890) dL_plans_890 ?_
  refine wm_iconst hC (pc := 891) dL_plans_891 ?_
  refine wm_iconst hC (pc := 892) dL_plans_892 ?_
  refine wm_iV hC cv_L_19 kc_X8_talk rfl rfl (t_talkW hO (by decide)) rfl (by decide) rfl (Nat.le_of_ble_eq_true rfl) (pc := 893) dL_plans_893 (fun z893 w893 hw893 => ?_)
  obtain ⟨e893, hO⟩ := hw893
  have e893 := e893.trans plv91
  subst e893
  refine wm_iconst hC (pc := 896) dL_plans_896 ?_
  refine wm_icmp_eq hC 902 (pc := 897) dL_plans_897 (by decide) (by omega) (by omega) (fun _ => ?_) (fun h => absurd h (by decide))
  refine wm_aload_n hC 0 (pc := 902) dL_plans_902 rfl rfl ?_
  refine wm_iconst hC (pc := 903) dL_plans_903 ?_
  refine wm_iconst hC (pc := 904) dL_plans_904 ?_
  refine wm_iconst hC (pc := 905) dL_plans_905 ?_
  refine wm_iV hC cv_L_26 kc_X8_kind rfl rfl (t_kindV hO (by decide)) rfl (by decide) rfl (Nat.le_of_ble_eq_true rfl) (pc := 906) dL_plans_906 (fun z906 w906 hw906 => ?_)
  obtain ⟨e906, hO⟩ := hw906
  have e906 := e906.trans plv92
  subst e906
  have hO := hO.to plv93
  generalize push Hs (tb plN8) = Hs at hO
  refine wm_if_ne hC 988 (pc := 909) dL_plans_909 (by decide) (by omega) (fun h => absurd h (by decide)) (fun _ => ?_)
  refine wm_aload_n hC 0 (pc := 912) dL_plans_912 rfl rfl ?_
  refine wm_iconst hC (pc := 913) dL_plans_913 ?_
  refine wm_iconst hC (pc := 914) dL_plans_914 ?_
  refine wm_iconst hC (pc := 915) dL_plans_915 ?_
  refine wm_iV hC cv_L_26 kc_X8_kind rfl rfl (t_kindV hO (by decide)) rfl (by decide) rfl (Nat.le_of_ble_eq_true rfl) (pc := 916) dL_plans_916 (fun z916 w916 hw916 => ?_)
  obtain ⟨e916, hO⟩ := hw916
  have e916 := e916.trans plv94
  subst e916
  have hO := hO.to plv95
  generalize push Hs (tb plN9) = Hs at hO
  refine wm_if_ne hC 988 (pc := 919) dL_plans_919 (by decide) (by omega) (fun h => absurd h (by decide)) (fun _ => ?_)
  refine wm_aload_n hC 0 (pc := 922) dL_plans_922 rfl rfl ?_
  refine wm_iconst hC (pc := 923) dL_plans_923 ?_
  refine wm_iconst hC (pc := 924) dL_plans_924 ?_
  refine wm_iconst hC (pc := 925) dL_plans_925 ?_
  refine wm_iconst hC (pc := 926) dL_plans_926 ?_
  refine wm_iV hC cv_L_32 kc_X8_arrow rfl rfl (t_arrowV hO (by decide)) rfl (by decide) rfl (Nat.le_of_ble_eq_true rfl) (pc := 927) dL_plans_927 (fun z927 w927 hw927 => ?_)
  obtain ⟨e927, hO⟩ := hw927
  have e927 := e927.trans plv96
  subst e927
  have hO := hO.to plv97
  generalize push Hs (tb plN10) = Hs at hO
  refine wm_iconst hC (pc := 930) dL_plans_930 ?_
  refine wm_icmp_ne hC 988 (pc := 931) dL_plans_931 (by decide) (by omega) (by omega) (fun h => absurd h (by decide)) (fun _ => ?_)
  refine wm_aload_n hC 0 (pc := 934) dL_plans_934 rfl rfl ?_
  refine wm_iconst hC (pc := 935) dL_plans_935 ?_
  refine wm_iconst hC (pc := 936) dL_plans_936 ?_
  refine wm_iV hC cv_L_62 kc_X8_standsIn rfl rfl (t_standsInV hO (by decide)) rfl (by decide) rfl (Nat.le_of_ble_eq_true rfl) (pc := 937) dL_plans_937 (fun z937 w937 hw937 => ?_)
  obtain ⟨e937, hO⟩ := hw937
  have e937 := e937.trans plv98
  subst e937
  refine wm_if_ne hC 988 (pc := 940) dL_plans_940 (by decide) (by omega) (fun h => absurd h (by decide)) (fun _ => ?_)
  refine wm_aload_n hC 0 (pc := 943) dL_plans_943 rfl rfl ?_
  refine wm_iconst hC (pc := 944) dL_plans_944 ?_
  refine wm_iconst hC (pc := 945) dL_plans_945 ?_
  refine wm_iconst hC (pc := 946) dL_plans_946 ?_
  refine wm_iV hC cv_L_65 kc_X8_against rfl rfl (t_againstV hO (by decide)) rfl (by decide) rfl (Nat.le_of_ble_eq_true rfl) (pc := 947) dL_plans_947 (fun z947 w947 hw947 => ?_)
  obtain ⟨e947, hO⟩ := hw947
  have e947 := e947.trans plv99
  subst e947
  refine wm_iconst hC (pc := 950) dL_plans_950 ?_
  refine wm_icmp_ne hC 988 (pc := 951) dL_plans_951 (by decide) (by omega) (by omega) (fun h => absurd h (by decide)) (fun _ => ?_)
  refine wm_aload_n hC 0 (pc := 954) dL_plans_954 rfl rfl ?_
  refine wm_iconst hC (pc := 955) dL_plans_955 ?_
  refine wm_iconst hC (pc := 956) dL_plans_956 ?_
  refine wm_iconst hC (pc := 957) dL_plans_957 ?_
  refine wm_iV hC cv_L_65 kc_X8_against rfl rfl (t_againstV hO (by decide)) rfl (by decide) rfl (Nat.le_of_ble_eq_true rfl) (pc := 958) dL_plans_958 (fun z958 w958 hw958 => ?_)
  obtain ⟨e958, hO⟩ := hw958
  have e958 := e958.trans plv100
  subst e958
  refine wm_iconst hC (pc := 961) dL_plans_961 ?_
  refine wm_icmp_ne hC 988 (pc := 962) dL_plans_962 (by decide) (by omega) (by omega) (fun h => absurd h (by decide)) (fun _ => ?_)
  refine wm_aload_n hC 0 (pc := 965) dL_plans_965 rfl rfl ?_
  refine wm_iconst hC (pc := 966) dL_plans_966 ?_
  refine wm_iconst hC (pc := 967) dL_plans_967 ?_
  refine wm_iconst hC (pc := 968) dL_plans_968 ?_
  refine wm_iV hC cv_L_65 kc_X8_against rfl rfl (t_againstV hO (by decide)) rfl (by decide) rfl (Nat.le_of_ble_eq_true rfl) (pc := 969) dL_plans_969 (fun z969 w969 hw969 => ?_)
  obtain ⟨e969, hO⟩ := hw969
  have e969 := e969.trans plv101
  subst e969
  refine wm_ldc hC (-1000004) kI_L_55 (pc := 972) dL_plans_972 ?_
  refine wm_icmp_ne hC 988 (pc := 974) dL_plans_974 (by decide) (by omega) (by omega) (fun h => absurd h (by decide)) (fun _ => ?_)
  refine wm_aload_n hC 0 (pc := 977) dL_plans_977 rfl rfl ?_
  refine wm_iS hC cs_L_140 kc_L_refused (t_refused hO) rfl (by decide) rfl (Nat.le_of_ble_eq_true rfl) (pc := 978) dL_plans_978 (fun z978 w978 hw978 => ?_)
  obtain ⟨rfl, hO⟩ := hw978
  refine wm_if_eq hC 988 (pc := 981) dL_plans_981 (by decide) (by omega) (fun h => absurd h (by decide)) (fun _ => ?_)
  refine wm_iconst hC (pc := 984) dL_plans_984 ?_
  refine wm_goto hC 989 (pc := 985) dL_plans_985 (by decide) ?_
  refine wm_zretI hC (pc := 989) dL_plans_989 (by decide) ?_
  rfl
