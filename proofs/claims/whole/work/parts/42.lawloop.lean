set_option maxHeartbeats 4000000 in
set_option maxRecDepth 100000 in
/-- THE LAW'S LOOP -/
theorem law_loop {p : Program} {l : Launch} {e : Env} {s : State} {m : MethodId} {below : List Frame} {meth : Method} {c : Code} {G : mG} {b L : Nat} {xs : Nat → Int32} (hL : L ≤ 2560) (C0 : lw_At p s m meth c b L xs) (ht : ∀ w ∈ mgood, w.before #[Value.ref b] s = true) (hN : ∀ q ∈ mnest, va_Nw q s) (hK : va_K G.1 vwCl (mtys G) s) (hGA : ∀ i, i < 46 → s.heap.size ≤ G.2.1 i) :
    ∀ (n i : Nat), i ≤ L → L + 1 ≤ i + n → ∀ (w : mW) (H : Heap) (locs : List Loc) (ls : Array Slot), RelT w → va_P G.1 vwCl (mws G w) H → va_D (mA G) (mws G w) → va_S (fun q : Nat => s.heap.size ≤ q) s.heap H locs → lv_has ls 4 [(0, .ref b), (1, .ref (G.2.1 0)), (2, .ref (G.2.1 31)), (3, .int (mI (i : Int)))] → W p l e room_1 s m #[Value.ref b] below meth c H locs 46 3452 (lw_Z below #[Value.ref b] s) (F0 m 18 ls []) := by
  obtain ⟨hx, hb, hr, hml, hown, hts, hX, hbl, hlocks, hgv⟩ := id C0
  have hbA : ¬ (fun q : Nat => s.heap.size ≤ q) b := Nat.not_le.mpr hbl
  intro n
  induction n with
  | zero =>
    intro i h1 h2
    exact absurd h2 (by omega)
  | succ n ih =>
    intro i hi hin w H locs ls hRel hP hD hS hl
    have hI := hRel.1
    refine lv_iload_n hx hb dL_law_18 rfl (lv_at hl 3 rfl) ?_
    refine lv_aload_n hx hb dL_law_19 rfl (lv_at hl 0 rfl) ?_
    refine va_slen hx hb hX hbl hbA hS dL_law_20 ?_
    refine lv_iconst (v := mI 5) hx hb dL_law_21 rfl ?_
    refine lv_isub hx hb dL_law_22 ?_
    rw [show Int32.ofNat L = mI (L : Int) from rfl, mI_sub]
    refine lv_icmp_gt (tgt := 711) hx hb dL_law_23 (by decide) (fun c23 => ?_) (fun c23 => ?_)
    · refine lv_iconst (v := 1) hx hb dL_law_711 (by decide) ?_
      refine va_forget (fun q hq => hS.2.2 q hq) ?_
      exact lw_ret hx hb hr hlocks dL_law_712
    · have hij : i + 5 ≤ L := by
        have c24 : ¬ mI ((L : Int) - 5) < mI (i : Int) := c23
        rw [mI_lt (by omega) (by omega)] at c24
        omega
      obtain ⟨a1, r1, ea1⟩ := mI_of (xs (i + 1))
      obtain ⟨a2, r2, ea2⟩ := mI_of (xs (i + 2))
      obtain ⟨a3, r3, ea3⟩ := mI_of (xs (i + 3))
      obtain ⟨a4, r4, ea4⟩ := mI_of (xs (i + 4))
      have j705 : ∀ (w2 : mW) (H : Heap) (locs : List Loc), RelI w2 → va_P G.1 vwCl (mws G w2) H → va_D (mA G) (mws G w2) → va_S (fun q : Nat => s.heap.size ≤ q) s.heap H locs → W p l e room_1 s m #[Value.ref b] below meth c H locs 46 3452 (lw_Z below #[Value.ref b] s) (F0 m 705 ls []) := by
        intro w2 H locs hR2 hP hD hS
        refine lv_iinc (v := mI ((i + 5 : Nat) : Int)) (lv' := [(3, .int (mI ((i + 5 : Nat) : Int))), (0, .ref b), (1, .ref (G.2.1 0)), (2, .ref (G.2.1 31))]) hx hb dL_law_705 hl (k := 3) rfl (by rw [show Int32.ofInt 5 = mI 5 from rfl, mI_add]; rfl) (by decide) rfl (fun ls hl => ?_)
        refine lv_goto (tgt := 18) hx hb dL_law_708 (by decide) ?_
        exact ih (i + 5) hij (by omega) (nrm w2) H locs ls (nrm_rel hR2) (nrm_P hP) (mD_any hD) hS (lv_sub hl [1, 2, 3, 0] rfl)
      refine lv_aload_n hx hb dL_law_26 rfl (lv_at hl 0 rfl) ?_
      refine lv_iload_n hx hb dL_law_27 rfl (lv_at hl 3 rfl) ?_
      refine va_sld hx hb hX hbl hbA hS (mI_in (n := L) (by omega) (by omega)) dL_law_28 ?_
      refine lv_bipush (v := 31) hx hb dL_law_29 (by decide) ?_
      refine lv_iand hx hb dL_law_31 ?_
      refine lv_topi (fun v0 ev0 => ?_)
      obtain ⟨v, rv0, ev⟩ := mI_of v0
      rw [ev]
      by_cases sw0 : v = 0
      · subst sw0
        refine lv_tableIn (x := mI 0) (off := 88) (tgt := 120) hx hb dL_law_32 (by decide) (by decide) (by decide +kernel) (by decide) ?_
        refine lv_aload_n hx hb dL_law_120 rfl (lv_at hl 1 rfl) ?_
        refine law_arg C0 hS hl (j := 1) (by decide) hij hL ea1 dL_law_121 dL_law_122 dL_law_123 dL_law_124 dL_law_125 ?_
        refine law_arg C0 hS hl (j := 2) (by decide) hij hL ea2 dL_law_126 dL_law_127 dL_law_128 dL_law_129 dL_law_130 ?_
        refine law_arg C0 hS hl (j := 3) (by decide) hij hL ea3 dL_law_131 dL_law_132 dL_law_133 dL_law_134 dL_law_135 ?_
        refine law_call (as := [mvI a1, mvI a2, mvI a3]) (rest := []) C0 ht hN hK hGA hS hl.1 hP hD cv_L_13 kc_X8_kind rfl rfl (s_X8_kind hI.cinv r1 r2 r3) rfl ⟨Nat.le_of_ble_eq_true rfl, Nat.le_of_ble_eq_true rfl⟩ rfl (Nat.le_of_ble_eq_true rfl) dL_law_136 (fun v1 w1 hv1 H locs hP hD hS => ?_)
        obtain ⟨z1, rfl, h1⟩ := hv1
        refine W.eq (g2 := F0 m 139 ls [.int (mI z1)]) rfl ?_
        refine lv_aload_n hx hb dL_law_139 rfl (lv_at hl 2 rfl) ?_
        refine law_arg C0 hS hl (j := 1) (by decide) hij hL ea1 dL_law_140 dL_law_141 dL_law_142 dL_law_143 dL_law_144 ?_
        refine law_arg C0 hS hl (j := 2) (by decide) hij hL ea2 dL_law_145 dL_law_146 dL_law_147 dL_law_148 dL_law_149 ?_
        refine law_arg C0 hS hl (j := 3) (by decide) hij hL ea3 dL_law_150 dL_law_151 dL_law_152 dL_law_153 dL_law_154 ?_
        refine law_call (as := [mvI a1, mvI a2, mvI a3]) (rest := [.int (mI z1)]) C0 ht hN hK hGA hS hl.1 hP hD cv_L_17 kc_X9_kind rfl rfl (s_X9_kind (hI.1.up (up_kind h1)) r1 r2 r3) rfl ⟨Nat.le_of_ble_eq_true rfl, Nat.le_of_ble_eq_true rfl⟩ rfl (Nat.le_of_ble_eq_true rfl) dL_law_155 (fun v2 w2 hv2 H locs hP hD hS => ?_)
        obtain ⟨z2, rfl, h2⟩ := hv2
        refine W.eq (g2 := F0 m 158 ls [.int (mI z2), .int (mI z1)]) rfl ?_
        obtain ⟨ez, hR2⟩ := q_kind hRel h1 h2
        exact lv_icmp_eq (tgt := 705) hx hb dL_law_158 (by decide) (fun _ => j705 w2 H locs hR2 hP hD hS) (fun hne => absurd (by rw [ez]) hne)
      by_cases sw1 : v = 1
      · subst sw1
        refine lv_tableIn (x := mI 1) (off := 131) (tgt := 163) hx hb dL_law_32 (by decide) (by decide) (by decide +kernel) (by decide) ?_
        refine lv_aload_n hx hb dL_law_163 rfl (lv_at hl 1 rfl) ?_
        refine law_arg C0 hS hl (j := 1) (by decide) hij hL ea1 dL_law_164 dL_law_165 dL_law_166 dL_law_167 dL_law_168 ?_
        refine law_arg C0 hS hl (j := 2) (by decide) hij hL ea2 dL_law_169 dL_law_170 dL_law_171 dL_law_172 dL_law_173 ?_
        refine law_arg C0 hS hl (j := 3) (by decide) hij hL ea3 dL_law_174 dL_law_175 dL_law_176 dL_law_177 dL_law_178 ?_
        refine law_arg C0 hS hl (j := 4) (by decide) hij hL ea4 dL_law_179 dL_law_180 dL_law_181 dL_law_182 dL_law_183 ?_
        refine law_call (as := [mvI a1, mvI a2, mvI a3, mvI a4]) (rest := []) C0 ht hN hK hGA hS hl.1 hP hD cv_L_18 kc_X8_arrow rfl rfl (s_X8_arrow hI.cinv r1 r2 r3 r4) rfl ⟨Nat.le_of_ble_eq_true rfl, Nat.le_of_ble_eq_true rfl⟩ rfl (Nat.le_of_ble_eq_true rfl) dL_law_184 (fun v1 w1 hv1 H locs hP hD hS => ?_)
        obtain ⟨z1, rfl, h1⟩ := hv1
        refine W.eq (g2 := F0 m 187 ls [.int (mI z1)]) rfl ?_
        refine lv_aload_n hx hb dL_law_187 rfl (lv_at hl 2 rfl) ?_
        refine law_arg C0 hS hl (j := 1) (by decide) hij hL ea1 dL_law_188 dL_law_189 dL_law_190 dL_law_191 dL_law_192 ?_
        refine law_arg C0 hS hl (j := 2) (by decide) hij hL ea2 dL_law_193 dL_law_194 dL_law_195 dL_law_196 dL_law_197 ?_
        refine law_arg C0 hS hl (j := 3) (by decide) hij hL ea3 dL_law_198 dL_law_199 dL_law_200 dL_law_201 dL_law_202 ?_
        refine law_arg C0 hS hl (j := 4) (by decide) hij hL ea4 dL_law_203 dL_law_204 dL_law_205 dL_law_206 dL_law_207 ?_
        refine law_call (as := [mvI a1, mvI a2, mvI a3, mvI a4]) (rest := [.int (mI z1)]) C0 ht hN hK hGA hS hl.1 hP hD cv_L_22 kc_X9_arrow rfl rfl (s_X9_arrow (hI.1.up (up_arrow h1)) r1 r2 r3 r4) rfl ⟨Nat.le_of_ble_eq_true rfl, Nat.le_of_ble_eq_true rfl⟩ rfl (Nat.le_of_ble_eq_true rfl) dL_law_208 (fun v2 w2 hv2 H locs hP hD hS => ?_)
        obtain ⟨z2, rfl, h2⟩ := hv2
        refine W.eq (g2 := F0 m 211 ls [.int (mI z2), .int (mI z1)]) rfl ?_
        obtain ⟨ez, hR2⟩ := q_arrow hRel h1 h2
        exact lv_icmp_eq (tgt := 705) hx hb dL_law_211 (by decide) (fun _ => j705 w2 H locs hR2 hP hD hS) (fun hne => absurd (by rw [ez]) hne)
      by_cases sw2 : v = 2
      · subst sw2
        refine lv_tableIn (x := mI 2) (off := 184) (tgt := 216) hx hb dL_law_32 (by decide) (by decide) (by decide +kernel) (by decide) ?_
        refine lv_aload_n hx hb dL_law_216 rfl (lv_at hl 1 rfl) ?_
        refine law_arg C0 hS hl (j := 1) (by decide) hij hL ea1 dL_law_217 dL_law_218 dL_law_219 dL_law_220 dL_law_221 ?_
        refine law_arg C0 hS hl (j := 2) (by decide) hij hL ea2 dL_law_222 dL_law_223 dL_law_224 dL_law_225 dL_law_226 ?_
        refine law_arg C0 hS hl (j := 3) (by decide) hij hL ea3 dL_law_227 dL_law_228 dL_law_229 dL_law_230 dL_law_231 ?_
        refine law_call (as := [mvI a1, mvI a2, mvI a3]) (rest := []) C0 ht hN hK hGA hS hl.1 hP hD cv_L_23 kc_X8_erase rfl rfl (s_X8_erase hI.cinv r1 r2 r3) rfl ⟨Nat.le_of_ble_eq_true rfl, Nat.le_of_ble_eq_true rfl⟩ rfl (Nat.le_of_ble_eq_true rfl) dL_law_232 (fun v1 w1 hv1 H locs hP hD hS => ?_)
        obtain ⟨z1, rfl, h1⟩ := hv1
        refine W.eq (g2 := F0 m 235 ls [.int (mI z1)]) rfl ?_
        refine lv_aload_n hx hb dL_law_235 rfl (lv_at hl 2 rfl) ?_
        refine law_arg C0 hS hl (j := 1) (by decide) hij hL ea1 dL_law_236 dL_law_237 dL_law_238 dL_law_239 dL_law_240 ?_
        refine law_arg C0 hS hl (j := 2) (by decide) hij hL ea2 dL_law_241 dL_law_242 dL_law_243 dL_law_244 dL_law_245 ?_
        refine law_arg C0 hS hl (j := 3) (by decide) hij hL ea3 dL_law_246 dL_law_247 dL_law_248 dL_law_249 dL_law_250 ?_
        refine law_call (as := [mvI a1, mvI a2, mvI a3]) (rest := [.int (mI z1)]) C0 ht hN hK hGA hS hl.1 hP hD cv_L_26 kc_X9_erase rfl rfl (s_X9_erase (hI.1.up (up_erase h1)) r1 r2 r3) rfl ⟨Nat.le_of_ble_eq_true rfl, Nat.le_of_ble_eq_true rfl⟩ rfl (Nat.le_of_ble_eq_true rfl) dL_law_251 (fun v2 w2 hv2 H locs hP hD hS => ?_)
        obtain ⟨z2, rfl, h2⟩ := hv2
        refine W.eq (g2 := F0 m 254 ls [.int (mI z2), .int (mI z1)]) rfl ?_
        obtain ⟨ez, hR2⟩ := q_erase hRel h1 h2
        exact lv_icmp_eq (tgt := 705) hx hb dL_law_254 (by decide) (fun _ => j705 w2 H locs hR2 hP hD hS) (fun hne => absurd (by rw [ez]) hne)
      by_cases sw3 : v = 3
      · subst sw3
        refine lv_tableIn (x := mI 3) (off := 227) (tgt := 259) hx hb dL_law_32 (by decide) (by decide) (by decide +kernel) (by decide) ?_
        refine lv_aload_n hx hb dL_law_259 rfl (lv_at hl 1 rfl) ?_
        refine law_arg C0 hS hl (j := 1) (by decide) hij hL ea1 dL_law_260 dL_law_261 dL_law_262 dL_law_263 dL_law_264 ?_
        refine law_arg C0 hS hl (j := 2) (by decide) hij hL ea2 dL_law_265 dL_law_266 dL_law_267 dL_law_268 dL_law_269 ?_
        refine law_call (as := [mvI a1, mvI a2]) (rest := []) C0 ht hN hK hGA hS hl.1 hP hD cv_L_27 kc_X8_copy rfl rfl (s_X8_copy hI.cinv r1 r2) rfl ⟨Nat.le_of_ble_eq_true rfl, Nat.le_of_ble_eq_true rfl⟩ rfl (Nat.le_of_ble_eq_true rfl) dL_law_270 (fun v1 w1 hv1 H locs hP hD hS => ?_)
        obtain ⟨z1, rfl, h1⟩ := hv1
        refine W.eq (g2 := F0 m 273 ls [.int (mI z1)]) rfl ?_
        refine lv_aload_n hx hb dL_law_273 rfl (lv_at hl 2 rfl) ?_
        refine law_arg C0 hS hl (j := 1) (by decide) hij hL ea1 dL_law_274 dL_law_275 dL_law_276 dL_law_277 dL_law_278 ?_
        refine law_arg C0 hS hl (j := 2) (by decide) hij hL ea2 dL_law_279 dL_law_280 dL_law_281 dL_law_282 dL_law_283 ?_
        refine law_call (as := [mvI a1, mvI a2]) (rest := [.int (mI z1)]) C0 ht hN hK hGA hS hl.1 hP hD cv_L_31 kc_X9_copy rfl rfl (s_X9_copy (hI.1.up (up_copy h1)) r1 r2) rfl ⟨Nat.le_of_ble_eq_true rfl, Nat.le_of_ble_eq_true rfl⟩ rfl (Nat.le_of_ble_eq_true rfl) dL_law_284 (fun v2 w2 hv2 H locs hP hD hS => ?_)
        obtain ⟨z2, rfl, h2⟩ := hv2
        refine W.eq (g2 := F0 m 287 ls [.int (mI z2), .int (mI z1)]) rfl ?_
        obtain ⟨ez, hR2⟩ := q_copy hRel h1 h2
        exact lv_icmp_eq (tgt := 705) hx hb dL_law_287 (by decide) (fun _ => j705 w2 H locs hR2 hP hD hS) (fun hne => absurd (by rw [ez]) hne)
      by_cases sw4 : v = 4
      · subst sw4
        refine lv_tableIn (x := mI 4) (off := 260) (tgt := 292) hx hb dL_law_32 (by decide) (by decide) (by decide +kernel) (by decide) ?_
        refine lv_aload_n hx hb dL_law_292 rfl (lv_at hl 1 rfl) ?_
        refine law_arg C0 hS hl (j := 1) (by decide) hij hL ea1 dL_law_293 dL_law_294 dL_law_295 dL_law_296 dL_law_297 ?_
        refine law_call (as := [mvI a1]) (rest := []) C0 ht hN hK hGA hS hl.1 hP hD cv_L_32 kc_X8_mirror rfl rfl (s_X8_mirror hI.cinv r1) rfl ⟨Nat.le_of_ble_eq_true rfl, Nat.le_of_ble_eq_true rfl⟩ rfl (Nat.le_of_ble_eq_true rfl) dL_law_298 (fun v1 w1 hv1 H locs hP hD hS => ?_)
        obtain ⟨z1, rfl, h1⟩ := hv1
        refine W.eq (g2 := F0 m 301 ls [.int (mI z1)]) rfl ?_
        refine lv_aload_n hx hb dL_law_301 rfl (lv_at hl 2 rfl) ?_
        refine law_arg C0 hS hl (j := 1) (by decide) hij hL ea1 dL_law_302 dL_law_303 dL_law_304 dL_law_305 dL_law_306 ?_
        refine law_call (as := [mvI a1]) (rest := [.int (mI z1)]) C0 ht hN hK hGA hS hl.1 hP hD cv_L_36 kc_X9_mirror rfl rfl (s_X9_mirror (hI.1.up (up_mirror h1)) r1) rfl ⟨Nat.le_of_ble_eq_true rfl, Nat.le_of_ble_eq_true rfl⟩ rfl (Nat.le_of_ble_eq_true rfl) dL_law_307 (fun v2 w2 hv2 H locs hP hD hS => ?_)
        obtain ⟨z2, rfl, h2⟩ := hv2
        refine W.eq (g2 := F0 m 310 ls [.int (mI z2), .int (mI z1)]) rfl ?_
        obtain ⟨ez, hR2⟩ := q_mirror hRel h1 h2
        exact lv_icmp_eq (tgt := 705) hx hb dL_law_310 (by decide) (fun _ => j705 w2 H locs hR2 hP hD hS) (fun hne => absurd (by rw [ez]) hne)
      by_cases sw5 : v = 5
      · subst sw5
        refine lv_tableIn (x := mI 5) (off := 283) (tgt := 315) hx hb dL_law_32 (by decide) (by decide) (by decide +kernel) (by decide) ?_
        refine lv_aload_n hx hb dL_law_315 rfl (lv_at hl 1 rfl) ?_
        refine law_arg C0 hS hl (j := 1) (by decide) hij hL ea1 dL_law_316 dL_law_317 dL_law_318 dL_law_319 dL_law_320 ?_
        refine law_arg C0 hS hl (j := 2) (by decide) hij hL ea2 dL_law_321 dL_law_322 dL_law_323 dL_law_324 dL_law_325 ?_
        refine law_arg C0 hS hl (j := 3) (by decide) hij hL ea3 dL_law_326 dL_law_327 dL_law_328 dL_law_329 dL_law_330 ?_
        refine law_call (as := [mvI a1, mvI a2, mvI a3]) (rest := []) C0 ht hN hK hGA hS hl.1 hP hD cv_L_37 kc_X8_stateOf rfl rfl (s_X8_stateOf hI.cinv r1 r2 r3) rfl ⟨Nat.le_of_ble_eq_true rfl, Nat.le_of_ble_eq_true rfl⟩ rfl (Nat.le_of_ble_eq_true rfl) dL_law_331 (fun v1 w1 hv1 H locs hP hD hS => ?_)
        obtain ⟨z1, rfl, h1⟩ := hv1
        refine W.eq (g2 := F0 m 334 ls [.int (mI z1)]) rfl ?_
        refine lv_aload_n hx hb dL_law_334 rfl (lv_at hl 2 rfl) ?_
        refine law_arg C0 hS hl (j := 1) (by decide) hij hL ea1 dL_law_335 dL_law_336 dL_law_337 dL_law_338 dL_law_339 ?_
        refine law_arg C0 hS hl (j := 2) (by decide) hij hL ea2 dL_law_340 dL_law_341 dL_law_342 dL_law_343 dL_law_344 ?_
        refine law_arg C0 hS hl (j := 3) (by decide) hij hL ea3 dL_law_345 dL_law_346 dL_law_347 dL_law_348 dL_law_349 ?_
        refine law_call (as := [mvI a1, mvI a2, mvI a3]) (rest := [.int (mI z1)]) C0 ht hN hK hGA hS hl.1 hP hD cv_L_40 kc_X9_stateOf rfl rfl (s_X9_stateOf (hI.1.up (up_stateOf h1)) r1 r2 r3) rfl ⟨Nat.le_of_ble_eq_true rfl, Nat.le_of_ble_eq_true rfl⟩ rfl (Nat.le_of_ble_eq_true rfl) dL_law_350 (fun v2 w2 hv2 H locs hP hD hS => ?_)
        obtain ⟨z2, rfl, h2⟩ := hv2
        refine W.eq (g2 := F0 m 353 ls [.int (mI z2), .int (mI z1)]) rfl ?_
        obtain ⟨ez, hR2⟩ := q_stateOf hRel h1 h2
        exact lv_icmp_eq (tgt := 705) hx hb dL_law_353 (by decide) (fun _ => j705 w2 H locs hR2 hP hD hS) (fun hne => absurd (by rw [ez]) hne)
      by_cases sw6 : v = 6
      · subst sw6
        refine lv_tableIn (x := mI 6) (off := 326) (tgt := 358) hx hb dL_law_32 (by decide) (by decide) (by decide +kernel) (by decide) ?_
        refine lv_aload_n hx hb dL_law_358 rfl (lv_at hl 1 rfl) ?_
        refine law_arg C0 hS hl (j := 1) (by decide) hij hL ea1 dL_law_359 dL_law_360 dL_law_361 dL_law_362 dL_law_363 ?_
        refine law_call (as := [mvI a1]) (rest := []) C0 ht hN hK hGA hS hl.1 hP hD cv_L_41 kc_X8_unlike rfl rfl (s_X8_unlike hI.cinv r1) rfl ⟨Nat.le_of_ble_eq_true rfl, Nat.le_of_ble_eq_true rfl⟩ rfl (Nat.le_of_ble_eq_true rfl) dL_law_364 (fun v1 w1 hv1 H locs hP hD hS => ?_)
        obtain ⟨z1, rfl, h1⟩ := hv1
        refine W.eq (g2 := F0 m 367 ls [.int (mI z1)]) rfl ?_
        refine lv_aload_n hx hb dL_law_367 rfl (lv_at hl 2 rfl) ?_
        refine law_arg C0 hS hl (j := 1) (by decide) hij hL ea1 dL_law_368 dL_law_369 dL_law_370 dL_law_371 dL_law_372 ?_
        refine law_call (as := [mvI a1]) (rest := [.int (mI z1)]) C0 ht hN hK hGA hS hl.1 hP hD cv_L_44 kc_X9_unlike rfl rfl (s_X9_unlike (hI.1.up (up_unlike h1)) r1) rfl ⟨Nat.le_of_ble_eq_true rfl, Nat.le_of_ble_eq_true rfl⟩ rfl (Nat.le_of_ble_eq_true rfl) dL_law_373 (fun v2 w2 hv2 H locs hP hD hS => ?_)
        obtain ⟨z2, rfl, h2⟩ := hv2
        refine W.eq (g2 := F0 m 376 ls [.int (mI z2), .int (mI z1)]) rfl ?_
        obtain ⟨ez, hR2⟩ := q_unlike hRel h1 h2
        exact lv_icmp_eq (tgt := 705) hx hb dL_law_376 (by decide) (fun _ => j705 w2 H locs hR2 hP hD hS) (fun hne => absurd (by rw [ez]) hne)
      by_cases sw7 : v = 7
      · subst sw7
        refine lv_tableIn (x := mI 7) (off := 349) (tgt := 381) hx hb dL_law_32 (by decide) (by decide) (by decide +kernel) (by decide) ?_
        refine lv_aload_n hx hb dL_law_381 rfl (lv_at hl 1 rfl) ?_
        refine law_arg C0 hS hl (j := 1) (by decide) hij hL ea1 dL_law_382 dL_law_383 dL_law_384 dL_law_385 dL_law_386 ?_
        refine law_arg C0 hS hl (j := 2) (by decide) hij hL ea2 dL_law_387 dL_law_388 dL_law_389 dL_law_390 dL_law_391 ?_
        refine law_arg C0 hS hl (j := 3) (by decide) hij hL ea3 dL_law_392 dL_law_393 dL_law_394 dL_law_395 dL_law_396 ?_
        refine law_arg C0 hS hl (j := 4) (by decide) hij hL ea4 dL_law_397 dL_law_398 dL_law_399 dL_law_400 dL_law_401 ?_
        refine law_call (as := [mvI a1, mvI a2, mvI a3, mvI a4]) (rest := []) C0 ht hN hK hGA hS hl.1 hP hD cv_L_45 kc_X8_pairOf rfl rfl (s_X8_pairOf hI.cinv r1 r2 r3 r4) rfl ⟨Nat.le_of_ble_eq_true rfl, Nat.le_of_ble_eq_true rfl⟩ rfl (Nat.le_of_ble_eq_true rfl) dL_law_402 (fun v1 w1 hv1 H locs hP hD hS => ?_)
        obtain ⟨z1, rfl, h1⟩ := hv1
        refine W.eq (g2 := F0 m 405 ls [.int (mI z1)]) rfl ?_
        refine lv_aload_n hx hb dL_law_405 rfl (lv_at hl 2 rfl) ?_
        refine law_arg C0 hS hl (j := 1) (by decide) hij hL ea1 dL_law_406 dL_law_407 dL_law_408 dL_law_409 dL_law_410 ?_
        refine law_arg C0 hS hl (j := 2) (by decide) hij hL ea2 dL_law_411 dL_law_412 dL_law_413 dL_law_414 dL_law_415 ?_
        refine law_arg C0 hS hl (j := 3) (by decide) hij hL ea3 dL_law_416 dL_law_417 dL_law_418 dL_law_419 dL_law_420 ?_
        refine law_arg C0 hS hl (j := 4) (by decide) hij hL ea4 dL_law_421 dL_law_422 dL_law_423 dL_law_424 dL_law_425 ?_
        refine law_call (as := [mvI a1, mvI a2, mvI a3, mvI a4]) (rest := [.int (mI z1)]) C0 ht hN hK hGA hS hl.1 hP hD cv_L_48 kc_X9_pairOf rfl rfl (s_X9_pairOf (hI.1.up (up_pairOf h1)) r1 r2 r3 r4) rfl ⟨Nat.le_of_ble_eq_true rfl, Nat.le_of_ble_eq_true rfl⟩ rfl (Nat.le_of_ble_eq_true rfl) dL_law_426 (fun v2 w2 hv2 H locs hP hD hS => ?_)
        obtain ⟨z2, rfl, h2⟩ := hv2
        refine W.eq (g2 := F0 m 429 ls [.int (mI z2), .int (mI z1)]) rfl ?_
        obtain ⟨ez, hR2⟩ := q_pairOf hRel h1 h2
        exact lv_icmp_eq (tgt := 705) hx hb dL_law_429 (by decide) (fun _ => j705 w2 H locs hR2 hP hD hS) (fun hne => absurd (by rw [ez]) hne)
      by_cases sw8 : v = 8
      · subst sw8
        refine lv_tableIn (x := mI 8) (off := 402) (tgt := 434) hx hb dL_law_32 (by decide) (by decide) (by decide +kernel) (by decide) ?_
        refine lv_aload_n hx hb dL_law_434 rfl (lv_at hl 1 rfl) ?_
        refine law_arg C0 hS hl (j := 1) (by decide) hij hL ea1 dL_law_435 dL_law_436 dL_law_437 dL_law_438 dL_law_439 ?_
        refine law_arg C0 hS hl (j := 2) (by decide) hij hL ea2 dL_law_440 dL_law_441 dL_law_442 dL_law_443 dL_law_444 ?_
        refine law_arg C0 hS hl (j := 3) (by decide) hij hL ea3 dL_law_445 dL_law_446 dL_law_447 dL_law_448 dL_law_449 ?_
        refine law_call (as := [mvI a1, mvI a2, mvI a3]) (rest := []) C0 ht hN hK hGA hS hl.1 hP hD cv_L_49 kc_X8_talk rfl rfl (s_X8_talk hI.cinv r1 r2 r3) rfl ⟨Nat.le_of_ble_eq_true rfl, Nat.le_of_ble_eq_true rfl⟩ rfl (Nat.le_of_ble_eq_true rfl) dL_law_450 (fun v1 w1 hv1 H locs hP hD hS => ?_)
        obtain ⟨z1, rfl, h1⟩ := hv1
        refine W.eq (g2 := F0 m 453 ls [.int (mI z1)]) rfl ?_
        refine lv_aload_n hx hb dL_law_453 rfl (lv_at hl 2 rfl) ?_
        refine law_arg C0 hS hl (j := 1) (by decide) hij hL ea1 dL_law_454 dL_law_455 dL_law_456 dL_law_457 dL_law_458 ?_
        refine law_arg C0 hS hl (j := 2) (by decide) hij hL ea2 dL_law_459 dL_law_460 dL_law_461 dL_law_462 dL_law_463 ?_
        refine law_arg C0 hS hl (j := 3) (by decide) hij hL ea3 dL_law_464 dL_law_465 dL_law_466 dL_law_467 dL_law_468 ?_
        refine law_call (as := [mvI a1, mvI a2, mvI a3]) (rest := [.int (mI z1)]) C0 ht hN hK hGA hS hl.1 hP hD cv_L_52 kc_X9_talk rfl rfl (s_X9_talk (hI.1.up (up_talk h1)) r1 r2 r3) rfl ⟨Nat.le_of_ble_eq_true rfl, Nat.le_of_ble_eq_true rfl⟩ rfl (Nat.le_of_ble_eq_true rfl) dL_law_469 (fun v2 w2 hv2 H locs hP hD hS => ?_)
        obtain ⟨z2, rfl, h2⟩ := hv2
        refine W.eq (g2 := F0 m 472 ls [.int (mI z2), .int (mI z1)]) rfl ?_
        obtain ⟨ez, hR2⟩ := q_talk hRel h1 h2
        exact lv_icmp_eq (tgt := 705) hx hb dL_law_472 (by decide) (fun _ => j705 w2 H locs hR2 hP hD hS) (fun hne => absurd (by rw [ez]) hne)
      by_cases sw9 : v = 9
      · subst sw9
        refine lv_tableIn (x := mI 9) (off := 445) (tgt := 477) hx hb dL_law_32 (by decide) (by decide) (by decide +kernel) (by decide) ?_
        refine lv_aload_n hx hb dL_law_477 rfl (lv_at hl 1 rfl) ?_
        refine law_arg C0 hS hl (j := 1) (by decide) hij hL ea1 dL_law_478 dL_law_479 dL_law_480 dL_law_481 dL_law_482 ?_
        refine law_arg C0 hS hl (j := 2) (by decide) hij hL ea2 dL_law_483 dL_law_484 dL_law_485 dL_law_486 dL_law_487 ?_
        refine law_call (as := [mvI a1, mvI a2]) (rest := []) C0 ht hN hK hGA hS hl.1 hP hD cv_L_53 kc_X8_talks rfl rfl (s_X8_talks hI.cinv r1 r2) rfl ⟨Nat.le_of_ble_eq_true rfl, Nat.le_of_ble_eq_true rfl⟩ rfl (Nat.le_of_ble_eq_true rfl) dL_law_488 (fun v1 w1 hv1 H locs hP hD hS => ?_)
        obtain ⟨z1, rfl, h1⟩ := hv1
        refine W.eq (g2 := F0 m 491 ls [.long (mJ z1)]) rfl ?_
        refine lv_aload_n hx hb dL_law_491 rfl (lv_at hl 2 rfl) ?_
        refine law_arg C0 hS hl (j := 1) (by decide) hij hL ea1 dL_law_492 dL_law_493 dL_law_494 dL_law_495 dL_law_496 ?_
        refine law_arg C0 hS hl (j := 2) (by decide) hij hL ea2 dL_law_497 dL_law_498 dL_law_499 dL_law_500 dL_law_501 ?_
        refine law_call (as := [mvI a1, mvI a2]) (rest := [.long (mJ z1)]) C0 ht hN hK hGA hS hl.1 hP hD cv_L_57 kc_X9_talks rfl rfl (s_X9_talks (hI.1.up (up_talks h1)) r1 r2) rfl ⟨Nat.le_of_ble_eq_true rfl, Nat.le_of_ble_eq_true rfl⟩ rfl (Nat.le_of_ble_eq_true rfl) dL_law_502 (fun v2 w2 hv2 H locs hP hD hS => ?_)
        obtain ⟨z2, rfl, h2⟩ := hv2
        refine W.eq (g2 := F0 m 505 ls [.long (mJ z2), .long (mJ z1)]) rfl ?_
        obtain ⟨ez, hR2⟩ := q_talks hRel h1 h2
        refine W.lcmp hx hb dL_law_505 ?_
        rw [ez, lg_self]
        exact lv_if_eq (tgt := 705) hx hb dL_law_506 (by decide) (fun _ => j705 w2 H locs hR2 hP hD hS) (fun hne => absurd rfl hne)
      by_cases sw10 : v = 10
      · subst sw10
        refine lv_tableIn (x := mI 10) (off := 479) (tgt := 511) hx hb dL_law_32 (by decide) (by decide) (by decide +kernel) (by decide) ?_
        refine lv_aload_n hx hb dL_law_511 rfl (lv_at hl 1 rfl) ?_
        refine law_arg C0 hS hl (j := 1) (by decide) hij hL ea1 dL_law_512 dL_law_513 dL_law_514 dL_law_515 dL_law_516 ?_
        refine law_arg C0 hS hl (j := 2) (by decide) hij hL ea2 dL_law_517 dL_law_518 dL_law_519 dL_law_520 dL_law_521 ?_
        refine law_call (as := [mvI a1, mvI a2]) (rest := []) C0 ht hN hK hGA hS hl.1 hP hD cv_L_58 kc_X8_standsIn rfl rfl (s_X8_standsIn hI.cinv r1 r2) rfl ⟨Nat.le_of_ble_eq_true rfl, Nat.le_of_ble_eq_true rfl⟩ rfl (Nat.le_of_ble_eq_true rfl) dL_law_522 (fun v1 w1 hv1 H locs hP hD hS => ?_)
        obtain ⟨z1, rfl, h1⟩ := hv1
        refine W.eq (g2 := F0 m 525 ls [.int (mI z1)]) rfl ?_
        refine lv_aload_n hx hb dL_law_525 rfl (lv_at hl 2 rfl) ?_
        refine law_arg C0 hS hl (j := 1) (by decide) hij hL ea1 dL_law_526 dL_law_527 dL_law_528 dL_law_529 dL_law_530 ?_
        refine law_arg C0 hS hl (j := 2) (by decide) hij hL ea2 dL_law_531 dL_law_532 dL_law_533 dL_law_534 dL_law_535 ?_
        refine law_call (as := [mvI a1, mvI a2]) (rest := [.int (mI z1)]) C0 ht hN hK hGA hS hl.1 hP hD cv_L_61 kc_X9_standsIn rfl rfl (s_X9_standsIn (hI.1.up (up_standsIn h1)) r1 r2) rfl ⟨Nat.le_of_ble_eq_true rfl, Nat.le_of_ble_eq_true rfl⟩ rfl (Nat.le_of_ble_eq_true rfl) dL_law_536 (fun v2 w2 hv2 H locs hP hD hS => ?_)
        obtain ⟨z2, rfl, h2⟩ := hv2
        refine W.eq (g2 := F0 m 539 ls [.int (mI z2), .int (mI z1)]) rfl ?_
        obtain ⟨ez, hR2⟩ := q_standsIn hRel h1 h2
        exact lv_icmp_eq (tgt := 705) hx hb dL_law_539 (by decide) (fun _ => j705 w2 H locs hR2 hP hD hS) (fun hne => absurd (by rw [ez]) hne)
      by_cases sw11 : v = 11
      · subst sw11
        refine lv_tableIn (x := mI 11) (off := 512) (tgt := 544) hx hb dL_law_32 (by decide) (by decide) (by decide +kernel) (by decide) ?_
        refine lv_aload_n hx hb dL_law_544 rfl (lv_at hl 1 rfl) ?_
        refine law_arg C0 hS hl (j := 1) (by decide) hij hL ea1 dL_law_545 dL_law_546 dL_law_547 dL_law_548 dL_law_549 ?_
        refine law_arg C0 hS hl (j := 2) (by decide) hij hL ea2 dL_law_550 dL_law_551 dL_law_552 dL_law_553 dL_law_554 ?_
        refine law_arg C0 hS hl (j := 3) (by decide) hij hL ea3 dL_law_555 dL_law_556 dL_law_557 dL_law_558 dL_law_559 ?_
        refine law_call (as := [mvI a1, mvI a2, mvI a3]) (rest := []) C0 ht hN hK hGA hS hl.1 hP hD cv_L_62 kc_X8_against rfl rfl (s_X8_against hI.cinv r1 r2 r3) rfl ⟨Nat.le_of_ble_eq_true rfl, Nat.le_of_ble_eq_true rfl⟩ rfl (Nat.le_of_ble_eq_true rfl) dL_law_560 (fun v1 w1 hv1 H locs hP hD hS => ?_)
        obtain ⟨z1, rfl, h1⟩ := hv1
        refine W.eq (g2 := F0 m 563 ls [.int (mI z1)]) rfl ?_
        refine lv_aload_n hx hb dL_law_563 rfl (lv_at hl 2 rfl) ?_
        refine law_arg C0 hS hl (j := 1) (by decide) hij hL ea1 dL_law_564 dL_law_565 dL_law_566 dL_law_567 dL_law_568 ?_
        refine law_arg C0 hS hl (j := 2) (by decide) hij hL ea2 dL_law_569 dL_law_570 dL_law_571 dL_law_572 dL_law_573 ?_
        refine law_arg C0 hS hl (j := 3) (by decide) hij hL ea3 dL_law_574 dL_law_575 dL_law_576 dL_law_577 dL_law_578 ?_
        refine law_call (as := [mvI a1, mvI a2, mvI a3]) (rest := [.int (mI z1)]) C0 ht hN hK hGA hS hl.1 hP hD cv_L_65 kc_X9_against rfl rfl (s_X9_against (hI.1.up (up_against h1)) r1 r2 r3) rfl ⟨Nat.le_of_ble_eq_true rfl, Nat.le_of_ble_eq_true rfl⟩ rfl (Nat.le_of_ble_eq_true rfl) dL_law_579 (fun v2 w2 hv2 H locs hP hD hS => ?_)
        obtain ⟨z2, rfl, h2⟩ := hv2
        refine W.eq (g2 := F0 m 582 ls [.int (mI z2), .int (mI z1)]) rfl ?_
        obtain ⟨ez, hR2⟩ := q_against hRel h1 h2
        exact lv_icmp_eq (tgt := 705) hx hb dL_law_582 (by decide) (fun _ => j705 w2 H locs hR2 hP hD hS) (fun hne => absurd (by rw [ez]) hne)
      by_cases sw12 : v = 12
      · subst sw12
        refine lv_tableIn (x := mI 12) (off := 555) (tgt := 587) hx hb dL_law_32 (by decide) (by decide) (by decide +kernel) (by decide) ?_
        refine lv_aload_n hx hb dL_law_587 rfl (lv_at hl 1 rfl) ?_
        refine law_arg C0 hS hl (j := 1) (by decide) hij hL ea1 dL_law_588 dL_law_589 dL_law_590 dL_law_591 dL_law_592 ?_
        refine law_call (as := [mvI a1]) (rest := []) C0 ht hN hK hGA hS hl.1 hP hD cv_L_66 kc_X8_count rfl rfl (s_X8_count hI.cinv r1) rfl ⟨Nat.le_of_ble_eq_true rfl, Nat.le_of_ble_eq_true rfl⟩ rfl (Nat.le_of_ble_eq_true rfl) dL_law_593 (fun v1 w1 hv1 H locs hP hD hS => ?_)
        obtain ⟨z1, rfl, h1⟩ := hv1
        refine W.eq (g2 := F0 m 596 ls [.int (mI z1)]) rfl ?_
        refine lv_aload_n hx hb dL_law_596 rfl (lv_at hl 2 rfl) ?_
        refine law_arg C0 hS hl (j := 1) (by decide) hij hL ea1 dL_law_597 dL_law_598 dL_law_599 dL_law_600 dL_law_601 ?_
        refine law_call (as := [mvI a1]) (rest := [.int (mI z1)]) C0 ht hN hK hGA hS hl.1 hP hD cv_L_69 kc_X9_count rfl rfl (s_X9_count (hI.1.up (up_count h1)) r1) rfl ⟨Nat.le_of_ble_eq_true rfl, Nat.le_of_ble_eq_true rfl⟩ rfl (Nat.le_of_ble_eq_true rfl) dL_law_602 (fun v2 w2 hv2 H locs hP hD hS => ?_)
        obtain ⟨z2, rfl, h2⟩ := hv2
        refine W.eq (g2 := F0 m 605 ls [.int (mI z2), .int (mI z1)]) rfl ?_
        obtain ⟨ez, hR2⟩ := q_count hRel h1 h2
        exact lv_icmp_eq (tgt := 705) hx hb dL_law_605 (by decide) (fun _ => j705 w2 H locs hR2 hP hD hS) (fun hne => absurd (by rw [ez]) hne)
      by_cases sw13 : v = 13
      · subst sw13
        refine lv_tableIn (x := mI 13) (off := 578) (tgt := 610) hx hb dL_law_32 (by decide) (by decide) (by decide +kernel) (by decide) ?_
        refine lv_aload_n hx hb dL_law_610 rfl (lv_at hl 1 rfl) ?_
        refine law_call (as := []) (rest := []) C0 ht hN hK hGA hS hl.1 hP hD cv_L_70 kc_X8_undo rfl rfl (s_X8_undo hI.cinv ) rfl ⟨Nat.le_of_ble_eq_true rfl, Nat.le_of_ble_eq_true rfl⟩ rfl (Nat.le_of_ble_eq_true rfl) dL_law_611 (fun v1 w1 hv1 H locs hP hD hS => ?_)
        obtain ⟨z1, rfl, h1⟩ := hv1
        refine W.eq (g2 := F0 m 614 ls [.int (mI z1)]) rfl ?_
        refine lv_aload_n hx hb dL_law_614 rfl (lv_at hl 2 rfl) ?_
        refine law_call (as := []) (rest := [.int (mI z1)]) C0 ht hN hK hGA hS hl.1 hP hD cv_L_74 kc_X9_undo rfl rfl (s_X9_undo (hI.1.up (up_undo h1)) ) rfl ⟨Nat.le_of_ble_eq_true rfl, Nat.le_of_ble_eq_true rfl⟩ rfl (Nat.le_of_ble_eq_true rfl) dL_law_615 (fun v2 w2 hv2 H locs hP hD hS => ?_)
        obtain ⟨z2, rfl, h2⟩ := hv2
        refine W.eq (g2 := F0 m 618 ls [.int (mI z2), .int (mI z1)]) rfl ?_
        obtain ⟨ez, hR2⟩ := q_undo hRel h1 h2
        exact lv_icmp_eq (tgt := 705) hx hb dL_law_618 (by decide) (fun _ => j705 w2 H locs hR2 hP hD hS) (fun hne => absurd (by rw [ez]) hne)
      by_cases sw14 : v = 14
      · subst sw14
        refine lv_tableIn (x := mI 14) (off := 591) (tgt := 623) hx hb dL_law_32 (by decide) (by decide) (by decide +kernel) (by decide) ?_
        refine lv_aload_n hx hb dL_law_623 rfl (lv_at hl 1 rfl) ?_
        refine law_arg C0 hS hl (j := 1) (by decide) hij hL ea1 dL_law_624 dL_law_625 dL_law_626 dL_law_627 dL_law_628 ?_
        refine law_call (as := [mvI a1]) (rest := []) C0 ht hN hK hGA hS hl.1 hP hD cv_L_75 kc_X8_type rfl rfl (s_X8_type hI.cinv r1) rfl ⟨Nat.le_of_ble_eq_true rfl, Nat.le_of_ble_eq_true rfl⟩ rfl (Nat.le_of_ble_eq_true rfl) dL_law_629 (fun v1 w1 hv1 H locs hP hD hS => ?_)
        obtain ⟨z1, rfl, h1⟩ := hv1
        refine W.eq (g2 := F0 m 632 ls [.int (mI z1)]) rfl ?_
        refine lv_aload_n hx hb dL_law_632 rfl (lv_at hl 2 rfl) ?_
        refine law_arg C0 hS hl (j := 1) (by decide) hij hL ea1 dL_law_633 dL_law_634 dL_law_635 dL_law_636 dL_law_637 ?_
        refine law_call (as := [mvI a1]) (rest := [.int (mI z1)]) C0 ht hN hK hGA hS hl.1 hP hD cv_L_78 kc_X9_type rfl rfl (s_X9_type (hI.1.up (up_type h1)) r1) rfl ⟨Nat.le_of_ble_eq_true rfl, Nat.le_of_ble_eq_true rfl⟩ rfl (Nat.le_of_ble_eq_true rfl) dL_law_638 (fun v2 w2 hv2 H locs hP hD hS => ?_)
        obtain ⟨z2, rfl, h2⟩ := hv2
        refine W.eq (g2 := F0 m 641 ls [.int (mI z2), .int (mI z1)]) rfl ?_
        obtain ⟨ez, hR2⟩ := q_type hRel h1 h2
        exact lv_icmp_eq (tgt := 705) hx hb dL_law_641 (by decide) (fun _ => j705 w2 H locs hR2 hP hD hS) (fun hne => absurd (by rw [ez]) hne)
      by_cases sw15 : v = 15
      · subst sw15
        refine lv_tableIn (x := mI 15) (off := 614) (tgt := 646) hx hb dL_law_32 (by decide) (by decide) (by decide +kernel) (by decide) ?_
        refine lv_aload_n hx hb dL_law_646 rfl (lv_at hl 1 rfl) ?_
        refine law_call (as := []) (rest := []) C0 ht hN hK hGA hS hl.1 hP hD cv_L_79 kc_X8_clearText rfl rfl (s_X8_clearText hI.cinv ) rfl ⟨Nat.le_of_ble_eq_true rfl, Nat.le_of_ble_eq_true rfl⟩ rfl (Nat.le_of_ble_eq_true rfl) dL_law_647 (fun v1 w1 hv1 H locs hP hD hS => ?_)
        obtain ⟨z1, rfl, h1⟩ := hv1
        refine W.eq (g2 := F0 m 650 ls [.int (mI z1)]) rfl ?_
        refine lv_aload_n hx hb dL_law_650 rfl (lv_at hl 2 rfl) ?_
        refine law_call (as := []) (rest := [.int (mI z1)]) C0 ht hN hK hGA hS hl.1 hP hD cv_L_82 kc_X9_clearText rfl rfl (s_X9_clearText (hI.1.up (up_clearText h1)) ) rfl ⟨Nat.le_of_ble_eq_true rfl, Nat.le_of_ble_eq_true rfl⟩ rfl (Nat.le_of_ble_eq_true rfl) dL_law_651 (fun v2 w2 hv2 H locs hP hD hS => ?_)
        obtain ⟨z2, rfl, h2⟩ := hv2
        refine W.eq (g2 := F0 m 654 ls [.int (mI z2), .int (mI z1)]) rfl ?_
        obtain ⟨ez, hR2⟩ := q_clearText hRel h1 h2
        exact lv_icmp_eq (tgt := 705) hx hb dL_law_654 (by decide) (fun _ => j705 w2 H locs hR2 hP hD hS) (fun hne => absurd (by rw [ez]) hne)
      by_cases sw16 : v = 16
      · subst sw16
        refine lv_tableIn (x := mI 16) (off := 627) (tgt := 659) hx hb dL_law_32 (by decide) (by decide) (by decide +kernel) (by decide) ?_
        refine lv_aload_n hx hb dL_law_659 rfl (lv_at hl 1 rfl) ?_
        refine law_arg C0 hS hl (j := 1) (by decide) hij hL ea1 dL_law_660 dL_law_661 dL_law_662 dL_law_663 dL_law_664 ?_
        refine law_call (as := [mvI a1]) (rest := []) C0 ht hN hK hGA hS hl.1 hP hD cv_L_83 kc_X8_fault rfl rfl (s_X8_fault hI.cinv r1) rfl ⟨Nat.le_of_ble_eq_true rfl, Nat.le_of_ble_eq_true rfl⟩ rfl (Nat.le_of_ble_eq_true rfl) dL_law_665 (fun v1 w1 hv1 H locs hP hD hS => ?_)
        obtain ⟨z1, rfl, h1⟩ := hv1
        refine W.eq (g2 := F0 m 668 ls [.int (mI z1)]) rfl ?_
        refine lv_aload_n hx hb dL_law_668 rfl (lv_at hl 2 rfl) ?_
        refine law_arg C0 hS hl (j := 1) (by decide) hij hL ea1 dL_law_669 dL_law_670 dL_law_671 dL_law_672 dL_law_673 ?_
        refine law_call (as := [mvI a1]) (rest := [.int (mI z1)]) C0 ht hN hK hGA hS hl.1 hP hD cv_L_86 kc_X9_fault rfl rfl (s_X9_fault (hI.1.up (up_fault h1)) r1) rfl ⟨Nat.le_of_ble_eq_true rfl, Nat.le_of_ble_eq_true rfl⟩ rfl (Nat.le_of_ble_eq_true rfl) dL_law_674 (fun v2 w2 hv2 H locs hP hD hS => ?_)
        obtain ⟨z2, rfl, h2⟩ := hv2
        refine W.eq (g2 := F0 m 677 ls [.int (mI z2), .int (mI z1)]) rfl ?_
        obtain ⟨ez, hR2⟩ := q_fault hRel h1 h2
        exact lv_icmp_eq (tgt := 705) hx hb dL_law_677 (by decide) (fun _ => j705 w2 H locs hR2 hP hD hS) (fun hne => absurd (by rw [ez]) hne)
      by_cases sw17 : v = 17
      · subst sw17
        refine lv_tableIn (x := mI 17) (off := 650) (tgt := 682) hx hb dL_law_32 (by decide) (by decide) (by decide +kernel) (by decide) ?_
        refine lv_aload_n hx hb dL_law_682 rfl (lv_at hl 1 rfl) ?_
        refine law_arg C0 hS hl (j := 1) (by decide) hij hL ea1 dL_law_683 dL_law_684 dL_law_685 dL_law_686 dL_law_687 ?_
        refine law_call (as := [mvI a1]) (rest := []) C0 ht hN hK hGA hS hl.1 hP hD cv_L_87 kc_X8_read rfl rfl (s_X8_read hI.cinv r1) rfl ⟨Nat.le_of_ble_eq_true rfl, Nat.le_of_ble_eq_true rfl⟩ rfl (Nat.le_of_ble_eq_true rfl) dL_law_688 (fun v1 w1 hv1 H locs hP hD hS => ?_)
        obtain ⟨z1, rfl, h1⟩ := hv1
        refine W.eq (g2 := F0 m 691 ls [.int (mI z1)]) rfl ?_
        refine lv_aload_n hx hb dL_law_691 rfl (lv_at hl 2 rfl) ?_
        refine law_arg C0 hS hl (j := 1) (by decide) hij hL ea1 dL_law_692 dL_law_693 dL_law_694 dL_law_695 dL_law_696 ?_
        refine law_call (as := [mvI a1]) (rest := [.int (mI z1)]) C0 ht hN hK hGA hS hl.1 hP hD cv_L_90 kc_X9_read rfl rfl (s_X9_read (hI.1.up (up_read h1)) r1) rfl ⟨Nat.le_of_ble_eq_true rfl, Nat.le_of_ble_eq_true rfl⟩ rfl (Nat.le_of_ble_eq_true rfl) dL_law_697 (fun v2 w2 hv2 H locs hP hD hS => ?_)
        obtain ⟨z2, rfl, h2⟩ := hv2
        refine W.eq (g2 := F0 m 700 ls [.int (mI z2), .int (mI z1)]) rfl ?_
        obtain ⟨ez, hR2⟩ := q_read hRel h1 h2
        exact lv_icmp_eq (tgt := 705) hx hb dL_law_700 (by decide) (fun _ => j705 w2 H locs hR2 hP hD hS) (fun hne => absurd (by rw [ez]) hne)
      exact lv_tableOut (tgt := 705) hx hb dL_law_32 (by rw [mI_toInt rv0]; omega) (by decide) (j705 w H locs hI hP hD hS)
