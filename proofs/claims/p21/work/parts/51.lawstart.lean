/-! THE LAW FROM ITS ENTRY -/
theorem mnest_on {q : Cond} (h1 : misN q = true) : q.onTables = true := by
  cases q <;> first | rfl | (exact absurd h1 (by decide)) | (simp [misN] at h1)
theorem same_wide {s t : State} {L : List Loc} {c n c' n' : Nat} (h : s.sameButNew t L c n) (hL : ∀ q ∈ L, s.heap.size ≤ q.base) (hc : c ≤ c') (hn : n ≤ n') : s.sameButNew t [] c' n' := by
  refine ⟨h.1, h.2.1, Nat.le_trans h.2.2.1 (Nat.add_le_add_left hc _), h.2.2.2.1, Nat.le_trans h.2.2.2.2.1 hn, fun a cl hcl => ?_⟩
  obtain ⟨c2, h1, h2, h3, h4⟩ := h.2.2.2.2.2 a cl hcl
  exact ⟨c2, h1, h2, h3, fun i _ => h4 i (fun hm => absurd (Array.getElem?_eq_some_iff.mp hcl).1 (Nat.not_lt.mpr (hL _ hm)))⟩
theorem ment_ext (g1 : va_G) (f : Nat → Nat) (c1 c2 c3 c4 : ClassId) (e e' : List mLay) (w : mW) (i : Nat) (q : mLay) : ment (g1, f, c1, c2, c3, c4, e) w i q = ment (g1, f, c1, c2, c3, c4, e') w i q := by
  rcases q with o | a
  · have h : mtr (g1, f, c1, c2, c3, c4, e) = mtr (g1, f, c1, c2, c3, c4, e') := by funext v; rcases v with z | z | z <;> rfl
    unfold ment
    dsimp only
    rw [h]
  · obtain ⟨t, n⟩ := a
    match t with
    | 0 => rfl
    | 1 => rfl
    | 2 => rfl
    | t + 3 => rfl

set_option maxHeartbeats 4000000 in
set_option maxRecDepth 100000 in
theorem law_enter {p : Program} {l : Launch} {e : Env} {s : State} {m : MethodId} {below : List Frame} {meth : Method} {c : Code} {Gz : mG} {b Ln : Nat} {xs : Nat → Int32} {H : Heap} {locs : List Loc} {ls : Array Slot} {x0 x1 x2 x3 x4 x5 x6 x7 x8 x9 x10 x11 x12 x13 x14 x15 x16 x17 x18 x19 x20 x21 x22 x23 x24 x25 x26 x27 x28 x29 x30 y0 : Nat} (hL : Ln ≤ 260) (C0 : lw_At p s m meth c b Ln xs) (ht : ∀ w ∈ mgood, w.before #[Value.ref b] s = true) (hN : ∀ q ∈ mnest, va_Nw q s) (hK : va_K Gz.1 vwCl (mtys Gz) s)
    (hP : va_P Gz.1 vwCl [(x0, .inr (7, [.ref x1, .ref x3, .ref x5, .ref x7, .ref x9, .ref x13, .ref x15, .ref x21, .ref x25])), (x1, .inr (2, [.ref x2])), zP Gz x2, (x3, .inr (2, [.ref x4])), zP Gz x4, (x5, .inr (2, [.ref x6])), zP Gz x6, (x7, .inr (0, [.ref x8, .int 0])), zI Gz 0 672 x8, (x9, .inr (3, [.ref x10, .int 0, .ref x11, .int 0, .int 0, .int 0, .int 0])), zI Gz 0 80 x10, (x11, .inr (2, [.ref x12])), zP Gz x12, (x13, .inr (1, [.ref x14])), zI Gz 1 64 x14, (x15, .inr (6, [.ref x16, .ref x17, .ref x18, .ref x19, .ref x20, .ref x1, .ref x1, .int 0])), zI Gz 0 64 x16, zI Gz 0 64 x17, zI Gz 0 64 x18, zI Gz 0 64 x19, zI Gz 0 64 x20, (x21, .inr (4, [.ref x22, .ref x23, .ref x24, .int 0])), zI Gz 0 64 x22, zJ Gz 64 x23, zI Gz 0 64 x24, (x25, .inr (5, [.ref x26, .ref x27, .ref x28, .ref x29, .ref x30, .ref x1, .ref x1, .int 0])), zI Gz 0 64 x26, zI Gz 0 64 x27, zI Gz 0 64 x28, zI Gz 0 64 x29, zI Gz 0 64 x30, zJ Gz 64 y0] H) (hD : va_D (fun q : Nat => s.heap.size ≤ q) [(x0, .inr (7, [.ref x1, .ref x3, .ref x5, .ref x7, .ref x9, .ref x13, .ref x15, .ref x21, .ref x25])), (x1, .inr (2, [.ref x2])), zP Gz x2, (x3, .inr (2, [.ref x4])), zP Gz x4, (x5, .inr (2, [.ref x6])), zP Gz x6, (x7, .inr (0, [.ref x8, .int 0])), zI Gz 0 672 x8, (x9, .inr (3, [.ref x10, .int 0, .ref x11, .int 0, .int 0, .int 0, .int 0])), zI Gz 0 80 x10, (x11, .inr (2, [.ref x12])), zP Gz x12, (x13, .inr (1, [.ref x14])), zI Gz 1 64 x14, (x15, .inr (6, [.ref x16, .ref x17, .ref x18, .ref x19, .ref x20, .ref x1, .ref x1, .int 0])), zI Gz 0 64 x16, zI Gz 0 64 x17, zI Gz 0 64 x18, zI Gz 0 64 x19, zI Gz 0 64 x20, (x21, .inr (4, [.ref x22, .ref x23, .ref x24, .int 0])), zI Gz 0 64 x22, zJ Gz 64 x23, zI Gz 0 64 x24, (x25, .inr (5, [.ref x26, .ref x27, .ref x28, .ref x29, .ref x30, .ref x1, .ref x1, .int 0])), zI Gz 0 64 x26, zI Gz 0 64 x27, zI Gz 0 64 x28, zI Gz 0 64 x29, zI Gz 0 64 x30, zJ Gz 64 y0]) (hfst : ([(x0, .inr (7, [.ref x1, .ref x3, .ref x5, .ref x7, .ref x9, .ref x13, .ref x15, .ref x21, .ref x25])), (x1, .inr (2, [.ref x2])), zP Gz x2, (x3, .inr (2, [.ref x4])), zP Gz x4, (x5, .inr (2, [.ref x6])), zP Gz x6, (x7, .inr (0, [.ref x8, .int 0])), zI Gz 0 672 x8, (x9, .inr (3, [.ref x10, .int 0, .ref x11, .int 0, .int 0, .int 0, .int 0])), zI Gz 0 80 x10, (x11, .inr (2, [.ref x12])), zP Gz x12, (x13, .inr (1, [.ref x14])), zI Gz 1 64 x14, (x15, .inr (6, [.ref x16, .ref x17, .ref x18, .ref x19, .ref x20, .ref x1, .ref x1, .int 0])), zI Gz 0 64 x16, zI Gz 0 64 x17, zI Gz 0 64 x18, zI Gz 0 64 x19, zI Gz 0 64 x20, (x21, .inr (4, [.ref x22, .ref x23, .ref x24, .int 0])), zI Gz 0 64 x22, zJ Gz 64 x23, zI Gz 0 64 x24, (x25, .inr (5, [.ref x26, .ref x27, .ref x28, .ref x29, .ref x30, .ref x1, .ref x1, .int 0])), zI Gz 0 64 x26, zI Gz 0 64 x27, zI Gz 0 64 x28, zI Gz 0 64 x29, zI Gz 0 64 x30, zJ Gz 64 y0] : va_W).map Prod.fst = [x0, x1, x2, x3, x4, x5, x6, x7, x8, x9, x10, x11, x12, x13, x14, x15, x16, x17, x18, x19, x20, x21, x22, x23, x24, x25, x26, x27, x28, x29, x30, y0]) (hS : va_S (fun q : Nat => s.heap.size ≤ q) s.heap H locs) (hl : lv_has ls 11 [(2, .ref y0), (1, .ref x0), (0, .ref b)]) :
    W p l e room_1 s m #[Value.ref b] below meth c H locs 559 34534 (lw_Z below #[Value.ref b] s) (F0 m 33 ls []) := by
  obtain ⟨hx, hb, hr, hml, hown, hts, hX, hbl, hlocks, hgv⟩ := id C0
  obtain ⟨f, hf⟩ : ∃ f : Nat → Nat, f = fun i => if i = 40 then b else [x0, x1, x2, x3, x4, x5, x6, x7, x8, x9, x10, x11, x12, x13, x14, x15, x16, x17, x18, x19, x20, x21, x22, x23, x24, x25, x26, x27, x28, x29, x30, y0].getD i 0 := ⟨_, rfl⟩
  have hf40 : f 40 = b := by rw [hf]; rfl
  have hf31 : f 31 = y0 := by rw [hf]; rfl
  have hf0 : f 0 = x0 := by rw [hf]; rfl
  have hfi : ∀ i, i < 32 → [x0, x1, x2, x3, x4, x5, x6, x7, x8, x9, x10, x11, x12, x13, x14, x15, x16, x17, x18, x19, x20, x21, x22, x23, x24, x25, x26, x27, x28, x29, x30, y0][i]? = some (f i) := fun i hi => by
    rw [hf]
    show _ = some (if i = 40 then b else [x0, x1, x2, x3, x4, x5, x6, x7, x8, x9, x10, x11, x12, x13, x14, x15, x16, x17, x18, x19, x20, x21, x22, x23, x24, x25, x26, x27, x28, x29, x30, y0].getD i 0)
    rw [if_neg (by omega)]; exact getD_at hi
  have hP0 := hP.sub (ws' := [(x0, .inr (7, [.ref x1, .ref x3, .ref x5, .ref x7, .ref x9, .ref x13, .ref x15, .ref x21, .ref x25])), (x1, .inr (2, [.ref x2])), zP Gz x2, (x3, .inr (2, [.ref x4])), zP Gz x4, (x5, .inr (2, [.ref x6])), zP Gz x6, (x7, .inr (0, [.ref x8, .int 0])), zI Gz 0 672 x8, (x9, .inr (3, [.ref x10, .int 0, .ref x11, .int 0, .int 0, .int 0, .int 0])), zI Gz 0 80 x10, (x11, .inr (2, [.ref x12])), zP Gz x12, (x13, .inr (1, [.ref x14])), zI Gz 1 64 x14, (x15, .inr (6, [.ref x16, .ref x17, .ref x18, .ref x19, .ref x20, .ref x1, .ref x1, .int 0])), zI Gz 0 64 x16, zI Gz 0 64 x17, zI Gz 0 64 x18, zI Gz 0 64 x19, zI Gz 0 64 x20, (x21, .inr (4, [.ref x22, .ref x23, .ref x24, .int 0])), zI Gz 0 64 x22, zJ Gz 64 x23, zI Gz 0 64 x24, (x25, .inr (5, [.ref x26, .ref x27, .ref x28, .ref x29, .ref x30, .ref x1, .ref x1, .int 0])), zI Gz 0 64 x26, zI Gz 0 64 x27, zI Gz 0 64 x28, zI Gz 0 64 x29, zI Gz 0 64 x30]) [0, 1, 2, 3, 4, 5, 6, 7, 8, 9, 10, 11, 12, 13, 14, 15, 16, 17, 18, 19, 20, 21, 22, 23, 24, 25, 26, 27, 28, 29, 30] rfl
  have hw0 : va_P Gz.1 vwCl (mws (Gz.1, f, Gz.2.2.1, Gz.2.2.2.1, Gz.2.2.2.2.1, Gz.2.2.2.2.2.1, []) mw0) H := ws_world (G := (Gz.1, f, Gz.2.2.1, Gz.2.2.2.1, Gz.2.2.2.2.1, Gz.2.2.2.2.2.1, [])) rfl (by rw [hf]; rfl) (by rw [hf]; rfl) (by rw [hf]; rfl) (by rw [hf]; rfl) (by rw [hf]; rfl) (by rw [hf]; rfl) (by rw [hf]; rfl) (by rw [hf]; rfl) (by rw [hf]; rfl) (by rw [hf]; rfl) (by rw [hf]; rfl) (by rw [hf]; rfl) (by rw [hf]; rfl) (by rw [hf]; rfl) (by rw [hf]; rfl) (by rw [hf]; rfl) (by rw [hf]; rfl) (by rw [hf]; rfl) (by rw [hf]; rfl) (by rw [hf]; rfl) (by rw [hf]; rfl) (by rw [hf]; rfl) (by rw [hf]; rfl) (by rw [hf]; rfl) (by rw [hf]; rfl) (by rw [hf]; rfl) (by rw [hf]; rfl) (by rw [hf]; rfl) (by rw [hf]; rfl) (by rw [hf]; rfl) (by rw [hf]; rfl) hP0
  obtain ⟨G, hG⟩ : ∃ G : mG, G = (Gz.1, f, Gz.2.2.1, Gz.2.2.2.1, Gz.2.2.2.2.1, Gz.2.2.2.2.2.1, [.inr (3, 64)]) := ⟨_, rfl⟩
  have hg : (mlaysG G)[31]? = some (.inr (3, 64)) := by rw [hG]; rfl
  have hlen : (mlaysG G).length = 32 := by rw [hG]; rfl
  have hw : va_P G.1 vwCl (mws G mw0) H := by
    intro k pr hk
    obtain ⟨lay, h1, rfl⟩ := mws_of hk
    have hk32 := (List.getElem?_eq_some_iff.mp h1).1
    rw [hlen] at hk32
    by_cases h31 : k < 31
    · have h2 : mlays[k]? = some lay := by
        unfold mlaysG at h1
        rwa [List.getElem?_append_left (by rw [mlays_len]; exact h31)] at h1
      have h3 := hw0 k _ (mws_at _ mw0 h2)
      rw [hG]
      rw [ment_ext _ _ _ _ _ _ [] [.inr (3, 64)]] at h3
      exact h3
    · obtain rfl : k = 31 := by omega
      obtain rfl : lay = .inr (3, 64) := Option.some.inj (h1.symm.trans hg)
      refine at_zJ (a := y0) (by rw [hG]; exact hf31) (mw0_z (by decide) (by decide)) ?_
      rw [hG]; exact hP 31 _ rfl
  have hat : ∀ i, i < 32 → ∃ pr : Nat × va_E, ([(x0, .inr (7, [.ref x1, .ref x3, .ref x5, .ref x7, .ref x9, .ref x13, .ref x15, .ref x21, .ref x25])), (x1, .inr (2, [.ref x2])), zP Gz x2, (x3, .inr (2, [.ref x4])), zP Gz x4, (x5, .inr (2, [.ref x6])), zP Gz x6, (x7, .inr (0, [.ref x8, .int 0])), zI Gz 0 672 x8, (x9, .inr (3, [.ref x10, .int 0, .ref x11, .int 0, .int 0, .int 0, .int 0])), zI Gz 0 80 x10, (x11, .inr (2, [.ref x12])), zP Gz x12, (x13, .inr (1, [.ref x14])), zI Gz 1 64 x14, (x15, .inr (6, [.ref x16, .ref x17, .ref x18, .ref x19, .ref x20, .ref x1, .ref x1, .int 0])), zI Gz 0 64 x16, zI Gz 0 64 x17, zI Gz 0 64 x18, zI Gz 0 64 x19, zI Gz 0 64 x20, (x21, .inr (4, [.ref x22, .ref x23, .ref x24, .int 0])), zI Gz 0 64 x22, zJ Gz 64 x23, zI Gz 0 64 x24, (x25, .inr (5, [.ref x26, .ref x27, .ref x28, .ref x29, .ref x30, .ref x1, .ref x1, .int 0])), zI Gz 0 64 x26, zI Gz 0 64 x27, zI Gz 0 64 x28, zI Gz 0 64 x29, zI Gz 0 64 x30, zJ Gz 64 y0] : va_W)[i]? = some pr ∧ pr.1 = G.2.1 i := by
    intro i hi
    have e1 : (([(x0, .inr (7, [.ref x1, .ref x3, .ref x5, .ref x7, .ref x9, .ref x13, .ref x15, .ref x21, .ref x25])), (x1, .inr (2, [.ref x2])), zP Gz x2, (x3, .inr (2, [.ref x4])), zP Gz x4, (x5, .inr (2, [.ref x6])), zP Gz x6, (x7, .inr (0, [.ref x8, .int 0])), zI Gz 0 672 x8, (x9, .inr (3, [.ref x10, .int 0, .ref x11, .int 0, .int 0, .int 0, .int 0])), zI Gz 0 80 x10, (x11, .inr (2, [.ref x12])), zP Gz x12, (x13, .inr (1, [.ref x14])), zI Gz 1 64 x14, (x15, .inr (6, [.ref x16, .ref x17, .ref x18, .ref x19, .ref x20, .ref x1, .ref x1, .int 0])), zI Gz 0 64 x16, zI Gz 0 64 x17, zI Gz 0 64 x18, zI Gz 0 64 x19, zI Gz 0 64 x20, (x21, .inr (4, [.ref x22, .ref x23, .ref x24, .int 0])), zI Gz 0 64 x22, zJ Gz 64 x23, zI Gz 0 64 x24, (x25, .inr (5, [.ref x26, .ref x27, .ref x28, .ref x29, .ref x30, .ref x1, .ref x1, .int 0])), zI Gz 0 64 x26, zI Gz 0 64 x27, zI Gz 0 64 x28, zI Gz 0 64 x29, zI Gz 0 64 x30, zJ Gz 64 y0] : va_W).map Prod.fst)[i]? = some (G.2.1 i) := by rw [hfst, hG]; exact hfi i hi
    rw [List.getElem?_map] at e1
    obtain ⟨pr, h1, h2⟩ := Option.map_eq_some_iff.mp e1
    exact ⟨pr, h1, h2⟩
  have hDD : va_D (fun q : Nat => s.heap.size ≤ q) (mws G mw0) := by
    refine ⟨fun i j pr qr hi hj hpq => ?_, fun k qr hk => ?_⟩
    · obtain ⟨li, h1, rfl⟩ := mws_of hi
      obtain ⟨lj, h2, rfl⟩ := mws_of hj
      have hi46 := (List.getElem?_eq_some_iff.mp h1).1
      have hj46 := (List.getElem?_eq_some_iff.mp h2).1
      rw [hlen] at hi46 hj46
      obtain ⟨p1, a1, b1⟩ := hat i hi46
      obtain ⟨p2, a2, b2⟩ := hat j hj46
      exact hD.1 i j p1 p2 a1 a2 (by rw [b1, b2]; exact hpq)
    · obtain ⟨lk, h1, rfl⟩ := mws_of hk
      have hk46 := (List.getElem?_eq_some_iff.mp h1).1
      rw [hlen] at hk46
      obtain ⟨p1, a1, b1⟩ := hat k hk46
      show s.heap.size ≤ G.2.1 k
      rw [← b1]; exact hD.2 k p1 a1
  have hty : mtys G = mtys Gz := mtys_eq (by rw [hG])
  have hC : mC G (p, e, s, m, #[Value.ref b], below, meth, c, (600000, 7302250, 8, 559, 34534, fun q => s.heap.size ≤ q)) 11 RL cL_law (some .boolean) := ⟨hx, hb, hml, hr, hlocks, hown, ht, hN, by rw [hty, hG]; exact hK, ⟨Nat.le_of_ble_eq_true rfl, Nat.le_of_ble_eq_true rfl⟩, fun q h => mA_in hDD q h⟩
  have hSc : Scr G (p, e, s, m, #[Value.ref b], below, meth, c, (600000, 7302250, 8, 559, 34534, fun q => s.heap.size ≤ q)) Ln := by
    have e40 : G.2.1 40 = b := by rw [hG]; exact hf40
    unfold Scr
    rw [e40]
    exact ⟨⟨xs, hX⟩, hbl, Nat.not_le.mpr hbl⟩
  have hm : mhas G ls 11 [some (mvR 40), some (mvR 0), some (mvR 31), none, none, none, none, none, none, none, none] := by
    refine ⟨hl.1, hl.2.1, rfl, fun i v hi => ?_⟩
    match i, hi with
    | 0, hi =>
      obtain rfl : v = mvR 40 := (Option.some.inj (Option.some.inj hi)).symm
      show ls[0]? = some (.val (.ref (G.2.1 40)))
      rw [show G.2.1 40 = b by rw [hG]; exact hf40]
      exact hl.2.2 (0, .ref b) (by simp)
    | 1, hi =>
      obtain rfl : v = mvR 0 := (Option.some.inj (Option.some.inj hi)).symm
      show ls[1]? = some (.val (.ref (G.2.1 0)))
      rw [show G.2.1 0 = x0 by rw [hG]; exact hf0]
      exact hl.2.2 (1, .ref x0) (by simp)
    | 2, hi =>
      obtain rfl : v = mvR 31 := (Option.some.inj (Option.some.inj hi)).symm
      show ls[2]? = some (.val (.ref (G.2.1 31)))
      rw [show G.2.1 31 = y0 by rw [hG]; exact hf31]
      exact hl.2.2 (2, .ref y0) (by simp)
    | 3, hi => simp at hi
    | 4, hi => simp at hi
    | 5, hi => simp at hi
    | 6, hi => simp at hi
    | 7, hi => simp at hi
    | 8, hi => simp at hi
    | 9, hi => simp at hi
    | 10, hi => simp at hi
    | i + 11, hi => simp at hi
  have hb2 := law_body (l := l) hg hC hSc hL mw0_ob H locs ls hw hDD hS hm
  refine W_to hb2 (fun t ht2 => ?_)
  obtain ⟨o, a1, a2, ⟨⟨v, w', rfl, ⟨z, rfl, hz⟩, -⟩, hF⟩, LL, ⟨b1, b2, b3⟩, b4⟩ := ht2
  subst hz
  exact ⟨_, a1, a2, rfl, b1, b2, same_wide b3 b4 (Nat.le_of_ble_eq_true rfl) (Nat.le_of_ble_eq_true rfl)⟩
set_option maxHeartbeats 4000000 in
set_option maxRecDepth 100000 in
theorem whole_start {p : Program} {e : Env} {s : State} {m : MethodId} {below : List Frame} {meth : Method} {c : Code} (l : Launch) (hflags : l.flags = flags0) {b L : Nat} {xs : Nat → Int32} (hL : L ≤ 260) (C0 : lw_At p s m meth c b L xs) : W p l e room_1 s m #[Value.ref b] below meth c s.heap [] 0 0 (lw_Z below #[Value.ref b] s) (entryFrame m ([Value.ref b] : List Value).toArray 11) := by
  obtain ⟨hx, hb, hr, hml, hown, hts, hX, hbl, hlocks, hgv⟩ := id C0
  have ht : ∀ w ∈ mgood, w.before #[Value.ref b] s = true := fun w hw => mtbl_ok hts w (List.mem_filter.mp hw).1
  have hN : ∀ q ∈ mnest, va_Nw q s := fun q hq => va_Nw.of (mnest_on (List.mem_filter.mp hq).2) (hts q (List.mem_filter.mp hq).1)
  obtain ⟨c0, iS0, hKn0⟩ := u_known (C := RX0) (T := TX0) (N := 2) (n := 2) ht uiX0 (ht _ wi_65)
  obtain ⟨c1, iS1, hKn1⟩ := u_known (C := RX1) (T := TX1) (N := 1) (n := 1) ht uiX1 (ht _ wi_108)
  obtain ⟨c2, iS2, hKn2⟩ := u_known (C := RX3) (T := TX3) (N := 1) (n := 1) ht uiX3 (ht _ wi_36)
  obtain ⟨c3, iS3, hKn3⟩ := u_known (C := RX4) (T := TX4) (N := 7) (n := 7) ht uiX4 (ht _ wi_78)
  obtain ⟨c4, iS4, hKn4⟩ := u_known (C := RX5) (T := TX5) (N := 4) (n := 4) ht uiX5 (ht _ wi_153)
  obtain ⟨c5, iS5, hKn5⟩ := u_known (C := RX6) (T := TX6) (N := 8) (n := 8) ht uiX6 (ht _ wi_173)
  obtain ⟨c6, iS6, hKn6⟩ := u_known (C := RX7) (T := TX7) (N := 8) (n := 8) ht uiX7 (ht _ wi_119)
  obtain ⟨c7, iS7, hKn7⟩ := u_known (C := RX8) (T := TX8) (N := 9) (n := 9) ht uiX8 (ht _ wi_28)
  obtain ⟨dC, dI, hKc⟩ : ∃ (dC : Nat → ClassId) (dI : Nat → Nat → Nat), ∀ (k : Nat) (q : vw_C), vwCl[k]? = some q → u_Kn s q.1 q.2.1 q.2.2 (dC k) (dI k) := by
    refine ⟨fun k => if k = 0 then c0 else if k = 1 then c1 else if k = 2 then c2 else if k = 3 then c3 else if k = 4 then c4 else if k = 5 then c5 else if k = 6 then c6 else c7, fun k => if k = 0 then iS0 else if k = 1 then iS1 else if k = 2 then iS2 else if k = 3 then iS3 else if k = 4 then iS4 else if k = 5 then iS5 else if k = 6 then iS6 else iS7, ?_⟩
    intro k q hq
    match k, hq with
    | 0, hq => cases hq; exact hKn0
    | 1, hq => cases hq; exact hKn1
    | 2, hq => cases hq; exact hKn2
    | 3, hq => cases hq; exact hKn3
    | 4, hq => cases hq; exact hKn4
    | 5, hq => cases hq; exact hKn5
    | 6, hq => cases hq; exact hKn6
    | 7, hq => cases hq; exact hKn7
    | k + 8, hq => simp [vwCl] at hq
  obtain ⟨aI, kI, oI, fI, gI, uI⟩ := Cond.arrayClass_spec (type := .int) (ht (Cond.arrayClass .int) wi_63)
  obtain ⟨aB, kB, oB, fB, gB, uB⟩ := Cond.arrayClass_spec (type := .boolean) (ht (Cond.arrayClass .boolean) wi_117)
  obtain ⟨aJ, kJ, oJ, fJ, gJ, uJ⟩ := Cond.arrayClass_spec (type := .long) (ht (Cond.arrayClass .long) wi_171)
  obtain ⟨Gz, hGz⟩ : ∃ Gz : mG, Gz = ((dC, dI), (fun _ => 0), (aI, aB, aI, aJ, [])) := ⟨_, rfl⟩
  have hK : va_K Gz.1 vwCl (mtys Gz) s := by
    rw [hGz]
    refine ⟨hKc, fun k q hq => ?_⟩
    match k, hq with
    | 0, hq => cases hq; exact ⟨fun n z => ⟨fun k h => (by cases h), kI, gI, oI, uI⟩, fI⟩
    | 1, hq => cases hq; exact ⟨fun n z => ⟨fun k h => (by cases h), kB, gB, oB, uB⟩, fB⟩
    | 2, hq => cases hq; exact ⟨fun n z => ⟨fun k h => (by cases h), kI, gI, oI, uI⟩, fI⟩
    | 3, hq => cases hq; exact ⟨fun n z => ⟨fun k h => (by cases h), kJ, gJ, oJ, uJ⟩, fJ⟩
    | k + 4, hq => simp [mtys] at hq
  have hA : ∀ q : Nat, s.heap.size ≤ q → (fun q : Nat => s.heap.size ≤ q) q := fun _ h => h
  have hS : va_S (fun q : Nat => s.heap.size ≤ q) s.heap s.heap [] := va_S.rf
  have hl := lv_entry ([.ref b]) (n := 11) (Nat.le_of_ble_eq_true rfl)
  rw [lg_entry_eq]
  generalize (lg_sl ([.ref b]) ++ List.replicate (11 - (lg_sl ([.ref b])).length) Slot.unset).toArray = ls at hl ⊢
  have hl : lv_has ls 11 [(0, .ref b)] := hl
  refine mf_call (G := Gz) (nL := 11) (as := []) (rest := []) hx hb hml hown ht hN hK hS hl.1 mf_texts cs_L_148 kc_L_texts rfl ⟨Nat.le_of_ble_eq_true rfl, Nat.le_of_ble_eq_true rfl⟩ (Nat.le_of_ble_eq_true rfl) (Nat.le_of_ble_eq_true rfl) rfl (Nat.le_of_ble_eq_true rfl) dL_law_0 (fun z H locs hz hS => ?_)
  subst hz
  refine lv_if_eq (tgt := 18) hx hb dL_law_3 (by decide) (fun q => absurd q (by decide)) (fun _ => ?_)
  refine mf_call (G := Gz) (nL := 11) (as := []) (rest := []) hx hb hml hown ht hN hK hS hl.1 mf_plans cs_L_152 kc_L_plans rfl ⟨Nat.le_of_ble_eq_true rfl, Nat.le_of_ble_eq_true rfl⟩ (Nat.le_of_ble_eq_true rfl) (Nat.le_of_ble_eq_true rfl) rfl (Nat.le_of_ble_eq_true rfl) dL_law_6 (fun z H locs hz hS => ?_)
  subst hz
  refine lv_if_eq (tgt := 18) hx hb dL_law_9 (by decide) (fun q => absurd q (by decide)) (fun _ => ?_)
  refine mf_call (G := Gz) (nL := 11) (as := []) (rest := []) hx hb hml hown ht hN hK hS hl.1 mf_circles cs_L_155 kc_L_circles rfl ⟨Nat.le_of_ble_eq_true rfl, Nat.le_of_ble_eq_true rfl⟩ (Nat.le_of_ble_eq_true rfl) (Nat.le_of_ble_eq_true rfl) rfl (Nat.le_of_ble_eq_true rfl) dL_law_12 (fun z H locs hz hS => ?_)
  subst hz
  refine lv_if_ne (tgt := 20) hx hb dL_law_15 (by decide) (fun _ => ?_) (fun q => absurd q (by decide))
  refine make_list (Gz := Gz) (nL := 11) hx hb hml hown ht hN hK hS hl.1 ⟨Nat.le_of_ble_eq_true rfl, Nat.le_of_ble_eq_true rfl⟩ (Nat.le_of_ble_eq_true rfl) (Nat.le_of_ble_eq_true rfl) dL_law_20 dL_law_23 dL_law_24 (fun x0 x1 x2 x3 x4 x5 x6 x7 x8 x9 x10 x11 x12 x13 x14 x15 x16 x17 x18 x19 x20 x21 x22 x23 x24 x25 x26 x27 x28 x29 x30 H locs hP hD hS => ?_)
  refine lv_astore_n (lv' := [(1, .ref x0), (0, .ref b)]) hx hb dL_law_27 rfl hl (by decide) rfl (fun ls hl => ?_)
  refine lv_bipush (v := mI 64) hx hb dL_law_28 (by decide) ?_
  refine va_newa (atype := .long) (ty := .long) (N' := 64) (a0 := (64, .inr (.inl fun _ : Nat => mJ 0))) hx hb (ht _ wi_171) rfl hK hP hD hS hA (fun _ => rfl) (by decide) rfl (by decide) (Nat.le_of_ble_eq_true rfl) (Nat.le_of_ble_eq_true rfl) dL_law_30 (fun y0 cA H hK9 hP hD hS => ?_)
  obtain rfl : cA = mCid Gz 3 := Option.some.inj ((hK9.2 4 _ rfl).2.symm.trans (hK.2 3 _ rfl).2)
  refine lv_astore_n (lv' := [(2, .ref y0), (1, .ref x0), (0, .ref b)]) hx hb dL_law_32 rfl hl (by decide) rfl (fun ls hl => ?_)
  have hP : va_P Gz.1 vwCl [(x0, .inr (7, [.ref x1, .ref x3, .ref x5, .ref x7, .ref x9, .ref x13, .ref x15, .ref x21, .ref x25])), (x1, .inr (2, [.ref x2])), zP Gz x2, (x3, .inr (2, [.ref x4])), zP Gz x4, (x5, .inr (2, [.ref x6])), zP Gz x6, (x7, .inr (0, [.ref x8, .int 0])), zI Gz 0 672 x8, (x9, .inr (3, [.ref x10, .int 0, .ref x11, .int 0, .int 0, .int 0, .int 0])), zI Gz 0 80 x10, (x11, .inr (2, [.ref x12])), zP Gz x12, (x13, .inr (1, [.ref x14])), zI Gz 1 64 x14, (x15, .inr (6, [.ref x16, .ref x17, .ref x18, .ref x19, .ref x20, .ref x1, .ref x1, .int 0])), zI Gz 0 64 x16, zI Gz 0 64 x17, zI Gz 0 64 x18, zI Gz 0 64 x19, zI Gz 0 64 x20, (x21, .inr (4, [.ref x22, .ref x23, .ref x24, .int 0])), zI Gz 0 64 x22, zJ Gz 64 x23, zI Gz 0 64 x24, (x25, .inr (5, [.ref x26, .ref x27, .ref x28, .ref x29, .ref x30, .ref x1, .ref x1, .int 0])), zI Gz 0 64 x26, zI Gz 0 64 x27, zI Gz 0 64 x28, zI Gz 0 64 x29, zI Gz 0 64 x30, zJ Gz 64 y0] H := hP
  have hD : va_D (fun q : Nat => s.heap.size ≤ q) [(x0, .inr (7, [.ref x1, .ref x3, .ref x5, .ref x7, .ref x9, .ref x13, .ref x15, .ref x21, .ref x25])), (x1, .inr (2, [.ref x2])), zP Gz x2, (x3, .inr (2, [.ref x4])), zP Gz x4, (x5, .inr (2, [.ref x6])), zP Gz x6, (x7, .inr (0, [.ref x8, .int 0])), zI Gz 0 672 x8, (x9, .inr (3, [.ref x10, .int 0, .ref x11, .int 0, .int 0, .int 0, .int 0])), zI Gz 0 80 x10, (x11, .inr (2, [.ref x12])), zP Gz x12, (x13, .inr (1, [.ref x14])), zI Gz 1 64 x14, (x15, .inr (6, [.ref x16, .ref x17, .ref x18, .ref x19, .ref x20, .ref x1, .ref x1, .int 0])), zI Gz 0 64 x16, zI Gz 0 64 x17, zI Gz 0 64 x18, zI Gz 0 64 x19, zI Gz 0 64 x20, (x21, .inr (4, [.ref x22, .ref x23, .ref x24, .int 0])), zI Gz 0 64 x22, zJ Gz 64 x23, zI Gz 0 64 x24, (x25, .inr (5, [.ref x26, .ref x27, .ref x28, .ref x29, .ref x30, .ref x1, .ref x1, .int 0])), zI Gz 0 64 x26, zI Gz 0 64 x27, zI Gz 0 64 x28, zI Gz 0 64 x29, zI Gz 0 64 x30, zJ Gz 64 y0] := hD
  refine W.widen (k := 559) (n := 34534) (Nat.le_of_ble_eq_true rfl) (Nat.le_of_ble_eq_true rfl) ?_
  exact law_enter hL C0 ht hN hK hP hD rfl hS hl
