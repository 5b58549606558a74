/-! THE CALLS, OVER WHAT AN OBJECT SHOWS -/
theorem Mx.weakI {l : Launch} {G : mG} {d : Nat} {y : MethodName} {cc : ByteArray} {mL : Nat} {ret : Option FieldType} {a : List mV} {w : mW} {A B : Int → mW → Prop} (h : Mx l G d y cc mL ret a w (qI A)) (f : ∀ z w', A z w' → B z w') : Mx l G d y cc mL ret a w (qI B) :=
  h.weaken (fun _ w' q => by obtain ⟨z, e, q⟩ := q; exact ⟨z, e, f z w' q⟩)
theorem Mx.weakJ {l : Launch} {G : mG} {d : Nat} {y : MethodName} {cc : ByteArray} {mL : Nat} {ret : Option FieldType} {a : List mV} {w : mW} {A B : Int → mW → Prop} (h : Mx l G d y cc mL ret a w (qJ A)) (f : ∀ z w', A z w' → B z w') : Mx l G d y cc mL ret a w (qJ B) :=
  h.weaken (fun _ w' q => by obtain ⟨z, e, q⟩ := q; exact ⟨z, e, f z w' q⟩)
theorem cast8 {n : Nat} (h : n ≤ 8) : 0 ≤ (n : Int) ∧ (n : Int) ≤ 100 := by omega
section CALLS
variable {l : Launch} {G : mG} {w : mW} {P : Pn} {Hs : List Pn} {tx : List Int} {V : Int → Int}
theorem t_kindN {a b c : Int} (hO : Ob w P Hs tx V) (ha : -2147483648 ≤ a ∧ a < 2147483648) (hb : -2147483648 ≤ b ∧ b < 2147483648) (hc : -2147483648 ≤ c ∧ c < 2147483648) (hv : ¬ (0 ≤ a ∧ a < 3 ∧ 0 ≤ b ∧ b < 8 ∧ 0 ≤ c ∧ c < 3)) : Mx l G 4 yX8_kind cX8_kind 5 (some .int) [mvR 0, mvI a, mvI b, mvI c] w (qI (fun z w' => z = -1000001 ∧ Ob w' P Hs tx V)) :=
  (s_X8_kind hO.cinv ha hb hc).weakI (fun z w' h => by
    rcases h with ⟨-, e, x⟩ | ⟨n, -⟩
    · exact ⟨e, by rw [x]; exact hO⟩
    · exact absurd n hv)
theorem t_kindV {a b c : Int} (hO : Ob w P Hs tx V) (hv : 0 ≤ a ∧ a < 3 ∧ 0 ≤ b ∧ b < 8 ∧ 0 ≤ c ∧ c < 3) : Mx l G 4 yX8_kind cX8_kind 5 (some .int) [mvR 0, mvI a, mvI b, mvI c] w (qI (fun z w' => z = P a.toNat (b * 7) ∧ Ob w' (mup P a.toNat (b * 7) c) (push Hs P) tx V)) :=
  (s_X8_kind hO.cinv (by omega) (by omega) (by omega)).weakI (fun z w' h => by
    rcases h with ⟨n, -⟩ | ⟨-, h⟩
    · exact absurd hv n
    · obtain ⟨e, x⟩ := h
      exact ⟨by rw [e, hO.1 a.toNat (by omega)], hO.kindE (by omega) (by omega) (by omega) x⟩)
theorem t_arrowN {a b c t : Int} (hO : Ob w P Hs tx V) (ha : -2147483648 ≤ a ∧ a < 2147483648) (hb : -2147483648 ≤ b ∧ b < 2147483648) (hc : -2147483648 ≤ c ∧ c < 2147483648) (ht : -2147483648 ≤ t ∧ t < 2147483648) (hv : ¬ (0 ≤ a ∧ a < 3 ∧ 0 ≤ b ∧ b < 8 ∧ 0 ≤ c ∧ c < 6 ∧ 0 ≤ t ∧ t < 8)) : Mx l G 4 yX8_arrow cX8_arrow 5 (some .int) [mvR 0, mvI a, mvI b, mvI c, mvI t] w (qI (fun z w' => z = -1000001 ∧ Ob w' P Hs tx V)) :=
  (s_X8_arrow hO.cinv ha hb hc ht).weakI (fun z w' h => by
    rcases h with ⟨-, e, x⟩ | ⟨n, -⟩
    · exact ⟨e, by rw [x]; exact hO⟩
    · exact absurd n hv)
theorem t_arrowV {a b c t : Int} (hO : Ob w P Hs tx V) (hv : 0 ≤ a ∧ a < 3 ∧ 0 ≤ b ∧ b < 8 ∧ 0 ≤ c ∧ c < 6 ∧ 0 ≤ t ∧ t < 8) : Mx l G 4 yX8_arrow cX8_arrow 5 (some .int) [mvR 0, mvI a, mvI b, mvI c, mvI t] w (qI (fun z w' => z = ((mpop (wmask (hasW (wP (mup P a.toNat (b * 7 + 1 + c) t)) (2 * a.toNat + 1) b) 6) : Nat) : Int) ∧ Ob w' (mup P a.toNat (b * 7 + 1 + c) t) (push Hs P) tx V)) :=
  (s_X8_arrow hO.cinv (by omega) (by omega) (by omega) (by omega)).weakI (fun z w' h => by
    rcases h with ⟨n, -⟩ | ⟨-, h⟩
    · exact absurd hv n
    · obtain ⟨e, x⟩ := h
      have h2 := hO.arrowE (w' := w') (by omega) (by omega) (by omega) (by omega) x
      exact ⟨by rw [e, hasW_congr (h2.1.eq (p := a.toNat) (by omega))], h2⟩)
theorem t_eraseN {a b c : Int} (hO : Ob w P Hs tx V) (ha : -2147483648 ≤ a ∧ a < 2147483648) (hb : -2147483648 ≤ b ∧ b < 2147483648) (hc : -2147483648 ≤ c ∧ c < 2147483648) (hv : ¬ (0 ≤ a ∧ a < 3 ∧ 0 ≤ b ∧ b < 8 ∧ 0 ≤ c ∧ c < 6)) : Mx l G 4 yX8_erase cX8_erase 5 (some .int) [mvR 0, mvI a, mvI b, mvI c] w (qI (fun z w' => z = -1000001 ∧ Ob w' P Hs tx V)) :=
  (s_X8_erase hO.cinv ha hb hc).weakI (fun z w' h => by
    rcases h with ⟨-, e, x⟩ | ⟨n, -⟩
    · exact ⟨e, by rw [x]; exact hO⟩
    · exact absurd n hv)
theorem t_eraseV {a b c : Int} (hO : Ob w P Hs tx V) (hv : 0 ≤ a ∧ a < 3 ∧ 0 ≤ b ∧ b < 8 ∧ 0 ≤ c ∧ c < 6) (hf : ¬ P a.toNat (b * 7 + 1 + c) = -1) : Mx l G 4 yX8_erase cX8_erase 5 (some .int) [mvR 0, mvI a, mvI b, mvI c] w (qI (fun z w' => z = P a.toNat (b * 7 + 1 + c) ∧ Ob w' (mup P a.toNat (b * 7 + 1 + c) (-1)) (push Hs P) tx V)) :=
  (s_X8_erase hO.cinv (by omega) (by omega) (by omega)).weakI (fun z w' h => by
    rcases h with ⟨n, -⟩ | ⟨-, h⟩
    · exact absurd hv n
    · rw [hO.1 a.toNat (by omega)] at h
      rcases h with ⟨n, -⟩ | ⟨-, e, x⟩
      · exact absurd n hf
      · exact ⟨e, hO.arrowE (by omega) (by omega) (by omega) (by omega) x⟩)
theorem t_eraseU {a b c : Int} (hO : Ob w P Hs tx V) (hv : 0 ≤ a ∧ a < 3 ∧ 0 ≤ b ∧ b < 8 ∧ 0 ≤ c ∧ c < 6) (hf : P a.toNat (b * 7 + 1 + c) = -1) : Mx l G 4 yX8_erase cX8_erase 5 (some .int) [mvR 0, mvI a, mvI b, mvI c] w (qI (fun z w' => z = -1000002 ∧ Ob w' P Hs tx V)) :=
  (s_X8_erase hO.cinv (by omega) (by omega) (by omega)).weakI (fun z w' h => by
    rcases h with ⟨n, -⟩ | ⟨-, h⟩
    · exact absurd hv n
    · rw [hO.1 a.toNat (by omega)] at h
      rcases h with ⟨-, e, x⟩ | ⟨n, -⟩
      · exact ⟨e, by rw [x]; exact hO⟩
      · exact absurd hf n)
theorem t_copyN {a b : Int} (hO : Ob w P Hs tx V) (ha : -2147483648 ≤ a ∧ a < 2147483648) (hb : -2147483648 ≤ b ∧ b < 2147483648) (hv : ¬ (0 ≤ a ∧ a < 3 ∧ 0 ≤ b ∧ b < 3 ∧ ¬ a = b)) : Mx l G 4 yX8_copy cX8_copy 3 (some .int) [mvR 0, mvI a, mvI b] w (qI (fun z w' => z = -1000001 ∧ Ob w' P Hs tx V)) :=
  (s_X8_copy hO.cinv ha hb).weakI (fun z w' h => by
    rcases h with ⟨-, e, x⟩ | ⟨n, -⟩
    · exact ⟨e, by rw [x]; exact hO⟩
    · exact absurd n hv)
theorem t_copyV {a b : Int} (hO : Ob w P Hs tx V) (hv : 0 ≤ a ∧ a < 3 ∧ 0 ≤ b ∧ b < 3 ∧ ¬ a = b) : Mx l G 4 yX8_copy cX8_copy 3 (some .int) [mvR 0, mvI a, mvI b] w (qI (fun z w' => z = ((lastC (wP (pcp P a.toNat b.toNat)) (2 * b.toNat + 1) : Nat) : Int) ∧ Ob w' (pcp P a.toNat b.toNat) (push Hs P) tx V)) :=
  (s_X8_copy hO.cinv (by omega) (by omega)).weakI (fun z w' h => by
    rcases h with ⟨n, -⟩ | ⟨-, h⟩
    · exact absurd hv n
    · obtain ⟨e, x⟩ := h
      have h2 := hO.copyE (w' := w') (by omega) (by omega) x
      exact ⟨by rw [e, ← lastC_congr (h2.1.eq (p := b.toNat) (by omega))]; rfl, h2⟩)
theorem t_mirrorN {a : Int} (hO : Ob w P Hs tx V) (ha : -2147483648 ≤ a ∧ a < 2147483648) (hv : ¬ (0 ≤ a ∧ a < 3)) : Mx l G 4 yX8_mirror cX8_mirror 2 (some .int) [mvR 0, mvI a] w (qI (fun z w' => z = -1000001 ∧ Ob w' P Hs tx V)) :=
  (s_X8_mirror hO.cinv ha).weakI (fun z w' h => by
    rcases h with ⟨-, e, x⟩ | ⟨n, -⟩
    · exact ⟨e, by rw [x]; exact hO⟩
    · exact absurd n hv)
theorem t_mirrorV {a : Int} (hO : Ob w P Hs tx V) (hv : 0 ≤ a ∧ a < 3) : Mx l G 4 yX8_mirror cX8_mirror 2 (some .int) [mvR 0, mvI a] w (qI (fun z w' => z = ((lastC (wP (pmi P a.toNat)) (2 * a.toNat + 1) : Nat) : Int) ∧ Ob w' (pmi P a.toNat) (push Hs P) tx V)) :=
  (s_X8_mirror hO.cinv (by omega)).weakI (fun z w' h => by
    rcases h with ⟨n, -⟩ | ⟨-, h⟩
    · exact absurd hv n
    · obtain ⟨e, x⟩ := h
      have h2 := hO.mirrorE (w' := w') (by omega) x
      exact ⟨by rw [e, ← lastC_congr (h2.1.eq (p := a.toNat) (by omega))]; rfl, h2⟩)
theorem t_stateOfN {a b c : Int} (hO : Ob w P Hs tx V) (ha : -2147483648 ≤ a ∧ a < 2147483648) (hb : -2147483648 ≤ b ∧ b < 2147483648) (hc : -2147483648 ≤ c ∧ c < 2147483648) (hv : ¬ (0 ≤ a ∧ a < 3 ∧ 0 ≤ b ∧ b < 8 ∧ ((0 ≤ c ∧ c ≤ 3) ∨ (10 ≤ c ∧ c < 16)))) : Mx l G 5 yX8_stateOf cX8_stateOf 6 (some .int) [mvR 0, mvI a, mvI b, mvI c] w (qI (fun z w' => z = -1000001 ∧ Ob w' P Hs tx V)) :=
  (s_X8_stateOf hO.cinv ha hb hc).weakI (fun z w' h => by
    rcases h with ⟨-, e, x⟩ | ⟨n, -⟩
    · exact ⟨e, by rw [x]; exact hO⟩
    · exact absurd n hv)
theorem t_stateOfV {a b c : Int} (hO : Ob w P Hs tx V) (hv : 0 ≤ a ∧ a < 3 ∧ 0 ≤ b ∧ b < 8 ∧ ((0 ≤ c ∧ c ≤ 3) ∨ (10 ≤ c ∧ c < 16))) : Mx l G 5 yX8_stateOf cX8_stateOf 6 (some .int) [mvR 0, mvI a, mvI b, mvI c] w (qI (fun z w' => z = stateA P a b c ∧ Ob w' P Hs tx V)) :=
  (s_X8_stateOf hO.cinv (by omega) (by omega) (by omega)).weakI (fun z w' h => by
    rcases h with ⟨n, -⟩ | ⟨-, h⟩
    · exact absurd hv n
    · obtain ⟨e, x⟩ := h
      refine ⟨?_, hO.keep (fun y hy => x y (by omega)) (by rw [x 9 (by omega)])⟩
      rw [e]; exact stF_congr (by omega) (hO.1.eq (p := a.toNat) (by omega)) (wP_ok hO.2.1 (by omega)) (by omega) c)
theorem t_unlikeN {a : Int} (hO : Ob w P Hs tx V) (ha : -2147483648 ≤ a ∧ a < 2147483648) (hv : ¬ (0 ≤ a ∧ a < 3)) : Mx l G 5 yX8_unlike cX8_unlike 5 (some .int) [mvR 0, mvI a] w (qI (fun z w' => z = -1000001 ∧ Ob w' P Hs tx V)) :=
  (s_X8_unlike hO.cinv ha).weakI (fun z w' h => by
    rcases h with ⟨-, e, x⟩ | ⟨n, -⟩
    · exact ⟨e, by rw [x]; exact hO⟩
    · exact absurd n hv)
theorem t_unlikeV {a : Int} (hO : Ob w P Hs tx V) (hv : 0 ≤ a ∧ a < 3) : Mx l G 5 yX8_unlike cX8_unlike 5 (some .int) [mvR 0, mvI a] w (qI (fun z w' => z = unlikeA P a ∧ Ob w' P Hs tx V)) :=
  (s_X8_unlike hO.cinv (by omega)).weakI (fun z w' h => by
    rcases h with ⟨n, -⟩ | ⟨-, h⟩
    · exact absurd hv n
    · obtain ⟨e, x⟩ := h
      refine ⟨?_, hO.keep (fun y hy => x y (by omega)) (by rw [x 9 (by omega)])⟩
      rw [e]
      unfold unlikeA
      rw [comesF_congr (hO.1.eq (p := a.toNat) (by omega)), unF_ag 8 (fun k hk => lowF_congr (by omega) (hO.1.eq (p := a.toNat) (by omega)) (wP_ok hO.2.1 (by omega)) hk)])
theorem t_pairOfN {a b c e : Int} (hO : Ob w P Hs tx V) (ha : -2147483648 ≤ a ∧ a < 2147483648) (hb : -2147483648 ≤ b ∧ b < 2147483648) (hc : -2147483648 ≤ c ∧ c < 2147483648) (he : -2147483648 ≤ e ∧ e < 2147483648) (hv : ¬ (0 ≤ a ∧ a < 3 ∧ 0 ≤ b ∧ b < 3 ∧ -1 ≤ c ∧ ((0 ≤ e ∧ e ≤ 4) ∨ (10 ≤ e ∧ e < 74)))) : Mx l G 5 yX8_pairOf cX8_pairOf 6 (some .int) [mvR 0, mvI a, mvI b, mvI c, mvI e] w (qI (fun z w' => z = -1000001 ∧ Ob w' P Hs tx V)) :=
  (s_X8_pairOf hO.cinv ha hb hc he).weakI (fun z w' h => by
    rcases h with ⟨-, e9, x⟩ | ⟨n, -⟩
    · exact ⟨e9, by rw [x]; exact hO⟩
    · exact absurd n hv)
theorem t_pairOfV {a b c e : Int} (hO : Ob w P Hs tx V) (hv : 0 ≤ a ∧ a < 3 ∧ 0 ≤ b ∧ b < 3 ∧ -1 ≤ c ∧ ((0 ≤ e ∧ e ≤ 4) ∨ (10 ≤ e ∧ e < 74))) (hc9 : c < 2147483648) : Mx l G 5 yX8_pairOf cX8_pairOf 6 (some .int) [mvR 0, mvI a, mvI b, mvI c, mvI e] w (qI (fun z w' => z = pairA P a b c e ∧ Ob w' P Hs tx V)) :=
  (s_X8_pairOf hO.cinv (by omega) (by omega) (by omega) (by omega)).weakI (fun z w' h => by
    rcases h with ⟨n, -⟩ | ⟨-, h⟩
    · exact absurd hv n
    · obtain ⟨e9, x⟩ := h
      refine ⟨?_, hO.keep (fun y hy => x y (by omega)) (by rw [x 9 (by omega)])⟩
      rw [e9]
      unfold pairA
      rw [bT_congr (hO.1.eq (p := a.toNat) (by omega)) (hO.1.eq (p := b.toNat) (by omega)), faultB_congr (hO.1.eq (p := a.toNat) (by omega)) (hO.1.eq (p := b.toNat) (by omega)), pairB_congr (hO.1.eq (p := a.toNat) (by omega)) (hO.1.eq (p := b.toNat) (by omega))])
theorem t_talkN {a b c : Int} (hO : Ob w P Hs tx V) (ha : -2147483648 ≤ a ∧ a < 2147483648) (hb : -2147483648 ≤ b ∧ b < 2147483648) (hc : -2147483648 ≤ c ∧ c < 2147483648) (hv : ¬ (0 ≤ a ∧ a < 3 ∧ 0 ≤ b ∧ b < 3 ∧ 0 ≤ c ∧ c ≤ 6)) : Mx l G 6 yX8_talk cX8_talk 4 (some .int) [mvR 0, mvI a, mvI b, mvI c] w (qI (fun z w' => z = -1000001 ∧ Ob w' P Hs tx V)) :=
  (s_X8_talk hO.cinv ha hb hc).weakI (fun z w' h => by
    rcases h with ⟨-, e, x⟩ | ⟨n, -⟩
    · exact ⟨e, by rw [x]; exact hO⟩
    · exact absurd n hv)
theorem t_talkV {a b c : Int} (hO : Ob w P Hs tx V) (hv : 0 ≤ a ∧ a < 3 ∧ 0 ≤ b ∧ b < 3 ∧ 0 ≤ c ∧ c ≤ 6) : Mx l G 6 yX8_talk cX8_talk 4 (some .int) [mvR 0, mvI a, mvI b, mvI c] w (qI (fun z w' => (∃ u : mW, z = talkA P u a b c) ∧ Ob w' P Hs tx V)) :=
  (s_X8_talk hO.cinv (by omega) (by omega) (by omega)).weakI (fun z w' h => by
    rcases h with ⟨n, -⟩ | ⟨-, h⟩
    · exact absurd hv n
    · obtain ⟨e, x⟩ := h
      refine ⟨?_, hO.keep (fun y hy => x y (by omega)) (by rw [x 9 (by omega)])⟩
      obtain ⟨u, e⟩ := e
      exact ⟨u, by rw [e]; exact talkF_congr (hO.1.eq (p := a.toNat) (by omega)) (hO.1.eq (p := b.toNat) (by omega)) c⟩)
theorem t_talksN {a b : Int} (hO : Ob w P Hs tx V) (ha : -2147483648 ≤ a ∧ a < 2147483648) (hb : -2147483648 ≤ b ∧ b < 2147483648) (hv : ¬ (0 ≤ a ∧ a < 3 ∧ 0 ≤ b ∧ b < 3)) : Mx l G 6 yX8_talks cX8_talks 5 (some .long) [mvR 0, mvI a, mvI b] w (qJ (fun z w' => z = -1000001 ∧ Ob w' P Hs tx V)) :=
  (s_X8_talks hO.cinv ha hb).weakJ (fun z w' h => by
    rcases h with ⟨-, e, x⟩ | ⟨n, -⟩
    · exact ⟨e, by rw [x]; exact hO⟩
    · exact absurd n hv)
theorem t_talksV {a b : Int} (hO : Ob w P Hs tx V) (hv : 0 ≤ a ∧ a < 3 ∧ 0 ≤ b ∧ b < 3) : Mx l G 6 yX8_talks cX8_talks 5 (some .long) [mvR 0, mvI a, mvI b] w (qJ (fun z w' => (∃ u : mW, z = talksF (krA P u a b)) ∧ Ob w' P Hs tx V)) :=
  (s_X8_talks hO.cinv (by omega) (by omega)).weakJ (fun z w' h => by
    rcases h with ⟨n, -⟩ | ⟨-, h⟩
    · exact absurd hv n
    · obtain ⟨e, x⟩ := h
      refine ⟨?_, hO.keep (fun y hy => x y (by omega)) (by rw [x 9 (by omega)])⟩
      obtain ⟨u, e⟩ := e
      exact ⟨u, by rw [e]; unfold krA; rw [krT_cg (hO.1.eq (p := a.toNat) (by omega)) (hO.1.eq (p := b.toNat) (by omega))]⟩)
theorem t_standsInN {a b : Int} (hO : Ob w P Hs tx V) (ha : -2147483648 ≤ a ∧ a < 2147483648) (hb : -2147483648 ≤ b ∧ b < 2147483648) (hv : ¬ (0 ≤ a ∧ a < 3 ∧ 0 ≤ b ∧ b < 3)) : Mx l G 5 yX8_standsIn cX8_standsIn 3 (some .int) [mvR 0, mvI a, mvI b] w (qI (fun z w' => z = -1000001 ∧ Ob w' P Hs tx V)) :=
  (s_X8_standsIn hO.cinv ha hb).weakI (fun z w' h => by
    rcases h with ⟨-, e, x⟩ | ⟨n, -⟩
    · exact ⟨e, by rw [x]; exact hO⟩
    · exact absurd n hv)
theorem t_standsInV {a b : Int} (hO : Ob w P Hs tx V) (hv : 0 ≤ a ∧ a < 3 ∧ 0 ≤ b ∧ b < 3) : Mx l G 5 yX8_standsIn cX8_standsIn 3 (some .int) [mvR 0, mvI a, mvI b] w (qI (fun z w' => z = standA P a b ∧ Ob w' P Hs tx V)) :=
  (s_X8_standsIn hO.cinv (by omega) (by omega)).weakI (fun z w' h => by
    rcases h with ⟨n, -⟩ | ⟨-, h⟩
    · exact absurd hv n
    · obtain ⟨e, x⟩ := h
      refine ⟨?_, hO.keep (fun y hy => x y (by omega)) (by rw [x 9 (by omega)])⟩
      rw [e]; exact standF_congr (hO.1.eq (p := a.toNat) (by omega)) (hO.1.eq (p := b.toNat) (by omega)))
theorem t_againstN {a b c : Int} (hO : Ob w P Hs tx V) (ha : -2147483648 ≤ a ∧ a < 2147483648) (hb : -2147483648 ≤ b ∧ b < 2147483648) (hc : -2147483648 ≤ c ∧ c < 2147483648) (hv : ¬ (0 ≤ a ∧ a < 3 ∧ 0 ≤ b ∧ b < 3 ∧ ((0 ≤ c ∧ c ≤ 4) ∨ (10 ≤ c ∧ c < 74)))) : Mx l G 5 yX8_against cX8_against 5 (some .int) [mvR 0, mvI a, mvI b, mvI c] w (qI (fun z w' => z = -1000001 ∧ Ob w' P Hs tx V)) :=
  (s_X8_against hO.cinv ha hb hc).weakI (fun z w' h => by
    rcases h with ⟨-, e, x⟩ | ⟨n, -⟩
    · exact ⟨e, by rw [x]; exact hO⟩
    · exact absurd n hv)
theorem t_againstV {a b c : Int} (hO : Ob w P Hs tx V) (hv : 0 ≤ a ∧ a < 3 ∧ 0 ≤ b ∧ b < 3 ∧ ((0 ≤ c ∧ c ≤ 4) ∨ (10 ≤ c ∧ c < 74))) : Mx l G 5 yX8_against cX8_against 5 (some .int) [mvR 0, mvI a, mvI b, mvI c] w (qI (fun z w' => z = againA P a b c ∧ Ob w' P Hs tx V)) :=
  (s_X8_against hO.cinv (by omega) (by omega) (by omega)).weakI (fun z w' h => by
    rcases h with ⟨n, -⟩ | ⟨-, h⟩
    · exact absurd hv n
    · obtain ⟨e, x⟩ := h
      refine ⟨?_, hO.keep (fun y hy => x y (by omega)) (by rw [x 9 (by omega)])⟩
      rw [e]
      unfold againA
      rw [bS_congr (hO.1.eq (p := a.toNat) (by omega)) (hO.1.eq (p := b.toNat) (by omega)), faultB_congr (hO.1.eq (p := a.toNat) (by omega)) (hO.1.eq (p := b.toNat) (by omega)), againB_congr (hO.1.eq (p := a.toNat) (by omega)) (hO.1.eq (p := b.toNat) (by omega))])
theorem countF_eq (hO : Ob w P Hs tx V) (c : Int) : countF w c = countA P (Hs.length : Int) (tx.length : Int) c := by
  unfold countF countA
  rw [hO.2.2.1.1, hO.2.2.2.2.2.1.1]
  by_cases q : 10 ≤ c ∧ c < 19
  · rw [if_pos q, if_pos q]; exact standF_congr (hO.1.eq (p := ((c - 10) / 3).toNat) (by omega)) (hO.1.eq (p := ((c - 10) % 3).toNat) (by omega))
  · rw [if_neg q, if_neg q]
    have l0 := lastC_congr (hO.1.eq (p := 0) (by decide))
    have l1 := lastC_congr (hO.1.eq (p := 1) (by decide))
    have l2 := lastC_congr (hO.1.eq (p := 2) (by decide))
    have a0 := arrC_congr (hO.1.eq (p := 0) (by decide))
    have a1 := arrC_congr (hO.1.eq (p := 1) (by decide))
    have a2 := arrC_congr (hO.1.eq (p := 2) (by decide))
    rw [show (1 : Nat) = 2 * 0 + 1 from rfl, show (3 : Nat) = 2 * 1 + 1 from rfl, show (5 : Nat) = 2 * 2 + 1 from rfl, l0, l1, l2, a0, a1, a2]
theorem t_count {c : Int} (hO : Ob w P Hs tx V) (hc : -2147483648 ≤ c ∧ c < 2147483648) : Mx l G 6 yX8_count cX8_count 3 (some .int) [mvR 0, mvI c] w (qI (fun z w' => z = countA P (Hs.length : Int) (tx.length : Int) c ∧ Ob w' P Hs tx V)) :=
  (s_X8_count hO.cinv hc).weakI (fun z w' h => by
    obtain ⟨e, x⟩ := h
    exact ⟨by rw [e]; exact countF_eq hO c, hO.keep (fun y hy => x y (by omega)) (by rw [x 9 (by omega)])⟩)
theorem t_undoN (hO : Ob w P Hs tx V) (he : Hs = []) : Mx l G 3 yX8_undo cX8_undo 1 (some .int) [mvR 0] w (qI (fun z w' => z = -1000002 ∧ Ob w' P Hs tx V)) :=
  (s_X8_undo hO.cinv).weakI (fun z w' h => by
    have h7 : w 7 1 = 0 := by rw [hO.2.2.1.1, he]; rfl
    rcases h with ⟨-, e, x⟩ | ⟨n, -⟩
    · exact ⟨e, by rw [x]; exact hO⟩
    · exact absurd h7 n)
theorem t_undoV (hO : Ob w P Hs tx V) {H0 : List Pn} {X : Pn} (he : Hs = H0 ++ [X]) : Mx l G 3 yX8_undo cX8_undo 1 (some .int) [mvR 0] w (qI (fun z w' => z = (H0.length : Int) ∧ Ob w' X H0 tx V)) :=
  (s_X8_undo hO.cinv).weakI (fun z w' h => by
    have h7 : ¬ w 7 1 = 0 := by rw [hO.2.2.1.1, he]; simp; omega
    rcases h with ⟨n, -⟩ | ⟨-, e, x⟩
    · exact absurd n h7
    · rw [he] at hO
      have h2 := hO.undoE x
      exact ⟨by rw [e]; exact h2.2.2.1.1, h2⟩)
theorem t_typeN {a : Int} (hO : Ob w P Hs tx V) (ha : -2147483648 ≤ a ∧ a < 2147483648) (hv : ¬ (32 ≤ a ∧ a ≤ 126)) : Mx l G 1 yX8_type cX8_type 2 (some .int) [mvR 0, mvI a] w (qI (fun z w' => z = -1000001 ∧ Ob w' P Hs tx V)) :=
  (s_X8_type hO.cinv ha).weakI (fun z w' h => by
    rcases h with ⟨-, e, x⟩ | ⟨n, -⟩
    · exact ⟨e, by rw [x]; exact hO⟩
    · exact absurd n hv)
theorem t_typeV {a : Int} (hO : Ob w P Hs tx V) (hv : 32 ≤ a ∧ a ≤ 126) (hf : tx.length < 80) : Mx l G 1 yX8_type cX8_type 2 (some .int) [mvR 0, mvI a] w (qI (fun z w' => z = (tx.length : Int) + 1 ∧ Ob w' P Hs (tx ++ [a]) V)) :=
  (s_X8_type hO.cinv (by omega)).weakI (fun z w' h => by
    rcases h with ⟨n, -⟩ | ⟨-, h⟩
    · exact absurd hv n
    · rw [hO.2.2.2.2.2.1.1] at h
      rcases h with ⟨n, -⟩ | ⟨-, e, x⟩
      · exact absurd n (by omega)
      · refine ⟨e, hO.typeE hv hf ?_⟩
        rw [hO.2.2.2.2.2.1.1]; exact x)
theorem t_clearText (hO : Ob w P Hs tx V) : Mx l G 1 yX8_clearText cX8_clearText 2 (some .int) [mvR 0] w (qI (fun z w' => z = (tx.length : Int) ∧ Ob w' P Hs [] V)) :=
  (s_X8_clearText hO.cinv).weakI (fun z w' h => by
    obtain ⟨e, x⟩ := h
    exact ⟨by rw [e]; exact hO.2.2.2.2.2.1.1, hO.clearE x⟩)
theorem t_faultN {c : Int} (hO : Ob w P Hs tx V) (hc : -2147483648 ≤ c ∧ c < 2147483648) (hv : ¬ (0 ≤ c ∧ c ≤ 2)) : Mx l G 4 yX8_fault cX8_fault 2 (some .int) [mvR 0, mvI c] w (qI (fun z w' => z = -1000001 ∧ Ob w' P Hs tx V)) :=
  (s_X8_fault hO.cinv hc).weakI (fun z w' h => by
    rcases h with ⟨-, e, x⟩ | ⟨n, -⟩
    · exact ⟨e, by rw [x]; exact hO⟩
    · exact absurd n hv)
theorem t_faultV {c : Int} (hO : Ob w P Hs tx V) (hv : 0 ≤ c ∧ c ≤ 2) : Mx l G 4 yX8_fault cX8_fault 2 (some .int) [mvR 0, mvI c] w (qI (fun z w' => z = faultF (parA tx) c ∧ Ob w' P Hs tx V)) :=
  (s_X8_fault hO.cinv (by omega)).weakI (fun z w' h => by
    rcases h with ⟨n, -⟩ | ⟨-, h⟩
    · exact absurd hv n
    · obtain ⟨e, x, x2⟩ := h
      exact ⟨by rw [e, hO.2.2.2.2.2.1.par], hO.keep (fun y hy => x y (by omega) (by omega)) x2⟩)
theorem t_readN {a : Int} (hO : Ob w P Hs tx V) (ha : -2147483648 ≤ a ∧ a < 2147483648) (hv : ¬ (0 ≤ a ∧ a < 3)) : Mx l G 4 yX8_read cX8_read 2 (some .int) [mvR 0, mvI a] w (qI (fun z w' => z = -1000001 ∧ Ob w' P Hs tx V)) :=
  (s_X8_read hO.cinv ha).weakI (fun z w' h => by
    rcases h with ⟨-, e, x⟩ | ⟨n, -⟩
    · exact ⟨e, by rw [x]; exact hO⟩
    · exact absurd n hv)
theorem t_readV {a : Int} (hO : Ob w P Hs tx V) (hv : 0 ≤ a ∧ a < 3) (hf : (parA tx).2.2.2.1 = 0) : Mx l G 4 yX8_read cX8_read 2 (some .int) [mvR 0, mvI a] w (qI (fun z w' => z = ((mpop (parA tx).1 : Nat) : Int) ∧ Ob w' (prd P a.toNat (parA tx).2.1) (push Hs P) tx V)) :=
  (s_X8_read hO.cinv (by omega)).weakI (fun z w' h => by
    rcases h with ⟨n, -⟩ | ⟨-, h⟩
    · exact absurd hv n
    · rw [hO.2.2.2.2.2.1.par] at h
      rcases h with ⟨n, -⟩ | ⟨-, e, u, h1, h2, x⟩
      · exact absurd hf n
      · exact ⟨e, hO.readE hv h1 h2 x⟩)
theorem t_readU {a : Int} (hO : Ob w P Hs tx V) (hv : 0 ≤ a ∧ a < 3) (hf : ¬ (parA tx).2.2.2.1 = 0) : Mx l G 4 yX8_read cX8_read 2 (some .int) [mvR 0, mvI a] w (qI (fun z w' => z = -1000002 ∧ Ob w' P Hs tx V)) :=
  (s_X8_read hO.cinv (by omega)).weakI (fun z w' h => by
    rcases h with ⟨n, -⟩ | ⟨-, h⟩
    · exact absurd hv n
    · rw [hO.2.2.2.2.2.1.par] at h
      rcases h with ⟨-, e, x, x2⟩ | ⟨n, -⟩
      · exact ⟨e, hO.keep (fun y hy => x y (by omega) (by omega)) x2⟩
      · exact absurd n hf)
theorem t_kindA {a b c : Int} (hO : Ob w P Hs tx V) (ha : -2147483648 ≤ a ∧ a < 2147483648) (hb : -2147483648 ≤ b ∧ b < 2147483648) (hc : -2147483648 ≤ c ∧ c < 2147483648) : Mx l G 4 yX8_kind cX8_kind 5 (some .int) [mvR 0, mvI a, mvI b, mvI c] w (qI (fun z w' => ((z = -1000001 ∨ z = -1000002) ∧ Ob w' P Hs tx V) ∨ ((0 ≤ z ∧ z ≤ 100) ∧ ∃ P' : Pn, Ob w' P' (push Hs P) tx V))) :=
  by
    by_cases hv : 0 ≤ a ∧ a < 3 ∧ 0 ≤ b ∧ b < 8 ∧ 0 ≤ c ∧ c < 3
    · have r := ((hO.2.1 a.toNat (by omega)).2 b (by omega) (by omega)).1
      exact (t_kindV hO hv).weakI (fun z w' h => Or.inr ⟨by rw [h.1]; omega, _, h.2⟩)
    · exact (t_kindN hO ha hb hc hv).weakI (fun z w' h => Or.inl ⟨Or.inl h.1, h.2⟩)
theorem t_arrowA {a b c t : Int} (hO : Ob w P Hs tx V) (ha : -2147483648 ≤ a ∧ a < 2147483648) (hb : -2147483648 ≤ b ∧ b < 2147483648) (hc : -2147483648 ≤ c ∧ c < 2147483648) (ht : -2147483648 ≤ t ∧ t < 2147483648) : Mx l G 4 yX8_arrow cX8_arrow 5 (some .int) [mvR 0, mvI a, mvI b, mvI c, mvI t] w (qI (fun z w' => ((z = -1000001 ∨ z = -1000002) ∧ Ob w' P Hs tx V) ∨ ((0 ≤ z ∧ z ≤ 100) ∧ ∃ P' : Pn, Ob w' P' (push Hs P) tx V))) :=
  by
    by_cases hv : 0 ≤ a ∧ a < 3 ∧ 0 ≤ b ∧ b < 8 ∧ 0 ≤ c ∧ c < 6 ∧ 0 ≤ t ∧ t < 8
    · exact (t_arrowV hO hv).weakI (fun z w' h => Or.inr ⟨by rw [h.1]; exact cast8 (mpop_le _), _, h.2⟩)
    · exact (t_arrowN hO ha hb hc ht hv).weakI (fun z w' h => Or.inl ⟨Or.inl h.1, h.2⟩)
theorem t_eraseA {a b c : Int} (hO : Ob w P Hs tx V) (ha : -2147483648 ≤ a ∧ a < 2147483648) (hb : -2147483648 ≤ b ∧ b < 2147483648) (hc : -2147483648 ≤ c ∧ c < 2147483648) : Mx l G 4 yX8_erase cX8_erase 5 (some .int) [mvR 0, mvI a, mvI b, mvI c] w (qI (fun z w' => ((z = -1000001 ∨ z = -1000002) ∧ Ob w' P Hs tx V) ∨ ((0 ≤ z ∧ z ≤ 100) ∧ ∃ P' : Pn, Ob w' P' (push Hs P) tx V))) :=
  by
    by_cases hv : 0 ≤ a ∧ a < 3 ∧ 0 ≤ b ∧ b < 8 ∧ 0 ≤ c ∧ c < 6
    · have r := ((hO.2.1 a.toNat (by omega)).2 b (by omega) (by omega)).2 c (by omega) (by omega)
      by_cases hf : P a.toNat (b * 7 + 1 + c) = -1
      · exact (t_eraseU hO hv hf).weakI (fun z w' h => Or.inl ⟨Or.inr h.1, h.2⟩)
      · exact (t_eraseV hO hv hf).weakI (fun z w' h => Or.inr ⟨by rw [h.1]; omega, _, h.2⟩)
    · exact (t_eraseN hO ha hb hc hv).weakI (fun z w' h => Or.inl ⟨Or.inl h.1, h.2⟩)
theorem t_copyA {a b : Int} (hO : Ob w P Hs tx V) (ha : -2147483648 ≤ a ∧ a < 2147483648) (hb : -2147483648 ≤ b ∧ b < 2147483648) : Mx l G 4 yX8_copy cX8_copy 3 (some .int) [mvR 0, mvI a, mvI b] w (qI (fun z w' => ((z = -1000001 ∨ z = -1000002) ∧ Ob w' P Hs tx V) ∨ ((0 ≤ z ∧ z ≤ 100) ∧ ∃ P' : Pn, Ob w' P' (push Hs P) tx V))) :=
  by
    by_cases hv : 0 ≤ a ∧ a < 3 ∧ 0 ≤ b ∧ b < 3 ∧ ¬ a = b
    · exact (t_copyV hO hv).weakI (fun z w' h => Or.inr ⟨by rw [h.1]; exact cast8 (cnt_le _ 8), _, h.2⟩)
    · exact (t_copyN hO ha hb hv).weakI (fun z w' h => Or.inl ⟨Or.inl h.1, h.2⟩)
theorem t_mirrorA {a : Int} (hO : Ob w P Hs tx V) (ha : -2147483648 ≤ a ∧ a < 2147483648) : Mx l G 4 yX8_mirror cX8_mirror 2 (some .int) [mvR 0, mvI a] w (qI (fun z w' => ((z = -1000001 ∨ z = -1000002) ∧ Ob w' P Hs tx V) ∨ ((0 ≤ z ∧ z ≤ 100) ∧ ∃ P' : Pn, Ob w' P' (push Hs P) tx V))) :=
  by
    by_cases hv : 0 ≤ a ∧ a < 3
    · exact (t_mirrorV hO hv).weakI (fun z w' h => Or.inr ⟨by rw [h.1]; exact cast8 (cnt_le _ 8), _, h.2⟩)
    · exact (t_mirrorN hO ha hv).weakI (fun z w' h => Or.inl ⟨Or.inl h.1, h.2⟩)
theorem t_readA {a : Int} (hO : Ob w P Hs tx V) (ha : -2147483648 ≤ a ∧ a < 2147483648) : Mx l G 4 yX8_read cX8_read 2 (some .int) [mvR 0, mvI a] w (qI (fun z w' => ((z = -1000001 ∨ z = -1000002) ∧ Ob w' P Hs tx V) ∨ ((0 ≤ z ∧ z ≤ 100) ∧ ∃ P' : Pn, Ob w' P' (push Hs P) tx V))) :=
  by
    by_cases hv : 0 ≤ a ∧ a < 3
    · by_cases hf : (parA tx).2.2.2.1 = 0
      · exact (t_readV hO hv hf).weakI (fun z w' h => Or.inr ⟨by rw [h.1]; exact cast8 (mpop_le _), _, h.2⟩)
      · exact (t_readU hO hv hf).weakI (fun z w' h => Or.inl ⟨Or.inr h.1, h.2⟩)
    · exact (t_readN hO ha hv).weakI (fun z w' h => Or.inl ⟨Or.inl h.1, h.2⟩)
end CALLS
