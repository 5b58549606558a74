/-! the same answers of pairs, talks, standing in -/
def BE (nx : Int → Int → Int) (B : Bf) : Prop := ∀ t : Int, 0 < t → t < bN B → nx (bP B (bO B t)) (bW B t) = bP B t
theorem be_stp {nx : Int → Int → Int} {B : Bf} {a k : Int} (h : BE nx B) (hB : BInv B) (ha : 0 ≤ a ∧ a < bN B) : BE nx (stp nx B a k) := by
  unfold stp
  split
  · exact h
  · intro t t0 t1
    have t1' : t < bN B + 1 := by have : ((bN B + 1 : Nat) : Int) = (bN B : Int) + 1 := rfl; exact t1
    show nx (iup (bP B) (bN B) (nx (bP B a) k) (iup (bO B) (bN B) a t)) (iup (bW B) (bN B) k t) = iup (bP B) (bN B) (nx (bP B a) k) t
    by_cases e : t = (bN B : Int)
    · rw [e, iup_at, iup_at, iup_at, iup_ne _ _ (by omega)]
    · have ho := (hB.2.2.1 t (by omega) (by omega)).2.2.2 t0
      rw [iup_ne _ _ e, iup_ne _ _ e, iup_ne _ _ e, iup_ne _ _ (by omega)]
      exact h t t0 (by omega)
theorem be_inn {nx : Int → Int → Int} (hnx : NxOK nx) {B : Bf} {a : Int} (h : BE nx B) (hB : BInv B) (ha : 0 ≤ a ∧ a < bN B) : ∀ n, n ≤ 6 → BE nx (inn nx B a n)
  | 0, _ => h
  | n + 1, hn => by
    obtain ⟨h1, h2⟩ := inn_inv hnx hB ha n (by omega)
    exact be_stp (be_inn hnx h hB ha n (by omega)) h1 (by omega)
theorem be_bfsN {nx : Int → Int → Int} (hnx : NxOK nx) : ∀ n, BE nx (bfsN nx n)
  | 0 => fun t t0 t1 => by
    have : (bN (bfsN nx 0) : Int) = 1 := rfl
    omega
  | n + 1 => by
    have h := be_bfsN hnx n
    have hB := bfsN_inv hnx n
    unfold bfsN
    split
    · exact be_inn hnx h hB (by omega) 6 (Nat.le_refl 6)
    · exact h
theorem rch_pos {w : mW} {p q : Nat} (hp : PlanOK w p) (hq : PlanOK w q) : Rch (posF togT w p q (bT w p q)) (bN (bT w p q)) := by
  have hx := nxF_ok (tog := togT) hp hq
  have h : ∀ B : Bf, B = bfs (nxF togT w p q) → Rch (posF togT w p q B) (bN B) := fun B e => by
    have hB : BInv B := by rw [e]; exact bfs_inv hx
    have hE : BE (nxF togT w p q) B := by rw [e]; exact be_bfsN hx 64
    intro t t0 t1
    have hI := hB.2.2.1 t (by omega) t1
    have ho := hI.2.2.2 t0
    have he := hE t t0 t1
    refine ⟨6 * (bO B t).toNat + (bW B t).toNat, by omega, ?_⟩
    rw [sxe_at (by omega), Int.toNat_of_nonneg ho.1.1, Int.toNat_of_nonneg ho.2.2.1]
    unfold posF
    rw [he, if_neg (by omega)]
    exact hI.2.1
  exact h _ rfl
theorem clm_len {B : Bf} (hB : BInv B) {k : Int} (hk : 0 ≤ k) : ∀ (f : Nat) (p : Int), 0 ≤ p → p < bN B → k + 1 ≤ bL B p → bL B p ≤ f → (0 ≤ clm B k f p ∧ clm B k f p < bN B) ∧ bL B (clm B k f p) = k + 1
  | 0, p, p0, p1, h1, h2 => by omega
  | f + 1, p, p0, p1, h1, h2 => by
    have hI := hB.2.2.1 p p0 p1
    unfold clm
    by_cases q : k + 1 < bL B p
    · rw [if_pos q]
      have ho := hI.2.2.2 (by omega)
      exact clm_len hB hk f (bO B p) (by omega) (by omega) (by omega) (by omega)
    · rw [if_neg q]; exact ⟨⟨p0, p1⟩, by omega⟩
theorem row_eq {B : Bf} (hB : BInv B) {i k : Int} (hi : 0 ≤ i ∧ i < bN B) (hk : 0 ≤ k) : (if rowF B i k = -1 then -1000004 else rowF B i k) = rwF B i k := by
  unfold rowF rwF
  by_cases q : k < bL B i
  · have hI := hB.2.2.1 i hi.1 hi.2
    have hle := hB.le
    have hc := clm_len hB hk 64 i hi.1 hi.2 (by omega) (by omega)
    have hr := hB.2.2.1 _ hc.1.1 hc.1.2
    have hw := hr.2.2.2 (by omega)
    rw [if_pos q, if_pos q, if_neg (by omega)]
  · rw [if_neg q, if_neg q, if_pos rfl]
theorem fw_lk : ∀ m, m < 64 → (if fwi m = -1 then -1000004 else fwi m) = lkV m := by decide +kernel
theorem tell_T {U : mW} {p q : Nat} {B : Bf} {i c : Int} (hB : BInv B) (hi : 0 ≤ i ∧ i < bN B) (hc : c = 3 ∨ c = 4 ∨ 10 ≤ c) : tellF togT rsnT U p q B i c = if c = 3 then rsnB rsnT U p q B i else if c = 4 then mssF U p q B i else rwF B i (c - 10) := by
  unfold tellF
  by_cases c3 : c = 3
  · rw [if_pos c3, if_pos c3]
  · rw [if_neg c3, if_neg c3]
    by_cases c4 : c = 4
    · rw [if_pos c4, if_pos c4]
      unfold lckB mssF
      cases togT (kdF U p (bP B i / 8)) (kdF U q (bP B i % 8)) with
      | true => rw [if_pos rfl, if_pos rfl]; exact fw_lk _ (lackF_lt _ (msk_lt _ _ _) (msk_lt _ _ _))
      | false => rfl
    · rw [if_neg c4, if_neg c4]
      exact row_eq hB hi (by omega)
theorem pair_eq {U : mW} {p q : Nat} {B : Bf} {i c : Int} (hB : BInv B) (hc : (0 ≤ c ∧ c ≤ 4) ∨ (10 ≤ c ∧ c < 74)) : pairB U p q B i c = rpairB U p q B i c := by
  unfold pairB rpairB
  by_cases hi : 0 ≤ i ∧ i < bN B
  · rw [if_pos hi, if_pos hi]
    by_cases c0 : c = 0
    · rw [if_pos c0, if_pos c0]
    · rw [if_neg c0, if_neg c0]
      by_cases c1 : c = 1
      · rw [if_pos c1, if_pos c1]
      · rw [if_neg c1, if_neg c1]
        by_cases c2 : c = 2
        · rw [if_pos c2, if_pos c2]
        · rw [if_neg c2, if_neg c2]; exact tell_T hB hi (by omega)
  · rw [if_neg hi, if_neg hi]
theorem tell_S {U : mW} {p q : Nat} {B : Bf} {i c : Int} (hB : BInv B) (hi : 0 ≤ i ∧ i < bN B) (hc : c = 3 ∨ c = 4 ∨ 10 ≤ c) : tellF togS rsnS U p q B i c = if c = 3 then rsnB rsnS U p q B i else if c = 4 then wntT U p q B i else rwF B i (c - 10) := by
  unfold tellF
  by_cases c3 : c = 3
  · rw [if_pos c3, if_pos c3]
  · rw [if_neg c3, if_neg c3]
    by_cases c4 : c = 4
    · rw [if_pos c4, if_pos c4]
      have e1 : lckB togS U p q B i = if togS (kdF U p (bP B i / 8)) (kdF U q (bP B i % 8)) then fwi (lackF (kdF U p (bP B i / 8)) (msk U p (bP B i / 8)) (msk U q (bP B i % 8))) else -1 := rfl
      have e2 : rsnB rsnS U p q B i = rsnS (kdF U p (bP B i / 8)) (msk U p (bP B i / 8)) (kdF U q (bP B i % 8)) (msk U q (bP B i % 8)) := rfl
      have e3 : wntF U p q B i = if kdF U p (bP B i / 8) = 0 ∨ ¬ kdF U p (bP B i / 8) = kdF U q (bP B i % 8) then -1000004 else lkV (lackF (kdF U p (bP B i / 8)) (msk U p (bP B i / 8)) (msk U q (bP B i % 8))) := rfl
      have hl := lackF_lt (kdF U p (bP B i / 8)) (msk_lt U p (bP B i / 8)) (msk_lt U q (bP B i % 8))
      have hL : lackF (kdF U p (bP B i / 8)) (msk U p (bP B i / 8)) (msk U q (bP B i % 8)) = if kdF U p (bP B i / 8) = 1 then msk U p (bP B i / 8) ^^^ (msk U p (bP B i / 8) &&& msk U q (bP B i % 8)) else msk U q (bP B i % 8) ^^^ (msk U q (bP B i % 8) &&& msk U p (bP B i / 8)) := rfl
      unfold wntT
      rw [e1, e2, e3]
      unfold rsnS togS
      generalize lackF (kdF U p (bP B i / 8)) (msk U p (bP B i / 8)) (msk U q (bP B i % 8)) = L at *
      generalize kdF U p (bP B i / 8) = k1 at *
      generalize kdF U q (bP B i % 8) = k2 at *
      generalize msk U p (bP B i / 8) = m1 at *
      generalize msk U q (bP B i % 8) = m2 at *
      have hf := fw_lk L hl
      by_cases h1 : k1 = k2
      · by_cases h2 : k1 = 0
        · rw [decide_eq_false (by omega), if_neg (show ¬ ¬ k1 = k2 from fun z => z h1), if_pos h2]; rfl
        · rw [decide_eq_true (by omega), if_pos rfl, if_neg (show ¬ ¬ k1 = k2 from fun z => z h1), if_neg h2, hf]
          by_cases h3 : k1 = 1 ∧ m1 = 0
          · rw [if_pos h3]
            rw [if_pos h3.1, h3.2] at hL
            have : L = 0 := by rw [hL]; simp
            rw [this]; rfl
          · rw [if_neg h3]
            by_cases h4 : L = 0
            · rw [if_pos h4, h4]; rfl
            · rw [if_neg h4, if_pos rfl, if_neg (by omega)]
      · rw [decide_eq_false (by omega), if_pos h1]; rfl
    · rw [if_neg c4, if_neg c4]
      exact row_eq hB hi (by omega)
theorem again_eq {U : mW} {p q : Nat} {B : Bf} {i c : Int} (hB : BInv B) (hi : i = -1 ∨ (0 ≤ i ∧ i < bN B)) (hc : (0 ≤ c ∧ c ≤ 4) ∨ (10 ≤ c ∧ c < 74)) : againB U p q B i c = ragB U p q B i c := by
  unfold againB ragB
  by_cases h : 0 ≤ i ∧ i < bN B
  · rw [if_pos h, if_neg (show ¬ i < 0 by omega)]
    by_cases c0 : c = 0
    · rw [if_pos c0, if_pos c0]
    · rw [if_neg c0, if_neg c0]
      by_cases c1 : c = 1
      · rw [if_pos c1, if_pos c1]
      · rw [if_neg c1, if_neg c1]
        by_cases c2 : c = 2
        · rw [if_pos c2, if_pos c2]
        · rw [if_neg c2, if_neg c2]; exact tell_S hB h (by omega)
  · rw [if_neg h, if_pos (by omega)]
/-! from the class's plans to the reference's -/
theorem bT_eq {w U : mW} {p q : Nat} (hp : w (p + 1) = U (p + 1)) (hq : w (q + 1) = U (q + 1)) : bT w p q = bT U p q := by
  show bfs (nxF togT w p q) = bfs (nxF togT U p q)
  rw [nxF_congr hp hq]
theorem bS_eq {w U : mW} {p q : Nat} (hp : w (p + 1) = U (p + 1)) (hq : w (q + 1) = U (q + 1)) : bSt w p q = bSt U p q := by
  show bfs (nxF togS w p q) = bfs (nxF togS U p q)
  rw [nxF_congr hp hq]
theorem pairOf_eq {w U : mW} {p q : Nat} (hp : w (p + 1) = U (p + 1)) (hq : w (q + 1) = U (q + 1)) (hkp : PlanOK U p) (hkq : PlanOK U q) {c e i : Int} (hc : -1 ≤ c) (he : (0 ≤ e ∧ e ≤ 4) ∨ (10 ≤ e ∧ e < 74)) (hi : (c < 0 ∧ i = faultB rsnT U p q (bT U p q)) ∨ (¬ c < 0 ∧ i = c)) : pairB w p q (bT w p q) (if c = -1 then faultB rsnT w p q (bT w p q) else c) e = rpairB U p q (bT U p q) i e := by
  have hB : BInv (bT U p q) := bfs_inv (nxF_ok hkp hkq)
  rw [bT_eq hp hq]
  generalize bT U p q = B at *
  have e1 : (if c = -1 then faultB rsnT w p q B else c) = i := by
    rw [faultB_congr hp hq]
    by_cases h : c = -1
    · rw [if_pos h]; omega
    · rw [if_neg h]; omega
  rw [e1, ← pair_eq hB he]
  unfold pairB
  rw [tellF_congr hp hq]
theorem against_eq {w U : mW} {p q : Nat} (hp : w (p + 1) = U (p + 1)) (hq : w (q + 1) = U (q + 1)) (hkp : PlanOK U p) (hkq : PlanOK U q) {c : Int} (hc : (0 ≤ c ∧ c ≤ 4) ∨ (10 ≤ c ∧ c < 74)) : againB w p q (bSt w p q) (faultB rsnS w p q (bSt w p q)) c = ragB U p q (bSt U p q) (faultB rsnS U p q (bSt U p q)) c := by
  have hB : BInv (bSt U p q) := bfs_inv (nxF_ok hkp hkq)
  rw [bS_eq hp hq]
  generalize bSt U p q = B at *
  rw [faultB_congr hp hq]
  have hf := faultB_rng rsnS U p q hB
  rw [← again_eq hB (by omega) hc]
  unfold againB
  rw [tellF_congr hp hq]
theorem stand_eq {w U : mW} {p q : Nat} (hp : w (p + 1) = U (p + 1)) (hq : w (q + 1) = U (q + 1)) : standF w p q = standF U p q := by
  unfold standF
  rw [bS_eq hp hq, faultB_congr hp hq]
theorem kr_eq {w U : mW} {p q : Nat} (hp : w (p + 1) = U (p + 1)) (hq : w (q + 1) = U (q + 1)) (hkp : PlanOK U p) (hkq : PlanOK U q) {u u' : mW} (hK : RKw U p q (bT U p q) u') : (KC u' (bN (bT U p q)) = bN (bT U p q) → krT w u p q = u' 41 0 ∧ (0 ≤ u' 41 0 ∧ u' 41 0 ≤ CAP)) ∧ (¬ KC u' (bN (bT U p q)) = bN (bT U p q) → krT w u p q = -1) := by
  have hB : BInv (bT U p q) := bfs_inv (nxF_ok hkp hkq)
  have hR := rch_pos hkp hkq
  have hs : SxOK (posF togT U p q (bT U p q)) (bN (bT U p q)) := SxOK.pos hkp hkq hB
  have ek : krT w u p q = krF (posF togT U p q (bT U p q)) (endB U p q (bT U p q)) u (bN (bT U p q)) := by
    unfold krT
    rw [bT_eq hp hq]
    generalize bT U p q = B
    rw [show posF togT w p q B = posF togT U p q B from by funext i k; exact posF_congr hp hq i k, show endB w p q B = endB U p q B from by funext i; exact endB_congr hp hq i]
  rw [ek]
  generalize bT U p q = B at *
  obtain ⟨v, h1, h2⟩ := hK
  have hk := kahn (w := u) ⟨hB.1, hB.le⟩ hs hR h1 h2
  have h0 := (h1.2.1 0 (Int.le_refl 0) (by have := hB.1; omega)).2
  exact ⟨fun h => ⟨hk.1 h, h0⟩, hk.2⟩
theorem talk_eq {w U : mW} {p q : Nat} (hp : w (p + 1) = U (p + 1)) (hq : w (q + 1) = U (q + 1)) (hkp : PlanOK U p) (hkq : PlanOK U q) {u : mW} {c z : Int} (hc : 0 ≤ c ∧ c ≤ 6) (h : RTk U p q c z) : talkF w u p q c = z := by
  obtain ⟨h0, h1, h2, h3, h4, h5, h6⟩ := h _ rfl
  have hkr := fun u' => kr_eq (u := u) (u' := u') hp hq hkp hkq
  unfold talkF
  rw [bT_eq hp hq]
  generalize bT U p q = B at *
  by_cases c0 : c = 0
  · rw [if_pos c0, h0 c0]
  · rw [if_neg c0]
    by_cases c1 : c = 1
    · rw [if_pos c1, h1 c1]; simp only [rsnB_congr hp hq]
    · rw [if_neg c1]
      by_cases c2 : c = 2
      · rw [if_pos c2, h2 c2]; simp only [endB_congr hp hq]
      · rw [if_neg c2]
        by_cases c3 : c = 3
        · rw [if_pos c3]
          obtain ⟨u', k1, k2⟩ := h3 c3
          have hk := hkr u' k1
          rw [k2]
          by_cases e : KC u' (bN B) = bN B
          · have := hk.1 e
            rw [if_pos e, if_neg (by omega)]
          · have := hk.2 e
            rw [if_neg e, if_pos this]
        · rw [if_neg c3]
          by_cases c4 : c = 4
          · rw [if_pos c4, h4 c4, fewB_congr hp hq]
          · rw [if_neg c4]
            by_cases c5 : c = 5
            · rw [if_pos c5, h5 c5]
            · rw [if_neg c5, h6 (by omega)]
theorem talks_eq {w U : mW} {p q : Nat} (hp : w (p + 1) = U (p + 1)) (hq : w (q + 1) = U (q + 1)) (hkp : PlanOK U p) (hkq : PlanOK U q) {u : mW} {z : Int} (h : RTs U p q z) : talksF (krT w u p q) = z := by
  obtain ⟨u', k1, k2⟩ := h _ rfl
  have hk := kr_eq (u := u) (u' := u') hp hq hkp hkq k1
  generalize bT U p q = B at *
  rw [k2]
  unfold talksF
  by_cases e : KC u' (bN B) = bN B
  · have := hk.1 e
    rw [if_pos e, if_neg (by omega), this.1]
  · rw [if_neg e, if_pos (hk.2 e)]
theorem stateOf_eq {w U : mW} {p s : Nat} {c z : Int} (hp : w (p + 1) = U (p + 1)) (hpn : p + 1 ≠ 14) (hkp : PlanOK U p) (hs : s < 8) (hc : (0 ≤ c ∧ c ≤ 3) ∨ (10 ≤ c ∧ c < 16)) (h : RSt U p s c z) : stF w p s c = z := by
  obtain ⟨h0, h1, h2, h3, h4⟩ := h
  have hkw : PlanOK w p := hkp.congr hp
  unfold stF
  by_cases c0 : c = 0
  · rw [if_pos c0, h0 c0, hp]; rfl
  · rw [if_neg c0]
    by_cases c1 : c = 1
    · rw [if_pos c1, h1 c1, hasW_congr hp]
    · rw [if_neg c1]
      by_cases c2 : c = 2
      · rw [if_pos c2]
        obtain ⟨L, g1, g2⟩ := h2 c2
        rw [g2, low_eq (lowF_low hpn hkw hs) (isG_low hkw (isG_congr hp.symm g1) hs)]
      · rw [if_neg c2]
        by_cases c3 : c = 3
        · rw [if_pos c3]
          obtain ⟨M, g1, g2⟩ := h3 c3
          rw [g2, ris_uniq (ris_comes hkw hs) (ris_congr hp.symm g1)]
        · have h10 : 10 ≤ c := by clear h0 h1 h2 h3 h4; omega
          rw [if_neg c3, h4 h10, hp]; rfl
theorem unlike_eq2 {w U : mW} {p : Nat} {z : Int} (hp : w (p + 1) = U (p + 1)) (hpn : p + 1 ≠ 14) (hkp : PlanOK U p) (h : ∃ L M, IsG U p (lkR L) ∧ RIs U p 0 M ∧ z = ((cnt (fun k => M.testBit k && decide (lowst (fun j => (L k &&& M).testBit j) 8 8 0 = k)) 8 : Nat) : Int)) : ((mpop (unF (comesF w p 0) (lowF w p) 8) : Nat) : Int) = z := by
  obtain ⟨L, M, g1, g2, g3⟩ := h
  have hkw : PlanOK w p := hkp.congr hp
  rw [g3, unlike_eq hpn hkw (isG_congr hp.symm g1) (ris_congr hp.symm g2)]
