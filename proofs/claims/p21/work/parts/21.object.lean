/-! WHAT AN OBJECT SHOWS: its plans, its history, its text (and what lies in cell 31, the law's own row) -/
abbrev Pn : Type := Nat → Int → Int
def POk (P : Pn) : Prop := ∀ p : Nat, p < 3 → (∀ b : Int, ¬ (0 ≤ b ∧ b < 56) → P p b = 0) ∧ ∀ s : Int, 0 ≤ s → s < 8 → (0 ≤ P p (s * 7) ∧ P p (s * 7) < 3) ∧ ∀ k : Int, 0 ≤ k → k < 6 → -1 ≤ P p (s * 7 + 1 + k) ∧ P p (s * 7 + 1 + k) < 8
def PW (w : mW) (P : Pn) : Prop := ∀ p : Nat, p < 3 → w (2 * p + 2) = P p
def HW (w : mW) (Hs : List Pn) : Prop := w 7 1 = (Hs.length : Int) ∧ ∀ (i : Nat) (X : Pn), Hs[i]? = some X → ∀ p : Nat, p < 3 → ∀ b : Int, 0 ≤ b → b < 56 → w 8 (168 * (i : Int) + 56 * (p : Int) + b) = X p b
def TW (w : mW) (tx : List Int) : Prop := w 9 1 = (tx.length : Int) ∧ ∀ (i : Nat) (x : Int), tx[i]? = some x → w 10 (i : Int) = x
def Ob (w : mW) (P : Pn) (Hs : List Pn) (tx : List Int) (V : Int → Int) : Prop :=
  PW w P ∧ POk P ∧ HW w Hs ∧ (∀ X ∈ Hs, POk X) ∧ Hs.length ≤ 4 ∧ TW w tx ∧ tx.length ≤ 80 ∧ (∀ x ∈ tx, 32 ≤ x ∧ x ≤ 126) ∧ w 31 = V
def push (Hs : List Pn) (P : Pn) : List Pn := if Hs.length < 4 then Hs ++ [P] else Hs.drop 1 ++ [P]
theorem push_len {Hs : List Pn} {P : Pn} (h : Hs.length ≤ 4) : (push Hs P).length ≤ 4 := by
  unfold push; split
  · simp; omega
  · simp; omega
theorem push_mem {Hs : List Pn} {P X : Pn} (h : X ∈ push Hs P) : X ∈ Hs ∨ X = P := by
  unfold push at h
  split at h
  · simpa using h
  · rcases List.mem_append.mp h with h | h
    · exact Or.inl (List.mem_of_mem_drop h)
    · exact Or.inr (by simpa using h)
theorem PW.ok {w : mW} {P : Pn} (h : PW w P) (hk : POk P) {p : Nat} (hp : p < 3) : PlanOK w (2 * p + 1) := by
  have e : w (2 * p + 1 + 1) = P p := h p hp
  intro s s0 s1
  rw [e]
  exact (hk p hp).2 s s0 s1
theorem Ob.cinv {w : mW} {P : Pn} {Hs : List Pn} {tx : List Int} {V : Int → Int} (h : Ob w P Hs tx V) : CInv w := by
  obtain ⟨h1, h2, h3, h4, h5, h6, h7, h8, h9⟩ := h
  refine ⟨fun p hp => h1.ok h2 hp, by rw [h3.1]; omega, by rw [h6.1]; omega, fun i i0 i1 => ?_⟩
  rw [h6.1] at i1
  have hi : i.toNat < tx.length := by omega
  have e := h6.2 i.toNat _ (List.getElem?_eq_getElem hi)
  rw [Int.toNat_of_nonneg i0] at e
  rw [e]
  have := h8 _ (List.getElem_mem hi)
  omega
theorem Ob.keep {w u : mW} {P : Pn} {Hs : List Pn} {tx : List Int} {V : Int → Int} (h : Ob w P Hs tx V) (hc : ∀ a : Nat, (a = 2 ∨ a = 4 ∨ a = 6 ∨ a = 7 ∨ a = 8 ∨ a = 10 ∨ a = 31) → u a = w a) (h9 : u 9 1 = w 9 1) : Ob u P Hs tx V := by
  obtain ⟨g1, g2, g3, g4, g5, g6, g7, g8, g9⟩ := h
  refine ⟨fun p hp => ?_, g2, ?_, g4, g5, ?_, g7, g8, by rw [hc 31 (by decide)]; exact g9⟩
  · rw [hc _ (by omega)]; exact g1 p hp
  · unfold HW; rw [hc 7 (by decide), hc 8 (by decide)]; exact g3
  · unfold TW; rw [hc 10 (by decide), h9]; exact g6
theorem recS_ne {w : mW} {a : Nat} (h7 : a ≠ 7) (h8 : a ≠ 8) : recS w a = w a := by unfold recS; rw [mup_ne h7, mcopy_ne h8]
theorem HW.gG {w : mW} {P : Pn} {Hs : List Pn} (hP : PW w P) (h : HW w Hs) : HW (recG w) (Hs ++ [P]) := by
  obtain ⟨h7, h8⟩ := h
  refine ⟨?_, fun i X hX p hp b b0 b1 => ?_⟩
  · unfold recG; rw [mup_at, h7]; simp
  have c8 : ∀ j : Int, recG w 8 j = if (Hs.length : Int) * 168 + 112 ≤ j ∧ j < (Hs.length : Int) * 168 + 112 + 56 then w 6 (0 + (j - ((Hs.length : Int) * 168 + 112))) else if (Hs.length : Int) * 168 + 56 ≤ j ∧ j < (Hs.length : Int) * 168 + 56 + 56 then w 4 (0 + (j - ((Hs.length : Int) * 168 + 56))) else if (Hs.length : Int) * 168 ≤ j ∧ j < (Hs.length : Int) * 168 + 56 then w 2 (0 + (j - (Hs.length : Int) * 168)) else w 8 j := by
    intro j
    unfold recG
    rw [mup_ne (by decide), h7]
    simp [mcopy]
  rw [c8]
  by_cases q : i < Hs.length
  · rw [List.getElem?_append_left q] at hX
    rw [if_neg (by omega), if_neg (by omega), if_neg (by omega)]
    exact h8 i X hX p hp b b0 b1
  · have hl : i < (Hs ++ [P]).length := (List.getElem?_eq_some_iff.mp hX).1
    have ei : i = Hs.length := by simp at hl; omega
    rw [List.getElem?_append_right (by omega), ei] at hX
    have eX : X = P := by simpa using hX.symm
    rw [eX, ei]
    rcases (show p = 0 ∨ p = 1 ∨ p = 2 by omega) with rfl | rfl | rfl
    · rw [if_neg (by omega), if_neg (by omega), if_pos (by omega), show w 2 = P 0 from hP 0 (by decide)]
      congr 1; omega
    · rw [if_neg (by omega), if_pos (by omega), show w 4 = P 1 from hP 1 (by decide)]
      congr 1; omega
    · rw [if_pos (by omega), show w 6 = P 2 from hP 2 (by decide)]
      congr 1; omega
theorem HW.gS {w : mW} {Hs : List Pn} (h : HW w Hs) (hl : Hs.length = 4) : HW (recS w) (Hs.drop 1) := by
  obtain ⟨h7, h8⟩ := h
  refine ⟨?_, fun i X hX p hp b b0 b1 => ?_⟩
  · unfold recS; rw [mup_at]; simp [hl]
  have hi : i < (Hs.drop 1).length := (List.getElem?_eq_some_iff.mp hX).1
  rw [List.length_drop, hl] at hi
  rw [List.getElem?_drop] at hX
  have c8 : ∀ j : Int, recS w 8 j = if 0 ≤ j ∧ j < 504 then w 8 (168 + j) else w 8 j := fun j => by
    unfold recS; rw [mup_ne (by decide)]; simp [mcopy]
  rw [c8, if_pos (by omega)]
  have := h8 (1 + i) X hX p hp b b0 b1
  rw [← this]
  congr 1; omega
theorem HW.gF {w : mW} {P : Pn} {Hs : List Pn} (hP : PW w P) (h : HW w Hs) (hl : Hs.length ≤ 4) : HW (recF w) (push Hs P) := by
  unfold recF push
  by_cases q : Hs.length < 4
  · rw [if_pos (by rw [h.1]; omega), if_pos q]; exact h.gG hP
  · rw [if_neg (by rw [h.1]; omega), if_neg q]
    exact (h.gS (by omega)).gG (fun p hp => by rw [recS_ne (by omega) (by omega)]; exact hP p hp)
/-- a change: the plans anew, what was before kept -/
theorem Ob.chg {w w' : mW} {P P' : Pn} {Hs : List Pn} {tx : List Int} {V : Int → Int} (h : Ob w P Hs tx V) (hP : PW w' P') (hk : POk P') (h7 : w' 7 1 = recF w 7 1) (h8 : w' 8 = recF w 8) (h9 : w' 9 1 = w 9 1) (h10 : w' 10 = w 10) (h31 : w' 31 = w 31) : Ob w' P' (push Hs P) tx V := by
  obtain ⟨g1, g2, g3, g4, g5, g6, g7, g8, g9⟩ := h
  have hH := g3.gF g1 g5
  refine ⟨hP, hk, ?_, fun X hX => ?_, push_len g5, ?_, g7, g8, by rw [h31]; exact g9⟩
  · unfold HW; rw [h7, h8]; exact hH
  · rcases push_mem hX with q | q
    · exact g4 X q
    · rw [q]; exact g2
  · unfold TW; rw [h9, h10]; exact g6
theorem POk.kind {P : Pn} (h : POk P) {p : Nat} (hp : p < 3) {s v : Int} (hs : 0 ≤ s ∧ s < 8) (hv : 0 ≤ v ∧ v < 3) : POk (mup P p (s * 7) v) := by
  intro q hq
  refine ⟨fun b hb => ?_, fun t t0 t1 => ⟨?_, fun k k0 k1 => ?_⟩⟩
  · rw [mup_get, if_neg (by omega)]; exact (h q hq).1 b hb
  · rw [mup_get]; split
    · exact hv
    · exact ((h q hq).2 t t0 t1).1
  · rw [mup_get, if_neg (by omega)]; exact ((h q hq).2 t t0 t1).2 k k0 k1
theorem POk.arrow {P : Pn} (h : POk P) {p : Nat} (hp : p < 3) {s k v : Int} (hs : 0 ≤ s ∧ s < 8) (hk : 0 ≤ k ∧ k < 6) (hv : -1 ≤ v ∧ v < 8) : POk (mup P p (s * 7 + 1 + k) v) := by
  intro q hq
  refine ⟨fun b hb => ?_, fun t t0 t1 => ⟨?_, fun j j0 j1 => ?_⟩⟩
  · rw [mup_get, if_neg (by omega)]; exact (h q hq).1 b hb
  · rw [mup_get, if_neg (by omega)]; exact ((h q hq).2 t t0 t1).1
  · rw [mup_get]; split
    · exact hv
    · exact ((h q hq).2 t t0 t1).2 j j0 j1
def pcp (P : Pn) (a b : Nat) : Pn := fun q => if q = b then P a else P q
def pmi (P : Pn) (a : Nat) : Pn := fun q b => if q = a ∧ 0 ≤ b ∧ b < 56 ∧ b % 7 = 0 then swp (P q b) else P q b
def prd (P : Pn) (a : Nat) (D : Int → Int) : Pn := fun q b => if q = a then (if 0 ≤ b ∧ b < 56 then D b else 0) else P q b
theorem POk.cp {P : Pn} (h : POk P) {a : Nat} (ha : a < 3) (b : Nat) : POk (pcp P a b) := by
  intro q hq
  unfold pcp
  split
  · exact h a ha
  · exact h q hq
theorem POk.mi {P : Pn} (h : POk P) (a : Nat) : POk (pmi P a) := by
  intro q hq
  refine ⟨fun b hb => ?_, fun t t0 t1 => ⟨?_, fun k k0 k1 => ?_⟩⟩
  · unfold pmi; rw [if_neg (by omega)]; exact (h q hq).1 b hb
  · have := ((h q hq).2 t t0 t1).1
    unfold pmi; split
    · unfold swp; (repeat' split) <;> omega
    · exact this
  · unfold pmi; rw [if_neg (by omega)]; exact ((h q hq).2 t t0 t1).2 k k0 k1
theorem POk.rd {P : Pn} (h : POk P) (a : Nat) {D : Int → Int} (hD : DOK D) : POk (prd P a D) := by
  intro q hq
  unfold prd
  by_cases e : q = a
  · simp only [if_pos e]
    refine ⟨fun b hb => if_neg hb, fun t t0 t1 => ⟨?_, fun k k0 k1 => ?_⟩⟩
    · rw [if_pos (by omega)]; exact (hD t t0 t1).1
    · rw [if_pos (by omega)]; exact (hD t t0 t1).2 k k0 k1
  · simp only [if_neg e]; exact h q hq
section OPS
variable {w w' : mW} {P : Pn} {Hs : List Pn} {tx : List Int} {V : Int → Int}
theorem Ob.kindE (h : Ob w P Hs tx V) {a b c : Int} (ha : 0 ≤ a ∧ a < 3) (hb : 0 ≤ b ∧ b < 8) (hc : 0 ≤ c ∧ c < 3) (e : w' = mup (recF w) (2 * a.toNat + 2) (b * 7) c) : Ob w' (mup P a.toNat (b * 7) c) (push Hs P) tx V := by
  have hw : ∀ x : Nat, x ≠ 2 * a.toNat + 2 → x ≠ 7 → x ≠ 8 → w' x = w x := fun x k1 k2 k3 => by rw [e, mup_ne k1, recF_ne k2 k3]
  refine h.chg (fun p hp => ?_) (h.2.1.kind (by omega) hb hc) (by rw [e, mup_ne (by omega)]) (by rw [e, mup_ne (by omega)]) (by rw [hw 9 (by omega) (by decide) (by decide)]) (hw 10 (by omega) (by decide) (by decide)) (hw 31 (by omega) (by decide) (by decide))
  funext y
  rw [e, mup_get, mup_get, recF_ne (by omega) (by omega), h.1 p hp]
  by_cases q : p = a.toNat ∧ y = b * 7
  · rw [if_pos ⟨by omega, q.2⟩, if_pos q]
  · rw [if_neg (fun z => q ⟨by omega, z.2⟩), if_neg q]
theorem Ob.arrowE (h : Ob w P Hs tx V) {a b c t : Int} (ha : 0 ≤ a ∧ a < 3) (hb : 0 ≤ b ∧ b < 8) (hc : 0 ≤ c ∧ c < 6) (ht : -1 ≤ t ∧ t < 8) (e : w' = mup (recF w) (2 * a.toNat + 2) (b * 7 + 1 + c) t) : Ob w' (mup P a.toNat (b * 7 + 1 + c) t) (push Hs P) tx V := by
  have hw : ∀ x : Nat, x ≠ 2 * a.toNat + 2 → x ≠ 7 → x ≠ 8 → w' x = w x := fun x k1 k2 k3 => by rw [e, mup_ne k1, recF_ne k2 k3]
  refine h.chg (fun p hp => ?_) (h.2.1.arrow (by omega) hb hc ht) (by rw [e, mup_ne (by omega)]) (by rw [e, mup_ne (by omega)]) (by rw [hw 9 (by omega) (by decide) (by decide)]) (hw 10 (by omega) (by decide) (by decide)) (hw 31 (by omega) (by decide) (by decide))
  funext y
  rw [e, mup_get, mup_get, recF_ne (by omega) (by omega), h.1 p hp]
  by_cases q : p = a.toNat ∧ y = b * 7 + 1 + c
  · rw [if_pos ⟨by omega, q.2⟩, if_pos q]
  · rw [if_neg (fun z => q ⟨by omega, z.2⟩), if_neg q]
theorem Ob.copyE (h : Ob w P Hs tx V) {a b : Int} (ha : 0 ≤ a ∧ a < 3) (hb : 0 ≤ b ∧ b < 3) (e : w' = mcopy (recF w) (2 * a.toNat + 2) (2 * b.toNat + 2) 0 0 56) : Ob w' (pcp P a.toNat b.toNat) (push Hs P) tx V := by
  have hw : ∀ x : Nat, x ≠ 2 * b.toNat + 2 → x ≠ 7 → x ≠ 8 → w' x = w x := fun x k1 k2 k3 => by rw [e, mcopy_ne k1, recF_ne k2 k3]
  refine h.chg (fun p hp => ?_) (h.2.1.cp (by omega) _) (by rw [e, mcopy_ne (by omega)]) (by rw [e, mcopy_ne (by omega)]) (by rw [hw 9 (by omega) (by decide) (by decide)]) (hw 10 (by omega) (by decide) (by decide)) (hw 31 (by omega) (by decide) (by decide))
  funext y
  have hpa := h.1 a.toNat (by omega)
  have hpp := h.1 p hp
  have oa := (h.2.1 a.toNat (by omega)).1
  have op := (h.2.1 p hp).1
  rw [e]
  unfold mcopy pcp
  rw [recF_ne (by omega) (by omega), recF_ne (by omega) (by omega), hpa, hpp]
  by_cases q : p = b.toNat
  · rw [if_pos q]
    by_cases q2 : 0 ≤ y ∧ y < 56
    · rw [if_pos ⟨by omega, by omega, by omega⟩]; congr 1; omega
    · rw [if_neg (by omega), op y q2, oa y q2]
  · rw [if_neg (by omega), if_neg q]
theorem Ob.mirrorE (h : Ob w P Hs tx V) {a : Int} (ha : 0 ≤ a ∧ a < 3) (e : w' = pswp (recF w) (2 * a.toNat + 1) 56) : Ob w' (pmi P a.toNat) (push Hs P) tx V := by
  have pne : ∀ {u : mW} {p x : Nat} {m : Int}, x ≠ p + 1 → pswp u p m x = u x := fun {u p x m} hx => by funext y; unfold pswp; rw [if_neg (fun q => hx q.1)]
  have hw : ∀ x : Nat, x ≠ 2 * a.toNat + 2 → x ≠ 7 → x ≠ 8 → w' x = w x := fun x k1 k2 k3 => by rw [e, pne k1, recF_ne k2 k3]
  refine h.chg (fun p hp => ?_) (h.2.1.mi _) (by rw [e, pne (by omega)]) (by rw [e, pne (by omega)]) (by rw [hw 9 (by omega) (by decide) (by decide)]) (hw 10 (by omega) (by decide) (by decide)) (hw 31 (by omega) (by decide) (by decide))
  funext y
  rw [e]
  unfold pswp pmi
  rw [recF_ne (by omega) (by omega), h.1 p hp]
  by_cases q : p = a.toNat ∧ 0 ≤ y ∧ y < 56 ∧ y % 7 = 0
  · rw [if_pos ⟨by omega, q.2⟩, if_pos q]
  · rw [if_neg (fun z => q ⟨by omega, z.2⟩), if_neg q]
theorem Ob.readE (h : Ob w P Hs tx V) {a : Int} {u : mW} {T : Tx} (ha : 0 ≤ a ∧ a < 3) (hV : TV w u T) (hT : TOK T) (e : w' = mcopy (recF u) 12 (2 * a.toNat + 2) 0 0 56) : Ob w' (prd P a.toNat T.2.1) (push Hs P) tx V := by
  obtain ⟨v1, v2, -, v3, -⟩ := hV
  have hu : Ob u P Hs tx V := h.keep (fun x hx => v1 x (by omega) (by omega)) v2
  have hw : ∀ x : Nat, x ≠ 2 * a.toNat + 2 → x ≠ 7 → x ≠ 8 → w' x = u x := fun x k1 k2 k3 => by rw [e, mcopy_ne k1, recF_ne k2 k3]
  refine hu.chg (fun p hp => ?_) (hu.2.1.rd _ hT.2.1) (by rw [e, mcopy_ne (by omega)]) (by rw [e, mcopy_ne (by omega)]) (by rw [hw 9 (by omega) (by decide) (by decide)]) (hw 10 (by omega) (by decide) (by decide)) (hw 31 (by omega) (by decide) (by decide))
  funext y
  have hpp := hu.1 p hp
  have op := (h.2.1 p hp).1
  rw [e]
  unfold mcopy prd
  rw [recF_ne (by omega) (by omega), recF_ne (by omega) (by omega), hpp]
  by_cases q : p = a.toNat
  · rw [if_pos q]
    by_cases q2 : 0 ≤ y ∧ y < 56
    · rw [if_pos ⟨by omega, by omega, by omega⟩, if_pos q2, ← v3 y q2.1 q2.2]; congr 1; omega
    · rw [if_neg (by omega), if_neg q2, op y q2]
  · rw [if_neg (by omega), if_neg q]
theorem Ob.undoE {X : Pn} (h : Ob w P (Hs ++ [X]) tx V) (e : w' = resF w) : Ob w' X Hs tx V := by
  obtain ⟨g1, g2, ⟨h7, h8⟩, g4, g5, g6, g7, g8, g9⟩ := h
  have hX : POk X := g4 X (by simp)
  have e7 : w 7 1 - 1 = (Hs.length : Int) := by rw [h7]; simp
  have r7 : w' 7 = mup w 7 1 (w 7 1 - 1) 7 := by rw [e]; unfold resF; rw [mcopy_ne (by decide), mcopy_ne (by decide), mcopy_ne (by decide)]
  have rn : ∀ x : Nat, x ≠ 2 → x ≠ 4 → x ≠ 6 → x ≠ 7 → w' x = w x := fun x k1 k2 k3 k4 => by
    rw [e]; unfold resF; rw [mcopy_ne k3, mcopy_ne k2, mcopy_ne k1, mup_ne k4]
  have hx : ∀ p : Nat, p < 3 → ∀ b : Int, 0 ≤ b → b < 56 → w 8 (168 * (Hs.length : Int) + 56 * (p : Int) + b) = X p b := h8 Hs.length X (by simp)
  refine ⟨fun p hp => ?_, hX, ⟨?_, fun i Y hY p hp b b0 b1 => ?_⟩, fun Y hY => g4 Y (by simp [hY]), by simp at g5; omega, ?_, g7, g8, by rw [rn 31 (by decide) (by decide) (by decide) (by decide)]; exact g9⟩
  · funext y
    have op := (g2 p hp).1
    have ox := (hX p hp).1
    rw [e]
    unfold resF
    rw [e7]
    rcases (show p = 0 ∨ p = 1 ∨ p = 2 by omega) with rfl | rfl | rfl
    · rw [mcopy_ne (by decide), mcopy_ne (by decide)]
      unfold mcopy
      rw [mup_ne (by decide), mup_ne (by decide)]
      by_cases q : 0 ≤ y ∧ y < 56
      · rw [if_pos ⟨by omega, by omega, by omega⟩, ← hx 0 (by decide) y q.1 q.2]; congr 1; omega
      · rw [if_neg (by omega), show w (2 * 0 + 2) = P 0 from g1 0 (by decide), op y q, ox y q]
    · rw [mcopy_ne (by decide)]
      unfold mcopy
      by_cases q : 0 ≤ y ∧ y < 56
      · rw [if_pos ⟨by omega, by omega, by omega⟩, if_neg (by omega), mup_ne (by decide), ← hx 1 (by decide) y q.1 q.2]; congr 1; omega
      · rw [if_neg (by omega), if_neg (by omega), mup_ne (by decide), show w (2 * 1 + 2) = P 1 from g1 1 (by decide), op y q, ox y q]
    · unfold mcopy
      by_cases q : 0 ≤ y ∧ y < 56
      · rw [if_pos ⟨by omega, by omega, by omega⟩, if_neg (by omega), if_neg (by omega), mup_ne (by decide), ← hx 2 (by decide) y q.1 q.2]; congr 1; omega
      · rw [if_neg (by omega), if_neg (by omega), if_neg (by omega), mup_ne (by decide), show w (2 * 2 + 2) = P 2 from g1 2 (by decide), op y q, ox y q]
  · rw [r7, mup_at, e7]
  · rw [rn 8 (by decide) (by decide) (by decide) (by decide)]
    refine h8 i Y ?_ p hp b b0 b1
    rw [List.getElem?_append_left (List.getElem?_eq_some_iff.mp hY).1]; exact hY
  · unfold TW
    rw [rn 9 (by decide) (by decide) (by decide) (by decide), rn 10 (by decide) (by decide) (by decide) (by decide)]
    exact g6
theorem Ob.typeE (h : Ob w P Hs tx V) {z : Int} (hz : 32 ≤ z ∧ z ≤ 126) (hl : tx.length < 80) (e : w' = mup (mup w 10 (w 9 1) z) 9 1 (w 9 1 + 1)) : Ob w' P Hs (tx ++ [z]) V := by
  obtain ⟨g1, g2, g3, g4, g5, g6, g7, g8, g9⟩ := h
  have rn : ∀ x : Nat, x ≠ 9 → x ≠ 10 → w' x = w x := fun x k1 k2 => by rw [e, mup_ne k1, mup_ne k2]
  refine ⟨fun p hp => by rw [rn _ (by omega) (by omega)]; exact g1 p hp, g2, ?_, g4, g5, ⟨?_, fun i x hx => ?_⟩, by simp; omega, fun x hx => ?_, by rw [rn 31 (by decide) (by decide)]; exact g9⟩
  · unfold HW; rw [rn 7 (by decide) (by decide), rn 8 (by decide) (by decide)]; exact g3
  · rw [e, mup_at, g6.1]; simp
  · rw [e, mup_ne (by decide), mup_get, g6.1]
    by_cases q : i < tx.length
    · rw [List.getElem?_append_left q] at hx
      rw [if_neg (by omega)]; exact g6.2 i x hx
    · have hi : i < (tx ++ [z]).length := (List.getElem?_eq_some_iff.mp hx).1
      have ei : i = tx.length := by simp at hi; omega
      rw [if_pos ⟨rfl, by omega⟩]
      rw [ei, List.getElem?_append_right (Nat.le_refl _)] at hx
      simpa using hx
  · rcases List.mem_append.mp hx with q | q
    · exact g8 x q
    · have : x = z := by simpa using q
      omega
theorem Ob.clearE (h : Ob w P Hs tx V) (e : w' = mup w 9 1 0) : Ob w' P Hs [] V := by
  obtain ⟨g1, g2, g3, g4, g5, g6, g7, g8, g9⟩ := h
  have rn : ∀ x : Nat, x ≠ 9 → w' x = w x := fun x k1 => by rw [e, mup_ne k1]
  refine ⟨fun p hp => by rw [rn _ (by omega)]; exact g1 p hp, g2, ?_, g4, g5, ⟨?_, fun i x hx => by simp at hx⟩, by simp, fun x hx => by simp at hx, by rw [rn 31 (by decide)]; exact g9⟩
  · unfold HW; rw [rn 7 (by decide), rn 8 (by decide)]; exact g3
  · rw [e, mup_at]; rfl
end OPS
