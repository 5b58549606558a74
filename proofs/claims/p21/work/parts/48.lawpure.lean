/-! THE LAW'S OWN NUMBERS: what was, and the last four of it -/
theorem Ob.was {w : mW} {P : Pn} {Hs : List Pn} {tx : List Int} {V : Int → Int} (h : Ob w P Hs tx V) (k v : Int) : Ob (mup w 31 k v) P Hs tx (iup V k v) := by
  obtain ⟨g1, g2, g3, g4, g5, g6, g7, g8, g9⟩ := h
  have ne : ∀ a : Nat, a ≠ 31 → mup w 31 k v a = w a := fun a ha => mup_ne ha
  refine ⟨fun p hp => by rw [ne _ (by omega)]; exact g1 p hp, g2, ?_, g4, g5, ?_, g7, g8, ?_⟩
  · unfold HW; rw [ne 7 (by decide), ne 8 (by decide)]; exact g3
  · unfold TW; rw [ne 9 (by decide), ne 10 (by decide)]; exact g6
  · funext b
    rw [mup_get, g9]
    unfold iup
    by_cases e : b = k
    · rw [if_pos ⟨rfl, e⟩, if_pos e]
    · rw [if_neg (fun q => e q.2), if_neg e]
def lst (tr : List Pn) : List Pn := tr.drop (tr.length - 4)
theorem lst_len (tr : List Pn) : (lst tr).length ≤ 4 := by unfold lst; rw [List.length_drop]; omega
theorem push_lst (tr : List Pn) (P : Pn) : push (lst tr) P = lst (tr ++ [P]) := by
  unfold push
  have hl : (lst tr).length = tr.length - (tr.length - 4) := by unfold lst; rw [List.length_drop]
  by_cases h : tr.length < 4
  · rw [if_pos (by omega)]
    unfold lst
    rw [show tr.length - 4 = 0 by omega, show (tr ++ [P]).length - 4 = 0 by rw [List.length_append, List.length_singleton]; omega]
    rfl
  · rw [if_neg (by omega)]
    unfold lst
    rw [List.drop_drop, show (tr ++ [P]).length - 4 = tr.length - 4 + 1 by rw [List.length_append, List.length_singleton]; omega, List.drop_append_of_le_length (by omega)]
theorem lst_snoc (tr : List Pn) (X : Pn) : lst (tr ++ [X]) = tr.drop (tr.length - 3) ++ [X] := by
  unfold lst
  rw [show (tr ++ [X]).length - 4 = tr.length - 3 by rw [List.length_append, List.length_singleton]; omega, List.drop_append_of_le_length (by omega)]
theorem snoc_of : ∀ {l : List Pn}, 0 < l.length → ∃ H X, l = H ++ [X]
  | [], h => absurd h (by decide)
  | [x], _ => ⟨[], x, rfl⟩
  | x :: y :: r, _ => by
    obtain ⟨H, X, h⟩ := snoc_of (l := y :: r) (by simp)
    exact ⟨x :: H, X, by rw [h]; rfl⟩
def WasOK (V : Int → Int) (tr : List Pn) : Prop := ∀ (j : Nat) (X : Pn), tr[j]? = some X → V (j : Int) = seenA X
theorem WasOK.keep {V : Int → Int} {tr : List Pn} (h : WasOK V tr) {z : Int} : WasOK (iup V (tr.length : Int) z) tr := by
  intro j X hj
  have hl : j < tr.length := (List.getElem?_eq_some_iff.mp hj).1
  rw [iup_ne _ _ (by omega)]
  exact h j X hj
theorem WasOK.snoc {V : Int → Int} {tr : List Pn} (h : WasOK V tr) {P : Pn} {z : Int} (e : z = seenA P) : WasOK (iup V (tr.length : Int) z) (tr ++ [P]) := by
  intro j X hj
  by_cases hl : j < tr.length
  · rw [List.getElem?_append_left hl] at hj
    exact h.keep j X hj
  · have hl2 : j < (tr ++ [P]).length := (List.getElem?_eq_some_iff.mp hj).1
    have ej : j = tr.length := by simp at hl2; omega
    rw [ej, iup_at]
    rw [ej, List.getElem?_append_right (Nat.le_refl _)] at hj
    have : X = P := by simpa using hj.symm
    rw [e, this]
def lwT : List Int := [48, 33, 97, 48, 59, 55, 63, 59]
theorem lw_b : okW 3468160047831793467 = true := by decide +kernel
theorem lw_tx : ([] : List Int) ++ bys 3468160047831793467 8 = lwT := by decide +kernel
theorem lw_f : (parA lwT).2.2.2.1 = 0 := by decide +kernel
theorem lw_r : ((mpop (parA lwT).1 : Nat) : Int) = 2 := by decide +kernel
theorem lw_49 : (parA lwT).2.1 49 = 2 := by decide +kernel
theorem lw_0 : (parA lwT).2.1 0 = 1 := by decide +kernel
theorem lw_s (P : Pn) : stateA (prd P (Int.toNat 0) (parA lwT).2.1) 0 7 0 = 2 := by
  rw [← lw_49]; rfl
theorem lw_k (P : Pn) : prd P (Int.toNat 0) (parA lwT).2.1 (Int.toNat 0) (0 * 7) = 1 := by
  rw [← lw_0]; rfl
/-- what is left of the history, as the law goes back -/
def Bk (full Hs : List Pn) (X : Pn) (k n : Nat) : Prop := Hs.length + k ≤ 2 ∧ ∃ off, off + Hs.length + k = n ∧ ∀ (i : Nat) (Y : Pn), (Hs ++ [X])[i]? = some Y → full[i + off]? = some Y
theorem Bk.at {full Hs : List Pn} {X : Pn} {k n : Nat} (h : Bk full Hs X k n) : full[n - k]? = some X ∧ k ≤ n := by
  obtain ⟨h1, off, h2, h3⟩ := h
  refine ⟨?_, by omega⟩
  have := h3 Hs.length X (by simp)
  rwa [show n - k = Hs.length + off by omega]
theorem Bk.pop {full H0 : List Pn} {X Y : Pn} {k n : Nat} (h : Bk full (H0 ++ [Y]) X k n) : Bk full H0 Y (k + 1) n := by
  obtain ⟨h1, off, h2, h3⟩ := h
  rw [List.length_append, List.length_singleton] at h1 h2
  refine ⟨by omega, off, by omega, fun i Z hi => h3 i Z ?_⟩
  rw [List.getElem?_append_left (List.getElem?_eq_some_iff.mp hi).1]
  exact hi
theorem Bk.start (tr : List Pn) (P : Pn) : Bk (tr ++ [P]) (tr.drop (tr.length - 2)) P 0 tr.length := by
  refine ⟨by rw [List.length_drop]; omega, tr.length - 2, by rw [List.length_drop]; omega, fun i Y hi => ?_⟩
  rw [← List.drop_append_of_le_length (l₂ := [P]) (show tr.length - 2 ≤ tr.length by omega), List.getElem?_drop] at hi
  rw [Nat.add_comm]; exact hi
