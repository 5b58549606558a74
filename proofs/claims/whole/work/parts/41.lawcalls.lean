/-! THE CLAIM OUT OF ONE WALK OF THE LAW'S BODY. Your part is whole_start (and what it stands on); all else here is the same for every law, but numbers. -/
def R_law : String := "MirroredTalksLaw"
def lw_P (b : Addr) (xs : List Int32) (args : Array Value) (s : State) : Prop := args = #[.ref b] ∧ s.IntsAt b xs ∧ xs.length ≤ 2560 ∧ (Jvm.Cond.and given_1 narrow_1).before args s = true
def lw_Q (_ : Array Value) (s : State) (o : Outcome) (t : State) : Prop := o = .returned (some (.int 1)) ∧ Framed s o t [] 46 3452
def lw_Z (below : List Frame) (a : Array Value) (s : State) : State → Prop := fun t => ∃ o, t.status = .running ∧ Ended t below o ∧ lw_Q a s o t
/-- the law's own end, with 1 on the stack, nothing written that was there before, its room as the claim has it -/
theorem lw_ret {p : Program} {l : Launch} {e : Env} {s : State} {m : MethodId} {below : List Frame} {meth : Method} {c : Code} {b : Nat} (hx : p.tables.exec = Jvm.exec) (hb : c.code = code) (hr : meth.sig.returnType = ret) (hlocks : meth.locks = false) {pc : Nat} {H : Heap} {ls : Array Slot} (hdg : decode code pc = .ok (.ireturn, 1)) : W p l e room_1 s m #[Value.ref b] below meth c H [] 46 3452 (lw_Z below #[Value.ref b] s) (F0 m pc ls [.int 1]) := by
  intro T hT X
  obtain ⟨fs, hret, hrun, hended, hW, hframe⟩ := X.leave (v := some (.int 1)) (hlocks := hlocks) (fun h => by rw [hr] at h; cases h)
  have hmeth' : T.vm.method? m = some meth := X.method'
  refine ⟨T.setFrames fs, ?_, .returned (some (.int 1)), hrun, hended, rfl, ⟨_, rfl⟩, hW, hframe⟩
  jvm_step X.here [X.here.top, hx, hb, hdg, hmeth', hr, ret, narrow_b1]
  (try refine ⟨rfl, ?_⟩); (try refine ⟨rfl, ?_⟩)
  first | (intro acts; rw [hret _ acts rfl rfl rfl]) | rw [hret _ _ rfl rfl rfl]
  exact Steps.refl _
/-- what holds at the law's entry: the machine, the code, the tables' words (any of lw_tbl by 'hts w (by decide +kernel)'), the script of L ints xs at the cell b, what the Statement gives of the start (any of its parts by flat_of_before) -/
def lw_At (p : Program) (s : State) (m : MethodId) (meth : Method) (c : Code) (b L : Nat) (xs : Nat → Int32) : Prop :=
  p.tables.exec = Jvm.exec ∧ c.code = code ∧ meth.sig.returnType = ret ∧ c.maxLocals = 4 ∧ s.vm.findClass R_law = some m.cls ∧ (∀ w ∈ lw_tbl, w.before #[Value.ref b] s = true) ∧ va_X b L xs s s.heap ∧ b < s.heap.size ∧ meth.locks = false ∧ (Jvm.Cond.and given_1 narrow_1).before #[Value.ref b] s = true
/-! what no heap shows: a plan's row beyond its end -/
def nrm (w : mW) : mW := fun a b => if (a = 2 ∨ a = 4 ∨ a = 6) ∧ ¬ (0 ≤ b ∧ b < 56) then rv w a b else w a b
theorem nrm_ne {w : mW} {a : Nat} (h : ¬ (a = 2 ∨ a = 4 ∨ a = 6)) : nrm w a = w a := by funext b; unfold nrm; rw [if_neg (fun q => h q.1)]
theorem nrm_in {w : mW} {a : Nat} {b : Int} (h : 0 ≤ b ∧ b < 56) : nrm w a b = w a b := by unfold nrm; rw [if_neg (fun q => q.2 h)]
theorem nrm_rel {w : mW} (h : RelI w) : RelT (nrm w) := by
  have e32 : nrm w 32 = w 32 := nrm_ne (by decide)
  have erv : rv (nrm w) = rv w := rv_congr e32
  have hI := h
  obtain ⟨⟨f1, f2, f3, f4⟩, g1, g2, g3, g4, g5⟩ := h
  refine ⟨?_, fun p hp => ?_⟩
  · unfold RelI RInv
    rw [nrm_ne (w := w) (a := 7) (by decide), nrm_ne (w := w) (a := 8) (by decide), nrm_ne (w := w) (a := 9) (by decide), nrm_ne (w := w) (a := 10) (by decide), nrm_ne (w := w) (a := 31) (by decide), nrm_ne (w := w) (a := 33) (by decide), nrm_ne (w := w) (a := 34) (by decide), e32]
    exact ⟨⟨f1.congr e32, f2, f3, f4⟩, fun p hp b b0 b1 => by rw [nrm_in ⟨b0, b1⟩]; exact g1 p hp b b0 b1, g2, g3, g4, g5⟩
  · rw [erv]
    funext b
    by_cases q : 0 ≤ b ∧ b < 56
    · rw [nrm_in q]; exact g1.rv hp q.1 q.2
    · unfold nrm; rw [if_pos ⟨by omega, q⟩]
theorem arrV_same {cA : ClassId} {n : Nat} {f g : Nat → Value} (h : ∀ k, k < n → f k = g k) : arrV cA n f = arrV cA n g := by
  unfold arrV
  have e : (fun j : Fin n => f j.val) = (fun j : Fin n => g j.val) := by funext j; exact h j.val j.isLt
  rw [e]
theorem nrm_P {G : mG} {w : mW} {H : Heap} (h : va_P G.1 vwCl (mws G w) H) : va_P G.1 vwCl (mws G (nrm w)) H := by
  intro k q hk
  obtain ⟨lay, h1, rfl⟩ := mws_of hk
  have h2 := h k _ (mws_at G w h1)
  by_cases q : k = 2 ∨ k = 4 ∨ k = 6
  · have e : lay = .inr (0, 56) := by rcases q with rfl | rfl | rfl <;> exact (Option.some.inj h1).symm
    subst e
    have h3 : H[G.2.1 k]? = some (arrV (mCid G 0) 56 (fun j => .int (mI (w k (j : Int))))) := h2
    show H[G.2.1 k]? = some (arrV (mCid G 0) 56 (fun j => .int (mI (nrm w k (j : Int)))))
    have e5 : arrV (mCid G 0) 56 (fun j => Value.int (mI (w k (j : Int)))) = arrV (mCid G 0) 56 (fun j => Value.int (mI (nrm w k (j : Int)))) := arrV_same (fun j hj => by rw [nrm_in (w := w) (a := k) (b := (j : Int)) (by omega)])
    rw [h3, e5]
  · rw [ment_congr G (nrm_ne q)]; exact h2
theorem mok_room {as : List Value} (h : (as.map fun v => v.category).sum ≤ 8) (pc : Nat) (ls : Array Slot) (st0 : List Value) (m : MethodId) : 2 * (F0 m pc ls st0).monitorRoom + (as.map fun v => v.category).sum ≤ 8 := lv_room h
/-- a number of the script, on the stack -/
theorem law_arg {p : Program} {l : Launch} {e : Env} {s : State} {m : MethodId} {below : List Frame} {meth : Method} {c : Code} {G : mG} {b L : Nat} {xs : Nat → Int32} {H : Heap} {locs : List Loc} {ls : Array Slot} {Q : State → Prop} {st : List Value} {i : Nat} (C0 : lw_At p s m meth c b L xs) (hS : va_S (fun q : Nat => s.heap.size ≤ q) s.heap H locs) (hl : lv_has ls 4 [(0, .ref b), (1, .ref (G.2.1 0)), (2, .ref (G.2.1 31)), (3, .int (mI (i : Int)))]) {j : Nat} (hj : j < 5) (hij : i + 5 ≤ L) (hL : L ≤ 2560) {z : Int} (hz : xs (i + j) = mI z) {pc : Nat} (h0 : decode code pc = .ok (.aload_n 0, 1)) (h1 : decode code (pc + 1) = .ok (.iload_n 3, 1)) (h2 : decode code (pc + 2) = .ok (.iconst (j : Int), 1)) (h3 : decode code (pc + 3) = .ok (.iadd, 1)) (h4 : decode code (pc + 4) = .ok (.iaload, 1))
    (next : W p l e room_1 s m #[Value.ref b] below meth c H locs 46 3452 Q (F0 m (pc + 5) ls (.int (mI z) :: st))) : W p l e room_1 s m #[Value.ref b] below meth c H locs 46 3452 Q (F0 m pc ls st) := by
  obtain ⟨hx, hb, hr, hml, hown, hts, hX, hbl, hlocks, hgv⟩ := C0
  have hbA : ¬ (fun q : Nat => s.heap.size ≤ q) b := Nat.not_le.mpr hbl
  refine lv_aload_n hx hb h0 rfl (lv_at hl 0 rfl) ?_
  refine lv_iload_n hx hb h1 rfl (lv_at hl 3 rfl) ?_
  refine lv_iconst (v := mI (j : Int)) hx hb h2 rfl ?_
  refine lv_iadd hx hb h3 ?_
  rw [mI_add]
  refine va_sld hx hb hX hbl hbA hS (mI_in (n := L) (by omega) (by omega)) h4 ?_
  rw [mI_clamp (by omega), show ((i : Int) + (j : Int)).toNat = i + j by omega, hz]
  exact next
/-- a call of the law over the whole world -/
theorem law_call {p : Program} {l : Launch} {e : Env} {s : State} {m : MethodId} {below : List Frame} {meth : Method} {c : Code} {G : mG} {b L : Nat} {xs : Nat → Int32} {w : mW} {H : Heap} {locs : List Loc} {ls : Array Slot} {Q : State → Prop} {S rest : List Value} (C0 : lw_At p s m meth c b L xs) (ht : ∀ w ∈ mgood, w.before #[Value.ref b] s = true) (hN : ∀ q ∈ mnest, va_Nw q s) (hK : va_K G.1 vwCl (mtys G) s) (hGA : ∀ i, i < 46 → s.heap.size ≤ G.2.1 i) (hS : va_S (fun q : Nat => s.heap.size ≤ q) s.heap H locs) (hsz : ls.size = 4) (hP : va_P G.1 vwCl (mws G w) H) (hD : va_D (mA G) (mws G w)) {pc k idx n mL' i ci N : Nat} {T : u_T} {fks : List (Option (Option Nat))} {y : MethodName} {cy : ByteArray} {r' : Option FieldType} {as : List mV} {Q1 : Option mV → mW → Prop} (cs : mcV RL idx y n) (hcode : Cond.code y cy mL' r' ∈ mgood) (hi : mlays[i]? = some (.inl (ci, fks))) (hc : vwCl[ci]? = some (y.cls, T, N)) (hM : Mx l G k y cy mL' r' (mvR i :: as) w Q1) (hn : as.length = n) (hroomR : (mR k).frames + 1 ≤ room_1.frames ∧ 8 + (mL' + 11) + (mR k).locals ≤ room_1.locals) (hst : S = (as.map (mtr G)).reverse ++ .ref (G.2.1 i) :: rest) (hroom : (rest.map fun v => v.category).sum ≤ 8) (hdg : decode code pc = .ok (.invokevirtual idx, 3))
    (next : ∀ v w', Q1 v w' → ∀ (H1 : Heap) (locs1 : List Loc), va_P G.1 vwCl (mws G w') H1 → va_D (mA G) (mws G w') → va_S (fun q : Nat => s.heap.size ≤ q) s.heap H1 locs1 → W p l e room_1 s m #[Value.ref b] below meth c H1 locs1 46 3452 Q (F0 m (pc + 3) ls ((v.map (mtr G)).toList ++ rest))) : W p l e room_1 s m #[Value.ref b] below meth c H locs 46 3452 Q (F0 m pc ls S) := by
  subst hst
  obtain ⟨hx, hb, hr, hml, hown, hts, hX, hbl, hlocks, hgv⟩ := C0
  obtain ⟨c1, c2, c2b, c3, c4⟩ := cs
  have cb := callB_of (R := room_1) (own := RL) (index := idx) (y := y) (bytes := cy) (maxL := mL') (ret := r') (rm := mR k) (mc := 0) (ms := 0) n ht (mgoodIn y cy mL' r' hcode) rfl rfl rfl (ht _ c3) (ht _ c1) c4 hroomR
  have hr := va_runV (C := y.cls) (b := G.2.1 i) (g := F0 m pc ls ((as.map (mtr G)).reverse ++ .ref (G.2.1 i) :: rest)) (As := as.map (mtr G)) (rest := rest) (locs := locs) (cells := 46) (slots := 3452) (below := below) (e := e) (meth := meth) ⟨hx, hb, hml, hown, ht⟩ hM ⟨cb, ht _ c2, ht _ c2b⟩ ⟨mblind (mvR i :: as), va_recv hK hP hc (mws_at G w hi), fun U hU hW => ⟨rfl, by rw [hU]; exact hP, va_K.moved hW.alike hK, mD_true hD, fun q hq => mnest_warm hq hW (hN q hq)⟩⟩ rfl (by simp [hn]) hsz rfl (lv_room hroom) hdg ⟨Nat.le_refl 46, Nat.le_refl 3452⟩
  intro TT hT X
  obtain ⟨v, st₀, t, T', LL, h0, X', hL, e1, e2, ⟨⟨v', w', hv, hq, hbb⟩, hz, hk⟩, stp⟩ := hr TT hT X
  cases hv
  rw [h0] at hz hk
  have hA : ∀ q, mA G q → (fun q : Nat => s.heap.size ≤ q) q := fun q h => by obtain ⟨z, z1, z2⟩ := h; rw [z2]; exact hGA z z1
  have hS' : va_S (fun q : Nat => s.heap.size ≤ q) s.heap T'.heap (locs ++ LL) := by
    refine ⟨Nat.le_trans hS.1 (by rw [e1]; exact hz), fun q h1 h2 => ?_, fun q hq => ?_⟩
    · rw [e1, hk q (Nat.lt_of_lt_of_le h1 hS.1) (fun h => h2 (hA q h))]; exact hS.2.1 q h1 h2
    · rcases List.mem_append.mp hq with h | h
      · exact hS.2.2 q h
      · exact hA _ (hL q h)
  obtain ⟨t2, a1, b1⟩ := next v' w' hq T'.heap (locs ++ LL) (by rw [e1]; exact hbb) (mD_any hD) hS' T' rfl X'
  exact ⟨t2, stp t2 a1, b1⟩
theorem lg_self (x : Int64) : lg_cmp x x = 0 := by unfold lg_cmp; simp
