/-! METHODS OF THE LAW THAT MAKE AN OBJECT OF THEIR OWN -/
def mpreF (G : mG) (sz : Nat) (U : State) : Prop := U.heap.size = sz ∧ va_K G.1 vwCl (mtys G) U ∧ ∀ q ∈ mnest, va_Nw q U
def MF (l : Launch) (G : mG) (d C S : Nat) (y : MethodName) (cc : ByteArray) (mL : Nat) (ret : Option FieldType) (as : List mV) (Qv : Int → Prop) : Prop :=
  ∀ sz : Nat, Met l y (Cond.code y cc mL ret :: mgood) (mRC d C S) (va_Pc (as.map (mtr G)) (mpreF G sz)) (va_Qi (fun (r : Int32) (_ : Unit) => ∃ z : Int, r = mI z ∧ Qv z) (fun _ _ => True) (fun q => sz ≤ q)) C S (fun q => sz ≤ q)
theorem fblind (G : mG) (as : List Value) (sz : Nat) : FrameBlind (va_Pc as (mpreF G sz)) := by
  intro a U g mk h
  obtain ⟨h1, h2, h3, h4⟩ := h
  exact ⟨h1, h2, va_K.moved (u := U) (U := U.calling g mk a) (Vm.Alike.refl U.vm) h3, fun q hq => mnest_same hq (s := U) (U := U.calling g mk a) rfl (h4 q hq)⟩
theorem W_to {p : Program} {l : Launch} {e : Env} {R : Room} {s : State} {m : MethodId} {args : Array Value} {below : List Frame} {meth : Method} {c : Code} {H : Heap} {locs : List Loc} {cells slots : Nat} {Q Q' : State → Prop} {g : JFrame} (h : W p l e R s m args below meth c H locs cells slots Q g) (f : ∀ t, Q t → Q' t) : W p l e R s m args below meth c H locs cells slots Q' g := fun T hT X => by
  obtain ⟨t, a, b⟩ := h T hT X
  exact ⟨t, a, f t b⟩
theorem mtys_eq {G G' : mG} (h : G'.2.2 = (G.2.2.1, G.2.2.2.1, G.2.2.2.2.1, G.2.2.2.2.2.1, mext G')) : mtys G' = mtys G := by
  have h1 : G'.2.2.1 = G.2.2.1 := by rw [h]
  have h2 : G'.2.2.2.1 = G.2.2.2.1 := by rw [h]
  have h3 : G'.2.2.2.2.1 = G.2.2.2.2.1 := by rw [h]
  have h4 : G'.2.2.2.2.2.1 = G.2.2.2.2.2.1 := by rw [h]
  simp only [mtys, mCid, h1, h2, h3, h4]
theorem mA_in {G : mG} {A : Nat → Prop} {w : mW} (hD : va_D A (mws G w)) (q : Nat) (h : mA G q) : A q := by
  obtain ⟨i, hi, rfl⟩ := h
  exact hD.2 i _ (mws_atG G w (List.getElem?_eq_getElem hi))
/-- a method that begins by making an object: from behind that, over the object as a world -/
theorem MF.intro {l : Launch} {G : mG} {d : Nat} {y : MethodName} {cc : ByteArray} {mL : Nat} {ret : Option FieldType} {as : List mV} {Qv : Int → Prop} (hpl : plainName y.cls = true) (hown : y.cls = RL) (hd : 6 ≤ d)
    (L : List (Option mV)) (hn : (margs as).length ≤ mL) (hL : margs as ++ List.replicate (mL - (margs as).length) none = L) (hmap : ∀ G' : mG, as.map (mtr G') = as.map (mtr G))
    (d0 : decode cc 0 = .ok (.new 14, 3)) (d1 : decode cc 3 = .ok (.dup, 1)) (d2 : decode cc 4 = .ok (.invokespecial 84, 3))
    (body : ∀ (G' : mG) (K : mK), mC G' K mL RL cc ret → Wm l G' K d mL (qI (fun z _ => Qv z)) 7 L [mvR 0] mw0) : MF l G d 31 1915 y cc mL ret as Qv := by
  intro sz
  refine Met.ofW (cc := cc) (maxL := mL) (ret := ret) hpl rfl ?_
  intro p e s m args below meth c s₁ B hml hv
  obtain ⟨rfl, hsz, hK, hN⟩ := hv
  subst hsz
  have hts := atoms_spec (ws := Cond.code y cc mL ret :: mgood) B.pre
  have ht : ∀ w ∈ mgood, w.before (as.map (mtr G)).toArray s = true := fun w hw => hts w (List.mem_cons_of_mem _ hw)
  have hf : s.vm.findClass y.cls = some m.cls := findClass_of_methodNamed B.named
  rw [hown] at hf
  have hl := lv_entry (as.map (mtr G)) (n := mL) (by rw [margs_len]; exact hn)
  rw [lg_entry_eq]
  have hm : ∀ G' : mG, mhas G' ((lg_sl (as.map (mtr G)) ++ List.replicate (mL - (lg_sl (as.map (mtr G))).length) Slot.unset).toArray) mL L := by
    intro G'
    refine ⟨hl.1, hl.2.1, ?_, fun i v hi => ?_⟩
    · rw [← hL]; simp; omega
    · rw [← hL] at hi
      have hi' : (margs as)[i]? = some (some v) := by
        by_cases hlt : i < (margs as).length
        · rwa [List.getElem?_append_left hlt] at hi
        · rw [List.getElem?_append_right (by omega), List.getElem?_replicate] at hi
          split at hi <;> simp at hi
      have := margs_mem G' as 0 i v hi'
      rw [Nat.zero_add, hmap G'] at this
      exact hl.2.2 _ this
  refine make_obj (Gz := G) (nL := mL) B.exec B.bytes hml hf ht hN hK va_S.rf hl.1 ⟨hd, ?_⟩ (Nat.le_of_eq (Nat.zero_add _)) (Nat.le_of_eq (Nat.zero_add _)) d0 d1 d2 (fun G' H1 locs1 e1 e2 hP hD hS => ?_)
  · show 210 ≤ 38 * d
    omega
  have hext : mext G' = [] := by show G'.2.2.2.2.2.2 = []; rw [e2]
  have hty : mtys G' = mtys G := mtys_eq (by rw [hext]; exact e2)
  have hC : mC G' (p, e, s, m, (as.map (mtr G)).toArray, below, meth, c, (31, 1915, 0, 31, 1915, fun q => s.heap.size ≤ q)) mL RL cc ret := ⟨B.exec, B.bytes, hml, B.returns, B.notSynchronized, hf, ht, hN, by rw [hty, e1]; exact hK, ⟨Nat.le_refl _, Nat.le_refl _⟩, fun q h => mA_in hD q h⟩
  have hb := body G' _ hC H1 locs1 _ hP hD hS (hm G')
  rw [Nat.zero_add, Nat.zero_add]
  refine W_to hb (fun t ht => ?_)
  obtain ⟨o, a1, a2, ⟨⟨v, w', rfl, ⟨z, rfl, hz⟩, -⟩, hF⟩, a4⟩ := ht
  exact ⟨_, a1, a2, ⟨⟨mI z, (), rfl, ⟨z, rfl, hz⟩, trivial⟩, hF⟩, a4⟩
/-- a call of such a method -/
theorem mf_call {p : Program} {l : Launch} {e : Env} {R : Room} {s : State} {m : MethodId} {args : Array Value} {below : List Frame} {meth : Method} {c : Code} {cc : ByteArray} {nL : Nat} {G : mG} {pc : Nat} {H : Heap} {locs : List Loc} {cells slots : Nat} {Q : State → Prop} {ls : Array Slot} {st0 rest : List Value}
    {idx n mL' d' C S : Nat} {y : MethodName} {cy : ByteArray} {r' : Option FieldType} {as : List mV} {Qv : Int → Prop}
    (hx : p.tables.exec = Jvm.exec) (hb : c.code = cc) (hml : c.maxLocals = nL) (hown : s.vm.findClass RL = some m.cls) (ht : ∀ w ∈ mgood, w.before args s = true) (hN : ∀ q ∈ mnest, va_Nw q s) (hK : va_K G.1 vwCl (mtys G) s) (hS : va_S (fun q : Nat => s.heap.size ≤ q) s.heap H locs) (hsz : ls.size = nL)
    (hM : MF l G d' C S y cy mL' r' as Qv) (cs : mcS RL idx y n) (hcode : Cond.code y cy mL' r' ∈ mgood) (hn : as.length = n)
    (hR : d' + 1 ≤ R.frames ∧ 8 + (mL' + 11) + 38 * d' ≤ R.locals) (hc : cells + C ≤ R.cells) (hs : slots + S ≤ R.slots)
    (hst : st0 = (as.map (mtr G)).reverse ++ rest) (hroom : (rest.map fun v => v.category).sum ≤ 8) (hdg : decode cc pc = .ok (.invokestatic idx, 3))
    (next : ∀ (z : Int) (H1 : Heap) (locs1 : List Loc), Qv z → va_S (fun q : Nat => s.heap.size ≤ q) s.heap H1 locs1 → W p l e R s m args below meth c H1 locs1 (cells + C) (slots + S) Q (F0 m (pc + 3) ls (.int (mI z) :: rest))) :
    W p l e R s m args below meth c H locs cells slots Q (F0 m pc ls st0) := by
  subst hst
  obtain ⟨c1, c2, c3, c4⟩ := cs
  have cb := callB_of (R := R) (own := RL) (index := idx) (y := y) (bytes := cy) (maxL := mL') (ret := r') (rm := mRC d' C S) (mc := C) (ms := S) n ht (mgoodIn y cy mL' r' hcode) rfl rfl rfl (ht _ c3) (ht _ c1) c4 hR
  have hr := va_runS (g := F0 m pc ls ((as.map (mtr G)).reverse ++ rest)) (As := as.map (mtr G)) (rest := rest) (locs := locs) (cells := cells) (slots := slots) (below := below) (e := e) (meth := meth) ⟨hx, hb, hml, hown, ht⟩ (hM H.size) ⟨cb, ht _ c2⟩ ⟨fblind G _ _, fun U hU hW => ⟨rfl, by rw [hU], va_K.moved hW.alike hK, fun q hq => mnest_warm hq hW (hN q hq)⟩⟩ rfl (by simp [hn]) hsz rfl (lv_room hroom) hdg ⟨hc, hs⟩
  refine va_calli hr hS (fun q _ h => Nat.le_trans hS.1 h) (fun q h => Nat.le_trans hS.1 h) (fun r u t H1 locs1 _ _ hp _ _ _ hS1 => ?_)
  obtain ⟨z, rfl, hz⟩ := hp
  exact next z H1 locs1 hz hS1
