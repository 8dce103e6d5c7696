/-! what the throw needs beside: two statics, a text, casts and declarations -/
def gSt (C n d : String) (A : Nat → Prop) (U : State) (H : Heap) : Prop := ∃ (cC : ClassId) (k : Class) (i : Nat) (f : Field) (a : Nat) (cell : Cell) (v : Value), U.vm.findClass C = some cC ∧ U.fieldFound? C n d = some (cC, k, i, f) ∧ f.isStatic = true ∧ k.statics = some a ∧ H[a]? = some cell ∧ cell.vm.isStatics = true ∧ cell.cls = cC ∧ f.slot < cell.slots.size ∧ k.staticTypes[f.slot]? = some f.type ∧ cell.slots[f.slot]? = some v ∧ (v = .null ∨ ∃ t : Nat, v = .ref t) ∧ ¬ A a
theorem gSt.moved {C n d : String} {A : Nat → Prop} {u U : State} {H : Heap} (hvm : u.vm.Alike U.vm) (h : gSt C n d A u H) : gSt C n d A U H := by
  obtain ⟨cC, k, i, f, a, cell, v, h1, h2, h3, h4, h5, h6, h7, h8, h9, h10, h11, h12⟩ := h
  obtain ⟨k', hi', he⟩ := State.fieldFound?_setVm hvm h2
  exact ⟨cC, k', i, f, a, cell, v, by rw [hvm.findClass]; exact h1, hi', h3, by rw [he]; exact h4, h5, h6, h7, h8, by rw [he]; exact h9, h10, h11, h12⟩
theorem gSt.kept {C n d : String} {A : Nat → Prop} {U : State} {H H1 : Heap} (h : gSt C n d A U H) (hq : ∀ a : Nat, a < H.size → ¬ A a → H1[a]? = H[a]?) : gSt C n d A U H1 := by
  obtain ⟨cC, k, i, f, a, cell, v, h1, h2, h3, h4, h5, h6, h7, h8, h9, h10, h11, h12⟩ := h
  exact ⟨cC, k, i, f, a, cell, v, h1, h2, h3, h4, by rw [hq a (Array.getElem?_eq_some_iff.mp h5).1 h12]; exact h5, h6, h7, h8, h9, h10, h11, h12⟩
theorem gSt.ref {C n d : String} {A : Nat → Prop} {s : State} (h : gSt C n d A s s.heap) (args : Array Value) : (Cond.isRef (.static C n d)).before args s = true := by
  obtain ⟨cC, k, i, f, a, cell, v, h1, h2, h3, h4, h5, h6, h7, h8, h9, h10, h11, h12⟩ := h
  rcases h11 with rfl | ⟨t, rfl⟩ <;> simp [Cond.before, Cond.holds, Cond.value, Term.eval, State.fieldNamed?, h2, h3, h4, h5, h6, h10]
theorem gSt.lay {C n d : String} {A : Nat → Prop} {s : State} (h : gSt C n d A s s.heap) (args : Array Value) : (Cond.laysStatic C n d).before args s = true := by
  obtain ⟨cC, k, i, f, a, cell, v, h1, h2, h3, h4, h5, h6, h7, h8, h9, h10, h11, h12⟩ := h
  simp [Cond.before, Cond.holds, Cond.value, h1, h2, h3, h4, h5, h6, h7, h8, h9]
theorem gSt.of {args : Array Value} {s : State} {C n d : String} {A : Nat → Prop} (hl : (Cond.laysStatic C n d).before args s = true) (hr : (Cond.isRef (.static C n d)).before args s = true) (hA : ∀ a : Nat, a < s.heap.size → ¬ A a) : gSt C n d A s s.heap := by
  obtain ⟨cC, k, i, f, a, cell, h1, h2, h3, h4, h5, h6, h7, h8, h9⟩ := Cond.laysStatic_spec hl
  obtain ⟨u, hu⟩ := Cond.staticRefV h2 h3 h4 h5 h6 hr
  refine ⟨cC, k, i, f, a, cell, u.v, h1, h2, h3, h4, h5, h6, h7, h8, h9, hu, ?_, hA a (Array.getElem?_eq_some_iff.mp h5).1⟩
  obtain ⟨v, hv⟩ := u
  cases v <;> simp [Value.isRef] at hv ⊢
def gE (z : Nat → Nat) (q : Nat) (U : State) (H : Heap) : Prop :=
  gSt Bundle.tN "UNASSIGNED_STACK" Bundle.steD (fun a => z 0 ≤ a) U H ∧ gSt Bundle.tN "SUPPRESSED_SENTINEL" Bundle.listD (fun a => z 0 ≤ a) U H ∧ vk_R RX3 137 "no such octet was got" q U ∧ va_Nw (.castable RJx00060 RJx00060) U ∧ va_Nw (.declares (Bundle.initS "java/lang/IndexOutOfBoundsException")) U ∧ va_Nw (.declares (Bundle.initS "java/lang/RuntimeException")) U ∧ va_Nw (.declares (Bundle.initS "java/lang/Exception")) U ∧ va_Nw (.declares (Bundle.initS Bundle.tN)) U
theorem gE.call {z : Nat → Nat} {q : Nat} {s U : State} {H : Heap} {locs : List Loc} (h : gE z q s s.heap) (hS : va_S (fun a => z 0 ≤ a) s.heap H locs) (hU : U.heap = H) (hw : s.WarmedH U.vm) : gE z q U U.heap := by
  obtain ⟨h1, h2, h3, h4, h5, h6, h7, h8⟩ := h
  subst hU
  exact ⟨gSt.moved hw.alike (h1.kept (fun a ha hn => hS.2.1 a ha hn)), gSt.moved hw.alike (h2.kept (fun a ha hn => hS.2.1 a ha hn)), vk_R.warm hw h3, va_Nw.warmC hw h4, va_Nw.warmD hw h5, va_Nw.warmD hw h6, va_Nw.warmD hw h7, va_Nw.warmD hw h8⟩
def gPE (D : va_G) (dA : Nat → ClassId) (z : Nat → Nat) (q : Nat) (en : en_T) (av : List Value) : Array Value → State → Prop := va_Pc av (fun U => gK D dA z U ∧ gE z q U U.heap ∧ Wd D (z 0) en U.heap)
theorem gBlE {D : va_G} {dA : Nat → ClassId} {z : Nat → Nat} {q : Nat} {en : en_T} {av : List Value} : FrameBlind (gPE D dA z q en av) := by
  intro a U g mk w
  obtain ⟨q0, q1, ⟨f1, f2, f3, f4, f5, f6, f7, f8⟩, q5⟩ := w
  have k := gBl (D := D) (dA := dA) (z := z) (en := en) (av := av) a U g mk ⟨q0, q1, q5⟩
  have hv : U.vm = (U.calling g mk a).vm := rfl
  exact ⟨q0, k.2.1, ⟨gSt.moved (u := U) (U := U.calling g mk a) (Vm.Alike.refl U.vm) f1, gSt.moved (u := U) (U := U.calling g mk a) (Vm.Alike.refl U.vm) f2, vk_R.same (u := U) (U := U.calling g mk a) rfl f3, va_Nw.same rfl hv f4, va_Nw.same rfl hv f5, va_Nw.same rfl hv f6, va_Nw.same rfl hv f7, va_Nw.same rfl hv f8⟩, q5⟩
theorem gPreE {D : va_G} {dA : Nat → ClassId} {z : Nat → Nat} {q : Nat} {en : en_T} {s : State} {H : Heap} {locs : List Loc} (av : List Value) (hg : gK D dA z s) (he : gE z q s s.heap) (hS : va_S (fun q => z 0 ≤ q) s.heap H locs) (hW : Wd D (z 0) en H) : ∀ U : State, U.heap = H → s.WarmedH U.vm → gPE D dA z q en av av.toArray U := fun U hU hw => ⟨rfl, gK.call hg hS hU hw, gE.call he hS hU hw, by rw [hU]; exact hW⟩
/-! the words of the throw -/
def wsOwn : List Cond := Bundle.ownAtoms RX3 139 RJx00060 ["java/lang/IndexOutOfBoundsException", "java/lang/RuntimeException", "java/lang/Exception"]
def wsThr : List Cond := wsOwn.filter goodWord
theorem thr_bad : wsOwn.filter (fun w => !goodWord w) = [.laysStatic Bundle.tN "UNASSIGNED_STACK" Bundle.steD, .laysStatic Bundle.tN "SUPPRESSED_SENTINEL" Bundle.listD, .declares (Bundle.initS "java/lang/IndexOutOfBoundsException"), .declares (Bundle.initS "java/lang/RuntimeException"), .declares (Bundle.initS "java/lang/Exception"), .declares (Bundle.initS Bundle.tN), .castable RJx00060 RJx00060, .isRef (.static Bundle.tN "UNASSIGNED_STACK" Bundle.steD), .isRef (.static Bundle.tN "SUPPRESSED_SENTINEL" Bundle.listD)] := by decide +kernel
theorem thr_own {args : Array Value} {s : State} {z : Nat → Nat} {q : Nat} (h : ∀ w ∈ wsThr, w.before args s = true) (he : gE z q s s.heap) : ∀ a ∈ Bundle.ownAtoms RX3 139 RJx00060 ["java/lang/IndexOutOfBoundsException", "java/lang/RuntimeException", "java/lang/Exception"], a.before args s = true := by
  intro a ha
  by_cases hgw : goodWord a = true
  · exact h a (List.mem_filter.mpr ⟨ha, hgw⟩)
  · have hm : a ∈ wsOwn.filter (fun w => !goodWord w) := List.mem_filter.mpr ⟨ha, by simp [hgw]⟩
    rw [thr_bad] at hm
    simp only [List.mem_cons, List.not_mem_nil, or_false] at hm
    obtain ⟨h1, h2, -, h4, h5, h6, h7, h8⟩ := he
    rcases hm with rfl | rfl | rfl | rfl | rfl | rfl | rfl | rfl | rfl
    · exact h1.lay args
    · exact h2.lay args
    · exact va_tabs (A := #[]) rfl rfl h5
    · exact va_tabs (A := #[]) rfl rfl h6
    · exact va_tabs (A := #[]) rfl rfl h7
    · exact va_tabs (A := #[]) rfl rfl h8
    · exact va_tabs (A := #[]) rfl rfl h4
    · exact h1.ref args
    · exact h2.ref args
def wsX3_gotT : List Cond := .code yX3_got cX3_got 2 (some .byte) :: (([.fieldLink RX3 33 "LongTransfer" "gotOctets" "[B", .classLink RX3 135 RJx00060, .instantiable RJx00060 6, .initialized RJx00060] ++ wsX30 ++ wsJx000600) ++ wsThr)
def wsL_gotT : List Cond := .codeWith yL_got cL_got 4 (some .int) [(0, 9, 12, 13)] :: (([.methodLink RL 7 yX3_got, .instanceMethod yX3_got, .selects RX3 yX3_got yX3_got, .initialized RX3, .code yX3_got cX3_got 2 (some .byte), .fieldLink RX3 33 "LongTransfer" "gotOctets" "[B", .classLink RX3 135 RJx00060, .instantiable RJx00060 6, .initialized RJx00060] ++ wsX30 ++ wsJx000600) ++ (.classLink RL 13 RJx00060 :: wsThr))
theorem thr_good : wsThr.all goodWord = true := List.all_eq_true.mpr (fun w h => (List.mem_filter.mp h).2)
theorem gT_sub : ∀ w ∈ wsL_got, w ∈ wsL_gotT := by
  intro w h
  rcases List.mem_cons.mp h with h | h
  · exact List.mem_cons.mpr (Or.inl h)
  · exact List.mem_cons_of_mem _ (List.mem_append_left _ h)
theorem gT_L_X3 : GoodIn wsL_gotT (wsV RL 7 RX3 yX3_got wsX3_got) := fun w h => ⟨gT_sub w (gL_got_X3_got w h).1, (gL_got_X3_got w h).2⟩
theorem gT_L_X3T : GoodIn wsL_gotT (wsV RL 7 RX3 yX3_got wsX3_gotT) := by
  intro w h
  rcases List.mem_append.mp h with h | h
  · exact gT_L_X3 w (List.mem_append_left _ h)
  · rcases List.mem_cons.mp h with h | h
    · exact gT_L_X3 w (List.mem_append_right _ (List.mem_cons.mpr (Or.inl h)))
    · rcases List.mem_append.mp h with h | h
      · exact gT_L_X3 w (List.mem_append_right _ (List.mem_cons_of_mem _ h))
      · exact ⟨List.mem_cons_of_mem _ (List.mem_append_right _ (List.mem_cons_of_mem _ h)), good_of_word (List.all_eq_true.mp thr_good w h)⟩
theorem gMetT {l : Launch} {y : MethodName} {own : String} {ws ws' : List Cond} {rm : Room} {Qt : Array Value → State → Addr → State → Prop} {mc ms : Nat} {D : va_G} {dA : Nat → ClassId} {z : Nat → Nat} {q : Nat} {en : en_T} {av : List Value} {cc : ByteArray} {maxL : Nat} {ret : Option FieldType} (hy : plainName y.cls = true) (ho : y.cls = own) (hw : ws = Cond.code y cc maxL ret :: ws') (hlen : (lg_sl av).length ≤ maxL)
    (body : ∀ (p : Program) (e : Env) (s : State) (m : MethodId) (below : List Frame) (meth : Method) (c : Code), p.tables.exec = Jvm.exec → c.code = cc → c.maxLocals = maxL → s.vm.findClass own = some m.cls → (∀ w ∈ ws, w.before av.toArray s = true) → meth.locks = false → c.exceptionTable.isEmpty = true → gK D dA z s → gE z q s s.heap → Wd D (z 0) en s.heap → ∀ ls : Array Slot, lv_has ls maxL (lv_args 0 av) →
      W p l e rm s m av.toArray below meth c s.heap [] 0 0 (TQ below Qt av.toArray s mc ms) (F0 m 0 ls [])) : MetT l y ws rm (gPE D dA z q en av) Qt mc ms := by
  refine tm_ofW (cc := cc) (maxL := maxL) (ret := ret) hy hw ?_
  intro p e s m args below meth c s₁ B hml hne hv
  obtain ⟨rfl, hg, he, hW⟩ := hv
  have hl := lv_entry av (n := maxL) hlen
  rw [lg_entry_eq]
  exact body p e s m below meth c B.exec B.bytes hml (by rw [← ho]; exact findClass_of_methodNamed B.named) (atoms_spec (ws := ws) B.pre) B.notSynchronized hne hg he hW _ hl
theorem gMetW {l : Launch} {y : MethodName} {own : String} {ws ws' : List Cond} {rm : Room} {Qc : Array Value → State → Outcome → State → Prop} {mc ms : Nat} {D : va_G} {dA : Nat → ClassId} {z : Nat → Nat} {q : Nat} {en : en_T} {av : List Value} {cc : ByteArray} {maxL : Nat} {ret : Option FieldType} {hh : List (Nat × Nat × Nat × Nat)} (hy : plainName y.cls = true) (ho : y.cls = own) (hw : ws = Cond.codeWith y cc maxL ret hh :: ws') (hlen : (lg_sl av).length ≤ maxL)
    (body : ∀ (p : Program) (e : Env) (s : State) (m : MethodId) (below : List Frame) (meth : Method) (c : Code), p.tables.exec = Jvm.exec → c.code = cc → c.maxLocals = maxL → s.vm.findClass own = some m.cls → (∀ w ∈ ws, w.before av.toArray s = true) → meth.sig.returnType = ret → meth.locks = false → c.exceptionTable.toList.map (fun h => (h.startPc, h.endPc, h.handlerPc, h.catchType)) = hh → gK D dA z s → gE z q s s.heap → Wd D (z 0) en s.heap → ∀ ls : Array Slot, lv_has ls maxL (lv_args 0 av) →
      W p l e rm s m av.toArray below meth c s.heap [] 0 0 (MQ below Qc av.toArray s mc ms (fun q => z 0 ≤ q)) (F0 m 0 ls [])) : Met l y ws rm (gPE D dA z q en av) Qc mc ms (fun q => z 0 ≤ q) := by
  refine va_MetW (cc := cc) (maxL := maxL) (ret := ret) (hh := hh) hy hw ?_
  intro p e s m args below meth c s₁ B hml hv
  obtain ⟨rfl, hg, he, hW⟩ := hv
  have hts := atoms_spec (ws := ws) B.pre
  obtain ⟨m9, meth9, c9, hn9, hm9, hc9, -, -, htab, -⟩ := Cond.codeWith_spec (hts _ (by rw [hw]; exact List.mem_cons_self))
  cases B.named.symm.trans hn9
  cases B.method.symm.trans hm9
  cases (Stand.of_body B).code.symm.trans hc9
  have hl := lv_entry av (n := maxL) hlen
  rw [lg_entry_eq]
  exact body p e s m below meth c B.exec B.bytes hml (by rw [← ho]; exact findClass_of_methodNamed B.named) hts B.returns B.notSynchronized htab hg he hW _ hl
theorem classAt_find {s : State} {C : String} {cC : ClassId} (h : ClassAt s C cC) : s.vm.findClass C = some cC := h.1
set_option maxHeartbeats 4000000 in
set_option maxRecDepth 100000 in
theorem c_X3_got0 (l : Launch) (D : va_G) (dA : Nat → ClassId) (z : Nat → Nat) (en : en_T) (g : St) (al : Al) (n : Int) (hn0 : 0 ≤ n) (hn1 : n < g 1 2 0) (hE : EC dA z g al en) (hI : IB g) : Met l yX3_got wsX3_got ({ frames := 0, cells := 0, slots := 0, locals := 0 }) (gP D dA z en [.ref (al 0 0), .int (iZ (n))]) (va_Qi (fun (r : Int32) (_ : Unit) => r = iZ (g 40 0 n)) (fun _ t9 => Wd D (z 0) en t9.heap) (fun q => z 0 ≤ q)) (0) (0) (fun q => z 0 ≤ q) := by
  refine gMet (own := RX3) (cc := cX3_got) (maxL := 2) (ret := (some .byte)) (by decide) rfl rfl (Nat.le_of_ble_eq_true rfl) ?_
  intro p e s m below meth c hx hb hml hown hts hr hlocks hnm hg hW ls hl
  have hK := hg.1
  have hS : va_S (fun q => z 0 ≤ q) s.heap s.heap [] := va_S.rf
  have hi5 : ∀ w ∈ u_ws RX3 TX3 14, w ∈ wsX3_got := by decide +kernel
  have hl : lv_has ls 2 [(0, .ref (al 0 0)), (1, .int (iZ (n)))] := hl
  obtain ⟨kg, ig, hkg, fG⟩ := hE.2.2.2.2.2.2.2.2.2
  have hIg := hI.2.2.2.2.2.1
  have fX : en 0 0 = some (al 0 0, .inr (5, [.int (iZ (g 0 0 0)), .ref (al 1 0), .ref (al 1 1), .ref (al 3 0), .ref (al 4 0), .int (iZ (g 0 5 0)), .ref (al 11 0), .long (lZ (g 0 7 0)), .int (iZ (g 0 8 0)), .int (iZ (g 0 9 0)), .int (iZ (g 0 10 0)), .int (iZ (g 0 11 0)), .int (iZ (g 0 12 0)), .int (iZ (g 0 13 0))])) := ec_X hE
  have fL0 : en 1 0 = some (al 1 0, .inr (1, [.int (iZ (g 3 0 0)), .ref (al 2 0), .int (iZ (g 1 0 0))])) := ec_L0 hE
  have fL1 : en 1 1 = some (al 1 1, .inr (1, [.int (iZ (g 3 1 0)), .ref (al 2 1), .int (iZ (g 1 1 0))])) := ec_L1 hE
  have fQ : en 3 0 = some (al 3 0, aR dA (4) (fun j => some (al 9 j))) := ec_Q hE
  have fC : en 4 0 = some (al 4 0, aI dA (8) (fun j => g 2 j 0)) := ec_C hE
  refine lv_iload_n hx hb dX3_got_0 rfl (lv_at hl 1 rfl) ?_
  refine z_if_lt (tgt := 13) hx hb dX3_got_1 (by decide) (by omega) (fun c_1 => ?_) (fun c_1 => ?_)
  · exact absurd c_1 (by omega)
  · refine lv_iload_n hx hb dX3_got_4 rfl (lv_at hl 1 rfl) ?_
    refine lv_aload_n hx hb dX3_got_5 rfl (lv_at hl 0 rfl) ?_
    refine g_get (C := RX3) (T := TX3) (N := 14) (ci := 5) (v := .ref (al 11 0)) hx hb hts hi5 hown hK hW fX rfl 6 (by decide) (hts (.fieldLink RX3 33 "LongTransfer" "gotOctets" "[B") (by decide +kernel)) (fun _ h9 => h9) rfl dX3_got_6 ?_
    refine g_blen hx hb hg hW hS fG dX3_got_9 ?_
    refine z_icmp_lt (tgt := 23) hx hb dX3_got_10 (by decide) (by omega) (by omega) (fun c_10 => ?_) (fun c_10 => ?_)
    · refine lv_aload_n hx hb dX3_got_23 rfl (lv_at hl 0 rfl) ?_
      refine g_get (C := RX3) (T := TX3) (N := 14) (ci := 5) (v := .ref (al 11 0)) hx hb hts hi5 hown hK hW fX rfl 6 (by decide) (hts (.fieldLink RX3 33 "LongTransfer" "gotOctets" "[B") (by decide +kernel)) (fun _ h9 => h9) rfl dX3_got_24 ?_
      refine lv_iload_n hx hb dX3_got_27 rfl (lv_at hl 1 rfl) ?_
      refine g_bald hx hb hK hW (bA_in fG (by omega)) (by omega) (by omega) (by omega) dX3_got_28 ?_
      exact W.zret hx hb hr (nz_b (hI.2.2.2.2.2.2 n)) (fun t ht hw => ⟨⟨_, (), rfl, rfl, by show Wd _ _ _ t.heap; rw [ht]; exact hW⟩, hS.F ht⟩) hS.2.2 dX3_got_29
    · exact absurd c_10 (by omega)
set_option maxHeartbeats 4000000 in
set_option maxRecDepth 100000 in
theorem c_X3_gotT (l : Launch) (hlt : l.stackTraces = false) (D : va_G) (dA : Nat → ClassId) (z : Nat → Nat) (q : Nat) (en : en_T) (g : St) (al : Al) (n : Int) (hn : iB n) (hno : ¬ (0 ≤ n ∧ n < g 1 2 0)) (hE : EC dA z g al en) (hI : IB g) : MetT l yX3_got wsX3_gotT ({ frames := 7, cells := 1, slots := 6, locals := 100 }) (gPE D dA z q en [.ref (al 0 0), .int (iZ (n))]) (fun _ st x t => Wd D (z 0) en t.heap ∧ va_F (fun a => z 0 ≤ a) st t ∧ ∃ ce : Cell, t.heap[x]? = some ce ∧ ce.cls = D.1 0 ∧ ce.vm = .none) 1 6 := by
  refine gMetT (own := RX3) (cc := cX3_got) (maxL := 2) (ret := (some .byte)) (by decide) rfl rfl (Nat.le_of_ble_eq_true rfl) ?_
  intro p e s m below meth c hx hb hml hown hts hlocks hne hg he9 hW ls hl
  have hK := hg.1
  have hS : va_S (fun q => z 0 ≤ q) s.heap s.heap [] := va_S.rf
  have hi5 : ∀ w ∈ u_ws RX3 TX3 14, w ∈ wsX3_gotT := fun w h => List.mem_cons_of_mem _ (List.mem_append_left _ (List.mem_append_left _ (List.mem_append_right _ h)))
  have hl : lv_has ls 2 [(0, .ref (al 0 0)), (1, .int (iZ (n)))] := hl
  have hw4 : ∀ w ∈ ([.fieldLink RX3 33 "LongTransfer" "gotOctets" "[B", .classLink RX3 135 RJx00060, .instantiable RJx00060 6, .initialized RJx00060] : List Cond), w.before ([.ref (al 0 0), .int (iZ (n))] : List Value).toArray s = true := fun w h => hts w (List.mem_cons_of_mem _ (List.mem_append_left _ (List.mem_append_left _ (List.mem_append_left _ h))))
  have hown9 := thr_own (fun w h => hts w (List.mem_cons_of_mem _ (List.mem_append_right _ h))) he9
  have hC0 : s.vm.findClass RJx00060 = some (D.1 0) := classAt_find (hK.1 0 _ rfl).2
  have k13 : W p l e ({ frames := 7, cells := 1, slots := 6, locals := 100 }) s m ([.ref (al 0 0), .int (iZ (n))] : List Value).toArray below meth c s.heap [] 0 0 (TQ below (fun _ st x t => Wd D (z 0) en t.heap ∧ va_F (fun a => z 0 ≤ a) st t ∧ ∃ ce : Cell, t.heap[x]? = some ce ∧ ce.cls = D.1 0 ∧ ce.vm = .none) ([.ref (al 0 0), .int (iZ (n))] : List Value).toArray s 1 6) (F0 m 13 ls []) := by
    refine W.newc (g := F0 m 13 ls []) hx hb hown (hw4 (.classLink RX3 135 RJx00060) (by simp)) (hw4 (.instantiable RJx00060 6) (by simp)) (hw4 (.initialized RJx00060) (by simp)) rfl dX3_got_13 (by decide) (by decide) (fun cC kC h1 h2 h3 h4 => ?_)
    refine W.eq (g2 := F0 m 16 ls [.ref s.heap.size]) rfl ?_
    refine lv_dup hx hb dX3_got_16 rfl ?_
    refine va_ldcS hx hb hown he9.2.2.1 dX3_got_17 ?_
    refine w_thr (cells := 1) (slots := 6) (cX := cC) (kX := kC) (names := ["java/lang/IndexOutOfBoundsException", "java/lang/RuntimeException", "java/lang/Exception"]) (ic := 139) (cls := RJx00060) hx hb (hml.trans hl.1.symm) hlt hne hlocks hown (by decide +kernel) (by decide +kernel) hown9 h1 h2 (by simp) (Nat.le_refl _) dX3_got_19 dX3_got_22 (by decide) (by decide) ?_
    intro t hw hs hce
    obtain ⟨ce, hc1, hc2, hc3⟩ := hce
    have ho := hp_old hs
    exact ⟨hW.kp ho.2, ⟨ho.1, fun q h _ => ho.2 q h⟩, ce, hc1, by rw [hc2]; exact Option.some.inj (h1.symm.trans hC0), hc3⟩
  obtain ⟨kg, ig, hkg, fG⟩ := hE.2.2.2.2.2.2.2.2.2
  have hIg := hI.2.2.2.2.2.1
  have fX : en 0 0 = some (al 0 0, .inr (5, [.int (iZ (g 0 0 0)), .ref (al 1 0), .ref (al 1 1), .ref (al 3 0), .ref (al 4 0), .int (iZ (g 0 5 0)), .ref (al 11 0), .long (lZ (g 0 7 0)), .int (iZ (g 0 8 0)), .int (iZ (g 0 9 0)), .int (iZ (g 0 10 0)), .int (iZ (g 0 11 0)), .int (iZ (g 0 12 0)), .int (iZ (g 0 13 0))])) := ec_X hE
  have fL0 : en 1 0 = some (al 1 0, .inr (1, [.int (iZ (g 3 0 0)), .ref (al 2 0), .int (iZ (g 1 0 0))])) := ec_L0 hE
  have fL1 : en 1 1 = some (al 1 1, .inr (1, [.int (iZ (g 3 1 0)), .ref (al 2 1), .int (iZ (g 1 1 0))])) := ec_L1 hE
  have fQ : en 3 0 = some (al 3 0, aR dA (4) (fun j => some (al 9 j))) := ec_Q hE
  have fC : en 4 0 = some (al 4 0, aI dA (8) (fun j => g 2 j 0)) := ec_C hE
  refine lv_iload_n hx hb dX3_got_0 rfl (lv_at hl 1 rfl) ?_
  refine z_if_lt (tgt := 13) hx hb dX3_got_1 (by decide) (by omega) (fun c_1 => ?_) (fun c_1 => ?_)
  · exact k13
  · refine lv_iload_n hx hb dX3_got_4 rfl (lv_at hl 1 rfl) ?_
    refine lv_aload_n hx hb dX3_got_5 rfl (lv_at hl 0 rfl) ?_
    refine g_get (C := RX3) (T := TX3) (N := 14) (ci := 5) (v := .ref (al 11 0)) hx hb hts hi5 hown hK hW fX rfl 6 (by decide) (hts (.fieldLink RX3 33 "LongTransfer" "gotOctets" "[B") (by decide +kernel)) (fun _ h9 => h9) rfl dX3_got_6 ?_
    refine g_blen hx hb hg hW hS fG dX3_got_9 ?_
    refine z_icmp_lt (tgt := 23) hx hb dX3_got_10 (by decide) (by omega) (by omega) (fun c_10 => ?_) (fun c_10 => ?_)
    · exact absurd c_10 (by omega)
    · exact k13
set_option maxHeartbeats 4000000 in
set_option maxRecDepth 100000 in
theorem c_L_got0 (l : Launch) (hlt : l.stackTraces = false) (D : va_G) (dA : Nat → ClassId) (z : Nat → Nat) (q : Nat) (en : en_T) (g : St) (al : Al) (n : Int) (ao : Nat) (F : Int → Int) (hn0 : 0 ≤ n) (hn1 : n < g 1 2 0) (fO : en 70 0 = some (ao, aJ dA (1) (F))) (hE : EC dA z g al en) (hI : IB g) : Met l yL_got wsL_gotT ({ frames := 8, cells := 0, slots := 0, locals := 130 }) (gPE D dA z q en [.ref (al 0 0), .int (iZ (n)), .ref ao]) (va_Qi (fun (r : Int32) (_ : Unit) => r = iZ (0)) (fun _ t9 => Wd D (z 0) (e2 en 70 0 (some (ao, aJ dA (1) (uF (F) (0) (g 40 0 n))))) t9.heap) (fun q => z 0 ≤ q)) 0 0 (fun q => z 0 ≤ q) := by
  refine gMetW (own := RL) (cc := cL_got) (maxL := 4) (ret := (some .int)) (hh := [(0, 9, 12, 13)]) (by decide) rfl rfl (Nat.le_of_ble_eq_true rfl) ?_
  intro p e s m below meth c hx hb hml hown hts hr hlocks htab hg he9 hW ls hl
  have hK := hg.1
  have hS : va_S (fun q => z 0 ≤ q) s.heap s.heap [] := va_S.rf
  have hl : lv_has ls 4 [(0, .ref (al 0 0)), (1, .int (iZ (n))), (2, .ref ao)] := hl
  have fX := ec_X hE
  have hIg := hI.2.2.2.2.2.1
  have hIj := hI.2.2.2.2.2.2 n
  refine lv_aload_n hx hb dL_got_0 rfl (lv_at hl 2 rfl) ?_
  refine z_iconst hx hb dL_got_1 ?_
  refine lv_aload_n hx hb dL_got_2 rfl (lv_at hl 0 rfl) ?_
  refine lv_iload_n hx hb dL_got_3 rfl (lv_at hl 1 rfl) ?_
  refine va_calli (va_runV (As := [.int (iZ (n))]) (rest := [.int (iZ (0)), .ref ao]) ⟨hx, hb, hml, hown, hts⟩ (c_X3_got0 l D dA z en g al n hn0 hn1 hE hI) (cwV 1 hts gT_L_X3 rfl rfl rfl (by decide +kernel) ⟨Nat.le_of_ble_eq_true rfl, Nat.le_of_ble_eq_true rfl⟩) ⟨gBl, gRecv hK hW (ci := 5) rfl fX, gPre _ hg hS hW⟩ rfl rfl hl.1 rfl (lv_room (Nat.le_of_ble_eq_true rfl)) dL_got_4 ⟨(show 0 + 0 ≤ 0 by omega), (show 0 + 0 ≤ 0 by omega)⟩) hS (fun _ _ h => h) (fun _ h => h) (fun r9 u9 t9 H locs ht9 hvm9 hw9 hB9 hz9 hk9 hS => ?_)
  have hW : Wd D (z 0) en H := by rw [← ht9]; exact hB9
  subst hw9
  refine z_i2l hx hb (by omega) dL_got_7 ?_
  refine g_last (x := g 40 0 n) hx hb hK hW hS fO (by omega) (by omega) (by omega) dL_got_8 (fun H locs hW hS => ?_)
  have fX : (e2 en 70 0 (some (ao, aJ dA (1) (uF (F) (0) (g 40 0 n))))) 0 0 = some (al 0 0, .inr (5, [.int (iZ (g 0 0 0)), .ref (al 1 0), .ref (al 1 1), .ref (al 3 0), .ref (al 4 0), .int (iZ (g 0 5 0)), .ref (al 11 0), .long (lZ (g 0 7 0)), .int (iZ (g 0 8 0)), .int (iZ (g 0 9 0)), .int (iZ (g 0 10 0)), .int (iZ (g 0 11 0)), .int (iZ (g 0 12 0)), .int (iZ (g 0 13 0))])) := (e2_k (by decide)).trans fX
  have fO : (e2 en 70 0 (some (ao, aJ dA (1) (uF (F) (0) (g 40 0 n))))) 70 0 = some (ao, aJ dA (1) (uF (F) (0) (g 40 0 n))) := e2_s _ _ _ _
  refine lv_goto (tgt := 15) hx hb dL_got_9 (by decide) ?_
  refine z_iconst hx hb dL_got_15 ?_
  exact W.iret hx hb hr (fun t ht hw => ⟨⟨_, (), rfl, rfl, by show Wd _ _ _ t.heap; rw [ht]; exact hW⟩, hS.F ht⟩) hS.2.2 dL_got_16
set_option maxHeartbeats 4000000 in
set_option maxRecDepth 100000 in
theorem c_L_got1 (l : Launch) (hlt : l.stackTraces = false) (D : va_G) (dA : Nat → ClassId) (z : Nat → Nat) (q : Nat) (en : en_T) (g : St) (al : Al) (n : Int) (ao : Nat) (F : Int → Int) (hn : iB n) (hno : ¬ (0 ≤ n ∧ n < g 1 2 0)) (fO : en 70 0 = some (ao, aJ dA (1) (F))) (hE : EC dA z g al en) (hI : IB g) : Met l yL_got wsL_gotT ({ frames := 8, cells := 1, slots := 6, locals := 130 }) (gPE D dA z q en [.ref (al 0 0), .int (iZ (n)), .ref ao]) (va_Qi (fun (r : Int32) (_ : Unit) => r = iZ (1)) (fun _ t9 => Wd D (z 0) en t9.heap) (fun q => z 0 ≤ q)) 1 6 (fun q => z 0 ≤ q) := by
  refine gMetW (own := RL) (cc := cL_got) (maxL := 4) (ret := (some .int)) (hh := [(0, 9, 12, 13)]) (by decide) rfl rfl (Nat.le_of_ble_eq_true rfl) ?_
  intro p e s m below meth c hx hb hml hown hts hr hlocks htab hg he9 hW ls hl
  have hK := hg.1
  have hS : va_S (fun q => z 0 ≤ q) s.heap s.heap [] := va_S.rf
  have hl : lv_has ls 4 [(0, .ref (al 0 0)), (1, .int (iZ (n))), (2, .ref ao)] := hl
  have fX := ec_X hE
  have hIg := hI.2.2.2.2.2.1
  refine lv_aload_n hx hb dL_got_0 rfl (lv_at hl 2 rfl) ?_
  refine z_iconst hx hb dL_got_1 ?_
  refine lv_aload_n hx hb dL_got_2 rfl (lv_at hl 0 rfl) ?_
  refine lv_iload_n hx hb dL_got_3 rfl (lv_at hl 1 rfl) ?_
  have hC0 : s.vm.findClass RJx00060 = some (D.1 0) := classAt_find (hK.1 0 _ rfl).2
  refine w_callT (As := [.int (iZ (n))]) (rest := [.int (iZ (0)), .ref ao]) (b := al 0 0) (pe := 9) (ph := 12) (ct := 13) (nm := RJx00060) ⟨hx, hb, hml, hown, hts⟩ (c_X3_gotT l hlt D dA z q en g al n hn hno hE hI) (cwV 1 hts gT_L_X3T rfl rfl rfl (by decide +kernel) ⟨Nat.le_of_ble_eq_true rfl, Nat.le_of_ble_eq_true rfl⟩) ⟨gBlE, gRecv hK hW (ci := 5) rfl fX, gPreE _ hg he9 hS hW⟩ rfl hl.1 (Nat.le_of_ble_eq_true rfl) dL_got_4 ⟨by decide, by decide⟩ htab (by decide) (by decide) (hts _ (List.mem_cons_of_mem _ (List.mem_append_right _ List.mem_cons_self))) hC0 (fun v st x t h => h.2.2) (fun x st t hst hQ => ?_)
  obtain ⟨hW1, hF1, -⟩ := hQ
  have hS1 : va_S (fun q => z 0 ≤ q) s.heap t.heap [] := ⟨by rw [← hst]; exact hF1.1, fun q h1 h2 => by rw [← hst] at h1 ⊢; exact hF1.2 q h1 h2, fun l h => by cases h⟩
  generalize t.heap = H1 at hW1 hS1 ⊢
  refine lv_astore_n (lv' := [(3, .ref x), (0, .ref (al 0 0)), (1, .int (iZ (n))), (2, .ref ao)]) hx hb dL_got_12 rfl hl (by decide) rfl (fun ls hl => ?_)
  refine z_iconst hx hb dL_got_13 ?_
  exact W.iret hx hb hr (fun t ht hw => ⟨⟨_, (), rfl, rfl, by show Wd _ _ _ t.heap; rw [ht]; exact hW1⟩, hS1.F ht⟩) hS1.2.2 dL_got_14
