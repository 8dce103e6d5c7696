/-! what every method is given of the tables and of the statics; z 0: where the system's cells begin, z 1: NO_OCTETS, z 2: the empty list's row, z 3: the mirror of Object[] -/
def gN (z : Nat → Nat) (U : State) : Prop :=
  va_Nw (.fieldLinkNest "LongTransfer$Frame" 39 "LongTransfer" "NO_OCTETS" "[B" "LongTransfer") U ∧ va_Nw (.fieldLinkNest "LongTransfer$Receiver" 15 "LongTransfer" "NO_OCTETS" "[B" "LongTransfer") U ∧ va_Nw (.methodLinkNest "LongTransfer" 47 ⟨"LongTransfer$Receiver", "<init>", "()V"⟩ "LongTransfer") U ∧
  va_Nw (.castable "LongTransfer$Sender" "LongTransfer$Sender") U ∧ va_Nw (.castable "LongTransfer$Frame" "LongTransfer$Frame") U ∧ va_Nw (.castable "LongTransfer$Sender" "java/lang/Object") U ∧ va_Nw (.castable "LongTransfer$Frame" "java/lang/Object") U ∧ va_Nw (.castable "[B" "java/lang/Cloneable") U ∧
  va_AO "java/lang/Object" U ∧ va_AO "LongTransfer$Receiver" U ∧ va_Dc U ∧ va_Mi "[Ljava/lang/Object;" (z 3) U
theorem gN.warm {z : Nat → Nat} {s U : State} (hw : s.WarmedH U.vm) (h : gN z s) : gN z U := by
  obtain ⟨h1, h2, h3, h4, h5, h6, h7, h8, h9, h10, h11, h12⟩ := h
  exact ⟨va_Nw.warmF hw h1, va_Nw.warmF hw h2, va_Nw.warmM hw h3, va_Nw.warmC hw h4, va_Nw.warmC hw h5, va_Nw.warmC hw h6, va_Nw.warmC hw h7, va_Nw.warmC hw h8, va_AO.moved hw.alike h9, va_AO.moved hw.alike h10, va_Dc.moved hw.alike h11, va_Mi.moved hw.alike h12⟩
theorem gN.same {z : Nat → Nat} {s U : State} (hw : s.vm = U.vm) (h : gN z s) : gN z U := by
  obtain ⟨h1, h2, h3, h4, h5, h6, h7, h8, h9, h10, h11, h12⟩ := h
  have ha : s.vm.Alike U.vm := hw ▸ Vm.Alike.refl s.vm
  exact ⟨va_Nw.same rfl hw h1, va_Nw.same rfl hw h2, va_Nw.same rfl hw h3, va_Nw.same rfl hw h4, va_Nw.same rfl hw h5, va_Nw.same rfl hw h6, va_Nw.same rfl hw h7, va_Nw.same rfl hw h8, va_AO.moved ha h9, va_AO.moved ha h10, va_Dc.moved ha h11, va_Mi.moved ha h12⟩
def gZ (z : Nat → Nat) (U : State) (H : Heap) : Prop :=
  va_Z "LongTransfer" "NO_OCTETS" "[B" (.ref (z 1)) (fun q => z 0 ≤ q) U H ∧ va_T .byte (z 1) 0 (fun _ => .int 0) (fun q => z 0 ≤ q) U H ∧
  va_Z "java/util/ArrayList" "DEFAULTCAPACITY_EMPTY_ELEMENTDATA" "[Ljava/lang/Object;" (.ref (z 2)) (fun q => z 0 ≤ q) U H ∧ va_T (.object "java/lang/Object") (z 2) 0 (fun _ => .null) (fun q => z 0 ≤ q) U H
def gK (D : va_G) (dA : Nat → ClassId) (z : Nat → Nat) (U : State) : Prop := va_K D vwCl (gT dA) U ∧ z 0 ≤ U.heap.size ∧ gZ z U U.heap ∧ gN z U
theorem gZ.go {z : Nat → Nat} {s U : State} {H : Heap} (hv : s.vm.Alike U.vm) (hk : ∀ a : Nat, a < s.heap.size → ¬ z 0 ≤ a → H[a]? = s.heap[a]?) (h : gZ z s s.heap) : gZ z U H := by
  obtain ⟨h1, h2, h3, h4⟩ := h
  exact ⟨(h1.kept hk).moved hv, (h2.kept hk).moved hv, (h3.kept hk).moved hv, (h4.kept hk).moved hv⟩
theorem gK.call {D : va_G} {dA : Nat → ClassId} {z : Nat → Nat} {s U : State} {H : Heap} {locs : List Loc} (h : gK D dA z s) (hS : va_S (fun q => z 0 ≤ q) s.heap H locs) (hU : U.heap = H) (hw : s.WarmedH U.vm) : gK D dA z U := by
  obtain ⟨h1, h2, h3, h4⟩ := h
  subst hU
  exact ⟨va_K.moved hw.alike h1, Nat.le_trans h2 hS.1, gZ.go hw.alike (fun a ha hn => hS.2.1 a ha hn) h3, gN.warm hw h4⟩
def gP (D : va_G) (dA : Nat → ClassId) (z : Nat → Nat) (en : en_T) (av : List Value) : Array Value → State → Prop := va_Pc av (fun U => gK D dA z U ∧ Wd D (z 0) en U.heap)
theorem gBl {D : va_G} {dA : Nat → ClassId} {z : Nat → Nat} {en : en_T} {av : List Value} : FrameBlind (gP D dA z en av) := by
  intro a U g mk q
  obtain ⟨q0, ⟨q1, q2, q3, q4⟩, q5⟩ := q
  refine ⟨q0, ⟨va_K.moved (u := U) (U := U.calling g mk a) (Vm.Alike.refl U.vm) q1, q2, gZ.go (s := U) (U := U.calling g mk a) (Vm.Alike.refl U.vm) (fun _ _ _ => rfl) q3, gN.same (s := U) (U := U.calling g mk a) rfl q4⟩, q5⟩
theorem gPre {D : va_G} {dA : Nat → ClassId} {z : Nat → Nat} {en : en_T} {s : State} {H : Heap} {locs : List Loc} (av : List Value) (hg : gK D dA z s) (hS : va_S (fun q => z 0 ≤ q) s.heap H locs) (hW : Wd D (z 0) en H) : ∀ U : State, U.heap = H → s.WarmedH U.vm → gP D dA z en av av.toArray U := fun U hU hw => ⟨rfl, gK.call hg hS hU hw, by rw [hU]; exact hW⟩
theorem gMet {l : Launch} {y : MethodName} {own : String} {ws ws' : List Cond} {rm : Room} {Qc : Array Value → State → Outcome → State → Prop} {mc ms : Nat} {D : va_G} {dA : Nat → ClassId} {z : Nat → Nat} {en : en_T} {av : List Value} {cc : ByteArray} {maxL : Nat} {ret : Option FieldType} (hy : plainName y.cls = true) (ho : y.cls = own) (hw : ws = Cond.code y cc maxL ret :: ws') (hlen : (lg_sl av).length ≤ maxL)
    (body : ∀ (p : Program) (e : Env) (s : State) (m : MethodId) (below : List Frame) (meth : Method) (c : Code), p.tables.exec = Jvm.exec → c.code = cc → c.maxLocals = maxL → s.vm.findClass own = some m.cls → (∀ w ∈ ws, w.before av.toArray s = true) → meth.sig.returnType = ret → meth.locks = false → meth.name = y.name → gK D dA z s → Wd D (z 0) en s.heap → ∀ ls : Array Slot, lv_has ls maxL (lv_args 0 av) →
      W p l e rm s m av.toArray below meth c s.heap [] 0 0 (MQ below Qc av.toArray s mc ms (fun q => z 0 ≤ q)) (F0 m 0 ls [])) : Met l y ws rm (gP D dA z en av) Qc mc ms (fun q => z 0 ≤ q) := by
  refine Met.ofW (cc := cc) (maxL := maxL) (ret := ret) hy hw ?_
  intro p e s m args below meth c s₁ B hml hv
  obtain ⟨rfl, hg, hW⟩ := hv
  have hl := lv_entry av (n := maxL) hlen
  rw [lg_entry_eq]
  exact body p e s m below meth c B.exec B.bytes hml (by rw [← ho]; exact findClass_of_methodNamed B.named) (atoms_spec (ws := ws) B.pre) B.returns B.notSynchronized (name_of_methodNamed B.named B.method).1 hg hW _ hl
theorem gRecv {s : State} {H : Heap} {D : va_G} {dA : Nat → ClassId} {B0 a ci k : Nat} {i : Int} {r : vw_C} {fs : List Value} {en : en_T} (hK : va_K D vwCl (gT dA) s) (hW : Wd D B0 en H) (hc : vwCl[ci]? = some r) (he : en k i = some (a, .inr (ci, fs))) : ∃ cell : Cell, H[a]? = some cell ∧ cell.vm.isStatics = false ∧ s.vm.findClass r.1 = some cell.cls := by
  obtain ⟨ws, hP, hD, hm, hi⟩ := hW
  obtain ⟨q0, h0⟩ := hm k i _ he
  exact va_recv hK hP hc h0
theorem gLen0 {p : Program} {l : Launch} {e : Env} {R : Room} {s : State} {m : MethodId} {args : Array Value} {below : List Frame} {meth : Method} {c : Code} {H : Heap} {locs : List Loc} {cells slots : Nat} {Q : State → Prop} {cc : ByteArray} {pc : Nat} {ls : Array Slot} {rest : List Value} {D : va_G} {dA : Nat → ClassId} {z : Nat → Nat} (hx : p.tables.exec = Jvm.exec) (hb : c.code = cc) (hg : gK D dA z s) (hS : va_S (fun q => z 0 ≤ q) s.heap H locs) (hdg : decode cc pc = .ok (.arraylength, 1)) (k : W p l e R s m args below meth c H locs cells slots Q (F0 m (pc + 1) ls (.int (iZ 0) :: rest))) : W p l e R s m args below meth c H locs cells slots Q (F0 m pc ls (.ref (z 1) :: rest)) := va_tlen hx hb hg.2.2.1.2.1 hS (v := iZ 0) rfl hdg k
/-! a row of bytes that may be NO_OCTETS -/
def bA (dA : Nat → ClassId) (z : Nat → Nat) (en : en_T) (k : Nat) (i : Int) (ob : Nat) (n : Int) (F : Int → Int) : Prop := (ob = z 1 ∧ n = 0) ∨ (0 ≤ n ∧ en k i = some (ob, aB dA n F))
theorem bA_e {dA : Nat → ClassId} {z : Nat → Nat} {en en' : en_T} {k : Nat} {i : Int} {ob : Nat} {n : Int} {F : Int → Int} (h : en' k i = en k i) (hb : bA dA z en k i ob n F) : bA dA z en' k i ob n F := hb.elim Or.inl (fun q => Or.inr ⟨q.1, h.trans q.2⟩)
theorem bA_k {dA : Nat → ClassId} {z : Nat → Nat} {en : en_T} {k k' : Nat} {i i' : Int} {ob : Nat} {n : Int} {F : Int → Int} {q : Option (Nat × va_E)} (h : k' ≠ k) (hb : bA dA z en k' i' ob n F) : bA dA z (e2 en k i q) k' i' ob n F := bA_e (e2_k h) hb
theorem bA_r {dA : Nat → ClassId} {z : Nat → Nat} {en : en_T} {k k' : Nat} {i i' : Int} {ob : Nat} {n : Int} {F : Int → Int} {q q' : Option (Nat × va_E)} (h : k' ≠ k) (hb : bA dA z (e2 en k i q) k' i' ob n F) : bA dA z (e2 en k i q') k' i' ob n F := bA_e ((e2_k h).trans (e2_k h).symm) hb
theorem bA_n {dA : Nat → ClassId} {z : Nat → Nat} {en : en_T} {k : Nat} {i : Int} {ob : Nat} {n : Int} {F : Int → Int} (hb : bA dA z en k i ob n F) : 0 ≤ n := by
  rcases hb with ⟨-, h⟩ | ⟨h, -⟩ <;> omega
theorem nz_z {v : Int} (h : v = 0 ∨ v = 1) : narrow .boolean (.int (iZ v)) = .int (iZ v) := by rcases h with rfl | rfl <;> decide
theorem ft_z {v : Int} (h : v = 0 ∨ v = 1) : fits .boolean (.int (iZ v)) = true := by rcases h with rfl | rfl <;> decide
theorem nz_b {v : Int} (h : -128 ≤ v ∧ v ≤ 127) : narrow .byte (.int (iZ v)) = .int (iZ v) := by
  have := nar_b h
  unfold vp_nar at this
  revert this
  cases hq : narrow .byte (.int (iZ v)) <;> simp [narrow] at hq ⊢
  all_goals (intro this; simp_all)
section MR
variable {p : Program} {l : Launch} {e : Env} {R : Room} {s : State} {m : MethodId} {args : Array Value} {below : List Frame} {meth : Method} {c : Code} {H : Heap} {locs : List Loc} {cells slots : Nat} {Q : State → Prop}
variable {cc : ByteArray} {pc : Nat} {ls : Array Slot} {rest : List Value} {D : va_G} {dA : Nat → ClassId} {z : Nat → Nat} {en : en_T}
theorem g_blen (hx : p.tables.exec = Jvm.exec) (hb : c.code = cc) (hg : gK D dA z s) (hW : Wd D (z 0) en H) (hS : va_S (fun q => z 0 ≤ q) s.heap H locs) {k : Nat} {i : Int} {ob : Nat} {n : Int} {F : Int → Int} (h : bA dA z en k i ob n F) (hdg : decode cc pc = .ok (.arraylength, 1)) (kk : W p l e R s m args below meth c H locs cells slots Q (F0 m (pc + 1) ls (.int (iZ n) :: rest))) : W p l e R s m args below meth c H locs cells slots Q (F0 m pc ls (.ref ob :: rest)) := by
  rcases h with ⟨rfl, rfl⟩ | ⟨h0, h⟩
  · exact gLen0 hx hb hg hS hdg kk
  · exact g_len_aB hx hb hg.1 hW h h0 hdg kk
theorem z_mmin (hx : p.tables.exec = Jvm.exec) (hb : c.code = cc) (hml : c.maxLocals = ls.size) {own : String} {index : Nat} (hown : s.vm.findClass own = some m.cls) (hlink : (Cond.methodLink own index Lib.Math.min.name).before args s = true) (hstat : (Cond.static Lib.Math.min.name).before args s = true) (hini : (Cond.initialized "java/lang/Math").before args s = true) (hcode : (Cond.code Lib.Math.min.name Lib.Math.min.code 2 (some .int)).before args s = true)
    (hframes : 1 ≤ R.frames) (hlocals : (rest.map fun v => v.category).sum + 13 ≤ R.locals) (hc : cells ≤ R.cells) (hs : slots ≤ R.slots) {a b : Int} (hdg : decode cc pc = .ok (.invokestatic index, 3)) (ha : iB a) (hb2 : iB b)
    (kk : W p l e R s m args below meth c H locs cells slots Q (F0 m (pc + 3) ls (.int (iZ (min a b)) :: rest))) : W p l e R s m args below meth c H locs cells slots Q (F0 m pc ls (.int (iZ b) :: .int (iZ a) :: rest)) := by
  refine va_mmin hx hb hml hown hlink hstat hini hcode hframes hlocals hc hs hdg ?_
  have h : (if iZ b < iZ a then iZ b else iZ a) = iZ (min a b) := by
    by_cases q : b < a
    · rw [if_pos ((iZ_lt hb2 ha).mpr q), Int.min_eq_right (by omega)]
    · rw [if_neg (fun w => q ((iZ_lt hb2 ha).mp w)), Int.min_eq_left (by omega)]
  rw [h]
  exact kk
theorem z_mmax (hx : p.tables.exec = Jvm.exec) (hb : c.code = cc) (hml : c.maxLocals = ls.size) {own : String} {index : Nat} (hown : s.vm.findClass own = some m.cls) (hlink : (Cond.methodLink own index Lib.Math.max.name).before args s = true) (hstat : (Cond.static Lib.Math.max.name).before args s = true) (hini : (Cond.initialized "java/lang/Math").before args s = true) (hcode : (Cond.code Lib.Math.max.name Lib.Math.max.code 2 (some .int)).before args s = true)
    (hframes : 1 ≤ R.frames) (hlocals : (rest.map fun v => v.category).sum + 13 ≤ R.locals) (hc : cells ≤ R.cells) (hs : slots ≤ R.slots) {a b : Int} (hdg : decode cc pc = .ok (.invokestatic index, 3)) (ha : iB a) (hb2 : iB b)
    (kk : W p l e R s m args below meth c H locs cells slots Q (F0 m (pc + 3) ls (.int (iZ (max a b)) :: rest))) : W p l e R s m args below meth c H locs cells slots Q (F0 m pc ls (.int (iZ b) :: .int (iZ a) :: rest)) := by
  refine va_mmax hx hb hml hown hlink hstat hini hcode hframes hlocals hc hs hdg ?_
  have h : (if iZ a < iZ b then iZ b else iZ a) = iZ (max a b) := by
    by_cases q : a < b
    · rw [if_pos ((iZ_lt ha hb2).mpr q), Int.max_eq_right (by omega)]
    · rw [if_neg (fun w => q ((iZ_lt ha hb2).mp w)), Int.max_eq_left (by omega)]
  rw [h]
  exact kk
theorem z_mminl (hx : p.tables.exec = Jvm.exec) (hb : c.code = cc) (hml : c.maxLocals = ls.size) {own : String} {index : Nat} (hown : s.vm.findClass own = some m.cls) (hlink : (Cond.methodLink own index Lib.MathLoose.min_long.x).before args s = true) (hstat : (Cond.static Lib.MathLoose.min_long.x).before args s = true) (hini : (Cond.initialized "java/lang/Math").before args s = true) (hcode : (Cond.code Lib.MathLoose.min_long.x Lib.MathLoose.min_long.code 4 (some .long)).before args s = true)
    (hframes : 1 ≤ R.frames) (hlocals : (rest.map fun v => v.category).sum + 15 ≤ R.locals) (hc : cells ≤ R.cells) (hs : slots ≤ R.slots) {a b : Int} (hdg : decode cc pc = .ok (.invokestatic index, 3)) (ha : lB a) (hb2 : lB b)
    (kk : W p l e R s m args below meth c H locs cells slots Q (F0 m (pc + 3) ls (.long (lZ (min a b)) :: rest))) : W p l e R s m args below meth c H locs cells slots Q (F0 m pc ls (.long (lZ b) :: .long (lZ a) :: rest)) := by
  refine va_mmin_long hx hb hml hown hlink hstat hini hcode hframes hlocals hc hs hdg ?_
  have h : (if lZ b < lZ a then lZ b else lZ a) = lZ (min a b) := by
    by_cases q : b < a
    · rw [if_pos ((lZ_lt hb2 ha).mpr q), Int.min_eq_right (by omega)]
    · rw [if_neg (fun w => q ((lZ_lt hb2 ha).mp w)), Int.min_eq_left (by omega)]
  rw [h]
  exact kk
end MR
