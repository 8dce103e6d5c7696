/-! copies of rows -/
def cpF {α : Type} (F G : Int → α) (sp dp n : Int) : Int → α := fun j => if dp ≤ j ∧ j < dp + n then F (sp + (j - dp)) else G j
theorem cp_i {F G : Int → Int} {sp dp n : Int} (h1 : 0 ≤ sp) (h2 : 0 ≤ dp) (h3 : 0 ≤ n) : va_cpy (fun j : Nat => iZ (F j)) (fun j : Nat => iZ (G j)) sp.toNat dp.toNat n.toNat = fun j : Nat => iZ (cpF F G sp dp n j) := by
  funext j
  unfold va_cpy cpF
  by_cases h : dp.toNat ≤ j ∧ j < dp.toNat + n.toNat
  · rw [if_pos h, if_pos (by omega)]
    exact congrArg (fun q => iZ (F q)) (by omega : ((sp.toNat + (j - dp.toNat) : Nat) : Int) = sp + ((j : Int) - dp))
  · rw [if_neg h, if_neg (by omega)]
theorem cp_q {F G : Int → Option Nat} {sp dp n : Int} (h1 : 0 ≤ sp) (h2 : 0 ≤ dp) (h3 : 0 ≤ n) : va_cpy (fun j : Nat => F j) (fun j : Nat => G j) sp.toNat dp.toNat n.toNat = fun j : Nat => cpF F G sp dp n j := by
  funext j
  unfold va_cpy cpF
  by_cases h : dp.toNat ≤ j ∧ j < dp.toNat + n.toNat
  · rw [if_pos h, if_pos (by omega)]
    exact congrArg F (by omega : ((sp.toNat + (j - dp.toNat) : Nat) : Int) = sp + ((j : Int) - dp))
  · rw [if_neg h, if_neg (by omega)]
theorem ft_b {v : Int} (h : -128 ≤ v ∧ v ≤ 127) : fits .byte (.int (iZ v)) = true := by
  have := pk_fb (iZ v)
  rw [iZ_b8 h] at this
  exact this
theorem nf_w : nativeFrameWords "java/lang/System" "arraycopy" 5 + 11 = 18 := by decide
section CR
variable {p : Program} {l : Launch} {e : Env} {R : Room} {s : State} {m : MethodId} {args : Array Value} {below : List Frame} {meth : Method} {c : Code} {H : Heap} {locs : List Loc} {cells slots : Nat} {Q : State → Prop}
variable {cc : ByteArray} {pc : Nat} {ls : Array Slot} {rest : List Value} {D : va_G} {dA : Nat → ClassId} {B0 a : Nat} {en : en_T} {H0 : Heap} {kn : Nat} {ki : Int}
theorem g_copyB (hx : p.tables.exec = Jvm.exec) (hb : c.code = cc) (hml : c.maxLocals = ls.size) {own : String} {index : Nat} (hown : s.vm.findClass own = some m.cls) (hlink : (Cond.methodLink own index arraycopyName).before args s = true) (hnat : (Cond.native arraycopyName).before args s = true) (hstat : (Cond.static arraycopyName).before args s = true) (hini : (Cond.initialized "java/lang/System").before args s = true)
    (hK : va_K D vwCl (gT dA) s) (hW : Wd D B0 en H) (hS : va_S (fun q => B0 ≤ q) H0 H locs) {ks a0 : Nat} {is n0 n1 : Int} {F G : Int → Int} (he0 : en ks is = some (a0, aB dA n0 F)) (he1 : en kn ki = some (a, aB dA n1 G)) {sp dp n : Int} (h1 : 0 ≤ sp) (h2 : 0 ≤ dp) (h3 : 0 ≤ n) (h4 : sp + n ≤ n0) (h5 : dp + n ≤ n1) (b0 : iB n0) (b1 : iB n1) (hF : ∀ j : Int, -128 ≤ F j ∧ F j ≤ 127)
    (hframes : 1 ≤ R.frames) (hlocals : (rest.map fun v => v.category).sum + 18 ≤ R.locals) (hdg : decode cc pc = .ok (.invokestatic index, 3))
    (kk : ∀ (H1 : Heap) (locs1 : List Loc), Wd D B0 (e2 en kn ki (some (a, aB dA n1 (cpF F G sp dp n)))) H1 → va_S (fun q => B0 ≤ q) H0 H1 locs1 → W p l e R s m args below meth c H1 locs1 cells slots Q (F0 m (pc + 3) ls rest)) : W p l e R s m args below meth c H locs cells slots Q (F0 m pc ls (.int (iZ n) :: .int (iZ dp) :: .ref a :: .int (iZ sp) :: .ref a0 :: rest)) := by
  obtain ⟨ws, hP, hD, hm, hi⟩ := hW
  obtain ⟨q0, g0⟩ := hm ks is _ he0
  obtain ⟨q1, g1⟩ := hm kn ki _ he1
  have c1 : iB sp := by omega
  have c2 : iB dp := by omega
  have c3 : iB n := by omega
  refine va_copyi hx hb hml hown hlink hnat hstat hini hK hP hD hS q0 q1 0 0 (ty := .byte) g0 g1 rfl rfl rfl (by rw [← iZ_0, iZ_lt c1 iB_0]; omega) (by rw [← iZ_0, iZ_lt c2 iB_0]; omega) (by rw [← iZ_0, iZ_lt c3 iB_0]; omega) (by rw [iZ_cl c1, iZ_cl c3]; omega) (by rw [iZ_cl c2, iZ_cl c3]; omega) (fun i _ => ft_b (hF _)) hframes (by rw [nf_w]; exact hlocals) hdg (fun H1 locs1 hP1 hD1 hS1 => ?_)
  rw [iZ_cl c1, iZ_cl c2, iZ_cl c3, cp_i h1 h2 h3] at hP1 hD1
  exact kk H1 locs1 (Wd.set hm hi he1 g1 hP1 hD1) hS1
theorem g_copyO (hx : p.tables.exec = Jvm.exec) (hb : c.code = cc) (hml : c.maxLocals = ls.size) {own : String} {index : Nat} (hown : s.vm.findClass own = some m.cls) (hlink : (Cond.methodLink own index arraycopyName).before args s = true) (hnat : (Cond.native arraycopyName).before args s = true) (hstat : (Cond.static arraycopyName).before args s = true) (hini : (Cond.initialized "java/lang/System").before args s = true)
    (hK : va_K D vwCl (gT dA) s) (hc2 : va_Nw (.castable "LongTransfer$Frame" "java/lang/Object") s) (hc4 : va_Nw (.castable "LongTransfer$Sender" "java/lang/Object") s) (hW : Wd D B0 en H) (hS : va_S (fun q => B0 ≤ q) H0 H locs) {ks a0 : Nat} {is n0 n1 : Int} {F G : Int → Option Nat} (he0 : en ks is = some (a0, aO dA n0 F)) (he1 : en kn ki = some (a, aO dA n1 G)) {sp dp n : Int} (h1 : 0 ≤ sp) (h2 : 0 ≤ dp) (h3 : 0 ≤ n) (h4 : sp + n ≤ n0) (h5 : dp + n ≤ n1) (b0 : iB n0) (b1 : iB n1) (hF : ∀ (j : Int) (y : Nat), F j = some y → ∃ (k : Nat) (i : Int) (ci : Nat) (fs : List Value), en k i = some (y, .inr (ci, fs)) ∧ (ci = 2 ∨ ci = 4))
    (hframes : 1 ≤ R.frames) (hlocals : (rest.map fun v => v.category).sum + 18 ≤ R.locals) (hdg : decode cc pc = .ok (.invokestatic index, 3))
    (kk : ∀ (H1 : Heap) (locs1 : List Loc), Wd D B0 (e2 en kn ki (some (a, aO dA n1 (cpF F G sp dp n)))) H1 → va_S (fun q => B0 ≤ q) H0 H1 locs1 → W p l e R s m args below meth c H1 locs1 cells slots Q (F0 m (pc + 3) ls rest)) : W p l e R s m args below meth c H locs cells slots Q (F0 m pc ls (.int (iZ n) :: .int (iZ dp) :: .ref a :: .int (iZ sp) :: .ref a0 :: rest)) := by
  obtain ⟨ws, hP, hD, hm, hi⟩ := hW
  obtain ⟨q0, g0⟩ := hm ks is _ he0
  obtain ⟨q1, g1⟩ := hm kn ki _ he1
  have c1 : iB sp := by omega
  have c2 : iB dp := by omega
  have c3 : iB n := by omega
  have hel : ∀ i : Nat, i < (iZ n).toNatClampNeg → ∀ y : Nat, (fun j : Nat => F j) ((iZ sp).toNatClampNeg + i) = some y → va_Any "java/lang/Object" s H y := by
    intro i _ y hy
    obtain ⟨k, i', ci, fs, hk, hc⟩ := hF _ y hy
    obtain ⟨qk, gk⟩ := hm k i' _ hk
    rcases hc with rfl | rfl
    · exact va_rAny hK hP gk (r := (RX0, TX0, 8)) rfl (fun comp c0 z1 z2 => vb_asgC hc2 comp c0 z1 z2)
    · exact va_rAny hK hP gk (r := (RX2, TX2, 9)) rfl (fun comp c0 z1 z2 => vb_asgC hc4 comp c0 z1 z2)
  refine va_copyM hx hb hml hown hlink hnat hstat hini hK hP hD hS q0 q1 4 4 (E0 := "java/lang/Object") (E1 := "java/lang/Object") g0 g1 rfl rfl (by rw [← iZ_0, iZ_lt c1 iB_0]; omega) (by rw [← iZ_0, iZ_lt c2 iB_0]; omega) (by rw [← iZ_0, iZ_lt c3 iB_0]; omega) (by rw [iZ_cl c1, iZ_cl c3]; omega) (by rw [iZ_cl c2, iZ_cl c3]; omega) hel hframes (by rw [nf_w]; exact hlocals) hdg (fun H1 locs1 hP1 hD1 hS1 => ?_)
  rw [iZ_cl c1, iZ_cl c2, iZ_cl c3, cp_q h1 h2 h3] at hP1 hD1
  exact kk H1 locs1 (Wd.set hm hi he1 g1 hP1 hD1) hS1
theorem g_cloneB (hx : p.tables.exec = Jvm.exec) (hb : c.code = cc) (hml : c.maxLocals = ls.size) {own : String} {index : Nat} (hown : s.vm.findClass own = some m.cls)
    (hlink : (Cond.methodLink own index ⟨"[B", "clone", "()Ljava/lang/Object;"⟩).before args s = true) (hsame : (Cond.sameMethod "[B" "java/lang/Object" "clone" "()Ljava/lang/Object;").before args s = true)
    (hnat : (Cond.native ⟨"java/lang/Object", "clone", "()Ljava/lang/Object;"⟩).before args s = true) (hinst : (Cond.instanceMethod ⟨"java/lang/Object", "clone", "()Ljava/lang/Object;"⟩).before args s = true)
    (hsel : (Cond.selects "[B" ⟨"[B", "clone", "()Ljava/lang/Object;"⟩ ⟨"java/lang/Object", "clone", "()Ljava/lang/Object;"⟩).before args s = true) (hcl : va_Nw (.castable "[B" "java/lang/Cloneable") s)
    (hK : va_K D vwCl (gT dA) s) (hW : Wd D B0 en H) (hS : va_S (fun q => B0 ≤ q) H0 H locs) (hA : B0 ≤ H0.size) {n : Int} {F : Int → Int} (he : en kn ki = some (a, aB dA n F)) (hF : ∀ j : Int, -128 ≤ F j ∧ F j ≤ 127)
    (hframes : 1 ≤ R.frames) (hlocals : (rest.map fun v => v.category).sum + 14 ≤ R.locals) (hcells : cells + 1 ≤ R.cells) (hslots : slots + n.toNat ≤ R.slots) (hdg : decode cc pc = .ok (.invokevirtual index, 3)) (k2 : Nat) (i2 : Int)
    (kk : ∀ (q : Nat) (H1 : Heap), Wd D B0 (e2 en k2 i2 (some (q, aB dA n F))) H1 → va_S (fun q => B0 ≤ q) H0 H1 locs → W p l e R s m args below meth c H1 locs (cells + 1) (slots + n.toNat) Q (F0 m (pc + 3) ls (.ref q :: rest))) : W p l e R s m args below meth c H locs cells slots Q (F0 m pc ls (.ref a :: rest)) := by
  obtain ⟨ws, hP, hD, hm, hi⟩ := hW
  obtain ⟨q0, g0⟩ := hm kn ki _ he
  have hfit : ∀ (i : Nat) (v : Value), (vp_cell (dA 0) (n.toNat, .inl (fun j : Nat => iZ (F j)))).slots[i]? = some v → fits .byte v = true := by
    intro i v hv
    have hlt : i < n.toNat := by
      have h1 := (Array.getElem?_eq_some_iff.mp hv).1
      rw [vp_cell_i, arrV_size] at h1
      exact h1
    rw [vp_cell_i, arrV_read _ _ hlt] at hv
    cases hv
    exact ft_b (hF _)
  exact va_clone hx hb hml hown hlink hsame hnat hinst hsel hcl hK hP hD hS (fun q h => Nat.le_trans hA h) q0 0 g0 rfl (hK.2 0 (dA 0, .byte) rfl).2 hfit hframes hlocals hcells hslots hdg (fun q H1 _ hP1 hD1 hS1 => kk q H1 (Wd.push hm hi k2 i2 hP1 hD1) hS1)
theorem g_castB (hx : p.tables.exec = Jvm.exec) (hb : c.code = cc) {own : String} {index : Nat} (hown : s.vm.findClass own = some m.cls) (hlink : (Cond.classLink own index "[B").before args s = true) (hK : va_K D vwCl (gT dA) s) (hW : Wd D B0 en H) {n : Int} {F : Int → Int} (he : en kn ki = some (a, aB dA n F)) (hdg : decode cc pc = .ok (.checkcast index, 3)) (k : W p l e R s m args below meth c H locs cells slots Q (F0 m (pc + 3) ls (.ref a :: rest))) : W p l e R s m args below meth c H locs cells slots Q (F0 m pc ls (.ref a :: rest)) := by
  obtain ⟨ws, hP, hD, hm, hi⟩ := hW
  obtain ⟨q0, g0⟩ := hm kn ki _ he
  exact va_castA hx hb hown hlink hP q0 g0 (hK.2 0 (dA 0, .byte) rfl).2 hdg k
theorem g_castS (hx : p.tables.exec = Jvm.exec) (hb : c.code = cc) {own nm : String} {index ci : Nat} {T : u_T} {N : Nat} {fs : List Value} (hown : s.vm.findClass own = some m.cls) (hlink : (Cond.classLink own index nm).before args s = true) (hK : va_K D vwCl (gT dA) s) (hW : Wd D B0 en H) (hc : vwCl[ci]? = some (nm, T, N)) (he : en kn ki = some (a, .inr (ci, fs))) (hdg : decode cc pc = .ok (.checkcast index, 3)) (k : W p l e R s m args below meth c H locs cells slots Q (F0 m (pc + 3) ls (.ref a :: rest))) : W p l e R s m args below meth c H locs cells slots Q (F0 m pc ls (.ref a :: rest)) := va_castS hx hb hown hlink (hK.1 ci _ hc).2 (gRecv hK hW hc he) hdg k
end CR
