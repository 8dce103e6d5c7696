/-! numbers: an int and a long by the whole number that it stands for -/
def iZ (a : Int) : Int32 := Int32.ofInt a
def lZ (a : Int) : Int64 := Int64.ofInt a
abbrev iB (a : Int) : Prop := -2147483648 ≤ a ∧ a ≤ 2147483647
abbrev lB (a : Int) : Prop := -9223372036854775808 ≤ a ∧ a ≤ 9223372036854775807
theorem iZ_T {a : Int} (h : iB a) : (iZ a).toInt = a := Int32.toInt_ofInt_of_le h.1 (by have := h.2; omega)
theorem lZ_T {a : Int} (h : lB a) : (lZ a).toInt = a := Int64.toInt_ofInt_of_le h.1 (by have := h.2; omega)
theorem iZ_of (x : Int32) : iZ x.toInt = x := Int32.ofInt_toInt x
theorem lZ_of (x : Int64) : lZ x.toInt = x := Int64.ofInt_toInt x
theorem iB_of (x : Int32) : iB x.toInt := ⟨Int32.le_toInt x, by have := Int32.toInt_lt x; omega⟩
theorem lB_of (x : Int64) : lB x.toInt := ⟨Int64.le_toInt x, by have := Int64.toInt_lt x; omega⟩
theorem iZ_add (a b : Int) : iZ a + iZ b = iZ (a + b) := (Int32.ofInt_add a b).symm
theorem iZ_sub (a b : Int) : iZ a - iZ b = iZ (a - b) := (Int32.ofInt_sub a b).symm
theorem iZ_mul (a b : Int) : iZ a * iZ b = iZ (a * b) := (Int32.ofInt_mul a b).symm
theorem lZ_add (a b : Int) : lZ a + lZ b = lZ (a + b) := (Int64.ofInt_add a b).symm
theorem lZ_sub (a b : Int) : lZ a - lZ b = lZ (a - b) := (Int64.ofInt_sub a b).symm
theorem iZ_lt {a b : Int} (ha : iB a) (hb : iB b) : iZ a < iZ b ↔ a < b := by rw [Int32.lt_iff_toInt_lt, iZ_T ha, iZ_T hb]
theorem iZ_le {a b : Int} (ha : iB a) (hb : iB b) : iZ a ≤ iZ b ↔ a ≤ b := by rw [Int32.le_iff_toInt_le, iZ_T ha, iZ_T hb]
theorem iZ_eq {a b : Int} (ha : iB a) (hb : iB b) : iZ a = iZ b ↔ a = b := by rw [← Int32.toInt_inj, iZ_T ha, iZ_T hb]
theorem lZ_lt {a b : Int} (ha : lB a) (hb : lB b) : lZ a < lZ b ↔ a < b := by rw [Int64.lt_iff_toInt_lt, lZ_T ha, lZ_T hb]
theorem lZ_le {a b : Int} (ha : lB a) (hb : lB b) : lZ a ≤ lZ b ↔ a ≤ b := by rw [Int64.le_iff_toInt_le, lZ_T ha, lZ_T hb]
theorem lZ_eq {a b : Int} (ha : lB a) (hb : lB b) : lZ a = lZ b ↔ a = b := by rw [← Int64.toInt_inj, lZ_T ha, lZ_T hb]
theorem iZ_0 : iZ 0 = 0 := rfl
theorem iB_0 : iB 0 := ⟨by omega, by omega⟩
theorem iZ_cl {a : Int} (h : iB a) : (iZ a).toNatClampNeg = a.toNat := by
  show (iZ a).toInt.toNat = a.toNat
  rw [iZ_T h]
theorem iZ_l {a : Int} (h : iB a) : (iZ a).toInt64 = lZ a := by
  apply Int64.toInt_inj.mp
  rw [Int32.toInt_toInt64, iZ_T h, lZ_T ⟨by have := h.1; omega, by have := h.2; omega⟩]
theorem lZ_i (a : Int) : (lZ a).toInt32 = iZ a := Int64.toInt32_ofInt
theorem iZ_nat (n : Nat) : Int32.ofNat n = iZ (n : Int) := Int32.ofInt_eq_ofNat.symm
theorem iZ_in {a : Int} {n : Nat} (h0 : 0 ≤ a) (h1 : a < n) (hn : n < 2147483648) : vp_in (iZ a) n := by
  rw [vp_in_iff, iZ_T ⟨by omega, by omega⟩]
  omega
theorem iZ_rem {a b : Int} (h0 : 0 ≤ a) (ha : iB a) (hp : 0 < b) (hb : iB b) : iZ a - iZ a / iZ b * iZ b = iZ (a % b) := by
  have hb1 : iZ b ≠ -1 := by
    intro q
    have := congrArg Int32.toInt q
    rw [iZ_T hb] at this
    have h2 : (-1 : Int32).toInt = -1 := by decide
    omega
  have hd : iZ a / iZ b = iZ (a / b) := by
    apply Int32.toInt_inj.mp
    rw [Int32.toInt_div_of_ne_right _ _ hb1, iZ_T ha, iZ_T hb, Int.tdiv_eq_ediv_of_nonneg h0, iZ_T]
    have h3 := Int.ediv_nonneg h0 (Int.le_of_lt hp)
    have h4 : a / b ≤ a := Int.ediv_le_self b h0
    have h5 := ha.2
    exact ⟨by omega, by omega⟩
  rw [hd, iZ_mul, iZ_sub]
  congr 1
  have := Int.emod_add_mul_ediv a b
  have h6 : b * (a / b) = a / b * b := Int.mul_comm _ _
  omega
theorem iZ_b8 {a : Int} (h : -128 ≤ a ∧ a ≤ 127) : (iZ a).toInt8.toInt32 = iZ a := by
  apply Int32.toInt_inj.mp
  rw [Int8.toInt_toInt32, iZ_T ⟨by omega, by omega⟩]
  show (Int32.ofInt a).toInt8.toInt = a
  rw [Int32.toInt8_ofInt]
  exact Int8.toInt_ofInt_of_le (by omega) (by omega)

section ZR
variable {p : Program} {l : Launch} {e : Env} {R : Room} {s : State} {m : MethodId} {args : Array Value} {below : List Frame} {meth : Method} {c : Code} {H : Heap} {locs : List Loc} {cells slots : Nat} {Q : State → Prop}
variable {cc : ByteArray} {pc : Nat} {ls : Array Slot} {rest : List Value}
theorem z_iconst (hx : p.tables.exec = Jvm.exec) (hb : c.code = cc) {a : Int} (hdg : decode cc pc = .ok (.iconst a, 1)) (k : W p l e R s m args below meth c H locs cells slots Q (F0 m (pc + 1) ls (.int (iZ a) :: rest))) : W p l e R s m args below meth c H locs cells slots Q (F0 m pc ls (rest)) := lv_iconst hx hb hdg rfl k
theorem z_bipush (hx : p.tables.exec = Jvm.exec) (hb : c.code = cc) {a : Int} (hdg : decode cc pc = .ok (.bipush a, 2)) (hv : (Int8.ofInt a).toInt32 = iZ a) (k : W p l e R s m args below meth c H locs cells slots Q (F0 m (pc + 2) ls (.int (iZ a) :: rest))) : W p l e R s m args below meth c H locs cells slots Q (F0 m pc ls (rest)) := lv_bipush hx hb hdg hv k
theorem z_sipush (hx : p.tables.exec = Jvm.exec) (hb : c.code = cc) {a : Int} (hdg : decode cc pc = .ok (.sipush a, 3)) (hv : (Int16.ofInt a).toInt32 = iZ a) (k : W p l e R s m args below meth c H locs cells slots Q (F0 m (pc + 3) ls (.int (iZ a) :: rest))) : W p l e R s m args below meth c H locs cells slots Q (F0 m pc ls (rest)) := lv_sipush hx hb hdg hv k
theorem z_lconst (hx : p.tables.exec = Jvm.exec) (hb : c.code = cc) {n : Fin 2} (a : Int) (hdg : decode cc pc = .ok (.lconst n, 1)) (hv : Int64.ofNat (n : Nat) = lZ a) (k : W p l e R s m args below meth c H locs cells slots Q (F0 m (pc + 1) ls (.long (lZ a) :: rest))) : W p l e R s m args below meth c H locs cells slots Q (F0 m pc ls (rest)) := lv_lconst hx hb hdg hv k
theorem z_ldc (hx : p.tables.exec = Jvm.exec) (hb : c.code = cc) {own : String} {index : Nat} {v : Int32} (a : Int) (hown : s.vm.findClass own = some m.cls) (hconst : (Jvm.Cond.constant own index v).before args s = true) (hv : v = iZ a) (hdg : decode cc pc = .ok (.ldc index, 2)) (k : W p l e R s m args below meth c H locs cells slots Q (F0 m (pc + 2) ls (.int (iZ a) :: rest))) : W p l e R s m args below meth c H locs cells slots Q (F0 m pc ls (rest)) := lv_ldc hx hb hown hconst hdg (hv ▸ k)
theorem z_ldc2 (hx : p.tables.exec = Jvm.exec) (hb : c.code = cc) {own : String} {index : Nat} {v : Int64} (a : Int) (hown : s.vm.findClass own = some m.cls) (hconst : (Jvm.Cond.constantLong own index v).before args s = true) (hv : v = lZ a) (hdg : decode cc pc = .ok (.ldc2_w index, 3)) (k : W p l e R s m args below meth c H locs cells slots Q (F0 m (pc + 3) ls (.long (lZ a) :: rest))) : W p l e R s m args below meth c H locs cells slots Q (F0 m pc ls (rest)) := lv_ldc2 hx hb hown hconst hdg (hv ▸ k)
theorem z_iadd (hx : p.tables.exec = Jvm.exec) (hb : c.code = cc) {a b : Int} (hdg : decode cc pc = .ok (.iadd, 1)) (k : W p l e R s m args below meth c H locs cells slots Q (F0 m (pc + 1) ls (.int (iZ (a + b)) :: rest))) : W p l e R s m args below meth c H locs cells slots Q (F0 m pc ls (.int (iZ b) :: .int (iZ a) :: rest)) := lv_iadd hx hb hdg (by rw [iZ_add]; exact k)
theorem z_isub (hx : p.tables.exec = Jvm.exec) (hb : c.code = cc) {a b : Int} (hdg : decode cc pc = .ok (.isub, 1)) (k : W p l e R s m args below meth c H locs cells slots Q (F0 m (pc + 1) ls (.int (iZ (a - b)) :: rest))) : W p l e R s m args below meth c H locs cells slots Q (F0 m pc ls (.int (iZ b) :: .int (iZ a) :: rest)) := lv_isub hx hb hdg (by rw [iZ_sub]; exact k)
theorem z_imul (hx : p.tables.exec = Jvm.exec) (hb : c.code = cc) {a b : Int} (hdg : decode cc pc = .ok (.imul, 1)) (k : W p l e R s m args below meth c H locs cells slots Q (F0 m (pc + 1) ls (.int (iZ (a * b)) :: rest))) : W p l e R s m args below meth c H locs cells slots Q (F0 m pc ls (.int (iZ b) :: .int (iZ a) :: rest)) := lv_imul hx hb hdg (by rw [iZ_mul]; exact k)
theorem z_ladd (hx : p.tables.exec = Jvm.exec) (hb : c.code = cc) {a b : Int} (hdg : decode cc pc = .ok (.ladd, 1)) (k : W p l e R s m args below meth c H locs cells slots Q (F0 m (pc + 1) ls (.long (lZ (a + b)) :: rest))) : W p l e R s m args below meth c H locs cells slots Q (F0 m pc ls (.long (lZ b) :: .long (lZ a) :: rest)) := lv_ladd hx hb hdg (by rw [lZ_add]; exact k)
theorem z_lsub (hx : p.tables.exec = Jvm.exec) (hb : c.code = cc) {a b : Int} (hdg : decode cc pc = .ok (.lsub, 1)) (k : W p l e R s m args below meth c H locs cells slots Q (F0 m (pc + 1) ls (.long (lZ (a - b)) :: rest))) : W p l e R s m args below meth c H locs cells slots Q (F0 m pc ls (.long (lZ b) :: .long (lZ a) :: rest)) := lv_lsub hx hb hdg (by rw [lZ_sub]; exact k)
theorem z_irem (hx : p.tables.exec = Jvm.exec) (hb : c.code = cc) {a b : Int} (h0 : 0 ≤ a) (ha : iB a) (hp : 0 < b) (hb2 : iB b) (hdg : decode cc pc = .ok (.irem, 1)) (k : W p l e R s m args below meth c H locs cells slots Q (F0 m (pc + 1) ls (.int (iZ (a % b)) :: rest))) : W p l e R s m args below meth c H locs cells slots Q (F0 m pc ls (.int (iZ b) :: .int (iZ a) :: rest)) := lv_irem hx hb hdg (fun q => by rw [← iZ_0, iZ_eq hb2 iB_0] at q; omega) (by rw [iZ_rem h0 ha hp hb2]; exact k)
theorem z_i2l (hx : p.tables.exec = Jvm.exec) (hb : c.code = cc) {a : Int} (ha : iB a) (hdg : decode cc pc = .ok (.i2l, 1)) (k : W p l e R s m args below meth c H locs cells slots Q (F0 m (pc + 1) ls (.long (lZ a) :: rest))) : W p l e R s m args below meth c H locs cells slots Q (F0 m pc ls (.int (iZ a) :: rest)) := lv_i2l hx hb hdg (iZ_l ha) k
theorem z_l2i (hx : p.tables.exec = Jvm.exec) (hb : c.code = cc) {a : Int} (hdg : decode cc pc = .ok (.l2i, 1)) (k : W p l e R s m args below meth c H locs cells slots Q (F0 m (pc + 1) ls (.int (iZ a) :: rest))) : W p l e R s m args below meth c H locs cells slots Q (F0 m pc ls (.long (lZ a) :: rest)) := lv_l2i hx hb hdg (lZ_i a) k
theorem z_i2b (hx : p.tables.exec = Jvm.exec) (hb : c.code = cc) {a : Int} (ha : -128 ≤ a ∧ a ≤ 127) (hdg : decode cc pc = .ok (.i2b, 1)) (k : W p l e R s m args below meth c H locs cells slots Q (F0 m (pc + 1) ls (.int (iZ a) :: rest))) : W p l e R s m args below meth c H locs cells slots Q (F0 m pc ls (.int (iZ a) :: rest)) := lv_i2b hx hb hdg (iZ_b8 ha) k
theorem z_icmp_eq (hx : p.tables.exec = Jvm.exec) (hb : c.code = cc) {a b : Int} {off : Int} {tgt : Nat} (hdg : decode cc pc = .ok (.if_icmp .eq off, 3)) (ht : (pc : Int) + off = (tgt : Int)) (ha : iB a) (hb2 : iB b) (kt : a = b → W p l e R s m args below meth c H locs cells slots Q (F0 m tgt ls rest)) (kf : ¬ (a = b) → W p l e R s m args below meth c H locs cells slots Q (F0 m (pc + 3) ls rest)) : W p l e R s m args below meth c H locs cells slots Q (F0 m pc ls (.int (iZ b) :: .int (iZ a) :: rest)) := lv_icmp_eq hx hb hdg ht (fun h => kt ((iZ_eq ha hb2).mp h)) (fun h => kf (fun q => h ((iZ_eq ha hb2).mpr q)))
theorem z_if_eq (hx : p.tables.exec = Jvm.exec) (hb : c.code = cc) {a : Int} {off : Int} {tgt : Nat} (hdg : decode cc pc = .ok (.ifCond .eq off, 3)) (ht : (pc : Int) + off = (tgt : Int)) (ha : iB a) (kt : a = 0 → W p l e R s m args below meth c H locs cells slots Q (F0 m tgt ls rest)) (kf : ¬ (a = 0) → W p l e R s m args below meth c H locs cells slots Q (F0 m (pc + 3) ls rest)) : W p l e R s m args below meth c H locs cells slots Q (F0 m pc ls (.int (iZ a) :: rest)) := lv_if_eq hx hb hdg ht (fun h => kt ((iZ_eq ha iB_0).mp h)) (fun h => kf (fun q => h ((iZ_eq ha iB_0).mpr q)))
theorem z_icmp_ne (hx : p.tables.exec = Jvm.exec) (hb : c.code = cc) {a b : Int} {off : Int} {tgt : Nat} (hdg : decode cc pc = .ok (.if_icmp .ne off, 3)) (ht : (pc : Int) + off = (tgt : Int)) (ha : iB a) (hb2 : iB b) (kt : ¬ a = b → W p l e R s m args below meth c H locs cells slots Q (F0 m tgt ls rest)) (kf : a = b → W p l e R s m args below meth c H locs cells slots Q (F0 m (pc + 3) ls rest)) : W p l e R s m args below meth c H locs cells slots Q (F0 m pc ls (.int (iZ b) :: .int (iZ a) :: rest)) := lv_icmp_ne hx hb hdg ht (fun h => kt (fun q => h ((iZ_eq ha hb2).mpr q))) (fun h => kf ((iZ_eq ha hb2).mp h))
theorem z_if_ne (hx : p.tables.exec = Jvm.exec) (hb : c.code = cc) {a : Int} {off : Int} {tgt : Nat} (hdg : decode cc pc = .ok (.ifCond .ne off, 3)) (ht : (pc : Int) + off = (tgt : Int)) (ha : iB a) (kt : ¬ a = 0 → W p l e R s m args below meth c H locs cells slots Q (F0 m tgt ls rest)) (kf : a = 0 → W p l e R s m args below meth c H locs cells slots Q (F0 m (pc + 3) ls rest)) : W p l e R s m args below meth c H locs cells slots Q (F0 m pc ls (.int (iZ a) :: rest)) := lv_if_ne hx hb hdg ht (fun h => kt (fun q => h ((iZ_eq ha iB_0).mpr q))) (fun h => kf ((iZ_eq ha iB_0).mp h))
theorem z_icmp_lt (hx : p.tables.exec = Jvm.exec) (hb : c.code = cc) {a b : Int} {off : Int} {tgt : Nat} (hdg : decode cc pc = .ok (.if_icmp .lt off, 3)) (ht : (pc : Int) + off = (tgt : Int)) (ha : iB a) (hb2 : iB b) (kt : a < b → W p l e R s m args below meth c H locs cells slots Q (F0 m tgt ls rest)) (kf : ¬ (a < b) → W p l e R s m args below meth c H locs cells slots Q (F0 m (pc + 3) ls rest)) : W p l e R s m args below meth c H locs cells slots Q (F0 m pc ls (.int (iZ b) :: .int (iZ a) :: rest)) := lv_icmp_lt hx hb hdg ht (fun h => kt ((iZ_lt ha hb2).mp h)) (fun h => kf (fun q => h ((iZ_lt ha hb2).mpr q)))
theorem z_if_lt (hx : p.tables.exec = Jvm.exec) (hb : c.code = cc) {a : Int} {off : Int} {tgt : Nat} (hdg : decode cc pc = .ok (.ifCond .lt off, 3)) (ht : (pc : Int) + off = (tgt : Int)) (ha : iB a) (kt : a < 0 → W p l e R s m args below meth c H locs cells slots Q (F0 m tgt ls rest)) (kf : ¬ (a < 0) → W p l e R s m args below meth c H locs cells slots Q (F0 m (pc + 3) ls rest)) : W p l e R s m args below meth c H locs cells slots Q (F0 m pc ls (.int (iZ a) :: rest)) := lv_if_lt hx hb hdg ht (fun h => kt ((iZ_lt ha iB_0).mp h)) (fun h => kf (fun q => h ((iZ_lt ha iB_0).mpr q)))
theorem z_icmp_ge (hx : p.tables.exec = Jvm.exec) (hb : c.code = cc) {a b : Int} {off : Int} {tgt : Nat} (hdg : decode cc pc = .ok (.if_icmp .ge off, 3)) (ht : (pc : Int) + off = (tgt : Int)) (ha : iB a) (hb2 : iB b) (kt : b ≤ a → W p l e R s m args below meth c H locs cells slots Q (F0 m tgt ls rest)) (kf : ¬ (b ≤ a) → W p l e R s m args below meth c H locs cells slots Q (F0 m (pc + 3) ls rest)) : W p l e R s m args below meth c H locs cells slots Q (F0 m pc ls (.int (iZ b) :: .int (iZ a) :: rest)) := lv_icmp_ge hx hb hdg ht (fun h => kt ((iZ_le hb2 ha).mp h)) (fun h => kf (fun q => h ((iZ_le hb2 ha).mpr q)))
theorem z_if_ge (hx : p.tables.exec = Jvm.exec) (hb : c.code = cc) {a : Int} {off : Int} {tgt : Nat} (hdg : decode cc pc = .ok (.ifCond .ge off, 3)) (ht : (pc : Int) + off = (tgt : Int)) (ha : iB a) (kt : 0 ≤ a → W p l e R s m args below meth c H locs cells slots Q (F0 m tgt ls rest)) (kf : ¬ (0 ≤ a) → W p l e R s m args below meth c H locs cells slots Q (F0 m (pc + 3) ls rest)) : W p l e R s m args below meth c H locs cells slots Q (F0 m pc ls (.int (iZ a) :: rest)) := lv_if_ge hx hb hdg ht (fun h => kt ((iZ_le iB_0 ha).mp h)) (fun h => kf (fun q => h ((iZ_le iB_0 ha).mpr q)))
theorem z_icmp_gt (hx : p.tables.exec = Jvm.exec) (hb : c.code = cc) {a b : Int} {off : Int} {tgt : Nat} (hdg : decode cc pc = .ok (.if_icmp .gt off, 3)) (ht : (pc : Int) + off = (tgt : Int)) (ha : iB a) (hb2 : iB b) (kt : b < a → W p l e R s m args below meth c H locs cells slots Q (F0 m tgt ls rest)) (kf : ¬ (b < a) → W p l e R s m args below meth c H locs cells slots Q (F0 m (pc + 3) ls rest)) : W p l e R s m args below meth c H locs cells slots Q (F0 m pc ls (.int (iZ b) :: .int (iZ a) :: rest)) := lv_icmp_gt hx hb hdg ht (fun h => kt ((iZ_lt hb2 ha).mp h)) (fun h => kf (fun q => h ((iZ_lt hb2 ha).mpr q)))
theorem z_if_gt (hx : p.tables.exec = Jvm.exec) (hb : c.code = cc) {a : Int} {off : Int} {tgt : Nat} (hdg : decode cc pc = .ok (.ifCond .gt off, 3)) (ht : (pc : Int) + off = (tgt : Int)) (ha : iB a) (kt : 0 < a → W p l e R s m args below meth c H locs cells slots Q (F0 m tgt ls rest)) (kf : ¬ (0 < a) → W p l e R s m args below meth c H locs cells slots Q (F0 m (pc + 3) ls rest)) : W p l e R s m args below meth c H locs cells slots Q (F0 m pc ls (.int (iZ a) :: rest)) := lv_if_gt hx hb hdg ht (fun h => kt ((iZ_lt iB_0 ha).mp h)) (fun h => kf (fun q => h ((iZ_lt iB_0 ha).mpr q)))
theorem z_icmp_le (hx : p.tables.exec = Jvm.exec) (hb : c.code = cc) {a b : Int} {off : Int} {tgt : Nat} (hdg : decode cc pc = .ok (.if_icmp .le off, 3)) (ht : (pc : Int) + off = (tgt : Int)) (ha : iB a) (hb2 : iB b) (kt : a ≤ b → W p l e R s m args below meth c H locs cells slots Q (F0 m tgt ls rest)) (kf : ¬ (a ≤ b) → W p l e R s m args below meth c H locs cells slots Q (F0 m (pc + 3) ls rest)) : W p l e R s m args below meth c H locs cells slots Q (F0 m pc ls (.int (iZ b) :: .int (iZ a) :: rest)) := lv_icmp_le hx hb hdg ht (fun h => kt ((iZ_le ha hb2).mp h)) (fun h => kf (fun q => h ((iZ_le ha hb2).mpr q)))
theorem z_if_le (hx : p.tables.exec = Jvm.exec) (hb : c.code = cc) {a : Int} {off : Int} {tgt : Nat} (hdg : decode cc pc = .ok (.ifCond .le off, 3)) (ht : (pc : Int) + off = (tgt : Int)) (ha : iB a) (kt : a ≤ 0 → W p l e R s m args below meth c H locs cells slots Q (F0 m tgt ls rest)) (kf : ¬ (a ≤ 0) → W p l e R s m args below meth c H locs cells slots Q (F0 m (pc + 3) ls rest)) : W p l e R s m args below meth c H locs cells slots Q (F0 m pc ls (.int (iZ a) :: rest)) := lv_if_le hx hb hdg ht (fun h => kt ((iZ_le ha iB_0).mp h)) (fun h => kf (fun q => h ((iZ_le ha iB_0).mpr q)))
theorem lc_gt {x y : Int64} (h : y < x) : lg_cmp x y = 1 := by simp [lg_cmp, h]
theorem lc_eq (x : Int64) : lg_cmp x x = 0 := by simp [lg_cmp]
theorem lc_lt {x y : Int64} (h1 : ¬ y < x) (h2 : ¬ x = y) : lg_cmp x y = -1 := by simp [lg_cmp, h1, h2]
theorem lc_z {a b : Int} (ha : lB a) (hb : lB b) : lg_cmp (lZ a) (lZ b) = iZ (if b < a then 1 else if a = b then 0 else -1) := by
  by_cases h1 : b < a
  · rw [lc_gt ((lZ_lt hb ha).mpr h1), if_pos h1]; rfl
  · by_cases h2 : a = b
    · subst h2; rw [lc_eq, if_neg h1, if_pos rfl]; rfl
    · rw [lc_lt (fun q => h1 ((lZ_lt hb ha).mp q)) (fun q => h2 ((lZ_eq ha hb).mp q)), if_neg h1, if_neg h2]; rfl
theorem lc_b (a b : Int) : iB (if b < a then 1 else if a = b then 0 else -1) := by
  unfold iB
  split <;> (try split) <;> omega
theorem z_lc_eq (hx : p.tables.exec = Jvm.exec) (hb : c.code = cc) {a b : Int} {off : Int} {tgt : Nat} (hdg : decode cc pc = .ok (.lcmp, 1)) (hdg2 : decode cc (pc + 1) = .ok (.ifCond .eq off, 3)) (ht : (pc : Int) + 1 + off = (tgt : Int)) (ha : lB a) (hb2 : lB b) (kt : a = b → W p l e R s m args below meth c H locs cells slots Q (F0 m tgt ls rest)) (kf : ¬ (a = b) → W p l e R s m args below meth c H locs cells slots Q (F0 m (pc + 4) ls rest)) : W p l e R s m args below meth c H locs cells slots Q (F0 m pc ls (.long (lZ b) :: .long (lZ a) :: rest)) := by
  refine W.lcmp hx hb hdg ?_
  rw [lc_z ha hb2]
  refine z_if_eq hx hb hdg2 (by omega) (lc_b a b) (fun h => kt ?_) (fun h => kf ?_)
  · by_cases h1 : b < a
    · rw [if_pos h1] at h; omega
    · by_cases h2 : a = b
      · rw [if_neg h1, if_pos h2] at h; omega
      · rw [if_neg h1, if_neg h2] at h; omega
  · by_cases h1 : b < a
    · rw [if_pos h1] at h; omega
    · by_cases h2 : a = b
      · rw [if_neg h1, if_pos h2] at h; omega
      · rw [if_neg h1, if_neg h2] at h; omega
theorem z_lc_ne (hx : p.tables.exec = Jvm.exec) (hb : c.code = cc) {a b : Int} {off : Int} {tgt : Nat} (hdg : decode cc pc = .ok (.lcmp, 1)) (hdg2 : decode cc (pc + 1) = .ok (.ifCond .ne off, 3)) (ht : (pc : Int) + 1 + off = (tgt : Int)) (ha : lB a) (hb2 : lB b) (kt : ¬ a = b → W p l e R s m args below meth c H locs cells slots Q (F0 m tgt ls rest)) (kf : a = b → W p l e R s m args below meth c H locs cells slots Q (F0 m (pc + 4) ls rest)) : W p l e R s m args below meth c H locs cells slots Q (F0 m pc ls (.long (lZ b) :: .long (lZ a) :: rest)) := by
  refine W.lcmp hx hb hdg ?_
  rw [lc_z ha hb2]
  refine z_if_ne hx hb hdg2 (by omega) (lc_b a b) (fun h => kt ?_) (fun h => kf ?_)
  · by_cases h1 : b < a
    · rw [if_pos h1] at h; omega
    · by_cases h2 : a = b
      · rw [if_neg h1, if_pos h2] at h; omega
      · rw [if_neg h1, if_neg h2] at h; omega
  · by_cases h1 : b < a
    · rw [if_pos h1] at h; omega
    · by_cases h2 : a = b
      · rw [if_neg h1, if_pos h2] at h; omega
      · rw [if_neg h1, if_neg h2] at h; omega
theorem z_lc_lt (hx : p.tables.exec = Jvm.exec) (hb : c.code = cc) {a b : Int} {off : Int} {tgt : Nat} (hdg : decode cc pc = .ok (.lcmp, 1)) (hdg2 : decode cc (pc + 1) = .ok (.ifCond .lt off, 3)) (ht : (pc : Int) + 1 + off = (tgt : Int)) (ha : lB a) (hb2 : lB b) (kt : a < b → W p l e R s m args below meth c H locs cells slots Q (F0 m tgt ls rest)) (kf : ¬ (a < b) → W p l e R s m args below meth c H locs cells slots Q (F0 m (pc + 4) ls rest)) : W p l e R s m args below meth c H locs cells slots Q (F0 m pc ls (.long (lZ b) :: .long (lZ a) :: rest)) := by
  refine W.lcmp hx hb hdg ?_
  rw [lc_z ha hb2]
  refine z_if_lt hx hb hdg2 (by omega) (lc_b a b) (fun h => kt ?_) (fun h => kf ?_)
  · by_cases h1 : b < a
    · rw [if_pos h1] at h; omega
    · by_cases h2 : a = b
      · rw [if_neg h1, if_pos h2] at h; omega
      · rw [if_neg h1, if_neg h2] at h; omega
  · by_cases h1 : b < a
    · rw [if_pos h1] at h; omega
    · by_cases h2 : a = b
      · rw [if_neg h1, if_pos h2] at h; omega
      · rw [if_neg h1, if_neg h2] at h; omega
theorem z_lc_ge (hx : p.tables.exec = Jvm.exec) (hb : c.code = cc) {a b : Int} {off : Int} {tgt : Nat} (hdg : decode cc pc = .ok (.lcmp, 1)) (hdg2 : decode cc (pc + 1) = .ok (.ifCond .ge off, 3)) (ht : (pc : Int) + 1 + off = (tgt : Int)) (ha : lB a) (hb2 : lB b) (kt : b ≤ a → W p l e R s m args below meth c H locs cells slots Q (F0 m tgt ls rest)) (kf : ¬ (b ≤ a) → W p l e R s m args below meth c H locs cells slots Q (F0 m (pc + 4) ls rest)) : W p l e R s m args below meth c H locs cells slots Q (F0 m pc ls (.long (lZ b) :: .long (lZ a) :: rest)) := by
  refine W.lcmp hx hb hdg ?_
  rw [lc_z ha hb2]
  refine z_if_ge hx hb hdg2 (by omega) (lc_b a b) (fun h => kt ?_) (fun h => kf ?_)
  · by_cases h1 : b < a
    · rw [if_pos h1] at h; omega
    · by_cases h2 : a = b
      · rw [if_neg h1, if_pos h2] at h; omega
      · rw [if_neg h1, if_neg h2] at h; omega
  · by_cases h1 : b < a
    · rw [if_pos h1] at h; omega
    · by_cases h2 : a = b
      · rw [if_neg h1, if_pos h2] at h; omega
      · rw [if_neg h1, if_neg h2] at h; omega
theorem z_lc_gt (hx : p.tables.exec = Jvm.exec) (hb : c.code = cc) {a b : Int} {off : Int} {tgt : Nat} (hdg : decode cc pc = .ok (.lcmp, 1)) (hdg2 : decode cc (pc + 1) = .ok (.ifCond .gt off, 3)) (ht : (pc : Int) + 1 + off = (tgt : Int)) (ha : lB a) (hb2 : lB b) (kt : b < a → W p l e R s m args below meth c H locs cells slots Q (F0 m tgt ls rest)) (kf : ¬ (b < a) → W p l e R s m args below meth c H locs cells slots Q (F0 m (pc + 4) ls rest)) : W p l e R s m args below meth c H locs cells slots Q (F0 m pc ls (.long (lZ b) :: .long (lZ a) :: rest)) := by
  refine W.lcmp hx hb hdg ?_
  rw [lc_z ha hb2]
  refine z_if_gt hx hb hdg2 (by omega) (lc_b a b) (fun h => kt ?_) (fun h => kf ?_)
  · by_cases h1 : b < a
    · rw [if_pos h1] at h; omega
    · by_cases h2 : a = b
      · rw [if_neg h1, if_pos h2] at h; omega
      · rw [if_neg h1, if_neg h2] at h; omega
  · by_cases h1 : b < a
    · rw [if_pos h1] at h; omega
    · by_cases h2 : a = b
      · rw [if_neg h1, if_pos h2] at h; omega
      · rw [if_neg h1, if_neg h2] at h; omega
theorem z_lc_le (hx : p.tables.exec = Jvm.exec) (hb : c.code = cc) {a b : Int} {off : Int} {tgt : Nat} (hdg : decode cc pc = .ok (.lcmp, 1)) (hdg2 : decode cc (pc + 1) = .ok (.ifCond .le off, 3)) (ht : (pc : Int) + 1 + off = (tgt : Int)) (ha : lB a) (hb2 : lB b) (kt : a ≤ b → W p l e R s m args below meth c H locs cells slots Q (F0 m tgt ls rest)) (kf : ¬ (a ≤ b) → W p l e R s m args below meth c H locs cells slots Q (F0 m (pc + 4) ls rest)) : W p l e R s m args below meth c H locs cells slots Q (F0 m pc ls (.long (lZ b) :: .long (lZ a) :: rest)) := by
  refine W.lcmp hx hb hdg ?_
  rw [lc_z ha hb2]
  refine z_if_le hx hb hdg2 (by omega) (lc_b a b) (fun h => kt ?_) (fun h => kf ?_)
  · by_cases h1 : b < a
    · rw [if_pos h1] at h; omega
    · by_cases h2 : a = b
      · rw [if_neg h1, if_pos h2] at h; omega
      · rw [if_neg h1, if_neg h2] at h; omega
  · by_cases h1 : b < a
    · rw [if_pos h1] at h; omega
    · by_cases h2 : a = b
      · rw [if_neg h1, if_pos h2] at h; omega
      · rw [if_neg h1, if_neg h2] at h; omega
end ZR
/-! the keyed world: which cell stands at which key -/
abbrev en_T : Type := Nat → Int → Option (Nat × va_E)
def e2 (en : en_T) (k : Nat) (i : Int) (q : Option (Nat × va_E)) : en_T := fun k' i' => if k' = k ∧ i' = i then q else en k' i'
theorem e2_s (en : en_T) (k : Nat) (i : Int) (q : Option (Nat × va_E)) : e2 en k i q k i = q := if_pos ⟨rfl, rfl⟩
theorem e2_n {en : en_T} {k k' : Nat} {i i' : Int} {q : Option (Nat × va_E)} (h : ¬ (k' = k ∧ i' = i)) : e2 en k i q k' i' = en k' i' := if_neg h
theorem e2_k {en : en_T} {k k' : Nat} {i i' : Int} {q : Option (Nat × va_E)} (h : k' ≠ k) : e2 en k i q k' i' = en k' i' := if_neg (fun z => h z.1)
theorem e2_i {en : en_T} {k : Nat} {i i' : Int} {q : Option (Nat × va_E)} (h : i' ≠ i) : e2 en k i q k i' = en k i' := if_neg (fun z => h z.2)
theorem e2_e {en : en_T} {k : Nat} {i : Int} {q q' : Option (Nat × va_E)} : e2 (e2 en k i q) k i q' = e2 en k i q' := by
  funext k' i'
  by_cases h : k' = k ∧ i' = i
  · simp only [e2, if_pos h]
  · simp only [e2, if_neg h]
def Wd (D : va_G) (B0 : Nat) (en : en_T) (H : Heap) : Prop := ∃ ws : va_W, va_P D vwCl ws H ∧ va_D (fun q => B0 ≤ q) ws ∧ (∀ (k : Nat) (i : Int) (q : Nat × va_E), en k i = some q → ∃ j : Nat, ws[j]? = some q) ∧ ∀ (k : Nat) (i : Int) (k' : Nat) (i' : Int) (q q' : Nat × va_E), en k i = some q → en k' i' = some q' → q.1 = q'.1 → k = k' ∧ i = i'
theorem wd_set {ws : va_W} {q0 j : Nat} {a : Nat} {e0 e' : va_E} {q : Nat × va_E} (h0 : ws[q0]? = some (a, e0)) (hj : ws[j]? = some q) (hne : q.1 ≠ a) : (ws.set q0 (a, e'))[j]? = some q := by
  have hq : q0 ≠ j := by
    intro z
    subst z
    rw [h0] at hj
    cases hj
    exact hne rfl
  rw [List.getElem?_set_ne hq]
  exact hj

theorem Wd.set {D : va_G} {B0 : Nat} {en : en_T} {ws : va_W} (hm : ∀ (k : Nat) (i : Int) (q : Nat × va_E), en k i = some q → ∃ j : Nat, ws[j]? = some q) (hi : ∀ (k : Nat) (i : Int) (k' : Nat) (i' : Int) (q q' : Nat × va_E), en k i = some q → en k' i' = some q' → q.1 = q'.1 → k = k' ∧ i = i') {k : Nat} {i : Int} {a q0 : Nat} {e0 : va_E} (he : en k i = some (a, e0)) (h0 : ws[q0]? = some (a, e0)) {e' : va_E} {H1 : Heap} (hP1 : va_P D vwCl (ws.set q0 (a, e')) H1) (hD1 : va_D (fun q => B0 ≤ q) (ws.set q0 (a, e'))) : Wd D B0 (e2 en k i (some (a, e'))) H1 := by
  have hlt : q0 < ws.length := (List.getElem?_eq_some_iff.mp h0).1
  refine ⟨_, hP1, hD1, ?_, ?_⟩
  · intro k' i' q hq
    by_cases z : k' = k ∧ i' = i
    · rw [e2, if_pos z] at hq
      cases hq
      exact ⟨q0, by rw [List.getElem?_set_self hlt]⟩
    · rw [e2, if_neg z] at hq
      obtain ⟨j, hj⟩ := hm k' i' q hq
      exact ⟨j, wd_set h0 hj (fun w => z (hi k' i' k i q (a, e0) hq he w))⟩
  · intro k1 i1 k2 i2 q1 q2 h1 h2 h12
    by_cases z1 : k1 = k ∧ i1 = i
    · by_cases z2 : k2 = k ∧ i2 = i
      · exact ⟨z1.1.trans z2.1.symm, z1.2.trans z2.2.symm⟩
      · rw [e2, if_pos z1] at h1
        rw [e2, if_neg z2] at h2
        cases h1
        have := hi k i k2 i2 _ _ he h2 h12
        exact absurd ⟨this.1.symm, this.2.symm⟩ z2
    · by_cases z2 : k2 = k ∧ i2 = i
      · rw [e2, if_neg z1] at h1
        rw [e2, if_pos z2] at h2
        cases h2
        exact absurd (hi k1 i1 k i _ _ h1 he h12) z1
      · rw [e2, if_neg z1] at h1
        rw [e2, if_neg z2] at h2
        exact hi k1 i1 k2 i2 q1 q2 h1 h2 h12
theorem Wd.push {D : va_G} {B0 : Nat} {en : en_T} {ws : va_W} (hm : ∀ (k : Nat) (i : Int) (q : Nat × va_E), en k i = some q → ∃ j : Nat, ws[j]? = some q) (hi : ∀ (k : Nat) (i : Int) (k' : Nat) (i' : Int) (q q' : Nat × va_E), en k i = some q → en k' i' = some q' → q.1 = q'.1 → k = k' ∧ i = i') (k : Nat) (i : Int) {q : Nat} {e' : va_E} {H1 : Heap} (hP1 : va_P D vwCl (ws ++ [(q, e')]) H1) (hD1 : va_D (fun q => B0 ≤ q) (ws ++ [(q, e')])) : Wd D B0 (e2 en k i (some (q, e'))) H1 := by
  have hl : (ws ++ [(q, e')])[ws.length]? = some (q, e') := by simp
  have ho : ∀ (j : Nat) (x : Nat × va_E), ws[j]? = some x → (ws ++ [(q, e')])[j]? = some x := fun j x hj => by
    rw [List.getElem?_append_left (List.getElem?_eq_some_iff.mp hj).1]; exact hj
  have hne : ∀ (k' : Nat) (i' : Int) (x : Nat × va_E), en k' i' = some x → x.1 ≠ q := fun k' i' x hx z => by
    obtain ⟨j, hj⟩ := hm k' i' x hx
    have h1 := hD1.1 j ws.length x (q, e') (ho j x hj) hl z
    have h2 := (List.getElem?_eq_some_iff.mp hj).1
    omega
  refine ⟨_, hP1, hD1, ?_, ?_⟩
  · intro k' i' x hx
    by_cases z : k' = k ∧ i' = i
    · rw [e2, if_pos z] at hx
      cases hx
      exact ⟨_, hl⟩
    · rw [e2, if_neg z] at hx
      obtain ⟨j, hj⟩ := hm k' i' x hx
      exact ⟨j, ho j x hj⟩
  · intro k1 i1 k2 i2 q1 q2 h1 h2 h12
    by_cases z1 : k1 = k ∧ i1 = i
    · by_cases z2 : k2 = k ∧ i2 = i
      · exact ⟨z1.1.trans z2.1.symm, z1.2.trans z2.2.symm⟩
      · rw [e2, if_pos z1] at h1
        rw [e2, if_neg z2] at h2
        cases h1
        exact absurd h12.symm (hne k2 i2 q2 h2)
    · by_cases z2 : k2 = k ∧ i2 = i
      · rw [e2, if_neg z1] at h1
        rw [e2, if_pos z2] at h2
        cases h2
        exact absurd h12 (hne k1 i1 q1 h1)
      · rw [e2, if_neg z1] at h1
        rw [e2, if_neg z2] at h2
        exact hi k1 i1 k2 i2 q1 q2 h1 h2 h12
theorem Wd.ne {D : va_G} {B0 : Nat} {en : en_T} {H : Heap} (h : Wd D B0 en H) {k k' : Nat} {i i' : Int} {q q' : Nat × va_E} (h1 : en k i = some q) (h2 : en k' i' = some q') (hz : ¬ (k = k' ∧ i = i')) : q.1 ≠ q'.1 := by
  obtain ⟨ws, -, -, -, hi⟩ := h
  exact fun z => hz (hi k i k' i' q q' h1 h2 z)
theorem Wd.ge {D : va_G} {B0 : Nat} {en : en_T} {H : Heap} (h : Wd D B0 en H) {k : Nat} {i : Int} {q : Nat × va_E} (h1 : en k i = some q) : B0 ≤ q.1 := by
  obtain ⟨ws, hP, hD, hm, hi⟩ := h
  obtain ⟨j, hj⟩ := hm k i q h1
  exact hD.2 j q hj
theorem Wd.drop {D : va_G} {B0 : Nat} {en : en_T} {H : Heap} (h : Wd D B0 en H) (k : Nat) (i : Int) : Wd D B0 (e2 en k i none) H := by
  obtain ⟨ws, hP, hD, hm, hi⟩ := h
  have hz : ∀ (k' : Nat) (i' : Int) (q : Nat × va_E), e2 en k i none k' i' = some q → en k' i' = some q := fun k' i' q hq => by
    by_cases z : k' = k ∧ i' = i
    · rw [e2, if_pos z] at hq; cases hq
    · rw [e2, if_neg z] at hq; exact hq
  exact ⟨ws, hP, hD, fun k' i' q hq => hm k' i' q (hz k' i' q hq), fun k1 i1 k2 i2 q1 q2 h1 h2 h12 => hi k1 i1 k2 i2 q1 q2 (hz _ _ _ h1) (hz _ _ _ h2) h12⟩
theorem Wd.move {D : va_G} {B0 : Nat} {en : en_T} {H : Heap} (h : Wd D B0 en H) {k : Nat} {i : Int} (k' : Nat) (i' : Int) {q : Nat × va_E} (h1 : en k i = some q) : Wd D B0 (e2 (e2 en k i none) k' i' (some q)) H := by
  obtain ⟨ws, hP, hD, hm, hi⟩ := h
  have hz : ∀ (x : Nat) (y : Int) (z : Nat × va_E), e2 (e2 en k i none) k' i' (some q) x y = some z → (x = k' ∧ y = i' ∧ z = q) ∨ (¬ (x = k ∧ y = i) ∧ en x y = some z) := fun x y z hz => by
    by_cases w : x = k' ∧ y = i'
    · rw [e2, if_pos w] at hz; cases hz; exact Or.inl ⟨w.1, w.2, rfl⟩
    · rw [e2, if_neg w] at hz
      by_cases w2 : x = k ∧ y = i
      · rw [e2, if_pos w2] at hz; cases hz
      · rw [e2, if_neg w2] at hz; exact Or.inr ⟨w2, hz⟩
  refine ⟨ws, hP, hD, fun x y z hq => ?_, fun x1 y1 x2 y2 z1 z2 g1 g2 g12 => ?_⟩
  · rcases hz x y z hq with ⟨-, -, rfl⟩ | ⟨-, h2⟩
    · exact hm k i _ h1
    · exact hm x y z h2
  · rcases hz _ _ _ g1 with ⟨a1, a2, a3⟩ | ⟨a1, a2⟩ <;> rcases hz _ _ _ g2 with ⟨b1, b2, b3⟩ | ⟨b1, b2⟩
    · exact ⟨a1.trans b1.symm, a2.trans b2.symm⟩
    · subst a3
      have := hi k i x2 y2 _ _ h1 b2 g12
      exact absurd ⟨this.1.symm, this.2.symm⟩ b1
    · subst b3
      exact absurd (hi x1 y1 k i _ _ a2 h1 g12) a1
    · exact hi _ _ _ _ _ _ a2 b2 g12
/-! arrays by whole numbers -/
def uF {α : Type} (F : Int → α) (i : Int) (v : α) : Int → α := fun j => if j = i then v else F j
theorem uF_s {α : Type} (F : Int → α) (i : Int) (v : α) : uF F i v i = v := if_pos rfl
theorem uF_n {α : Type} {F : Int → α} {i j : Int} {v : α} (h : j ≠ i) : uF F i v j = F j := if_neg h
def aB (dA : Nat → ClassId) (n : Int) (F : Int → Int) : va_E := .inl (dA 0, n.toNat, .inl (fun j : Nat => iZ (F j)))
def aI (dA : Nat → ClassId) (n : Int) (F : Int → Int) : va_E := .inl (dA 1, n.toNat, .inl (fun j : Nat => iZ (F j)))
def aJ (dA : Nat → ClassId) (n : Int) (F : Int → Int) : va_E := .inl (dA 2, n.toNat, .inr (.inl (fun j : Nat => lZ (F j))))
def aZ (dA : Nat → ClassId) (n : Int) (F : Int → Int) : va_E := .inl (dA 3, n.toNat, .inl (fun j : Nat => iZ (F j)))
def aO (dA : Nat → ClassId) (n : Int) (F : Int → Option Nat) : va_E := .inl (dA 4, n.toNat, .inr (.inr (.inr (.inr (fun j : Nat => F j)))))
def aR (dA : Nat → ClassId) (n : Int) (F : Int → Option Nat) : va_E := .inl (dA 5, n.toNat, .inr (.inr (.inr (.inr (fun j : Nat => F j)))))
abbrev gT (dA : Nat → ClassId) : List (ClassId × FieldType) := [(dA 0, .byte), (dA 1, .int), (dA 2, .long), (dA 3, .boolean), (dA 4, .object "java/lang/Object"), (dA 5, .object "LongTransfer$Receiver")]
theorem up_i {F : Int → Int} {i v : Int} (h0 : 0 ≤ i) (hi : iB i) : upd (fun j : Nat => iZ (F j)) (iZ i).toNatClampNeg (iZ v) = fun j : Nat => iZ (uF F i v j) := by
  funext j
  rw [iZ_cl hi]
  unfold upd uF
  by_cases h : j = i.toNat
  · rw [if_pos h, if_pos (by omega)]
  · rw [if_neg h, if_neg (by omega)]
theorem up_l {F : Int → Int} {i v : Int} (h0 : 0 ≤ i) (hi : iB i) : vp_updL (fun j : Nat => lZ (F j)) (iZ i).toNatClampNeg (lZ v) = fun j : Nat => lZ (uF F i v j) := by
  funext j
  rw [iZ_cl hi]
  unfold vp_updL uF
  by_cases h : j = i.toNat
  · rw [if_pos h, if_pos (by omega)]
  · rw [if_neg h, if_neg (by omega)]
theorem up_q {F : Int → Option Nat} {i : Int} {v : Option Nat} (h0 : 0 ≤ i) (hi : iB i) : va_up (fun j : Nat => F j) (iZ i).toNatClampNeg v = fun j : Nat => uF F i v j := by
  funext j
  rw [iZ_cl hi]
  unfold va_up uF
  by_cases h : j = i.toNat
  · rw [if_pos h, if_pos (by omega)]
  · rw [if_neg h, if_neg (by omega)]
theorem nar_b {v : Int} (h : -128 ≤ v ∧ v ≤ 127) : vp_nar .byte (iZ v) = iZ v := by rw [vp_nar_byte]; exact iZ_b8 h
theorem nar_z {v : Int} (h : v = 0 ∨ v = 1) : vp_nar .boolean (iZ v) = iZ v := by rcases h with rfl | rfl <;> decide
theorem rd_i {F : Int → Int} {i : Int} (h0 : 0 ≤ i) (hi : iB i) : (fun j : Nat => iZ (F j)) (iZ i).toNatClampNeg = iZ (F i) := by
  show iZ (F (((iZ i).toNatClampNeg : Nat) : Int)) = _
  rw [iZ_cl hi, Int.toNat_of_nonneg h0]
theorem rd_l {F : Int → Int} {i : Int} (h0 : 0 ≤ i) (hi : iB i) : (fun j : Nat => lZ (F j)) (iZ i).toNatClampNeg = lZ (F i) := by
  show lZ (F (((iZ i).toNatClampNeg : Nat) : Int)) = _
  rw [iZ_cl hi, Int.toNat_of_nonneg h0]
theorem rd_q {F : Int → Option Nat} {i : Int} (h0 : 0 ≤ i) (hi : iB i) : (fun j : Nat => F j) (iZ i).toNatClampNeg = F i := by
  show F (((iZ i).toNatClampNeg : Nat) : Int) = _
  rw [iZ_cl hi, Int.toNat_of_nonneg h0]
theorem rd_c {i : Int} (h0 : 0 ≤ i) (hi : iB i) : (((iZ i).toNatClampNeg : Nat) : Int) = i := by rw [iZ_cl hi, Int.toNat_of_nonneg h0]
theorem in_z {i n : Int} (h0 : 0 ≤ i) (h1 : i < n) (hn : iB n) : vp_in (iZ i) n.toNat := by
  have h2 := hn.2
  exact iZ_in h0 (by omega) (by omega)
section GR
variable {p : Program} {l : Launch} {e : Env} {R : Room} {s : State} {m : MethodId} {args : Array Value} {below : List Frame} {meth : Method} {c : Code} {H : Heap} {locs : List Loc} {cells slots : Nat} {Q : State → Prop}
variable {cc : ByteArray} {pc : Nat} {ls : Array Slot} {rest : List Value} {D : va_G} {dA : Nat → ClassId} {B0 a : Nat} {en : en_T} {H0 : Heap} {tys : List (ClassId × FieldType)} {kn : Nat} {ki : Int}
theorem g_get (hx : p.tables.exec = Jvm.exec) (hb : c.code = cc) {own ref C : String} {T : u_T} {N ci index : Nat} {Ts : List Cond} (hts : ∀ w ∈ Ts, w.before args s = true) (hin : ∀ w ∈ u_ws C T N, w ∈ Ts) (hown : s.vm.findClass own = some m.cls) (hK : va_K D vwCl tys s) (hW : Wd D B0 en H) {fs : List Value} (he : en kn ki = some (a, .inr (ci, fs))) (hc : vwCl[ci]? = some (C, T, N)) (f : Nat) (hf : f < N) (hlink : (Cond.fieldLink own index ref (T f).2.1 (T f).2.2.1).before args s = true) (hsame : ∀ x, s.fieldFound? (T f).1 (T f).2.1 (T f).2.2.1 = some x → s.fieldFound? ref (T f).2.1 (T f).2.2.1 = some x) {v : Value} (hv : fs[f]? = some v) (hdg : decode cc pc = .ok (.getfield index, 3)) (k : W p l e R s m args below meth c H locs cells slots Q (F0 m (pc + 3) ls (v :: rest))) : W p l e R s m args below meth c H locs cells slots Q (F0 m pc ls (.ref a :: rest)) := by
  obtain ⟨ws, hP, hD, hm, hi⟩ := hW
  obtain ⟨q0, h0⟩ := hm kn ki _ he
  exact va_get hx hb hts hin hown hK hP q0 h0 hc f hf hlink hsame hv hdg k
theorem g_put (hx : p.tables.exec = Jvm.exec) (hb : c.code = cc) {own ref C : String} {T : u_T} {N ci index : Nat} {Ts : List Cond} (hts : ∀ w ∈ Ts, w.before args s = true) (hin : ∀ w ∈ u_ws C T N, w ∈ Ts) (ty0 : Nat → FieldType) (hty : ∀ k, k < N → parseFieldDescriptor (T k).2.2.1 = some (ty0 k)) (hnm : ∀ a, a < N → ∀ b, b < N → a ≠ b → (T a).2.1 ≠ (T b).2.1) (hown : s.vm.findClass own = some m.cls) (hK : va_K D vwCl tys s) (hW : Wd D B0 en H) (hS : va_S (fun q => B0 ≤ q) H0 H locs) {fs : List Value} (he : en kn ki = some (a, .inr (ci, fs))) (hc : vwCl[ci]? = some (C, T, N)) (f : Nat) (hf : f < N) (hlink : (Cond.fieldLink own index ref (T f).2.1 (T f).2.2.1).before args s = true) (hsame : ∀ x, s.fieldFound? (T f).1 (T f).2.1 (T f).2.2.1 = some x → s.fieldFound? ref (T f).2.1 (T f).2.2.1 = some x) (hfin : (T f).2.2.2 = false) {ty : FieldType} {v : Value} (hd : parseFieldDescriptor (T f).2.2.1 = some ty) (hn : narrow ty v = v) (hfit : fits ty v = true) (hl : f < fs.length) (hdg : decode cc pc = .ok (.putfield index, 3)) {fs' : List Value} (hfs : fs.set f v = fs') (kk : ∀ (H1 : Heap) (locs1 : List Loc), Wd D B0 (e2 en kn ki (some (a, .inr (ci, fs')))) H1 → va_S (fun q => B0 ≤ q) H0 H1 locs1 → W p l e R s m args below meth c H1 locs1 cells slots Q (F0 m (pc + 3) ls rest)) : W p l e R s m args below meth c H locs cells slots Q (F0 m pc ls (v :: .ref a :: rest)) := by
  subst hfs
  obtain ⟨ws, hP, hD, hm, hi⟩ := hW
  obtain ⟨q0, h0⟩ := hm kn ki _ he
  exact va_put hx hb hts hin ty0 hty hnm hown hK hP hD hS q0 h0 hc f hf hlink hsame hfin hd hn hfit hl hdg (fun H1 locs1 hP1 hD1 hS1 => kk H1 locs1 (Wd.set hm hi he h0 hP1 hD1) hS1)
theorem g_putF (hx : p.tables.exec = Jvm.exec) (hb : c.code = cc) {own ref C : String} {T : u_T} {N ci index : Nat} {Ts : List Cond} (hts : ∀ w ∈ Ts, w.before args s = true) (hin : ∀ w ∈ u_ws C T N, w ∈ Ts) (ty0 : Nat → FieldType) (hty : ∀ k, k < N → parseFieldDescriptor (T k).2.2.1 = some (ty0 k)) (hnm : ∀ a, a < N → ∀ b, b < N → a ≠ b → (T a).2.1 ≠ (T b).2.1) (hown : s.vm.findClass own = some m.cls) (hK : va_K D vwCl tys s) (hW : Wd D B0 en H) (hS : va_S (fun q => B0 ≤ q) H0 H locs) {fs : List Value} (he : en kn ki = some (a, .inr (ci, fs))) (hc : vwCl[ci]? = some (C, T, N)) (f : Nat) (hf : f < N) (hlink : (Cond.fieldLink own index ref (T f).2.1 (T f).2.2.1).before args s = true) (hsame : ∀ x, s.fieldFound? (T f).1 (T f).2.1 (T f).2.2.1 = some x → s.fieldFound? ref (T f).2.1 (T f).2.2.1 = some x) (hfin : (T f).2.2.2 = true) (hin2 : meth.name = "<init>") (hdecl : (T f).1 = own) {ty : FieldType} {v : Value} (hd : parseFieldDescriptor (T f).2.2.1 = some ty) (hn : narrow ty v = v) (hfit : fits ty v = true) (hl : f < fs.length) (hdg : decode cc pc = .ok (.putfield index, 3)) {fs' : List Value} (hfs : fs.set f v = fs') (kk : ∀ (H1 : Heap) (locs1 : List Loc), Wd D B0 (e2 en kn ki (some (a, .inr (ci, fs')))) H1 → va_S (fun q => B0 ≤ q) H0 H1 locs1 → W p l e R s m args below meth c H1 locs1 cells slots Q (F0 m (pc + 3) ls rest)) : W p l e R s m args below meth c H locs cells slots Q (F0 m pc ls (v :: .ref a :: rest)) := by
  subst hfs
  obtain ⟨ws, hP, hD, hm, hi⟩ := hW
  obtain ⟨q0, h0⟩ := hm kn ki _ he
  exact va_putF hx hb hts hin ty0 hty hnm hown hK hP hD hS q0 h0 hc f hf hlink hsame hfin hin2 hdecl hd hn hfit hl hdg (fun H1 locs1 hP1 hD1 hS1 => kk H1 locs1 (Wd.set hm hi he h0 hP1 hD1) hS1)
theorem g_iald (hx : p.tables.exec = Jvm.exec) (hb : c.code = cc) (hK : va_K D vwCl (gT dA) s) (hW : Wd D B0 en H) {n : Int} {F : Int → Int} (he : en kn ki = some (a, aI dA n F)) {i : Int} (h0 : 0 ≤ i) (h1 : i < n) (hn : iB n) (hdg : decode cc pc = .ok (.iaload, 1)) (k : W p l e R s m args below meth c H locs cells slots Q (F0 m (pc + 1) ls (.int (iZ (F i)) :: rest))) : W p l e R s m args below meth c H locs cells slots Q (F0 m pc ls (.int (iZ i) :: .ref a :: rest)) := by
  obtain ⟨ws, hP, hD, hm, hi⟩ := hW
  obtain ⟨q0, h2⟩ := hm kn ki _ he
  have hbi : iB i := ⟨by omega, by have := hn.2; omega⟩
  refine va_iald hx hb hK hP q0 1 h2 rfl (in_z h0 h1 hn) hdg ?_
  rw [rd_c h0 hbi]
  exact k
theorem g_bald (hx : p.tables.exec = Jvm.exec) (hb : c.code = cc) (hK : va_K D vwCl (gT dA) s) (hW : Wd D B0 en H) {n : Int} {F : Int → Int} (he : en kn ki = some (a, aB dA n F)) {i : Int} (h0 : 0 ≤ i) (h1 : i < n) (hn : iB n) (hdg : decode cc pc = .ok (.baload, 1)) (k : W p l e R s m args below meth c H locs cells slots Q (F0 m (pc + 1) ls (.int (iZ (F i)) :: rest))) : W p l e R s m args below meth c H locs cells slots Q (F0 m pc ls (.int (iZ i) :: .ref a :: rest)) := by
  obtain ⟨ws, hP, hD, hm, hi⟩ := hW
  obtain ⟨q0, h2⟩ := hm kn ki _ he
  have hbi : iB i := ⟨by omega, by have := hn.2; omega⟩
  refine va_bald hx hb hK hP q0 0 h2 rfl (in_z h0 h1 hn) hdg ?_
  rw [rd_c h0 hbi]
  exact k
theorem g_zald (hx : p.tables.exec = Jvm.exec) (hb : c.code = cc) (hK : va_K D vwCl (gT dA) s) (hW : Wd D B0 en H) {n : Int} {F : Int → Int} (he : en kn ki = some (a, aZ dA n F)) {i : Int} (h0 : 0 ≤ i) (h1 : i < n) (hn : iB n) (hdg : decode cc pc = .ok (.baload, 1)) (k : W p l e R s m args below meth c H locs cells slots Q (F0 m (pc + 1) ls (.int (iZ (F i)) :: rest))) : W p l e R s m args below meth c H locs cells slots Q (F0 m pc ls (.int (iZ i) :: .ref a :: rest)) := by
  obtain ⟨ws, hP, hD, hm, hi⟩ := hW
  obtain ⟨q0, h2⟩ := hm kn ki _ he
  have hbi : iB i := ⟨by omega, by have := hn.2; omega⟩
  refine va_zald hx hb hK hP q0 3 h2 rfl (in_z h0 h1 hn) hdg ?_
  rw [rd_c h0 hbi]
  exact k
theorem g_lald (hx : p.tables.exec = Jvm.exec) (hb : c.code = cc) (hK : va_K D vwCl (gT dA) s) (hW : Wd D B0 en H) {n : Int} {F : Int → Int} (he : en kn ki = some (a, aJ dA n F)) {i : Int} (h0 : 0 ≤ i) (h1 : i < n) (hn : iB n) (hdg : decode cc pc = .ok (.laload, 1)) (k : W p l e R s m args below meth c H locs cells slots Q (F0 m (pc + 1) ls (.long (lZ (F i)) :: rest))) : W p l e R s m args below meth c H locs cells slots Q (F0 m pc ls (.int (iZ i) :: .ref a :: rest)) := by
  obtain ⟨ws, hP, hD, hm, hi⟩ := hW
  obtain ⟨q0, h2⟩ := hm kn ki _ he
  have hbi : iB i := ⟨by omega, by have := hn.2; omega⟩
  refine va_lald hx hb hK hP q0 2 h2 rfl (in_z h0 h1 hn) hdg ?_
  rw [rd_c h0 hbi]
  exact k
theorem g_iast (hx : p.tables.exec = Jvm.exec) (hb : c.code = cc) (hK : va_K D vwCl (gT dA) s) (hW : Wd D B0 en H) (hS : va_S (fun q => B0 ≤ q) H0 H locs) {n : Int} {F : Int → Int} (he : en kn ki = some (a, aI dA n F)) {i x : Int} (h0 : 0 ≤ i) (h1 : i < n) (hn : iB n)  (hdg : decode cc pc = .ok (.iastore, 1)) (kk : ∀ (H1 : Heap) (locs1 : List Loc), Wd D B0 (e2 en kn ki (some (a, aI dA n (uF F i x)))) H1 → va_S (fun q => B0 ≤ q) H0 H1 locs1 → W p l e R s m args below meth c H1 locs1 cells slots Q (F0 m (pc + 1) ls rest)) : W p l e R s m args below meth c H locs cells slots Q (F0 m pc ls (.int (iZ x) :: .int (iZ i) :: .ref a :: rest)) := by
  obtain ⟨ws, hP, hD, hm, hi⟩ := hW
  obtain ⟨q0, h2⟩ := hm kn ki _ he
  have hbi : iB i := ⟨by omega, by have := hn.2; omega⟩
  refine va_iast hx hb hK hP hD hS q0 1 h2 rfl (in_z h0 h1 hn) hdg (fun H1 locs1 hP1 hD1 hS1 => ?_)
  rw [up_i h0 hbi] at hP1 hD1
  exact kk H1 locs1 (Wd.set hm hi he h2 hP1 hD1) hS1
theorem g_bast (hx : p.tables.exec = Jvm.exec) (hb : c.code = cc) (hK : va_K D vwCl (gT dA) s) (hW : Wd D B0 en H) (hS : va_S (fun q => B0 ≤ q) H0 H locs) {n : Int} {F : Int → Int} (he : en kn ki = some (a, aB dA n F)) {i x : Int} (h0 : 0 ≤ i) (h1 : i < n) (hn : iB n) (hv : -128 ≤ x ∧ x ≤ 127) (hdg : decode cc pc = .ok (.bastore, 1)) (kk : ∀ (H1 : Heap) (locs1 : List Loc), Wd D B0 (e2 en kn ki (some (a, aB dA n (uF F i x)))) H1 → va_S (fun q => B0 ≤ q) H0 H1 locs1 → W p l e R s m args below meth c H1 locs1 cells slots Q (F0 m (pc + 1) ls rest)) : W p l e R s m args below meth c H locs cells slots Q (F0 m pc ls (.int (iZ x) :: .int (iZ i) :: .ref a :: rest)) := by
  obtain ⟨ws, hP, hD, hm, hi⟩ := hW
  obtain ⟨q0, h2⟩ := hm kn ki _ he
  have hbi : iB i := ⟨by omega, by have := hn.2; omega⟩
  refine va_bast hx hb hK hP hD hS q0 0 h2 rfl (in_z h0 h1 hn) hdg (fun H1 locs1 hP1 hD1 hS1 => ?_)
  rw [nar_b hv] at hP1 hD1
  rw [up_i h0 hbi] at hP1 hD1
  exact kk H1 locs1 (Wd.set hm hi he h2 hP1 hD1) hS1
theorem g_zast (hx : p.tables.exec = Jvm.exec) (hb : c.code = cc) (hK : va_K D vwCl (gT dA) s) (hW : Wd D B0 en H) (hS : va_S (fun q => B0 ≤ q) H0 H locs) {n : Int} {F : Int → Int} (he : en kn ki = some (a, aZ dA n F)) {i x : Int} (h0 : 0 ≤ i) (h1 : i < n) (hn : iB n) (hv : x = 0 ∨ x = 1) (hdg : decode cc pc = .ok (.bastore, 1)) (kk : ∀ (H1 : Heap) (locs1 : List Loc), Wd D B0 (e2 en kn ki (some (a, aZ dA n (uF F i x)))) H1 → va_S (fun q => B0 ≤ q) H0 H1 locs1 → W p l e R s m args below meth c H1 locs1 cells slots Q (F0 m (pc + 1) ls rest)) : W p l e R s m args below meth c H locs cells slots Q (F0 m pc ls (.int (iZ x) :: .int (iZ i) :: .ref a :: rest)) := by
  obtain ⟨ws, hP, hD, hm, hi⟩ := hW
  obtain ⟨q0, h2⟩ := hm kn ki _ he
  have hbi : iB i := ⟨by omega, by have := hn.2; omega⟩
  refine va_zast hx hb hK hP hD hS q0 3 h2 rfl (in_z h0 h1 hn) hdg (fun H1 locs1 hP1 hD1 hS1 => ?_)
  rw [nar_z hv] at hP1 hD1
  rw [up_i h0 hbi] at hP1 hD1
  exact kk H1 locs1 (Wd.set hm hi he h2 hP1 hD1) hS1
theorem g_last (hx : p.tables.exec = Jvm.exec) (hb : c.code = cc) (hK : va_K D vwCl (gT dA) s) (hW : Wd D B0 en H) (hS : va_S (fun q => B0 ≤ q) H0 H locs) {n : Int} {F : Int → Int} (he : en kn ki = some (a, aJ dA n F)) {i x : Int} (h0 : 0 ≤ i) (h1 : i < n) (hn : iB n)  (hdg : decode cc pc = .ok (.lastore, 1)) (kk : ∀ (H1 : Heap) (locs1 : List Loc), Wd D B0 (e2 en kn ki (some (a, aJ dA n (uF F i x)))) H1 → va_S (fun q => B0 ≤ q) H0 H1 locs1 → W p l e R s m args below meth c H1 locs1 cells slots Q (F0 m (pc + 1) ls rest)) : W p l e R s m args below meth c H locs cells slots Q (F0 m pc ls (.long (lZ x) :: .int (iZ i) :: .ref a :: rest)) := by
  obtain ⟨ws, hP, hD, hm, hi⟩ := hW
  obtain ⟨q0, h2⟩ := hm kn ki _ he
  have hbi : iB i := ⟨by omega, by have := hn.2; omega⟩
  refine va_last hx hb hK hP hD hS q0 2 h2 rfl (in_z h0 h1 hn) hdg (fun H1 locs1 hP1 hD1 hS1 => ?_)
  rw [up_l h0 hbi] at hP1 hD1
  exact kk H1 locs1 (Wd.set hm hi he h2 hP1 hD1) hS1
theorem g_len_aB (hx : p.tables.exec = Jvm.exec) (hb : c.code = cc) (hK : va_K D vwCl (gT dA) s) (hW : Wd D B0 en H) {n : Int} {F : Int → Int} (he : en kn ki = some (a, aB dA n F)) (h0 : 0 ≤ n) (hdg : decode cc pc = .ok (.arraylength, 1)) (k : W p l e R s m args below meth c H locs cells slots Q (F0 m (pc + 1) ls (.int (iZ n) :: rest))) : W p l e R s m args below meth c H locs cells slots Q (F0 m pc ls (.ref a :: rest)) := by
  obtain ⟨ws, hP, hD, hm, hi⟩ := hW
  obtain ⟨q0, h2⟩ := hm kn ki _ he
  exact va_alen hx hb hK hP q0 0 h2 rfl (by show Int32.ofNat n.toNat = iZ n; rw [iZ_nat, Int.toNat_of_nonneg h0]) hdg k
theorem g_len_aI (hx : p.tables.exec = Jvm.exec) (hb : c.code = cc) (hK : va_K D vwCl (gT dA) s) (hW : Wd D B0 en H) {n : Int} {F : Int → Int} (he : en kn ki = some (a, aI dA n F)) (h0 : 0 ≤ n) (hdg : decode cc pc = .ok (.arraylength, 1)) (k : W p l e R s m args below meth c H locs cells slots Q (F0 m (pc + 1) ls (.int (iZ n) :: rest))) : W p l e R s m args below meth c H locs cells slots Q (F0 m pc ls (.ref a :: rest)) := by
  obtain ⟨ws, hP, hD, hm, hi⟩ := hW
  obtain ⟨q0, h2⟩ := hm kn ki _ he
  exact va_alen hx hb hK hP q0 1 h2 rfl (by show Int32.ofNat n.toNat = iZ n; rw [iZ_nat, Int.toNat_of_nonneg h0]) hdg k
theorem g_len_aJ (hx : p.tables.exec = Jvm.exec) (hb : c.code = cc) (hK : va_K D vwCl (gT dA) s) (hW : Wd D B0 en H) {n : Int} {F : Int → Int} (he : en kn ki = some (a, aJ dA n F)) (h0 : 0 ≤ n) (hdg : decode cc pc = .ok (.arraylength, 1)) (k : W p l e R s m args below meth c H locs cells slots Q (F0 m (pc + 1) ls (.int (iZ n) :: rest))) : W p l e R s m args below meth c H locs cells slots Q (F0 m pc ls (.ref a :: rest)) := by
  obtain ⟨ws, hP, hD, hm, hi⟩ := hW
  obtain ⟨q0, h2⟩ := hm kn ki _ he
  exact va_alen hx hb hK hP q0 2 h2 rfl (by show Int32.ofNat n.toNat = iZ n; rw [iZ_nat, Int.toNat_of_nonneg h0]) hdg k
theorem g_len_aZ (hx : p.tables.exec = Jvm.exec) (hb : c.code = cc) (hK : va_K D vwCl (gT dA) s) (hW : Wd D B0 en H) {n : Int} {F : Int → Int} (he : en kn ki = some (a, aZ dA n F)) (h0 : 0 ≤ n) (hdg : decode cc pc = .ok (.arraylength, 1)) (k : W p l e R s m args below meth c H locs cells slots Q (F0 m (pc + 1) ls (.int (iZ n) :: rest))) : W p l e R s m args below meth c H locs cells slots Q (F0 m pc ls (.ref a :: rest)) := by
  obtain ⟨ws, hP, hD, hm, hi⟩ := hW
  obtain ⟨q0, h2⟩ := hm kn ki _ he
  exact va_alen hx hb hK hP q0 3 h2 rfl (by show Int32.ofNat n.toNat = iZ n; rw [iZ_nat, Int.toNat_of_nonneg h0]) hdg k
theorem g_len_aO (hx : p.tables.exec = Jvm.exec) (hb : c.code = cc) (hK : va_K D vwCl (gT dA) s) (hW : Wd D B0 en H) {n : Int} {F : Int → Option Nat} (he : en kn ki = some (a, aO dA n F)) (h0 : 0 ≤ n) (hdg : decode cc pc = .ok (.arraylength, 1)) (k : W p l e R s m args below meth c H locs cells slots Q (F0 m (pc + 1) ls (.int (iZ n) :: rest))) : W p l e R s m args below meth c H locs cells slots Q (F0 m pc ls (.ref a :: rest)) := by
  obtain ⟨ws, hP, hD, hm, hi⟩ := hW
  obtain ⟨q0, h2⟩ := hm kn ki _ he
  exact va_alen hx hb hK hP q0 4 h2 rfl (by show Int32.ofNat n.toNat = iZ n; rw [iZ_nat, Int.toNat_of_nonneg h0]) hdg k
theorem g_len_aR (hx : p.tables.exec = Jvm.exec) (hb : c.code = cc) (hK : va_K D vwCl (gT dA) s) (hW : Wd D B0 en H) {n : Int} {F : Int → Option Nat} (he : en kn ki = some (a, aR dA n F)) (h0 : 0 ≤ n) (hdg : decode cc pc = .ok (.arraylength, 1)) (k : W p l e R s m args below meth c H locs cells slots Q (F0 m (pc + 1) ls (.int (iZ n) :: rest))) : W p l e R s m args below meth c H locs cells slots Q (F0 m pc ls (.ref a :: rest)) := by
  obtain ⟨ws, hP, hD, hm, hi⟩ := hW
  obtain ⟨q0, h2⟩ := hm kn ki _ he
  exact va_alen hx hb hK hP q0 5 h2 rfl (by show Int32.ofNat n.toNat = iZ n; rw [iZ_nat, Int.toNat_of_nonneg h0]) hdg k
theorem g_ald_aO (hx : p.tables.exec = Jvm.exec) (hb : c.code = cc) (hK : va_K D vwCl (gT dA) s) (hW : Wd D B0 en H) {n : Int} {F : Int → Option Nat} (he : en kn ki = some (a, aO dA n F)) {i : Int} {v : Nat} (h0 : 0 ≤ i) (h1 : i < n) (hn : iB n) (hv : F i = some v) (hdg : decode cc pc = .ok (.aaload, 1)) (k : W p l e R s m args below meth c H locs cells slots Q (F0 m (pc + 1) ls (.ref v :: rest))) : W p l e R s m args below meth c H locs cells slots Q (F0 m pc ls (.int (iZ i) :: .ref a :: rest)) := by
  obtain ⟨ws, hP, hD, hm, hi⟩ := hW
  obtain ⟨q0, h2⟩ := hm kn ki _ he
  have hbi : iB i := ⟨by omega, by have := hn.2; omega⟩
  refine va_aldq hx hb hK hP q0 4 (C := "java/lang/Object") h2 rfl (in_z h0 h1 hn) hdg ?_
  rw [rd_c h0 hbi, hv]
  exact k
theorem g_ald_aR (hx : p.tables.exec = Jvm.exec) (hb : c.code = cc) (hK : va_K D vwCl (gT dA) s) (hW : Wd D B0 en H) {n : Int} {F : Int → Option Nat} (he : en kn ki = some (a, aR dA n F)) {i : Int} {v : Nat} (h0 : 0 ≤ i) (h1 : i < n) (hn : iB n) (hv : F i = some v) (hdg : decode cc pc = .ok (.aaload, 1)) (k : W p l e R s m args below meth c H locs cells slots Q (F0 m (pc + 1) ls (.ref v :: rest))) : W p l e R s m args below meth c H locs cells slots Q (F0 m pc ls (.int (iZ i) :: .ref a :: rest)) := by
  obtain ⟨ws, hP, hD, hm, hi⟩ := hW
  obtain ⟨q0, h2⟩ := hm kn ki _ he
  have hbi : iB i := ⟨by omega, by have := hn.2; omega⟩
  refine va_aldq hx hb hK hP q0 5 (C := "LongTransfer$Receiver") h2 rfl (in_z h0 h1 hn) hdg ?_
  rw [rd_c h0 hbi, hv]
  exact k
theorem g_ast_aR (hx : p.tables.exec = Jvm.exec) (hb : c.code = cc) (hK : va_K D vwCl (gT dA) s) (hW : Wd D B0 en H) (hS : va_S (fun q => B0 ≤ q) H0 H locs) {n : Int} {F : Int → Option Nat} (he : en kn ki = some (a, aR dA n F)) {i : Int} {v kv : Nat} {iv : Int} {vs : List Value} (hv : en kv iv = some (v, .inr (3, vs))) (h0 : 0 ≤ i) (h1 : i < n) (hn : iB n) (hdg : decode cc pc = .ok (.aastore, 1)) (kk : ∀ (H1 : Heap) (locs1 : List Loc), Wd D B0 (e2 en kn ki (some (a, aR dA n (uF F i (some v))))) H1 → va_S (fun q => B0 ≤ q) H0 H1 locs1 → W p l e R s m args below meth c H1 locs1 cells slots Q (F0 m (pc + 1) ls rest)) : W p l e R s m args below meth c H locs cells slots Q (F0 m pc ls (.ref v :: .int (iZ i) :: .ref a :: rest)) := by
  obtain ⟨ws, hP, hD, hm, hi⟩ := hW
  obtain ⟨q0, h2⟩ := hm kn ki _ he
  obtain ⟨qk, h3⟩ := hm kv iv _ hv
  have hbi : iB i := ⟨by omega, by have := hn.2; omega⟩
  refine va_astq hx hb hK hP hD hS q0 5 qk 3 (r := (RX1, TX1, 9)) h2 rfl h3 rfl (in_z h0 h1 hn) hdg (fun H1 locs1 hP1 hD1 hS1 => ?_)
  rw [up_q h0 hbi] at hP1 hD1
  exact kk H1 locs1 (Wd.set hm hi he h2 hP1 hD1) hS1
theorem g_ast_aO (hx : p.tables.exec = Jvm.exec) (hb : c.code = cc) (hK : va_K D vwCl (gT dA) s) (hW : Wd D B0 en H) (hS : va_S (fun q => B0 ≤ q) H0 H locs) {n : Int} {F : Int → Option Nat} (he : en kn ki = some (a, aO dA n F)) {i : Int} {v kv ci : Nat} {iv : Int} {r : vw_C} {vs : List Value} (hv : en kv iv = some (v, .inr (ci, vs))) (hc : vwCl[ci]? = some r) (hca : va_Nw (.castable r.1 "java/lang/Object") s) (h0 : 0 ≤ i) (h1 : i < n) (hn : iB n) (hdg : decode cc pc = .ok (.aastore, 1)) (kk : ∀ (H1 : Heap) (locs1 : List Loc), Wd D B0 (e2 en kn ki (some (a, aO dA n (uF F i (some v))))) H1 → va_S (fun q => B0 ≤ q) H0 H1 locs1 → W p l e R s m args below meth c H1 locs1 cells slots Q (F0 m (pc + 1) ls rest)) : W p l e R s m args below meth c H locs cells slots Q (F0 m pc ls (.ref v :: .int (iZ i) :: .ref a :: rest)) := by
  obtain ⟨ws, hP, hD, hm, hi⟩ := hW
  obtain ⟨q0, h2⟩ := hm kn ki _ he
  obtain ⟨qk, h3⟩ := hm kv iv _ hv
  have hbi : iB i := ⟨by omega, by have := hn.2; omega⟩
  refine va_astqO hx hb hK hP hD hS q0 4 qk ci h2 rfl hca h3 hc (in_z h0 h1 hn) hdg (fun H1 locs1 hP1 hD1 hS1 => ?_)
  rw [up_q h0 hbi] at hP1 hD1
  exact kk H1 locs1 (Wd.set hm hi he h2 hP1 hD1) hS1
theorem g_new (hx : p.tables.exec = Jvm.exec) (hb : c.code = cc) {own C : String} {T : u_T} {N ci index : Nat} {Ts : List Cond} (hts : ∀ w ∈ Ts, w.before args s = true) (hin : ∀ w ∈ u_ws C T N, w ∈ Ts) (ty : Nat → FieldType) (hty : ∀ k, k < N → parseFieldDescriptor (T k).2.2.1 = some (ty k)) (hown : s.vm.findClass own = some m.cls) (hcl : (Cond.classLink own index C).before args s = true) (hinst : (Cond.instantiable C N).before args s = true) (hini : (Cond.initialized C).before args s = true) (hK : va_K D vwCl tys s) (hW : Wd D B0 en H) (hS : va_S (fun q => B0 ≤ q) H0 H locs) (hA : B0 ≤ H0.size) (hc : vwCl[ci]? = some (C, T, N)) {fs : List Value} (hfs : ∀ j, j < N → defaultValue (ty j) = vp_V fs j) (hcells : cells + 1 ≤ R.cells) (hslots : slots + N ≤ R.slots) (hdg : decode cc pc = .ok (.new index, 3)) (kn : Nat) (ki : Int)
    (kk : ∀ (q : Nat) (H1 : Heap), Wd D B0 (e2 en kn ki (some (q, .inr (ci, fs)))) H1 → va_S (fun q => B0 ≤ q) H0 H1 locs → W p l e R s m args below meth c H1 locs (cells + 1) (slots + N) Q (F0 m (pc + 3) ls (.ref q :: rest))) : W p l e R s m args below meth c H locs cells slots Q (F0 m pc ls rest) := by
  obtain ⟨ws, hP, hD, hm, hi⟩ := hW
  exact va_new hx hb hts hin ty hty hown hcl hinst hini hK hP hD hS (fun q h => Nat.le_trans hA h) hc hfs hcells hslots hdg (fun q H1 hP1 hD1 hS1 => kk q H1 (Wd.push hm hi kn ki hP1 hD1) hS1)
theorem g_newa_aB (hx : p.tables.exec = Jvm.exec) (hb : c.code = cc) {atype : ArrayType} (hat : newarray.typeOf atype = .byte) (harr : (Cond.arrayClass .byte).before args s = true) (hK : va_K D vwCl (gT dA) s) (hW : Wd D B0 en H) (hS : va_S (fun q => B0 ≤ q) H0 H locs) (hA : B0 ≤ H0.size) {n : Int} (h0 : 0 ≤ n) (hn : n ≤ 1000000) (hcells : cells + 1 ≤ R.cells) (hslots : slots + n.toNat ≤ R.slots) (hdg : decode cc pc = .ok (.newarray atype, 2)) (kn : Nat) (ki : Int)
    (kk : ∀ (q : Nat) (H1 : Heap), Wd D B0 (e2 en kn ki (some (q, aB dA n (fun _ => 0)))) H1 → va_S (fun q => B0 ≤ q) H0 H1 locs → W p l e R s m args below meth c H1 locs (cells + 1) (slots + n.toNat) Q (F0 m (pc + 2) ls (.ref q :: rest))) : W p l e R s m args below meth c H locs cells slots Q (F0 m pc ls (.int (iZ n) :: rest)) := by
  obtain ⟨ws, hP, hD, hm, hi⟩ := hW
  have hbn : iB n := ⟨by omega, by omega⟩
  refine va_newa hx hb (by rw [hat]; exact harr) hat hK hP hD hS (fun q h => Nat.le_trans hA h) (a0 := (n.toNat, .inl (fun _ => iZ 0))) (fun cA => rfl) (by rw [← iZ_0, iZ_lt hbn iB_0]; omega) (iZ_cl hbn) (by show n.toNat * 1 ≤ _; omega) hcells hslots hdg (fun q cA H1 hK1 hP1 hD1 hS1 => ?_)
  have hc : cA = dA 0 := by
    have h1 : s.vm.findClass _ = some cA := (hK1.2 6 (cA, .byte) rfl).2
    have h2 : s.vm.findClass _ = some (dA 0) := (hK1.2 0 (dA 0, .byte) rfl).2
    exact Option.some.inj (h1.symm.trans h2)
  subst hc
  exact kk q H1 (Wd.push hm hi kn ki hP1 hD1) hS1
theorem g_newa_aI (hx : p.tables.exec = Jvm.exec) (hb : c.code = cc) {atype : ArrayType} (hat : newarray.typeOf atype = .int) (harr : (Cond.arrayClass .int).before args s = true) (hK : va_K D vwCl (gT dA) s) (hW : Wd D B0 en H) (hS : va_S (fun q => B0 ≤ q) H0 H locs) (hA : B0 ≤ H0.size) {n : Int} (h0 : 0 ≤ n) (hn : n ≤ 1000000) (hcells : cells + 1 ≤ R.cells) (hslots : slots + n.toNat ≤ R.slots) (hdg : decode cc pc = .ok (.newarray atype, 2)) (kn : Nat) (ki : Int)
    (kk : ∀ (q : Nat) (H1 : Heap), Wd D B0 (e2 en kn ki (some (q, aI dA n (fun _ => 0)))) H1 → va_S (fun q => B0 ≤ q) H0 H1 locs → W p l e R s m args below meth c H1 locs (cells + 1) (slots + n.toNat) Q (F0 m (pc + 2) ls (.ref q :: rest))) : W p l e R s m args below meth c H locs cells slots Q (F0 m pc ls (.int (iZ n) :: rest)) := by
  obtain ⟨ws, hP, hD, hm, hi⟩ := hW
  have hbn : iB n := ⟨by omega, by omega⟩
  refine va_newa hx hb (by rw [hat]; exact harr) hat hK hP hD hS (fun q h => Nat.le_trans hA h) (a0 := (n.toNat, .inl (fun _ => iZ 0))) (fun cA => rfl) (by rw [← iZ_0, iZ_lt hbn iB_0]; omega) (iZ_cl hbn) (by show n.toNat * 4 ≤ _; omega) hcells hslots hdg (fun q cA H1 hK1 hP1 hD1 hS1 => ?_)
  have hc : cA = dA 1 := by
    have h1 : s.vm.findClass _ = some cA := (hK1.2 6 (cA, .int) rfl).2
    have h2 : s.vm.findClass _ = some (dA 1) := (hK1.2 1 (dA 1, .int) rfl).2
    exact Option.some.inj (h1.symm.trans h2)
  subst hc
  exact kk q H1 (Wd.push hm hi kn ki hP1 hD1) hS1
theorem g_newa_aJ (hx : p.tables.exec = Jvm.exec) (hb : c.code = cc) {atype : ArrayType} (hat : newarray.typeOf atype = .long) (harr : (Cond.arrayClass .long).before args s = true) (hK : va_K D vwCl (gT dA) s) (hW : Wd D B0 en H) (hS : va_S (fun q => B0 ≤ q) H0 H locs) (hA : B0 ≤ H0.size) {n : Int} (h0 : 0 ≤ n) (hn : n ≤ 1000000) (hcells : cells + 1 ≤ R.cells) (hslots : slots + n.toNat ≤ R.slots) (hdg : decode cc pc = .ok (.newarray atype, 2)) (kn : Nat) (ki : Int)
    (kk : ∀ (q : Nat) (H1 : Heap), Wd D B0 (e2 en kn ki (some (q, aJ dA n (fun _ => 0)))) H1 → va_S (fun q => B0 ≤ q) H0 H1 locs → W p l e R s m args below meth c H1 locs (cells + 1) (slots + n.toNat) Q (F0 m (pc + 2) ls (.ref q :: rest))) : W p l e R s m args below meth c H locs cells slots Q (F0 m pc ls (.int (iZ n) :: rest)) := by
  obtain ⟨ws, hP, hD, hm, hi⟩ := hW
  have hbn : iB n := ⟨by omega, by omega⟩
  refine va_newa hx hb (by rw [hat]; exact harr) hat hK hP hD hS (fun q h => Nat.le_trans hA h) (a0 := (n.toNat, .inr (.inl (fun _ => lZ 0)))) (fun cA => rfl) (by rw [← iZ_0, iZ_lt hbn iB_0]; omega) (iZ_cl hbn) (by show n.toNat * 8 ≤ _; omega) hcells hslots hdg (fun q cA H1 hK1 hP1 hD1 hS1 => ?_)
  have hc : cA = dA 2 := by
    have h1 : s.vm.findClass _ = some cA := (hK1.2 6 (cA, .long) rfl).2
    have h2 : s.vm.findClass _ = some (dA 2) := (hK1.2 2 (dA 2, .long) rfl).2
    exact Option.some.inj (h1.symm.trans h2)
  subst hc
  exact kk q H1 (Wd.push hm hi kn ki hP1 hD1) hS1
theorem g_newa_aZ (hx : p.tables.exec = Jvm.exec) (hb : c.code = cc) {atype : ArrayType} (hat : newarray.typeOf atype = .boolean) (harr : (Cond.arrayClass .boolean).before args s = true) (hK : va_K D vwCl (gT dA) s) (hW : Wd D B0 en H) (hS : va_S (fun q => B0 ≤ q) H0 H locs) (hA : B0 ≤ H0.size) {n : Int} (h0 : 0 ≤ n) (hn : n ≤ 1000000) (hcells : cells + 1 ≤ R.cells) (hslots : slots + n.toNat ≤ R.slots) (hdg : decode cc pc = .ok (.newarray atype, 2)) (kn : Nat) (ki : Int)
    (kk : ∀ (q : Nat) (H1 : Heap), Wd D B0 (e2 en kn ki (some (q, aZ dA n (fun _ => 0)))) H1 → va_S (fun q => B0 ≤ q) H0 H1 locs → W p l e R s m args below meth c H1 locs (cells + 1) (slots + n.toNat) Q (F0 m (pc + 2) ls (.ref q :: rest))) : W p l e R s m args below meth c H locs cells slots Q (F0 m pc ls (.int (iZ n) :: rest)) := by
  obtain ⟨ws, hP, hD, hm, hi⟩ := hW
  have hbn : iB n := ⟨by omega, by omega⟩
  refine va_newa hx hb (by rw [hat]; exact harr) hat hK hP hD hS (fun q h => Nat.le_trans hA h) (a0 := (n.toNat, .inl (fun _ => iZ 0))) (fun cA => rfl) (by rw [← iZ_0, iZ_lt hbn iB_0]; omega) (iZ_cl hbn) (by show n.toNat * 1 ≤ _; omega) hcells hslots hdg (fun q cA H1 hK1 hP1 hD1 hS1 => ?_)
  have hc : cA = dA 3 := by
    have h1 : s.vm.findClass _ = some cA := (hK1.2 6 (cA, .boolean) rfl).2
    have h2 : s.vm.findClass _ = some (dA 3) := (hK1.2 3 (dA 3, .boolean) rfl).2
    exact Option.some.inj (h1.symm.trans h2)
  subst hc
  exact kk q H1 (Wd.push hm hi kn ki hP1 hD1) hS1
theorem g_newq_aO (hx : p.tables.exec = Jvm.exec) (hb : c.code = cc) {own : String} {index : Nat} (hown : s.vm.findClass own = some m.cls) (hclink : (Cond.classLink own index "java/lang/Object").before args s = true) (hover : va_AO "java/lang/Object" s) (hK : va_K D vwCl (gT dA) s) (hW : Wd D B0 en H) (hS : va_S (fun q => B0 ≤ q) H0 H locs) (hA : B0 ≤ H0.size) {n : Int} (h0 : 0 ≤ n) (hn : n ≤ 1000000) (hcells : cells + 1 ≤ R.cells) (hslots : slots + n.toNat ≤ R.slots) (hdg : decode cc pc = .ok (.anewarray index, 3)) (kn : Nat) (ki : Int)
    (kk : ∀ (q : Nat) (H1 : Heap), Wd D B0 (e2 en kn ki (some (q, aO dA n (fun _ => none)))) H1 → va_S (fun q => B0 ≤ q) H0 H1 locs → W p l e R s m args below meth c H1 locs (cells + 1) (slots + n.toNat) Q (F0 m (pc + 3) ls (.ref q :: rest))) : W p l e R s m args below meth c H locs cells slots Q (F0 m pc ls (.int (iZ n) :: rest)) := by
  obtain ⟨ws, hP, hD, hm, hi⟩ := hW
  have hbn : iB n := ⟨by omega, by omega⟩
  refine va_newq hx hb hown hclink hover hK hP hD hS (fun q h => Nat.le_trans hA h) (by rw [← iZ_0, iZ_lt hbn iB_0]; omega) (iZ_cl hbn) (by omega) hcells hslots hdg (fun q cA H1 hK1 hP1 hD1 hS1 => ?_)
  have hc : cA = dA 4 := by
    obtain ⟨_, _, _, _, _, h1⟩ := (hK1.2 6 (cA, .object "java/lang/Object") rfl).2
    obtain ⟨_, _, _, _, _, h2⟩ := (hK1.2 4 (dA 4, .object "java/lang/Object") rfl).2
    exact Option.some.inj (h1.symm.trans h2)
  subst hc
  exact kk q H1 (Wd.push hm hi kn ki hP1 hD1) hS1
theorem g_newq_aR (hx : p.tables.exec = Jvm.exec) (hb : c.code = cc) {own : String} {index : Nat} (hown : s.vm.findClass own = some m.cls) (hclink : (Cond.classLink own index "LongTransfer$Receiver").before args s = true) (hover : va_AO "LongTransfer$Receiver" s) (hK : va_K D vwCl (gT dA) s) (hW : Wd D B0 en H) (hS : va_S (fun q => B0 ≤ q) H0 H locs) (hA : B0 ≤ H0.size) {n : Int} (h0 : 0 ≤ n) (hn : n ≤ 1000000) (hcells : cells + 1 ≤ R.cells) (hslots : slots + n.toNat ≤ R.slots) (hdg : decode cc pc = .ok (.anewarray index, 3)) (kn : Nat) (ki : Int)
    (kk : ∀ (q : Nat) (H1 : Heap), Wd D B0 (e2 en kn ki (some (q, aR dA n (fun _ => none)))) H1 → va_S (fun q => B0 ≤ q) H0 H1 locs → W p l e R s m args below meth c H1 locs (cells + 1) (slots + n.toNat) Q (F0 m (pc + 3) ls (.ref q :: rest))) : W p l e R s m args below meth c H locs cells slots Q (F0 m pc ls (.int (iZ n) :: rest)) := by
  obtain ⟨ws, hP, hD, hm, hi⟩ := hW
  have hbn : iB n := ⟨by omega, by omega⟩
  refine va_newq hx hb hown hclink hover hK hP hD hS (fun q h => Nat.le_trans hA h) (by rw [← iZ_0, iZ_lt hbn iB_0]; omega) (iZ_cl hbn) (by omega) hcells hslots hdg (fun q cA H1 hK1 hP1 hD1 hS1 => ?_)
  have hc : cA = dA 5 := by
    obtain ⟨_, _, _, _, _, h1⟩ := (hK1.2 6 (cA, .object "LongTransfer$Receiver") rfl).2
    obtain ⟨_, _, _, _, _, h2⟩ := (hK1.2 5 (dA 5, .object "LongTransfer$Receiver") rfl).2
    exact Option.some.inj (h1.symm.trans h2)
  subst hc
  exact kk q H1 (Wd.push hm hi kn ki hP1 hD1) hS1
end GR
