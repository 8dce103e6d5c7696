/-! what is known at the law's entry -/
set_option maxHeartbeats 4000000 in
set_option maxRecDepth 100000 in
theorem st_known {s : State} {b : Nat} (hts : ∀ w ∈ lw_tbl, w.before #[Value.ref b] s = true) (hgv : (Jvm.Cond.and given_1 narrow_1).before #[Value.ref b] s = true) : ∃ (D : va_G) (dA : Nat → ClassId) (z : Nat → Nat) (q : Nat), z 0 = s.heap.size ∧ gK D dA z s ∧ gE z q s s.heap := by
  have hs := flat_of_before _ hgv
  have i0 : (Cond.instantiable RJx00060 6).before #[Value.ref b] s = true := hts _ (List.mem_of_getElem? (i := 587) (by decide +kernel))
  obtain ⟨c0, s0, k0⟩ := u_known (C := RJx00060) (T := TJx00060) (N := 6) (n := 6) hts inJx00060 i0
  have i1 : (Cond.instantiable RJx4a65c 3).before #[Value.ref b] s = true := hts _ (List.mem_of_getElem? (i := 73) (by decide +kernel))
  obtain ⟨c1, s1, k1⟩ := u_known (C := RJx4a65c) (T := TJx4a65c) (N := 3) (n := 3) hts inJx4a65c i1
  have i2 : (Cond.instantiable RX0 8).before #[Value.ref b] s = true := hts _ (List.mem_of_getElem? (i := 424) (by decide +kernel))
  obtain ⟨c2, s2, k2⟩ := u_known (C := RX0) (T := TX0) (N := 8) (n := 8) hts inX0 i2
  have i3 : (Cond.instantiable RX1 9).before #[Value.ref b] s = true := hts _ (List.mem_of_getElem? (i := 103) (by decide +kernel))
  obtain ⟨c3, s3, k3⟩ := u_known (C := RX1) (T := TX1) (N := 9) (n := 9) hts inX1 i3
  have i4 : (Cond.instantiable RX2 9).before #[Value.ref b] s = true := hts _ (List.mem_of_getElem? (i := 199) (by decide +kernel))
  obtain ⟨c4, s4, k4⟩ := u_known (C := RX2) (T := TX2) (N := 9) (n := 9) hts inX2 i4
  have i5 : (Cond.instantiable RX3 14).before #[Value.ref b] s = true := hts _ (List.mem_of_getElem? (i := 65) (by decide +kernel))
  obtain ⟨c5, s5, k5⟩ := u_known (C := RX3) (T := TX3) (N := 14) (n := 14) hts inX3 i5
  have i6 : (Cond.instantiable RX4 43).before #[Value.ref b] s = true := hts _ (List.mem_of_getElem? (i := 657) (by decide +kernel))
  obtain ⟨c6, s6, k6⟩ := u_known (C := RX4) (T := TX4) (N := 43) (n := 43) hts inX4 i6
  have wB : (Cond.arrayClass .byte).before #[Value.ref b] s = true := hts _ (List.mem_of_getElem? (i := 240) (by decide +kernel))
  obtain ⟨cB, kB, pB, hB1, hB2, hB3⟩ := Cond.arrayClass_spec wB
  have tB : ArrOfT s cB .byte ∧ va_RA s cB .byte := ⟨fun N z => ⟨(fun k h => by cases h), kB, hB2, pB, hB3⟩, hB1⟩
  have wI : (Cond.arrayClass .int).before #[Value.ref b] s = true := hts _ (List.mem_of_getElem? (i := 146) (by decide +kernel))
  obtain ⟨cI, kI, pI, hI1, hI2, hI3⟩ := Cond.arrayClass_spec wI
  have tI : ArrOfT s cI .int ∧ va_RA s cI .int := ⟨fun N z => ⟨(fun k h => by cases h), kI, hI2, pI, hI3⟩, hI1⟩
  have wJ : (Cond.arrayClass .long).before #[Value.ref b] s = true := hts _ (List.mem_of_getElem? (i := 797) (by decide +kernel))
  obtain ⟨cJ, kJ, pJ, hJ1, hJ2, hJ3⟩ := Cond.arrayClass_spec wJ
  have tJ : ArrOfT s cJ .long ∧ va_RA s cJ .long := ⟨fun N z => ⟨(fun k h => by cases h), kJ, hJ2, pJ, hJ3⟩, hJ1⟩
  have wZ : (Cond.arrayClass .boolean).before #[Value.ref b] s = true := hts _ (List.mem_of_getElem? (i := 796) (by decide +kernel))
  obtain ⟨cZ, kZ, pZ, hZ1, hZ2, hZ3⟩ := Cond.arrayClass_spec wZ
  have tZ : ArrOfT s cZ .boolean ∧ va_RA s cZ .boolean := ⟨fun N z => ⟨(fun k h => by cases h), kZ, hZ2, pZ, hZ3⟩, hZ1⟩
  have wO : (Cond.arrayOver (.object "java/lang/Object")).before #[Value.ref b] s = true := hts _ (List.mem_of_getElem? (i := 285) (by decide +kernel))
  obtain ⟨pO, cO, kO, hO1, -, hO3, hO4, hO5⟩ := Cond.arrayOver_spec wO
  have tO : ArrOfT s cO (.object "java/lang/Object") ∧ va_RA s cO (.object "java/lang/Object") := ⟨fun N z => ⟨(fun k h => by cases h), kO, hO3, pO, hO4⟩, kO, pO, hO3, hO4, hO1, hO5⟩
  have wR : (Cond.arrayOver (.object "LongTransfer$Receiver")).before #[Value.ref b] s = true := hts _ (List.mem_of_getElem? (i := 99) (by decide +kernel))
  obtain ⟨pR, cR, kR, hR1, -, hR3, hR4, hR5⟩ := Cond.arrayOver_spec wR
  have tR : ArrOfT s cR (.object "LongTransfer$Receiver") ∧ va_RA s cR (.object "LongTransfer$Receiver") := ⟨fun N z => ⟨(fun k h => by cases h), kR, hR3, pR, hR4⟩, kR, pR, hR3, hR4, hR1, hR5⟩
  have n1 : (Cond.fieldLinkNest "LongTransfer$Frame" 39 "LongTransfer" "NO_OCTETS" "[B" "LongTransfer").before #[Value.ref b] s = true := hts _ (List.mem_of_getElem? (i := 429) (by decide +kernel))
  have n2 : (Cond.fieldLinkNest "LongTransfer$Receiver" 15 "LongTransfer" "NO_OCTETS" "[B" "LongTransfer").before #[Value.ref b] s = true := hts _ (List.mem_of_getElem? (i := 108) (by decide +kernel))
  have n3 : (Cond.methodLinkNest "LongTransfer" 47 ⟨"LongTransfer$Receiver", "<init>", "()V"⟩ "LongTransfer").before #[Value.ref b] s = true := hts _ (List.mem_of_getElem? (i := 104) (by decide +kernel))
  have n4 : (Cond.castable "LongTransfer$Sender" "LongTransfer$Sender").before #[Value.ref b] s = true := hts _ (List.mem_of_getElem? (i := 919) (by decide +kernel))
  have n5 : (Cond.castable "LongTransfer$Frame" "LongTransfer$Frame").before #[Value.ref b] s = true := hts _ (List.mem_of_getElem? (i := 920) (by decide +kernel))
  have n6 : (Cond.castable "LongTransfer$Sender" "java/lang/Object").before #[Value.ref b] s = true := hts _ (List.mem_of_getElem? (i := 927) (by decide +kernel))
  have n7 : (Cond.castable "LongTransfer$Frame" "java/lang/Object").before #[Value.ref b] s = true := hts _ (List.mem_of_getElem? (i := 928) (by decide +kernel))
  have n8 : (Cond.castable "[B" "java/lang/Cloneable").before #[Value.ref b] s = true := hts _ (List.mem_of_getElem? (i := 521) (by decide +kernel))
  have nD : (Cond.declares ⟨"java/lang/Object", "getClass", "()Ljava/lang/Class;"⟩).before #[Value.ref b] s = true := hts _ (List.mem_of_getElem? (i := 923) (by decide +kernel))
  have e1 : (Cond.castable RJx00060 RJx00060).before #[Value.ref b] s = true := hts _ (List.mem_of_getElem? (i := 588) (by decide +kernel))
  have e2 : (Cond.declares (Bundle.initS "java/lang/IndexOutOfBoundsException")).before #[Value.ref b] s = true := hts _ (List.mem_of_getElem? (i := 590) (by decide +kernel))
  have e3 : (Cond.declares (Bundle.initS "java/lang/RuntimeException")).before #[Value.ref b] s = true := hts _ (List.mem_of_getElem? (i := 592) (by decide +kernel))
  have e4 : (Cond.declares (Bundle.initS "java/lang/Exception")).before #[Value.ref b] s = true := hts _ (List.mem_of_getElem? (i := 594) (by decide +kernel))
  have e5 : (Cond.declares (Bundle.initS "java/lang/Throwable")).before #[Value.ref b] s = true := hts _ (List.mem_of_getElem? (i := 596) (by decide +kernel))
  have l1 : (Cond.laysStatic Bundle.tN "UNASSIGNED_STACK" Bundle.steD).before #[Value.ref b] s = true := hts _ (List.mem_of_getElem? (i := 615) (by decide +kernel))
  have l2 : (Cond.laysStatic Bundle.tN "SUPPRESSED_SENTINEL" Bundle.listD).before #[Value.ref b] s = true := hts _ (List.mem_of_getElem? (i := 617) (by decide +kernel))
  have l3 : (Cond.laysStatic "LongTransfer" "NO_OCTETS" "[B").before #[Value.ref b] s = true := hts _ (List.mem_of_getElem? (i := 101) (by decide +kernel))
  have l4 : (Cond.laysStatic "java/util/ArrayList" "DEFAULTCAPACITY_EMPTY_ELEMENTDATA" "[Ljava/lang/Object;").before #[Value.ref b] s = true := hts _ (List.mem_of_getElem? (i := 85) (by decide +kernel))
  have g1 : (Cond.initialized "LongTransfer").before #[Value.ref b] s = true := hts _ (List.mem_of_getElem? (i := 45) (by decide +kernel))
  have g2 : (Cond.initialized "java/util/ArrayList").before #[Value.ref b] s = true := hts _ (List.mem_of_getElem? (i := 48) (by decide +kernel))
  have sr : (Cond.stringRef RX3 137 "no such octet was got").before #[Value.ref b] s = true := hts _ (List.mem_of_getElem? (i := 627) (by decide +kernel))
  have a1 : (Cond.arrayOf (.static "LongTransfer" "NO_OCTETS" "[B") .byte).before #[Value.ref b] s = true := hs _ (by decide +kernel)
  have a2 : (Cond.eq (.length (.static "LongTransfer" "NO_OCTETS" "[B")) (.int 0)).before #[Value.ref b] s = true := hs _ (by decide +kernel)
  have a3 : (Cond.arrayOf (.static "java/util/ArrayList" "DEFAULTCAPACITY_EMPTY_ELEMENTDATA" "[Ljava/lang/Object;") (.object "java/lang/Object")).before #[Value.ref b] s = true := hs _ (by decide +kernel)
  have a4 : (Cond.eq (.length (.static "java/util/ArrayList" "DEFAULTCAPACITY_EMPTY_ELEMENTDATA" "[Ljava/lang/Object;")) (.int 0)).before #[Value.ref b] s = true := hs _ (by decide +kernel)
  have a5 : (Cond.isRef (.static Bundle.tN "UNASSIGNED_STACK" Bundle.steD)).before #[Value.ref b] s = true := hs _ (by decide +kernel)
  have a6 : (Cond.isRef (.static Bundle.tN "SUPPRESSED_SENTINEL" Bundle.listD)).before #[Value.ref b] s = true := hs _ (by decide +kernel)
  have a7 : (Cond.isRef (.mirror "[Ljava/lang/Object;")).before #[Value.ref b] s = true := hs _ (by decide +kernel)
  have a8 : (Cond.exactly (.string RX3 137) "java/lang/String").before #[Value.ref b] s = true := hs _ (by decide +kernel)
  have hA : ∀ a : Nat, a < s.heap.size → ¬ (fun q : Nat => s.heap.size ≤ q) a := fun a h q => by have q : s.heap.size ≤ a := q; omega
  obtain ⟨t1, ht1, hT1⟩ := va_Tof (N := 0) (f := fun _ => .int 0) (A := fun q : Nat => s.heap.size ≤ q) (by decide) a1 (va_eqt (z := Int32.ofNat 0) a2) (fun j hj => absurd hj (Nat.not_lt_zero j)) hA
  obtain ⟨t2, ht2, hT2⟩ := va_Tof (N := 0) (f := fun _ => .null) (A := fun q : Nat => s.heap.size ≤ q) (by decide) a3 (va_eqt (z := Int32.ofNat 0) a4) (fun j hj => absurd hj (Nat.not_lt_zero j)) hA
  have z1 := va_Zref l3 g1 ht1 hA
  have z2 := va_Zref l4 g2 ht2 hA
  obtain ⟨mi, hmi⟩ := va_Mi.of a7
  obtain ⟨q, _, _, _, hq, -⟩ := Cond.exactly_spec a8
  refine ⟨(fun k => if k = 0 then c0 else if k = 1 then c1 else if k = 2 then c2 else if k = 3 then c3 else if k = 4 then c4 else if k = 5 then c5 else c6, fun k => if k = 0 then s0 else if k = 1 then s1 else if k = 2 then s2 else if k = 3 then s3 else if k = 4 then s4 else if k = 5 then s5 else s6), (fun k => if k = 0 then cB else if k = 1 then cI else if k = 2 then cJ else if k = 3 then cZ else if k = 4 then cO else cR), (fun k => if k = 0 then s.heap.size else if k = 1 then t1 else if k = 2 then t2 else mi), q, rfl, ⟨⟨?_, ?_⟩, Nat.le_refl _, ⟨z1, hT1, z2, hT2⟩, ?_⟩, gSt.of l1 a5 hA, gSt.of l2 a6 hA, vk_R.of sr hq, va_any rfl e1, va_any rfl e2, va_any rfl e3, va_any rfl e4, va_any rfl e5⟩
  · intro k r hk
    match k, hk with
    | 0, hk => cases hk; exact k0
    | 1, hk => cases hk; exact k1
    | 2, hk => cases hk; exact k2
    | 3, hk => cases hk; exact k3
    | 4, hk => cases hk; exact k4
    | 5, hk => cases hk; exact k5
    | 6, hk => cases hk; exact k6
    | k + 7, hk => simp [vwCl] at hk
  · intro k r hk
    match k, hk with
    | 0, hk => cases hk; exact tB
    | 1, hk => cases hk; exact tI
    | 2, hk => cases hk; exact tJ
    | 3, hk => cases hk; exact tZ
    | 4, hk => cases hk; exact tO
    | 5, hk => cases hk; exact tR
    | k + 6, hk => simp [gT] at hk
  · exact ⟨va_any rfl n1, va_any rfl n2, va_any rfl n3, va_any rfl n4, va_any rfl n5, va_any rfl n6, va_any rfl n7, va_any rfl n8, va_AO.of wO, va_AO.of wR, va_Dc.of nD, hmi⟩
set_option maxHeartbeats 8000000 in
set_option maxRecDepth 100000 in
theorem whole_start {p : Program} {e : Env} {s : State} {m : MethodId} {below : List Frame} {meth : Method} {c : Code} (l : Launch) (hlt : l.stackTraces = false) {b L : Nat} {xs : Nat → Int32} (hL : L ≤ 2049) (C0 : lw_At p s m meth c b L xs) : W p l e room_1 s m #[Value.ref b] below meth c s.heap [] 0 0 (lw_Z below #[Value.ref b] s) (entryFrame m ([Value.ref b] : List Value).toArray 7) := by
  obtain ⟨hx, hb, hr, hml, hown, htsA, hX, hbl, hlocks, hgv⟩ := id C0
  have hts : ∀ w ∈ wsL_law, w.before #[Value.ref b] s = true := fun w h => htsA w (wsL_law_in w h)
  obtain ⟨D, dA, z, q9, hz, hg, he9⟩ := st_known htsA hgv
  have hK := hg.1
  have hbA : ¬ (fun q : Nat => z 0 ≤ q) b := by rw [hz]; exact Nat.not_le.mpr hbl
  have hS : va_S (fun q => z 0 ≤ q) s.heap s.heap [] := va_S.rf
  have hW : Wd D (z 0) (fun _ _ => none) s.heap := ⟨[], fun k q h => by simp at h, ⟨fun i j p q h => by simp at h, fun k q h => by simp at h⟩, fun k i q h => by simp at h, fun k i k' i' q q' h => by simp at h⟩
  obtain ⟨rm, hrm⟩ : ∃ x : Int, x = if 0 < L then fX xs 0 else 0 := ⟨_, rfl⟩
  have hrmb : iB rm := by
    rw [hrm]
    split
    · exact fX_b _ _
    · exact iB_0
  have hl := lv_entry ([.ref b]) (n := 7) (Nat.le_of_ble_eq_true rfl)
  rw [lg_entry_eq]
  generalize (lg_sl ([.ref b]) ++ List.replicate (7 - (lg_sl ([.ref b])).length) Slot.unset).toArray = ls at hl ⊢
  have hl : lv_has ls 7 [(0, .ref b)] := hl
  refine g_new (C := RX3) (T := TX3) (N := 14) (ci := 5) (fs := [.int (iZ (0)), .null, .null, .null, .null, .int (iZ (0)), .null, .long (lZ (0)), .int (iZ (0)), .int (iZ (0)), .int (iZ (0)), .int (iZ (0)), .int (iZ (0)), .int (iZ (0))]) hx hb hts inlX3 tyX3 tyX3_ok hown (hts (.classLink RL 8 RX3) (by decide +kernel)) (hts (.instantiable RX3 14) (by decide +kernel)) (hts (.initialized RX3) (by decide +kernel)) hK hW hS hg.2.1 rfl (fun j hj => by match j, hj with | 0, _ => rfl | 1, _ => rfl | 2, _ => rfl | 3, _ => rfl | 4, _ => rfl | 5, _ => rfl | 6, _ => rfl | 7, _ => rfl | 8, _ => rfl | 9, _ => rfl | 10, _ => rfl | 11, _ => rfl | 12, _ => rfl | 13, _ => rfl | j + 14, h => omega) (show 0 + 1 ≤ 601024 by omega) (show 0 + 14 ≤ 7293000 by omega) dL_law_0 0 0 (fun aX H hW hS => ?_)
  have f0 : (e2 (fun _ _ => none) 0 0 (some (aX, .inr (5, [.int (iZ (0)), .null, .null, .null, .null, .int (iZ (0)), .null, .long (lZ (0)), .int (iZ (0)), .int (iZ (0)), .int (iZ (0)), .int (iZ (0)), .int (iZ (0)), .int (iZ (0))])))) 0 0 = some (aX, .inr (5, [.int (iZ (0)), .null, .null, .null, .null, .int (iZ (0)), .null, .long (lZ (0)), .int (iZ (0)), .int (iZ (0)), .int (iZ (0)), .int (iZ (0)), .int (iZ (0)), .int (iZ (0))])) := e2_s _ _ _ _
  refine lv_dup hx hb dL_law_3 rfl ?_
  refine lv_aload_n hx hb dL_law_4 rfl (lv_at hl 0 rfl) ?_
  refine z_iconst hx hb dL_law_5 ?_
  refine va_calli (va_runS (As := [.ref b, .int (iZ (0))]) (rest := [.ref aX, .ref aX]) ⟨hx, hb, hml, hown, hts⟩ (c_L_cell l (b := b) (xs := xs) hL) (va_cwS 2 hts gL_law_L_cell rfl rfl rfl (by decide +kernel) ⟨Nat.le_of_ble_eq_true rfl, Nat.le_of_ble_eq_true rfl⟩) ⟨fun a U g mk q => ⟨q.1, va_X.moved (u := U) (U := U.calling g mk a) (Vm.Alike.refl U.vm) q.2⟩, fun U hU hw => ⟨rfl, by show va_X b L xs U U.heap; rw [hU]; exact va_X.moved hw.alike (hX.kept (hS.2.1 b hbl hbA))⟩⟩ rfl rfl hl.1 rfl (lv_room (Nat.le_of_ble_eq_true rfl)) dL_law_6 ⟨(show 0 + 1 + 0 ≤ 601024 by omega), (show 0 + 14 + 0 ≤ 7293000 by omega)⟩) hS (fun _ _ h => h.elim) (fun _ h => h.elim) (fun r9 u9 t9 H locs ht9 hvm9 hw9 hB9 hz9 hk9 hS => ?_)
  replace hW := hW.kp (fun q hq => hk9 q hq (fun w => w))
  subst hw9
  rw [← hrm]
  refine va_callv (va_runI (As := [.int (iZ (rm))]) (rest := [.ref aX]) ⟨hx, hb, hml, hown, hts⟩ (c_X3_init l D dA z (e2 (fun _ _ => none) 0 0 (some (aX, .inr (5, [.int (iZ (0)), .null, .null, .null, .null, .int (iZ (0)), .null, .long (lZ (0)), .int (iZ (0)), .int (iZ (0)), .int (iZ (0)), .int (iZ (0)), .int (iZ (0)), .int (iZ (0))])))) aX rm hrmb f0) (cwI 1 hts gL_law_X3_init rfl rfl rfl (hts (.initialized RX3) (by decide +kernel)) (hts (.methodLink RL 21 yX3_init) (by decide +kernel)) (hts (.instanceMethod yX3_init) (by decide +kernel)) rfl (by decide +kernel) ⟨Nat.le_of_ble_eq_true rfl, Nat.le_of_ble_eq_true rfl⟩) ⟨gBl, gPre _ hg hS hW⟩ rfl rfl hl.1 rfl (lv_room (Nat.le_of_ble_eq_true rfl)) dL_law_9 ⟨(show 0 + 1 + 0 + 8 ≤ 601024 by omega), (show 0 + 14 + 0 + 54 ≤ 7293000 by omega)⟩) hS (fun _ _ h => h) (fun _ h => h) (fun u9 t9 H locs ht9 hvm9 hw9 hB9 hz9 hk9 hS => ?_)
  obtain ⟨en1, al⟩ := u9
  obtain ⟨hE1, hF1, ha1⟩ := hw9
  dsimp only at hE1 hF1 ha1
  have hW : Wd D (z 0) en1 H := by rw [← ht9]; exact hB9
  refine lv_astore_n (lv' := [(1, .ref aX), (0, .ref b)]) hx hb dL_law_12 rfl hl (by decide) rfl (fun ls hl => ?_)
  refine g_new (C := RX4) (T := TX4) (N := 43) (ci := 6) (fs := [.int (iZ (0)), .int (iZ (0)), .long (lZ (0)), .int (iZ (0)), .null, .null, .null, .null, .null, .null, .null, .null, .null, .null, .null, .null, .null, .null, .null, .null, .null, .null, .null, .null, .null, .null, .int (iZ (0)), .null, .null, .null, .null, .null, .null, .null, .null, .int (iZ (0)), .int (iZ (0)), .int (iZ (0)), .int (iZ (0)), .int (iZ (0)), .int (iZ (0)), .null, .null]) hx hb hts inlX4 tyX4 tyX4_ok hown (hts (.classLink RL 24 RX4) (by decide +kernel)) (hts (.instantiable RX4 43) (by decide +kernel)) (hts (.initialized RX4) (by decide +kernel)) hK hW hS hg.2.1 rfl (fun j hj => by match j, hj with | 0, _ => rfl | 1, _ => rfl | 2, _ => rfl | 3, _ => rfl | 4, _ => rfl | 5, _ => rfl | 6, _ => rfl | 7, _ => rfl | 8, _ => rfl | 9, _ => rfl | 10, _ => rfl | 11, _ => rfl | 12, _ => rfl | 13, _ => rfl | 14, _ => rfl | 15, _ => rfl | 16, _ => rfl | 17, _ => rfl | 18, _ => rfl | 19, _ => rfl | 20, _ => rfl | 21, _ => rfl | 22, _ => rfl | 23, _ => rfl | 24, _ => rfl | 25, _ => rfl | 26, _ => rfl | 27, _ => rfl | 28, _ => rfl | 29, _ => rfl | 30, _ => rfl | 31, _ => rfl | 32, _ => rfl | 33, _ => rfl | 34, _ => rfl | 35, _ => rfl | 36, _ => rfl | 37, _ => rfl | 38, _ => rfl | 39, _ => rfl | 40, _ => rfl | 41, _ => rfl | 42, _ => rfl | j + 43, h => omega) (show 0 + 1 + 0 + 8 + 1 ≤ 601024 by omega) (show 0 + 14 + 0 + 54 + 43 ≤ 7293000 by omega) dL_law_13 20 0 (fun aM H hW hS => ?_)
  have f1 : (e2 en1 20 0 (some (aM, .inr (6, [.int (iZ (0)), .int (iZ (0)), .long (lZ (0)), .int (iZ (0)), .null, .null, .null, .null, .null, .null, .null, .null, .null, .null, .null, .null, .null, .null, .null, .null, .null, .null, .null, .null, .null, .null, .int (iZ (0)), .null, .null, .null, .null, .null, .null, .null, .null, .int (iZ (0)), .int (iZ (0)), .int (iZ (0)), .int (iZ (0)), .int (iZ (0)), .int (iZ (0)), .null, .null])))) 20 0 = some (aM, .inr (6, [.int (iZ (0)), .int (iZ (0)), .long (lZ (0)), .int (iZ (0)), .null, .null, .null, .null, .null, .null, .null, .null, .null, .null, .null, .null, .null, .null, .null, .null, .null, .null, .null, .null, .null, .null, .int (iZ (0)), .null, .null, .null, .null, .null, .null, .null, .null, .int (iZ (0)), .int (iZ (0)), .int (iZ (0)), .int (iZ (0)), .int (iZ (0)), .int (iZ (0)), .null, .null])) := e2_s _ _ _ _
  refine lv_dup hx hb dL_law_16 rfl ?_
  refine lv_aload_n hx hb dL_law_17 rfl (lv_at hl 1 rfl) ?_
  refine z_iconst hx hb dL_law_18 ?_
  refine va_calli (va_runS (As := [.ref b, .int (iZ (0))]) (rest := [.ref aM, .ref aM]) ⟨hx, hb, hml, hown, hts⟩ (c_L_cell l (b := b) (xs := xs) hL) (va_cwS 2 hts gL_law_L_cell rfl rfl rfl (by decide +kernel) ⟨Nat.le_of_ble_eq_true rfl, Nat.le_of_ble_eq_true rfl⟩) ⟨fun a U g mk q => ⟨q.1, va_X.moved (u := U) (U := U.calling g mk a) (Vm.Alike.refl U.vm) q.2⟩, fun U hU hw => ⟨rfl, by show va_X b L xs U U.heap; rw [hU]; exact va_X.moved hw.alike (hX.kept (hS.2.1 b hbl hbA))⟩⟩ rfl rfl hl.1 rfl (lv_room (Nat.le_of_ble_eq_true rfl)) dL_law_19 ⟨(show 0 + 1 + 0 + 8 + 1 + 0 ≤ 601024 by omega), (show 0 + 14 + 0 + 54 + 43 + 0 ≤ 7293000 by omega)⟩) hS (fun _ _ h => h.elim) (fun _ h => h.elim) (fun r9 u9 t9 H locs ht9 hvm9 hw9 hB9 hz9 hk9 hS => ?_)
  replace hW := hW.kp (fun q hq => hk9 q hq (fun w => w))
  subst hw9
  rw [← hrm]
  obtain ⟨en2, hen2⟩ : ∃ x : en_T, x = (e2 en1 20 0 (some (aM, .inr (6, [.int (iZ (0)), .int (iZ (0)), .long (lZ (0)), .int (iZ (0)), .null, .null, .null, .null, .null, .null, .null, .null, .null, .null, .null, .null, .null, .null, .null, .null, .null, .null, .null, .null, .null, .null, .int (iZ (0)), .null, .null, .null, .null, .null, .null, .null, .null, .int (iZ (0)), .int (iZ (0)), .int (iZ (0)), .int (iZ (0)), .int (iZ (0)), .int (iZ (0)), .null, .null])))) := ⟨_, rfl⟩
  rw [← hen2] at hW f1
  refine va_callv (va_runI (As := [.int (iZ (rm))]) (rest := [.ref aM]) ⟨hx, hb, hml, hown, hts⟩ (c_X4_init l D dA z en2 aM rm hrmb f1) (cwI 1 hts gL_law_X4_init rfl rfl rfl (hts (.initialized RX4) (by decide +kernel)) (hts (.methodLink RL 26 yX4_init) (by decide +kernel)) (hts (.instanceMethod yX4_init) (by decide +kernel)) rfl (by decide +kernel) ⟨Nat.le_of_ble_eq_true rfl, Nat.le_of_ble_eq_true rfl⟩) ⟨gBl, gPre _ hg hS hW⟩ rfl rfl hl.1 rfl (lv_room (Nat.le_of_ble_eq_true rfl)) dL_law_22 ⟨(show 0 + 1 + 0 + 8 + 1 + 0 + 32 ≤ 601024 by omega), (show 0 + 14 + 0 + 54 + 43 + 0 + 1135170 ≤ 7293000 by omega)⟩) hS (fun _ _ h => h) (fun _ h => h) (fun u9 t9 H locs ht9 hvm9 hw9 hB9 hz9 hk9 hS => ?_)
  obtain ⟨en3, bb⟩ := u9
  obtain ⟨hM3, hF3, hb3⟩ := hw9
  dsimp only at hM3 hF3 hb3
  have hW : Wd D (z 0) en3 H := by rw [← ht9]; exact hB9
  have hE3 : EC dA z (gNew rm) al en3 := ec_e hE1 (fun k i h => (hF3 k i (by omega)).trans (by rw [hen2]; exact e2_k (by omega)))
  refine lv_astore_n (lv' := [(2, .ref aM), (1, .ref aX), (0, .ref b)]) hx hb dL_law_25 rfl hl (by decide) rfl (fun ls hl => ?_)
  refine z_iconst hx hb dL_law_26 ?_
  refine g_newa_aJ (n := 1) hx hb rfl (hts (.arrayClass .long) (by decide +kernel)) hK hW hS hg.2.1 (by omega) (by omega) (show 0 + 1 + 0 + 8 + 1 + 0 + 32 + 1 ≤ 601024 by omega) (show 0 + 14 + 0 + 54 + 43 + 0 + 1135170 + (1 : Int).toNat ≤ 7293000 by omega) dL_law_27 70 0 (fun ao H hW hS => ?_)
  have f2 : (e2 en3 70 0 (some (ao, aJ dA (1) (fun _ => 0)))) 70 0 = some (ao, aJ dA (1) (fun _ => 0)) := e2_s _ _ _ _
  refine lv_astore_n (lv' := [(3, .ref ao), (2, .ref aM), (1, .ref aX), (0, .ref b)]) hx hb dL_law_29 rfl hl (by decide) rfl (fun ls hl => ?_)
  refine z_iconst hx hb dL_law_30 ?_
  refine lv_istore (lv' := [(4, .int (iZ (1))), (3, .ref ao), (2, .ref aM), (1, .ref aX), (0, .ref b)]) hx hb dL_law_31 hl (by decide) rfl (fun ls hl => ?_)
  obtain ⟨en4, hen4⟩ : ∃ x : en_T, x = (e2 en3 70 0 (some (ao, aJ dA (1) (fun _ => 0)))) := ⟨_, rfl⟩
  rw [← hen4] at hW f2
  have hE4 : EC dA z (gNew rm) al en4 := ec_e hE3 (fun k i h => by rw [hen4]; exact e2_k (by omega))
  have hM4 : EM dA bb (muNew rm) en4 := em_e hM3 (fun k i h1 h2 => by rw [hen4]; exact e2_k (by omega))
  have k0 : kC (gNew rm) = 0 ∧ kS (gNew rm) = 0 := by simp [kC, kS, gNew]
  have n0 : gNew rm 0 7 0 ≤ 5000 * ((0 : Nat) : Int) := by simp [gNew]
  refine W.widen (k := 100 + kC (gNew rm) + 3 * 0) (n := 1200000 + kS (gNew rm) + 10200 * 0) (by omega) (by omega) ?_
  exact law_loop l hlt hL C0 hz hg he9 bb ao L 0 (gNew rm) al (muNew rm) en4 (fun _ => 0) _ _ _ (by omega) (by omega) hE4 hM4 f2 (vv_new rm) (rl_new rm) n0 hW hS (by rw [ha1, hb3]; show lv_has ls 7 [(0, .ref b), (1, .ref aX), (2, .ref aM), (3, .ref ao), (4, .int (iZ (1)))]; exact (lv_sub hl [4, 3, 2, 1, 0] rfl))
set_option maxHeartbeats 4000000 in
theorem lw_walk (l : Launch) (hlt : l.stackTraces = false) (b : Addr) (xs : List Int32) : MetFree l x (headSpec (Jvm.Cond.code x code maxLocals ret :: tables_1) room_1) (lw_P b xs) (fun _ _ _ _ _ => True) lw_Q := by
  refine MetFree.of_bodyS (code := code) (maxLocals := maxLocals) (ret := ret) (by decide) ?_ ?_
  · intro args s m h hn
    obtain ⟨meth, c, h1, h2, h3, h4, h5, h6, -, -⟩ := Cond.code_spec hn (atoms_spec (ws := Jvm.Cond.code x code maxLocals ret :: tables_1) h _ List.mem_cons_self)
    exact ⟨meth, c, h1, h2, h3, h4, h5, h6⟩
  · intro p e s m args below meth c s₁ B hml0 hP _
    obtain ⟨rfl, hx, hbd, hgv⟩ := hP
    obtain ⟨scr, harrAt, hlist, hof, hsmall⟩ := hx
    obtain ⟨hcb, hkn, -, -⟩ := State.arrayAt?_spec harrAt
    have hown : s.vm.findClass R_law = some m.cls := findClass_of_methodNamed B.named
    have hts0 : ∀ c ∈ (Jvm.Cond.code x code maxLocals ret :: tables_1), c.before #[Value.ref b] s = true := atoms_spec (ws := Jvm.Cond.code x code maxLocals ret :: tables_1) B.pre
    have hts : ∀ w ∈ lw_tbl, w.before #[Value.ref b] s = true := k2_hts_sels lw_privs (fun w hw => hts0 w (List.mem_cons_of_mem _ hw)) lw_privs_ok
    have hml : c.maxLocals = 7 := B.maxLocals_eq (hts0 _ List.mem_cons_self)
    have X₀ : Stand p l e room_1 s m #[Value.ref b] below meth c s₁ [] 0 0 := Stand.of_body B
    have hh0 : s₁.heap = s.heap := by rw [B.state]; rfl
    have hsz : scr.slots.size = xs.length := by rw [← Array.length_toList, hlist, List.length_map]
    have hval : ∀ j : Nat, j < xs.length → scr.slots[j]? = some (.int (xs.getD j 0)) := fun j hj => by
      rw [← Array.getElem?_toList, hlist]
      simp [hj]
    have hbl : b < s.heap.size := (Array.getElem?_eq_some_iff.mp hcb).1
    have hX : va_X b xs.length (fun j => xs.getD j 0) s s.heap := ⟨scr, hcb, hof, hkn, hsz, hval⟩
    have K : W p l e room_1 s m #[Value.ref b] below meth c s₁.heap [] 0 0 (lw_Z below #[Value.ref b] s) (entryFrame m ([Value.ref b] : List Value).toArray 7) := by
      rw [hh0]
      exact whole_start l hlt hbd ⟨B.exec, B.bytes, B.returns, hml, hown, hts, hX, hbl, B.notSynchronized, hgv⟩
    obtain ⟨t, a1, o, b1, b2, b3⟩ := K s₁ rfl X₀
    exact ⟨t, o, a1, b1, b2, b3⟩
theorem lw_pre_spec {args : Array Value} {s : State} (h : (Jvm.Cond.and given_1 narrow_1).before args s = true) (hr : rest_1_c.before args s = true) : ∃ (b : Addr) (xs : List Int32), lw_P b xs args s := by
  have hs := flat_of_before _ h
  have hq := flat_of_before _ hr
  have hc : (Cond.count 1).before args s = true := hs _ (by decide +kernel)
  have harr : (Cond.arrayOf (.arg 0) .int).before args s = true := hs _ (by decide +kernel)
  have hle : (Cond.le (.length (.arg 0)) (.int 2049)).before args s = true := hs _ (by decide +kernel)
  have hlen : (Cond.isInt (.length (.arg 0))).before args s = true := hq _ (by decide +kernel)
  have hall : (Cond.all (.arg 0) (.isInt (.elem (.arg 0) (.index 0)))).before args s = true := hq _ (by decide +kernel)
  obtain ⟨b, xs, hb, hx⟩ := State.ints_of_pre rfl harr hlen hall
  have hsm : xs.length < 2 ^ 31 := hx.choose_spec.2.2.2
  have hev : (Term.length (.arg 0)).eval args s none [] s = some (.int xs.length.toInt32) := hx.length_eval hb
  have hv := Cond.le_ints hev (show (Term.int 2049).eval args s none [] s = some (.int 2049) from rfl)
  have hd : xs.length.toInt32 ≤ 2049 := by
    simpa [Cond.before, Cond.holds, hv] using hle
  have hN : xs.length ≤ 2049 := (Int32.ofNat_le_ofNat hsm (by decide)).mp (show Int32.ofNat xs.length ≤ Int32.ofNat 2049 from hd)
  exact ⟨b, xs, Cond.one_arg hc (show args[0]? = some (.ref b) from hb), hx, hN, h⟩
theorem lw_comes (l : Launch) (hlt : l.stackTraces = false) : Comes l x (Jvm.Cond.code x code maxLocals ret :: tables_1) room_1 (fun tb e args s => Calls_1 tb e args s ∧ rest_1 tb e args s ∧ Pre_1 tb e args s)
    (fun _ _ args s o t => lw_Q args s o t) := by
  intro p e ha hc hk s m args below hf hfit hheap happ hpre
  obtain ⟨b, xs, hP⟩ := lw_pre_spec hpre.2.2 hpre.2.1
  obtain ⟨k, o, h1, h2, h3, hQ⟩ := lw_walk l hlt b xs p e ha hc hk s m args below hf ((Spec.applies_iff_loose hf).mp happ).1 hP trivial
  exact ⟨k, o, h1, h2, h3, hQ⟩
theorem lw_frame {s t : State} {o : Outcome} {args : Array Value} (h : Framed s o t [] 601024 7293000) :
    Framed s o t (fieldLocs frame_1_writes args s ++ arrayLocs frame_1_arrays args s ++ staticLocs frame_1_statics s) 601024 7293000 := h
theorem lw_limb (L : Cond) (hL : ∀ (args : Array Value) (s t : State), L.after args s (.returned (some (.int 1))) t = true) :
    ArmFor flags0 classFile x code maxLocals ret World_1 tables_1 room_1 Calls_1 rest_1 Pre_1
      (fun tb e a s o t => postC L tb e a s o t ∧ Framed s o t (fieldLocs frame_1_writes a s ++ arrayLocs frame_1_arrays a s ++ staticLocs frame_1_statics s) 601024 7293000) := by
  intro l hfl _ _ p e ha hc hk s m args below hf hfit hheap happ hpre
  have hlt : l.stackTraces = false := by
    unfold Launch.stackTraces
    rw [hfl]
    decide
  obtain ⟨k, o, h1, h2, h3, rfl, hF⟩ := lw_comes l hlt p e ha hc hk s m args below hf hfit hheap happ hpre
  exact ⟨k, _, h1, h2, h3, hL args s _, lw_frame hF⟩
theorem i_vc : Claimed_1_1 ∧ Claimed_1_2 := ⟨lw_limb limb_1_1 (fun args s t => by simp [limb_1_1, Cond.after, Cond.holds, Cond.value]), lw_limb limb_1_2 (fun args s t => Cond.after_iff.mpr (by
  first | (rw [show limb_1_2 = Cond.eq .result (.int 1) from rfl, Cond.eq_ints (x := 1) (y := 1) rfl rfl]; simp; done) | (simp [limb_1_2, Cond.value, Term.eval]; done)))⟩
