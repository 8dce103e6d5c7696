theorem an_m {a m : Int} (k : Nat) (hm : (iZ m).toBitVec.toNat = 2 ^ k - 1) (hk : k ≤ 31) : iZ a &&& iZ m = iZ (a % (2 ^ k : Nat)) := by
  rw [pk_and (iZ a) k hm]
  show Int32.ofNat _ = _
  rw [iZ_nat]
  congr 1
  have h1 : (iZ a).toBitVec.toNat = (a % (2 ^ 32 : Nat)).toNat := by
    show (BitVec.ofInt 32 a).toNat = _
    rw [BitVec.toNat_ofInt]
  rw [h1, Int.natCast_emod, Int.toNat_of_nonneg (Int.emod_nonneg _ (by decide))]
  exact Int.emod_emod_of_dvd a (Int.natCast_dvd_natCast.mpr (Nat.pow_dvd_pow 2 (by omega)))
theorem an_255 (a : Int) : iZ a &&& iZ 255 = iZ (a % 256) := an_m 8 (by decide) (by decide)
theorem an_15 (a : Int) : iZ a &&& iZ 15 = iZ (a % 16) := an_m 4 (by decide) (by decide)
theorem bA_in {dA : Nat → ClassId} {z : Nat → Nat} {en : en_T} {k : Nat} {i : Int} {ob : Nat} {n : Int} {F : Int → Int} (hb : bA dA z en k i ob n F) (hn : 0 < n) : en k i = some (ob, aB dA n F) := by
  rcases hb with ⟨-, h⟩ | ⟨-, h⟩
  · omega
  · exact h
set_option maxHeartbeats 4000000 in
set_option maxRecDepth 100000 in
theorem c_X0_octetAt (l : Launch) (D : va_G) (dA : Nat → ClassId) (z : Nat → Nat) (en : en_T) (k : Nat) (i : Int) (a : Nat) (ob : Nat) (kd mg nu sz sp tm ow j n : Int) (F : Int → Int) (ko : Nat) (io : Int) (hj : iB j) (hn : iB n) (he : en k i = some (a, .inr (2, [.int (iZ (kd)), .int (iZ (mg)), .int (iZ (nu)), .int (iZ (sz)), .int (iZ (sp)), .long (lZ (tm)), .ref ob, .int (iZ (ow))]))) (ho : bA dA z en ko io ob n F) : Met l yX0_octetAt wsX0_octetAt ({ frames := 0, cells := 0, slots := 0, locals := 0 }) (gP D dA z en [.ref a, .int (iZ (j))]) (va_Qi (fun (r : Int32) (_ : Unit) => r = iZ (if 0 ≤ j ∧ j < n then F j % 256 else 0)) (fun _ t9 => Wd D (z 0) en t9.heap) (fun q => z 0 ≤ q)) (0) (0) (fun q => z 0 ≤ q) := by
  refine gMet (own := RX0) (cc := cX0_octetAt) (maxL := 2) (ret := (some .int)) (by decide) rfl rfl (Nat.le_of_ble_eq_true rfl) ?_
  intro p e s m below meth c hx hb hml hown hts hr hlocks hnm hg hW ls hl
  have hK := hg.1
  have hS : va_S (fun q => z 0 ≤ q) s.heap s.heap [] := va_S.rf
  have hi2 : ∀ w ∈ u_ws RX0 TX0 8, w ∈ wsX0_octetAt := by decide +kernel
  have hl : lv_has ls 2 [(0, .ref a), (1, .int (iZ (j)))] := hl
  refine lv_iload_n hx hb dX0_octetAt_0 rfl (lv_at hl 1 rfl) ?_
  refine z_if_lt (tgt := 26) hx hb dX0_octetAt_1 (by decide) (by omega) (fun c_1 => ?_) (fun c_1 => ?_)
  · refine z_iconst hx hb dX0_octetAt_26 ?_
    exact W.iret hx hb hr (fun t ht hw => ⟨⟨_, (), rfl, congrArg iZ (if_neg (by omega)).symm, by show Wd _ _ _ t.heap; rw [ht]; exact hW⟩, hS.F ht⟩) hS.2.2 dX0_octetAt_27
  · refine lv_iload_n hx hb dX0_octetAt_4 rfl (lv_at hl 1 rfl) ?_
    refine lv_aload_n hx hb dX0_octetAt_5 rfl (lv_at hl 0 rfl) ?_
    refine g_get (C := RX0) (T := TX0) (N := 8) (ci := 2) (v := .ref ob) hx hb hts hi2 hown hK hW he rfl 6 (by decide) (hts (.fieldLink RX0 35 "LongTransfer$Frame" "octets" "[B") (by decide +kernel)) (fun _ h9 => h9) rfl dX0_octetAt_6 ?_
    refine g_blen hx hb hg hW hS ho dX0_octetAt_9 ?_
    refine z_icmp_ge (tgt := 26) hx hb dX0_octetAt_10 (by decide) (by omega) (by omega) (fun c_10 => ?_) (fun c_10 => ?_)
    · refine z_iconst hx hb dX0_octetAt_26 ?_
      exact W.iret hx hb hr (fun t ht hw => ⟨⟨_, (), rfl, congrArg iZ (if_neg (by omega)).symm, by show Wd _ _ _ t.heap; rw [ht]; exact hW⟩, hS.F ht⟩) hS.2.2 dX0_octetAt_27
    · refine lv_aload_n hx hb dX0_octetAt_13 rfl (lv_at hl 0 rfl) ?_
      refine g_get (C := RX0) (T := TX0) (N := 8) (ci := 2) (v := .ref ob) hx hb hts hi2 hown hK hW he rfl 6 (by decide) (hts (.fieldLink RX0 35 "LongTransfer$Frame" "octets" "[B") (by decide +kernel)) (fun _ h9 => h9) rfl dX0_octetAt_14 ?_
      refine lv_iload_n hx hb dX0_octetAt_17 rfl (lv_at hl 1 rfl) ?_
      refine g_bald hx hb hK hW (bA_in ho (by omega)) (by omega) (by omega) (by omega) dX0_octetAt_18 ?_
      refine z_sipush hx hb dX0_octetAt_19 (by decide) ?_
      refine lv_iand hx hb dX0_octetAt_22 ?_
      rw [an_255]
      refine lv_goto (tgt := 27) hx hb dX0_octetAt_23 (by decide) ?_
      exact W.iret hx hb hr (fun t ht hw => ⟨⟨_, (), rfl, congrArg iZ (if_pos (by omega)).symm, by show Wd _ _ _ t.heap; rw [ht]; exact hW⟩, hS.F ht⟩) hS.2.2 dX0_octetAt_27
set_option maxHeartbeats 4000000 in
set_option maxRecDepth 100000 in
theorem c_X1_begin (l : Launch) (D : va_G) (dA : Nat → ClassId) (z : Nat → Nat) (en : en_T) (k : Nat) (i : Int) (a : Nat) (ob : Nat) (st mg hv sq bl cm an gu : Int) (nu ln : Int) (k2 : Nat) (i2 : Int) (hne : k ≠ k2) (h0 : 1 ≤ ln) (h1 : ln ≤ 10000) (he : en k i = some (a, .inr (3, [.int (iZ (st)), .int (iZ (mg)), .ref ob, .int (iZ (hv)), .int (iZ (sq)), .int (iZ (bl)), .int (iZ (cm)), .long (lZ (an)), .long (lZ (gu))]))) : Met l yX1_begin wsX1_begin ({ frames := 0, cells := 1, slots := ln.toNat, locals := 0 }) (gP D dA z en [.ref a, .int (iZ (nu)), .int (iZ (ln))]) (va_Qv (fun _ : Nat => True) (fun q t9 => Wd D (z 0) (e2 (e2 (e2 en k i (some (a, .inr (3, [.int (iZ (1)), .int (iZ (nu)), .ref ob, .int (iZ (hv)), .int (iZ (sq)), .int (iZ (bl)), .int (iZ (cm)), .long (lZ (an)), .long (lZ (gu))])))) k2 i2 (some (q, aB dA (ln) (fun _ => 0)))) k i (some (a, .inr (3, [.int (iZ (1)), .int (iZ (nu)), .ref q, .int (iZ (0)), .int (iZ (1)), .int (iZ (0)), .int (iZ (0)), .long (lZ (an)), .long (lZ (gu))])))) t9.heap) (fun q => z 0 ≤ q)) (1) (ln.toNat) (fun q => z 0 ≤ q) := by
  refine gMet (own := RX1) (cc := cX1_begin) (maxL := 3) (ret := none) (by decide) rfl rfl (Nat.le_of_ble_eq_true rfl) ?_
  intro p e s m below meth c hx hb hml hown hts hr hlocks hnm hg hW ls hl
  have hK := hg.1
  have hS : va_S (fun q => z 0 ≤ q) s.heap s.heap [] := va_S.rf
  have hi3 : ∀ w ∈ u_ws RX1 TX1 9, w ∈ wsX1_begin := by decide +kernel
  have hl : lv_has ls 3 [(0, .ref a), (1, .int (iZ (nu))), (2, .int (iZ (ln)))] := hl
  refine lv_aload_n hx hb dX1_begin_0 rfl (lv_at hl 0 rfl) ?_
  refine z_iconst hx hb dX1_begin_1 ?_
  refine g_put (C := RX1) (T := TX1) (N := 9) (ci := 3) (ty := .int) (v := .int (iZ (1))) (fs' := [.int (iZ (1)), .int (iZ (mg)), .ref ob, .int (iZ (hv)), .int (iZ (sq)), .int (iZ (bl)), .int (iZ (cm)), .long (lZ (an)), .long (lZ (gu))]) hx hb hts hi3 tyX1 tyX1_ok nmX1 hown hK hW hS he rfl 0 (by decide) (hts (.fieldLink RX1 9 "LongTransfer$Receiver" "state" "I") (by decide +kernel)) (fun _ h9 => h9) rfl (by decide +kernel) rfl rfl (Nat.le_of_ble_eq_true rfl) dX1_begin_2 rfl (fun H locs hW hS => ?_)
  have he : (e2 en k i (some (a, .inr (3, [.int (iZ (1)), .int (iZ (mg)), .ref ob, .int (iZ (hv)), .int (iZ (sq)), .int (iZ (bl)), .int (iZ (cm)), .long (lZ (an)), .long (lZ (gu))])))) k i = some (a, .inr (3, [.int (iZ (1)), .int (iZ (mg)), .ref ob, .int (iZ (hv)), .int (iZ (sq)), .int (iZ (bl)), .int (iZ (cm)), .long (lZ (an)), .long (lZ (gu))])) := e2_s _ _ _ _
  refine lv_aload_n hx hb dX1_begin_5 rfl (lv_at hl 0 rfl) ?_
  refine lv_iload_n hx hb dX1_begin_6 rfl (lv_at hl 1 rfl) ?_
  refine g_put (C := RX1) (T := TX1) (N := 9) (ci := 3) (ty := .int) (v := .int (iZ (nu))) (fs' := [.int (iZ (1)), .int (iZ (nu)), .ref ob, .int (iZ (hv)), .int (iZ (sq)), .int (iZ (bl)), .int (iZ (cm)), .long (lZ (an)), .long (lZ (gu))]) hx hb hts hi3 tyX1 tyX1_ok nmX1 hown hK hW hS he rfl 1 (by decide) (hts (.fieldLink RX1 34 "LongTransfer$Receiver" "message" "I") (by decide +kernel)) (fun _ h9 => h9) rfl (by decide +kernel) rfl rfl (Nat.le_of_ble_eq_true rfl) dX1_begin_7 rfl (fun H locs hW hS => ?_)
  rw [e2_e] at hW
  have he : (e2 en k i (some (a, .inr (3, [.int (iZ (1)), .int (iZ (nu)), .ref ob, .int (iZ (hv)), .int (iZ (sq)), .int (iZ (bl)), .int (iZ (cm)), .long (lZ (an)), .long (lZ (gu))])))) k i = some (a, .inr (3, [.int (iZ (1)), .int (iZ (nu)), .ref ob, .int (iZ (hv)), .int (iZ (sq)), .int (iZ (bl)), .int (iZ (cm)), .long (lZ (an)), .long (lZ (gu))])) := e2_s _ _ _ _
  refine lv_aload_n hx hb dX1_begin_10 rfl (lv_at hl 0 rfl) ?_
  refine lv_iload_n hx hb dX1_begin_11 rfl (lv_at hl 2 rfl) ?_
  refine z_if_le (tgt := 28) hx hb dX1_begin_12 (by decide) (by omega) (fun c_12 => ?_) (fun c_12 => ?_)
  · exact absurd c_12 (by omega)
  · refine lv_iload_n hx hb dX1_begin_15 rfl (lv_at hl 2 rfl) ?_
    refine z_sipush hx hb dX1_begin_16 (by decide) ?_
    refine z_icmp_gt (tgt := 28) hx hb dX1_begin_19 (by decide) (by omega) (by omega) (fun c_19 => ?_) (fun c_19 => ?_)
    · exact absurd c_19 (by omega)
    · refine lv_iload_n hx hb dX1_begin_22 rfl (lv_at hl 2 rfl) ?_
      refine g_newa_aB (n := ln) hx hb rfl (hts (.arrayClass .byte) (by decide +kernel)) hK hW hS hg.2.1 (by omega) (by omega) (show 0 + 1 ≤ 1 by omega) (show 0 + (ln : Int).toNat ≤ ln.toNat by omega) dX1_begin_23 k2 i2 (fun q H hW hS => ?_)
      have he : (e2 (e2 en k i (some (a, .inr (3, [.int (iZ (1)), .int (iZ (nu)), .ref ob, .int (iZ (hv)), .int (iZ (sq)), .int (iZ (bl)), .int (iZ (cm)), .long (lZ (an)), .long (lZ (gu))])))) k2 i2 (some (q, aB dA (ln) (fun _ => 0)))) k i = some (a, .inr (3, [.int (iZ (1)), .int (iZ (nu)), .ref ob, .int (iZ (hv)), .int (iZ (sq)), .int (iZ (bl)), .int (iZ (cm)), .long (lZ (an)), .long (lZ (gu))])) := (e2_k hne).trans he
      have hq : (e2 (e2 en k i (some (a, .inr (3, [.int (iZ (1)), .int (iZ (nu)), .ref ob, .int (iZ (hv)), .int (iZ (sq)), .int (iZ (bl)), .int (iZ (cm)), .long (lZ (an)), .long (lZ (gu))])))) k2 i2 (some (q, aB dA (ln) (fun _ => 0)))) k2 i2 = some (q, aB dA (ln) (fun _ => 0)) := e2_s _ _ _ _
      refine lv_goto (tgt := 31) hx hb dX1_begin_25 (by decide) ?_
      refine g_put (C := RX1) (T := TX1) (N := 9) (ci := 3) (ty := .array .byte) (v := .ref q) (fs' := [.int (iZ (1)), .int (iZ (nu)), .ref q, .int (iZ (hv)), .int (iZ (sq)), .int (iZ (bl)), .int (iZ (cm)), .long (lZ (an)), .long (lZ (gu))]) hx hb hts hi3 tyX1 tyX1_ok nmX1 hown hK hW hS he rfl 2 (by decide) (hts (.fieldLink RX1 19 "LongTransfer$Receiver" "octets" "[B") (by decide +kernel)) (fun _ h9 => h9) rfl (by decide +kernel) rfl rfl (Nat.le_of_ble_eq_true rfl) dX1_begin_31 rfl (fun H locs hW hS => ?_)
      have hq : (e2 (e2 (e2 en k i (some (a, .inr (3, [.int (iZ (1)), .int (iZ (nu)), .ref ob, .int (iZ (hv)), .int (iZ (sq)), .int (iZ (bl)), .int (iZ (cm)), .long (lZ (an)), .long (lZ (gu))])))) k2 i2 (some (q, aB dA (ln) (fun _ => 0)))) k i (some (a, .inr (3, [.int (iZ (1)), .int (iZ (nu)), .ref q, .int (iZ (hv)), .int (iZ (sq)), .int (iZ (bl)), .int (iZ (cm)), .long (lZ (an)), .long (lZ (gu))])))) k2 i2 = some (q, aB dA (ln) (fun _ => 0)) := (e2_k (by omega)).trans hq
      have he : (e2 (e2 (e2 en k i (some (a, .inr (3, [.int (iZ (1)), .int (iZ (nu)), .ref ob, .int (iZ (hv)), .int (iZ (sq)), .int (iZ (bl)), .int (iZ (cm)), .long (lZ (an)), .long (lZ (gu))])))) k2 i2 (some (q, aB dA (ln) (fun _ => 0)))) k i (some (a, .inr (3, [.int (iZ (1)), .int (iZ (nu)), .ref q, .int (iZ (hv)), .int (iZ (sq)), .int (iZ (bl)), .int (iZ (cm)), .long (lZ (an)), .long (lZ (gu))])))) k i = some (a, .inr (3, [.int (iZ (1)), .int (iZ (nu)), .ref q, .int (iZ (hv)), .int (iZ (sq)), .int (iZ (bl)), .int (iZ (cm)), .long (lZ (an)), .long (lZ (gu))])) := e2_s _ _ _ _
      refine lv_aload_n hx hb dX1_begin_34 rfl (lv_at hl 0 rfl) ?_
      refine z_iconst hx hb dX1_begin_35 ?_
      refine g_put (C := RX1) (T := TX1) (N := 9) (ci := 3) (ty := .int) (v := .int (iZ (0))) (fs' := [.int (iZ (1)), .int (iZ (nu)), .ref q, .int (iZ (0)), .int (iZ (sq)), .int (iZ (bl)), .int (iZ (cm)), .long (lZ (an)), .long (lZ (gu))]) hx hb hts hi3 tyX1 tyX1_ok nmX1 hown hK hW hS he rfl 3 (by decide) (hts (.fieldLink RX1 31 "LongTransfer$Receiver" "have" "I") (by decide +kernel)) (fun _ h9 => h9) rfl (by decide +kernel) rfl rfl (Nat.le_of_ble_eq_true rfl) dX1_begin_36 rfl (fun H locs hW hS => ?_)
      rw [e2_e] at hW
      have hq : (e2 (e2 (e2 en k i (some (a, .inr (3, [.int (iZ (1)), .int (iZ (nu)), .ref ob, .int (iZ (hv)), .int (iZ (sq)), .int (iZ (bl)), .int (iZ (cm)), .long (lZ (an)), .long (lZ (gu))])))) k2 i2 (some (q, aB dA (ln) (fun _ => 0)))) k i (some (a, .inr (3, [.int (iZ (1)), .int (iZ (nu)), .ref q, .int (iZ (0)), .int (iZ (sq)), .int (iZ (bl)), .int (iZ (cm)), .long (lZ (an)), .long (lZ (gu))])))) k2 i2 = some (q, aB dA (ln) (fun _ => 0)) := (e2_k (by omega)).trans ((e2_k (by omega)).symm.trans hq)
      have he : (e2 (e2 (e2 en k i (some (a, .inr (3, [.int (iZ (1)), .int (iZ (nu)), .ref ob, .int (iZ (hv)), .int (iZ (sq)), .int (iZ (bl)), .int (iZ (cm)), .long (lZ (an)), .long (lZ (gu))])))) k2 i2 (some (q, aB dA (ln) (fun _ => 0)))) k i (some (a, .inr (3, [.int (iZ (1)), .int (iZ (nu)), .ref q, .int (iZ (0)), .int (iZ (sq)), .int (iZ (bl)), .int (iZ (cm)), .long (lZ (an)), .long (lZ (gu))])))) k i = some (a, .inr (3, [.int (iZ (1)), .int (iZ (nu)), .ref q, .int (iZ (0)), .int (iZ (sq)), .int (iZ (bl)), .int (iZ (cm)), .long (lZ (an)), .long (lZ (gu))])) := e2_s _ _ _ _
      refine lv_aload_n hx hb dX1_begin_39 rfl (lv_at hl 0 rfl) ?_
      refine z_iconst hx hb dX1_begin_40 ?_
      refine g_put (C := RX1) (T := TX1) (N := 9) (ci := 3) (ty := .int) (v := .int (iZ (1))) (fs' := [.int (iZ (1)), .int (iZ (nu)), .ref q, .int (iZ (0)), .int (iZ (1)), .int (iZ (bl)), .int (iZ (cm)), .long (lZ (an)), .long (lZ (gu))]) hx hb hts hi3 tyX1 tyX1_ok nmX1 hown hK hW hS he rfl 4 (by decide) (hts (.fieldLink RX1 43 "LongTransfer$Receiver" "sequence" "I") (by decide +kernel)) (fun _ h9 => h9) rfl (by decide +kernel) rfl rfl (Nat.le_of_ble_eq_true rfl) dX1_begin_41 rfl (fun H locs hW hS => ?_)
      rw [e2_e] at hW
      have hq : (e2 (e2 (e2 en k i (some (a, .inr (3, [.int (iZ (1)), .int (iZ (nu)), .ref ob, .int (iZ (hv)), .int (iZ (sq)), .int (iZ (bl)), .int (iZ (cm)), .long (lZ (an)), .long (lZ (gu))])))) k2 i2 (some (q, aB dA (ln) (fun _ => 0)))) k i (some (a, .inr (3, [.int (iZ (1)), .int (iZ (nu)), .ref q, .int (iZ (0)), .int (iZ (1)), .int (iZ (bl)), .int (iZ (cm)), .long (lZ (an)), .long (lZ (gu))])))) k2 i2 = some (q, aB dA (ln) (fun _ => 0)) := (e2_k (by omega)).trans ((e2_k (by omega)).symm.trans hq)
      have he : (e2 (e2 (e2 en k i (some (a, .inr (3, [.int (iZ (1)), .int (iZ (nu)), .ref ob, .int (iZ (hv)), .int (iZ (sq)), .int (iZ (bl)), .int (iZ (cm)), .long (lZ (an)), .long (lZ (gu))])))) k2 i2 (some (q, aB dA (ln) (fun _ => 0)))) k i (some (a, .inr (3, [.int (iZ (1)), .int (iZ (nu)), .ref q, .int (iZ (0)), .int (iZ (1)), .int (iZ (bl)), .int (iZ (cm)), .long (lZ (an)), .long (lZ (gu))])))) k i = some (a, .inr (3, [.int (iZ (1)), .int (iZ (nu)), .ref q, .int (iZ (0)), .int (iZ (1)), .int (iZ (bl)), .int (iZ (cm)), .long (lZ (an)), .long (lZ (gu))])) := e2_s _ _ _ _
      refine lv_aload_n hx hb dX1_begin_44 rfl (lv_at hl 0 rfl) ?_
      refine z_iconst hx hb dX1_begin_45 ?_
      refine g_put (C := RX1) (T := TX1) (N := 9) (ci := 3) (ty := .int) (v := .int (iZ (0))) (fs' := [.int (iZ (1)), .int (iZ (nu)), .ref q, .int (iZ (0)), .int (iZ (1)), .int (iZ (0)), .int (iZ (cm)), .long (lZ (an)), .long (lZ (gu))]) hx hb hts hi3 tyX1 tyX1_ok nmX1 hown hK hW hS he rfl 5 (by decide) (hts (.fieldLink RX1 46 "LongTransfer$Receiver" "block" "I") (by decide +kernel)) (fun _ h9 => h9) rfl (by decide +kernel) rfl rfl (Nat.le_of_ble_eq_true rfl) dX1_begin_46 rfl (fun H locs hW hS => ?_)
      rw [e2_e] at hW
      have hq : (e2 (e2 (e2 en k i (some (a, .inr (3, [.int (iZ (1)), .int (iZ (nu)), .ref ob, .int (iZ (hv)), .int (iZ (sq)), .int (iZ (bl)), .int (iZ (cm)), .long (lZ (an)), .long (lZ (gu))])))) k2 i2 (some (q, aB dA (ln) (fun _ => 0)))) k i (some (a, .inr (3, [.int (iZ (1)), .int (iZ (nu)), .ref q, .int (iZ (0)), .int (iZ (1)), .int (iZ (0)), .int (iZ (cm)), .long (lZ (an)), .long (lZ (gu))])))) k2 i2 = some (q, aB dA (ln) (fun _ => 0)) := (e2_k (by omega)).trans ((e2_k (by omega)).symm.trans hq)
      have he : (e2 (e2 (e2 en k i (some (a, .inr (3, [.int (iZ (1)), .int (iZ (nu)), .ref ob, .int (iZ (hv)), .int (iZ (sq)), .int (iZ (bl)), .int (iZ (cm)), .long (lZ (an)), .long (lZ (gu))])))) k2 i2 (some (q, aB dA (ln) (fun _ => 0)))) k i (some (a, .inr (3, [.int (iZ (1)), .int (iZ (nu)), .ref q, .int (iZ (0)), .int (iZ (1)), .int (iZ (0)), .int (iZ (cm)), .long (lZ (an)), .long (lZ (gu))])))) k i = some (a, .inr (3, [.int (iZ (1)), .int (iZ (nu)), .ref q, .int (iZ (0)), .int (iZ (1)), .int (iZ (0)), .int (iZ (cm)), .long (lZ (an)), .long (lZ (gu))])) := e2_s _ _ _ _
      refine lv_aload_n hx hb dX1_begin_49 rfl (lv_at hl 0 rfl) ?_
      refine z_iconst hx hb dX1_begin_50 ?_
      refine g_put (C := RX1) (T := TX1) (N := 9) (ci := 3) (ty := .int) (v := .int (iZ (0))) (fs' := [.int (iZ (1)), .int (iZ (nu)), .ref q, .int (iZ (0)), .int (iZ (1)), .int (iZ (0)), .int (iZ (0)), .long (lZ (an)), .long (lZ (gu))]) hx hb hts hi3 tyX1 tyX1_ok nmX1 hown hK hW hS he rfl 6 (by decide) (hts (.fieldLink RX1 49 "LongTransfer$Receiver" "come" "I") (by decide +kernel)) (fun _ h9 => h9) rfl (by decide +kernel) rfl rfl (Nat.le_of_ble_eq_true rfl) dX1_begin_51 rfl (fun H locs hW hS => ?_)
      rw [e2_e] at hW
      have hq : (e2 (e2 (e2 en k i (some (a, .inr (3, [.int (iZ (1)), .int (iZ (nu)), .ref ob, .int (iZ (hv)), .int (iZ (sq)), .int (iZ (bl)), .int (iZ (cm)), .long (lZ (an)), .long (lZ (gu))])))) k2 i2 (some (q, aB dA (ln) (fun _ => 0)))) k i (some (a, .inr (3, [.int (iZ (1)), .int (iZ (nu)), .ref q, .int (iZ (0)), .int (iZ (1)), .int (iZ (0)), .int (iZ (0)), .long (lZ (an)), .long (lZ (gu))])))) k2 i2 = some (q, aB dA (ln) (fun _ => 0)) := (e2_k (by omega)).trans ((e2_k (by omega)).symm.trans hq)
      have he : (e2 (e2 (e2 en k i (some (a, .inr (3, [.int (iZ (1)), .int (iZ (nu)), .ref ob, .int (iZ (hv)), .int (iZ (sq)), .int (iZ (bl)), .int (iZ (cm)), .long (lZ (an)), .long (lZ (gu))])))) k2 i2 (some (q, aB dA (ln) (fun _ => 0)))) k i (some (a, .inr (3, [.int (iZ (1)), .int (iZ (nu)), .ref q, .int (iZ (0)), .int (iZ (1)), .int (iZ (0)), .int (iZ (0)), .long (lZ (an)), .long (lZ (gu))])))) k i = some (a, .inr (3, [.int (iZ (1)), .int (iZ (nu)), .ref q, .int (iZ (0)), .int (iZ (1)), .int (iZ (0)), .int (iZ (0)), .long (lZ (an)), .long (lZ (gu))])) := e2_s _ _ _ _
      refine W.widen (k := 1) (n := ln.toNat) (by omega) (by omega) ?_
      exact W.vret hx hb hr (fun t ht hw => ⟨⟨q, rfl, trivial, by show Wd _ _ _ t.heap; rw [ht]; exact hW⟩, hS.F ht⟩) hS.2.2 dX1_begin_54
set_option maxHeartbeats 4000000 in
set_option maxRecDepth 100000 in
theorem c_X1_take (l : Launch) (D : va_G) (dA : Nat → ClassId) (z : Nat → Nat) (en : en_T) (k : Nat) (i : Int) (a : Nat) (ob : Nat) (st mg hv sq bl cm an gu : Int) (pb : Nat) (tm np no : Int) (F G : Int → Int) (kp ko : Nat) (ip io : Int) (hne1 : kp ≠ k) (hne2 : ko ≠ k) (hne3 : k ≠ ko) (hne4 : kp ≠ ko) (h0 : 0 ≤ hv) (h1 : 1 ≤ np) (h2 : hv + np ≤ no) (h3 : no ≤ 1000000) (hF : ∀ j : Int, -128 ≤ F j ∧ F j ≤ 127) (he : en k i = some (a, .inr (3, [.int (iZ (st)), .int (iZ (mg)), .ref ob, .int (iZ (hv)), .int (iZ (sq)), .int (iZ (bl)), .int (iZ (cm)), .long (lZ (an)), .long (lZ (gu))]))) (hp : en kp ip = some (pb, aB dA np F)) (ho : en ko io = some (ob, aB dA no G)) : Met l yX1_take wsX1_take ({ frames := 1, cells := 0, slots := 0, locals := 40 }) (gP D dA z en [.ref a, .ref pb, .long (lZ (tm))]) (va_Qv (fun _ : Unit => True) (fun _ t9 => Wd D (z 0) (e2 (e2 en ko io (some (ob, aB dA (no) (cpF (F) (G) (0) (hv) (np))))) k i (some (a, .inr (3, [.int (iZ (st)), .int (iZ (mg)), .ref ob, .int (iZ (hv + np)), .int (iZ (sq)), .int (iZ (bl)), .int (iZ (cm)), .long (lZ (9223372036854775807)), .long (lZ (tm + 1000))])))) t9.heap) (fun q => z 0 ≤ q)) (0) (0) (fun q => z 0 ≤ q) := by
  refine gMet (own := RX1) (cc := cX1_take) (maxL := 5) (ret := none) (by decide) rfl rfl (Nat.le_of_ble_eq_true rfl) ?_
  intro p e s m below meth c hx hb hml hown hts hr hlocks hnm hg hW ls hl
  have hK := hg.1
  have hS : va_S (fun q => z 0 ≤ q) s.heap s.heap [] := va_S.rf
  have hi3 : ∀ w ∈ u_ws RX1 TX1 9, w ∈ wsX1_take := by decide +kernel
  have hl : lv_has ls 5 [(0, .ref a), (1, .ref pb), (2, .long (lZ (tm)))] := hl
  refine lv_aload_n hx hb dX1_take_0 rfl (lv_at hl 1 rfl) ?_
  refine g_len_aB hx hb hK hW hp (by omega) dX1_take_1 ?_
  refine lv_aload_n hx hb dX1_take_2 rfl (lv_at hl 0 rfl) ?_
  refine g_get (C := RX1) (T := TX1) (N := 9) (ci := 3) (v := .ref ob) hx hb hts hi3 hown hK hW he rfl 2 (by decide) (hts (.fieldLink RX1 19 "LongTransfer$Receiver" "octets" "[B") (by decide +kernel)) (fun _ h9 => h9) rfl dX1_take_3 ?_
  refine g_len_aB hx hb hK hW ho (by omega) dX1_take_6 ?_
  refine lv_aload_n hx hb dX1_take_7 rfl (lv_at hl 0 rfl) ?_
  refine g_get (C := RX1) (T := TX1) (N := 9) (ci := 3) (v := .int (iZ (hv))) hx hb hts hi3 hown hK hW he rfl 3 (by decide) (hts (.fieldLink RX1 31 "LongTransfer$Receiver" "have" "I") (by decide +kernel)) (fun _ h9 => h9) rfl dX1_take_8 ?_
  refine z_isub hx hb dX1_take_11 ?_
  refine z_mmin hx hb (by rw [hml]; exact hl.1.symm) hown (hts (.methodLink RX1 52 Lib.Math.min.name) (by decide +kernel)) (hts (.static Lib.Math.min.name) (by decide +kernel)) (hts (.initialized "java/lang/Math") (by decide +kernel)) (hts _ (List.mem_of_getElem? (i := 6) rfl)) (Nat.le_of_ble_eq_true rfl) (Nat.le_of_ble_eq_true rfl) (Nat.zero_le _) (Nat.zero_le _) dX1_take_12 (by omega) (by omega) ?_
  rw [show min np (no - hv) = np by omega]
  refine lv_istore (lv' := [(4, .int (iZ (np))), (0, .ref a), (1, .ref pb), (2, .long (lZ (tm)))]) hx hb dX1_take_15 hl (by decide) rfl (fun ls hl => ?_)
  refine lv_iload hx hb dX1_take_17 (lv_at hl 0 rfl) ?_
  refine z_if_le (tgt := 48) hx hb dX1_take_19 (by decide) (by omega) (fun c_19 => ?_) (fun c_19 => ?_)
  · exact absurd c_19 (by omega)
  · refine lv_aload_n hx hb dX1_take_22 rfl (lv_at hl 2 rfl) ?_
    refine z_iconst hx hb dX1_take_23 ?_
    refine lv_aload_n hx hb dX1_take_24 rfl (lv_at hl 1 rfl) ?_
    refine g_get (C := RX1) (T := TX1) (N := 9) (ci := 3) (v := .ref ob) hx hb hts hi3 hown hK hW he rfl 2 (by decide) (hts (.fieldLink RX1 19 "LongTransfer$Receiver" "octets" "[B") (by decide +kernel)) (fun _ h9 => h9) rfl dX1_take_25 ?_
    refine lv_aload_n hx hb dX1_take_28 rfl (lv_at hl 1 rfl) ?_
    refine g_get (C := RX1) (T := TX1) (N := 9) (ci := 3) (v := .int (iZ (hv))) hx hb hts hi3 hown hK hW he rfl 3 (by decide) (hts (.fieldLink RX1 31 "LongTransfer$Receiver" "have" "I") (by decide +kernel)) (fun _ h9 => h9) rfl dX1_take_29 ?_
    refine lv_iload hx hb dX1_take_32 (lv_at hl 0 rfl) ?_
    refine g_copyB hx hb (by rw [hml]; exact hl.1.symm) hown (hts (.methodLink RX1 55 arraycopyName) (by decide +kernel)) (hts (.native arraycopyName) (by decide +kernel)) (hts (.static arraycopyName) (by decide +kernel)) (hts (.initialized "java/lang/System") (by decide +kernel)) hK hW hS hp ho (by omega) (by omega) (by omega) (by omega) (by omega) (by omega) (by omega) hF (Nat.le_of_ble_eq_true rfl) (Nat.le_of_ble_eq_true rfl) dX1_take_34 (fun H locs hW hS => ?_)
    have he : (e2 en ko io (some (ob, aB dA (no) (cpF (F) (G) (0) (hv) (np))))) k i = some (a, .inr (3, [.int (iZ (st)), .int (iZ (mg)), .ref ob, .int (iZ (hv)), .int (iZ (sq)), .int (iZ (bl)), .int (iZ (cm)), .long (lZ (an)), .long (lZ (gu))])) := (e2_k hne3).trans he
    have hp : (e2 en ko io (some (ob, aB dA (no) (cpF (F) (G) (0) (hv) (np))))) kp ip = some (pb, aB dA (np) (F)) := (e2_k hne4).trans hp
    have ho : (e2 en ko io (some (ob, aB dA (no) (cpF (F) (G) (0) (hv) (np))))) ko io = some (ob, aB dA (no) (cpF (F) (G) (0) (hv) (np))) := e2_s _ _ _ _
    refine lv_aload_n hx hb dX1_take_37 rfl (lv_at hl 1 rfl) ?_
    refine lv_dup hx hb dX1_take_38 rfl ?_
    refine g_get (C := RX1) (T := TX1) (N := 9) (ci := 3) (v := .int (iZ (hv))) hx hb hts hi3 hown hK hW he rfl 3 (by decide) (hts (.fieldLink RX1 31 "LongTransfer$Receiver" "have" "I") (by decide +kernel)) (fun _ h9 => h9) rfl dX1_take_39 ?_
    refine lv_iload hx hb dX1_take_42 (lv_at hl 0 rfl) ?_
    refine z_iadd hx hb dX1_take_44 ?_
    refine g_put (C := RX1) (T := TX1) (N := 9) (ci := 3) (ty := .int) (v := .int (iZ (hv + np))) (fs' := [.int (iZ (st)), .int (iZ (mg)), .ref ob, .int (iZ (hv + np)), .int (iZ (sq)), .int (iZ (bl)), .int (iZ (cm)), .long (lZ (an)), .long (lZ (gu))]) hx hb hts hi3 tyX1 tyX1_ok nmX1 hown hK hW hS he rfl 3 (by decide) (hts (.fieldLink RX1 31 "LongTransfer$Receiver" "have" "I") (by decide +kernel)) (fun _ h9 => h9) rfl (by decide +kernel) rfl rfl (Nat.le_of_ble_eq_true rfl) dX1_take_45 rfl (fun H locs hW hS => ?_)
    have hp : (e2 (e2 en ko io (some (ob, aB dA (no) (cpF (F) (G) (0) (hv) (np))))) k i (some (a, .inr (3, [.int (iZ (st)), .int (iZ (mg)), .ref ob, .int (iZ (hv + np)), .int (iZ (sq)), .int (iZ (bl)), .int (iZ (cm)), .long (lZ (an)), .long (lZ (gu))])))) kp ip = some (pb, aB dA (np) (F)) := (e2_k hne1).trans hp
    have ho : (e2 (e2 en ko io (some (ob, aB dA (no) (cpF (F) (G) (0) (hv) (np))))) k i (some (a, .inr (3, [.int (iZ (st)), .int (iZ (mg)), .ref ob, .int (iZ (hv + np)), .int (iZ (sq)), .int (iZ (bl)), .int (iZ (cm)), .long (lZ (an)), .long (lZ (gu))])))) ko io = some (ob, aB dA (no) (cpF (F) (G) (0) (hv) (np))) := (e2_k hne2).trans ho
    have he : (e2 (e2 en ko io (some (ob, aB dA (no) (cpF (F) (G) (0) (hv) (np))))) k i (some (a, .inr (3, [.int (iZ (st)), .int (iZ (mg)), .ref ob, .int (iZ (hv + np)), .int (iZ (sq)), .int (iZ (bl)), .int (iZ (cm)), .long (lZ (an)), .long (lZ (gu))])))) k i = some (a, .inr (3, [.int (iZ (st)), .int (iZ (mg)), .ref ob, .int (iZ (hv + np)), .int (iZ (sq)), .int (iZ (bl)), .int (iZ (cm)), .long (lZ (an)), .long (lZ (gu))])) := e2_s _ _ _ _
    refine lv_aload_n hx hb dX1_take_48 rfl (lv_at hl 1 rfl) ?_
    refine z_ldc2 hx hb 9223372036854775807 hown (hts (.constantLong RX1 22 (9223372036854775807)) (by decide +kernel)) (by decide) dX1_take_49 ?_
    refine g_put (C := RX1) (T := TX1) (N := 9) (ci := 3) (ty := .long) (v := .long (lZ (9223372036854775807))) (fs' := [.int (iZ (st)), .int (iZ (mg)), .ref ob, .int (iZ (hv + np)), .int (iZ (sq)), .int (iZ (bl)), .int (iZ (cm)), .long (lZ (9223372036854775807)), .long (lZ (gu))]) hx hb hts hi3 tyX1 tyX1_ok nmX1 hown hK hW hS he rfl 7 (by decide) (hts (.fieldLink RX1 24 "LongTransfer$Receiver" "answerAt" "J") (by decide +kernel)) (fun _ h9 => h9) rfl (by decide +kernel) rfl rfl (Nat.le_of_ble_eq_true rfl) dX1_take_52 rfl (fun H locs hW hS => ?_)
    rw [e2_e] at hW
    have hp : (e2 (e2 en ko io (some (ob, aB dA (no) (cpF (F) (G) (0) (hv) (np))))) k i (some (a, .inr (3, [.int (iZ (st)), .int (iZ (mg)), .ref ob, .int (iZ (hv + np)), .int (iZ (sq)), .int (iZ (bl)), .int (iZ (cm)), .long (lZ (9223372036854775807)), .long (lZ (gu))])))) kp ip = some (pb, aB dA (np) (F)) := (e2_k hne1).trans ((e2_k hne1).symm.trans hp)
    have ho : (e2 (e2 en ko io (some (ob, aB dA (no) (cpF (F) (G) (0) (hv) (np))))) k i (some (a, .inr (3, [.int (iZ (st)), .int (iZ (mg)), .ref ob, .int (iZ (hv + np)), .int (iZ (sq)), .int (iZ (bl)), .int (iZ (cm)), .long (lZ (9223372036854775807)), .long (lZ (gu))])))) ko io = some (ob, aB dA (no) (cpF (F) (G) (0) (hv) (np))) := (e2_k hne2).trans ((e2_k hne2).symm.trans ho)
    have he : (e2 (e2 en ko io (some (ob, aB dA (no) (cpF (F) (G) (0) (hv) (np))))) k i (some (a, .inr (3, [.int (iZ (st)), .int (iZ (mg)), .ref ob, .int (iZ (hv + np)), .int (iZ (sq)), .int (iZ (bl)), .int (iZ (cm)), .long (lZ (9223372036854775807)), .long (lZ (gu))])))) k i = some (a, .inr (3, [.int (iZ (st)), .int (iZ (mg)), .ref ob, .int (iZ (hv + np)), .int (iZ (sq)), .int (iZ (bl)), .int (iZ (cm)), .long (lZ (9223372036854775807)), .long (lZ (gu))])) := e2_s _ _ _ _
    refine lv_aload_n hx hb dX1_take_55 rfl (lv_at hl 1 rfl) ?_
    refine lv_lload_n hx hb dX1_take_56 rfl (lv_at hl 3 rfl) ?_
    refine z_ldc2 hx hb 1000 hown (hts (.constantLong RX1 61 (1000)) (by decide +kernel)) (by decide) dX1_take_57 ?_
    refine z_ladd hx hb dX1_take_60 ?_
    refine g_put (C := RX1) (T := TX1) (N := 9) (ci := 3) (ty := .long) (v := .long (lZ (tm + 1000))) (fs' := [.int (iZ (st)), .int (iZ (mg)), .ref ob, .int (iZ (hv + np)), .int (iZ (sq)), .int (iZ (bl)), .int (iZ (cm)), .long (lZ (9223372036854775807)), .long (lZ (tm + 1000))]) hx hb hts hi3 tyX1 tyX1_ok nmX1 hown hK hW hS he rfl 8 (by decide) (hts (.fieldLink RX1 28 "LongTransfer$Receiver" "giveUpAt" "J") (by decide +kernel)) (fun _ h9 => h9) rfl (by decide +kernel) rfl rfl (Nat.le_of_ble_eq_true rfl) dX1_take_61 rfl (fun H locs hW hS => ?_)
    rw [e2_e] at hW
    have hp : (e2 (e2 en ko io (some (ob, aB dA (no) (cpF (F) (G) (0) (hv) (np))))) k i (some (a, .inr (3, [.int (iZ (st)), .int (iZ (mg)), .ref ob, .int (iZ (hv + np)), .int (iZ (sq)), .int (iZ (bl)), .int (iZ (cm)), .long (lZ (9223372036854775807)), .long (lZ (tm + 1000))])))) kp ip = some (pb, aB dA (np) (F)) := (e2_k hne1).trans ((e2_k hne1).symm.trans hp)
    have ho : (e2 (e2 en ko io (some (ob, aB dA (no) (cpF (F) (G) (0) (hv) (np))))) k i (some (a, .inr (3, [.int (iZ (st)), .int (iZ (mg)), .ref ob, .int (iZ (hv + np)), .int (iZ (sq)), .int (iZ (bl)), .int (iZ (cm)), .long (lZ (9223372036854775807)), .long (lZ (tm + 1000))])))) ko io = some (ob, aB dA (no) (cpF (F) (G) (0) (hv) (np))) := (e2_k hne2).trans ((e2_k hne2).symm.trans ho)
    have he : (e2 (e2 en ko io (some (ob, aB dA (no) (cpF (F) (G) (0) (hv) (np))))) k i (some (a, .inr (3, [.int (iZ (st)), .int (iZ (mg)), .ref ob, .int (iZ (hv + np)), .int (iZ (sq)), .int (iZ (bl)), .int (iZ (cm)), .long (lZ (9223372036854775807)), .long (lZ (tm + 1000))])))) k i = some (a, .inr (3, [.int (iZ (st)), .int (iZ (mg)), .ref ob, .int (iZ (hv + np)), .int (iZ (sq)), .int (iZ (bl)), .int (iZ (cm)), .long (lZ (9223372036854775807)), .long (lZ (tm + 1000))])) := e2_s _ _ _ _
    exact W.vret hx hb hr (fun t ht hw => ⟨⟨(), rfl, trivial, by show Wd _ _ _ t.heap; rw [ht]; exact hW⟩, hS.F ht⟩) hS.2.2 dX1_take_64
set_option maxHeartbeats 4000000 in
set_option maxRecDepth 100000 in
theorem c_X2_cutNext (l : Launch) (D : va_G) (dA : Nat → ClassId) (z : Nat → Nat) (en : en_T) (k : Nat) (i : Int) (a : Nat) (ob : Nat) (mg st fr sq wt bl sp wk : Int) (mo n : Int) (F : Int → Int) (ko : Nat) (io : Int) (k2 : Nat) (i2 : Int) (hne : ko ≠ k) (hne2 : k ≠ k2) (hne3 : ko ≠ k2) (h0 : 0 ≤ fr) (h1 : fr ≤ n) (h2 : 0 ≤ mo) (h3 : mo ≤ 100) (h4 : n ≤ 1000000) (hF : ∀ j : Int, -128 ≤ F j ∧ F j ≤ 127) (he : en k i = some (a, .inr (4, [.int (iZ (mg)), .ref ob, .int (iZ (st)), .int (iZ (fr)), .int (iZ (sq)), .int (iZ (wt)), .int (iZ (bl)), .int (iZ (sp)), .long (lZ (wk))]))) (ho : en ko io = some (ob, aB dA n F)) : Met l yX2_cutNext wsX2_cutNext ({ frames := 3, cells := 1, slots := (min (fr + mo) n - fr).toNat, locals := 86 }) (gP D dA z en [.ref a, .int (iZ (mo))]) (va_Qr (fun _ : Unit => True) (fun _ r9 t9 => Wd D (z 0) (e2 (e2 en k i (some (a, .inr (4, [.int (iZ (mg)), .ref ob, .int (iZ (st)), .int (iZ (min (fr + mo) n)), .int (iZ (sq)), .int (iZ (wt)), .int (iZ (bl)), .int (iZ (sp)), .long (lZ (wk))])))) k2 i2 (some (r9, aB dA (min (fr + mo) n - fr) (slF F fr (min (fr + mo) n - fr))))) t9.heap) (fun q => z 0 ≤ q)) (1) ((min (fr + mo) n - fr).toNat) (fun q => z 0 ≤ q) := by
  refine gMet (own := RX2) (cc := cX2_cutNext) (maxL := 4) (ret := (some (.array .byte))) (by decide) rfl rfl (Nat.le_of_ble_eq_true rfl) ?_
  intro p e s m below meth c hx hb hml hown hts hr hlocks hnm hg hW ls hl
  have hK := hg.1
  have hS : va_S (fun q => z 0 ≤ q) s.heap s.heap [] := va_S.rf
  have hi4 : ∀ w ∈ u_ws RX2 TX2 9, w ∈ wsX2_cutNext := by decide +kernel
  have hl : lv_has ls 4 [(0, .ref a), (1, .int (iZ (mo)))] := hl
  refine lv_aload_n hx hb dX2_cutNext_0 rfl (lv_at hl 0 rfl) ?_
  refine g_get (C := RX2) (T := TX2) (N := 9) (ci := 4) (v := .int (iZ (fr))) hx hb hts hi4 hown hK hW he rfl 3 (by decide) (hts (.fieldLink RX2 31 "LongTransfer$Sender" "framed" "I") (by decide +kernel)) (fun _ h9 => h9) rfl dX2_cutNext_1 ?_
  refine lv_aload_n hx hb dX2_cutNext_4 rfl (lv_at hl 0 rfl) ?_
  refine g_get (C := RX2) (T := TX2) (N := 9) (ci := 4) (v := .ref ob) hx hb hts hi4 hown hK hW he rfl 1 (by decide) (hts (.fieldLink RX2 27 "LongTransfer$Sender" "octets" "[B") (by decide +kernel)) (fun _ h9 => h9) rfl dX2_cutNext_5 ?_
  refine g_len_aB hx hb hK hW ho (by omega) dX2_cutNext_8 ?_
  refine z_mmin hx hb (by rw [hml]; exact hl.1.symm) hown (hts (.methodLink RX2 42 Lib.Math.min.name) (by decide +kernel)) (hts (.static Lib.Math.min.name) (by decide +kernel)) (hts (.initialized "java/lang/Math") (by decide +kernel)) (hts _ (List.mem_of_getElem? (i := 6) rfl)) (Nat.le_of_ble_eq_true rfl) (Nat.le_of_ble_eq_true rfl) (Nat.zero_le _) (Nat.zero_le _) dX2_cutNext_9 (by omega) (by omega) ?_
  rw [show min fr n = fr by omega]
  refine lv_istore_n (lv' := [(2, .int (iZ (fr))), (0, .ref a), (1, .int (iZ (mo)))]) hx hb dX2_cutNext_12 rfl hl (by decide) rfl (fun ls hl => ?_)
  refine lv_iload_n hx hb dX2_cutNext_13 rfl (lv_at hl 0 rfl) ?_
  refine lv_iload_n hx hb dX2_cutNext_14 rfl (lv_at hl 2 rfl) ?_
  refine z_iadd hx hb dX2_cutNext_15 ?_
  refine lv_aload_n hx hb dX2_cutNext_16 rfl (lv_at hl 1 rfl) ?_
  refine g_get (C := RX2) (T := TX2) (N := 9) (ci := 4) (v := .ref ob) hx hb hts hi4 hown hK hW he rfl 1 (by decide) (hts (.fieldLink RX2 27 "LongTransfer$Sender" "octets" "[B") (by decide +kernel)) (fun _ h9 => h9) rfl dX2_cutNext_17 ?_
  refine g_len_aB hx hb hK hW ho (by omega) dX2_cutNext_20 ?_
  refine z_mmin hx hb (by rw [hml]; exact hl.1.symm) hown (hts (.methodLink RX2 42 Lib.Math.min.name) (by decide +kernel)) (hts (.static Lib.Math.min.name) (by decide +kernel)) (hts (.initialized "java/lang/Math") (by decide +kernel)) (hts _ (List.mem_of_getElem? (i := 6) rfl)) (Nat.le_of_ble_eq_true rfl) (Nat.le_of_ble_eq_true rfl) (Nat.zero_le _) (Nat.zero_le _) dX2_cutNext_21 (by omega) (by omega) ?_
  refine lv_istore_n (lv' := [(3, .int (iZ (min (fr + mo) n))), (2, .int (iZ (fr))), (0, .ref a), (1, .int (iZ (mo)))]) hx hb dX2_cutNext_24 rfl hl (by decide) rfl (fun ls hl => ?_)
  refine lv_aload_n hx hb dX2_cutNext_25 rfl (lv_at hl 2 rfl) ?_
  refine lv_iload_n hx hb dX2_cutNext_26 rfl (lv_at hl 0 rfl) ?_
  refine g_put (C := RX2) (T := TX2) (N := 9) (ci := 4) (ty := .int) (v := .int (iZ (min (fr + mo) n))) (fs' := [.int (iZ (mg)), .ref ob, .int (iZ (st)), .int (iZ (min (fr + mo) n)), .int (iZ (sq)), .int (iZ (wt)), .int (iZ (bl)), .int (iZ (sp)), .long (lZ (wk))]) hx hb hts hi4 tyX2 tyX2_ok nmX2 hown hK hW hS he rfl 3 (by decide) (hts (.fieldLink RX2 31 "LongTransfer$Sender" "framed" "I") (by decide +kernel)) (fun _ h9 => h9) rfl (by decide +kernel) rfl rfl (Nat.le_of_ble_eq_true rfl) dX2_cutNext_27 rfl (fun H locs hW hS => ?_)
  have ho : (e2 en k i (some (a, .inr (4, [.int (iZ (mg)), .ref ob, .int (iZ (st)), .int (iZ (min (fr + mo) n)), .int (iZ (sq)), .int (iZ (wt)), .int (iZ (bl)), .int (iZ (sp)), .long (lZ (wk))])))) ko io = some (ob, aB dA (n) (F)) := (e2_k hne).trans ho
  have he : (e2 en k i (some (a, .inr (4, [.int (iZ (mg)), .ref ob, .int (iZ (st)), .int (iZ (min (fr + mo) n)), .int (iZ (sq)), .int (iZ (wt)), .int (iZ (bl)), .int (iZ (sp)), .long (lZ (wk))])))) k i = some (a, .inr (4, [.int (iZ (mg)), .ref ob, .int (iZ (st)), .int (iZ (min (fr + mo) n)), .int (iZ (sq)), .int (iZ (wt)), .int (iZ (bl)), .int (iZ (sp)), .long (lZ (wk))])) := e2_s _ _ _ _
  refine lv_aload_n hx hb dX2_cutNext_30 rfl (lv_at hl 2 rfl) ?_
  refine g_get (C := RX2) (T := TX2) (N := 9) (ci := 4) (v := .ref ob) hx hb hts hi4 hown hK hW he rfl 1 (by decide) (hts (.fieldLink RX2 27 "LongTransfer$Sender" "octets" "[B") (by decide +kernel)) (fun _ h9 => h9) rfl dX2_cutNext_31 ?_
  refine lv_iload_n hx hb dX2_cutNext_34 rfl (lv_at hl 1 rfl) ?_
  refine lv_iload_n hx hb dX2_cutNext_35 rfl (lv_at hl 0 rfl) ?_
  have hoo : (e2 en k i (some (a, .inr (4, [.int (iZ (mg)), .ref ob, .int (iZ (st)), .int (iZ (min (fr + mo) n)), .int (iZ (sq)), .int (iZ (wt)), .int (iZ (bl)), .int (iZ (sp)), .long (lZ (wk))])))) ko io = some (ob, aB dA n F) := ho
  refine va_callr (va_runS (As := [.ref ob, .int (iZ (fr)), .int (iZ (min (fr + mo) n))]) (rest := []) ⟨hx, hb, hml, hown, hts⟩ (c_J7_copyOR l D dA z (e2 en k i (some (a, .inr (4, [.int (iZ (mg)), .ref ob, .int (iZ (st)), .int (iZ (min (fr + mo) n)), .int (iZ (sq)), .int (iZ (wt)), .int (iZ (bl)), .int (iZ (sp)), .long (lZ (wk))])))) ob fr (min (fr + mo) n) n F ko io k2 i2 hne3 (by omega) (by omega) (by omega) (by omega) ho hF) (va_cwS 3 hts gX2_cutNext_J7_copyOfRange_39247 rfl rfl rfl (by decide +kernel) ⟨Nat.le_of_ble_eq_true rfl, Nat.le_of_ble_eq_true rfl⟩) ⟨gBl, gPre _ hg hS hW⟩ rfl rfl hl.1 rfl (lv_room (Nat.le_of_ble_eq_true rfl)) dX2_cutNext_36 ⟨(show 0 + 1 ≤ 1 by omega), (show 0 + ((min (fr + mo) n - fr).toNat) ≤ (min (fr + mo) n - fr).toNat by omega)⟩) hS (fun _ _ h => h) (fun _ h => h) (fun u9 r9 t9 H locs ht9 hvm9 hw9 hB9 hz9 hk9 hS => ?_)
  obtain ⟨q, hq9⟩ : ∃ y : Nat, y = r9 := ⟨_, rfl⟩
  subst hq9
  have hW : Wd D (z 0) (e2 (e2 en k i (some (a, .inr (4, [.int (iZ (mg)), .ref ob, .int (iZ (st)), .int (iZ (min (fr + mo) n)), .int (iZ (sq)), .int (iZ (wt)), .int (iZ (bl)), .int (iZ (sp)), .long (lZ (wk))])))) k2 i2 (some (q, aB dA (min (fr + mo) n - fr) (slF F fr (min (fr + mo) n - fr))))) H := by rw [← ht9]; exact hB9
  have he : (e2 (e2 en k i (some (a, .inr (4, [.int (iZ (mg)), .ref ob, .int (iZ (st)), .int (iZ (min (fr + mo) n)), .int (iZ (sq)), .int (iZ (wt)), .int (iZ (bl)), .int (iZ (sp)), .long (lZ (wk))])))) k2 i2 (some (q, aB dA (min (fr + mo) n - fr) (slF F fr (min (fr + mo) n - fr))))) k i = some (a, .inr (4, [.int (iZ (mg)), .ref ob, .int (iZ (st)), .int (iZ (min (fr + mo) n)), .int (iZ (sq)), .int (iZ (wt)), .int (iZ (bl)), .int (iZ (sp)), .long (lZ (wk))])) := (e2_k hne2).trans he
  have ho : (e2 (e2 en k i (some (a, .inr (4, [.int (iZ (mg)), .ref ob, .int (iZ (st)), .int (iZ (min (fr + mo) n)), .int (iZ (sq)), .int (iZ (wt)), .int (iZ (bl)), .int (iZ (sp)), .long (lZ (wk))])))) k2 i2 (some (q, aB dA (min (fr + mo) n - fr) (slF F fr (min (fr + mo) n - fr))))) ko io = some (ob, aB dA (n) (F)) := (e2_k hne3).trans ho
  have hq : (e2 (e2 en k i (some (a, .inr (4, [.int (iZ (mg)), .ref ob, .int (iZ (st)), .int (iZ (min (fr + mo) n)), .int (iZ (sq)), .int (iZ (wt)), .int (iZ (bl)), .int (iZ (sp)), .long (lZ (wk))])))) k2 i2 (some (q, aB dA (min (fr + mo) n - fr) (slF F fr (min (fr + mo) n - fr))))) k2 i2 = some (q, aB dA (min (fr + mo) n - fr) (slF F fr (min (fr + mo) n - fr))) := e2_s _ _ _ _
  refine W.widen (k := 1) (n := (min (fr + mo) n - fr).toNat) (by omega) (by omega) ?_
  exact W.aret hx hb hr (Or.inr ⟨_, rfl⟩) (Or.inr ⟨_, rfl⟩) (fun t9 ht hw => ⟨⟨(), _, rfl, trivial, by show Wd _ _ _ t9.heap; rw [ht]; exact hW⟩, hS.F ht⟩) hS.2.2 dX2_cutNext_39
