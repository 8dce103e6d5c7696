set_option maxHeartbeats 4000000 in
set_option maxRecDepth 100000 in
theorem c_X3_startMessages (l : Launch) (D : va_G) (dA : Nat → ClassId) (z : Nat → Nat) (en : en_T) (g : St) (al : Al) (hj : JB g) (hE : EC dA z g al en) (hI : IB g) : Met l yX3_startMessages wsX3_startMessages ({ frames := 9, cells := kC (sSts (g 1 0 0 - g 0 8 0).toNat g) - kC g, slots := kS (sSts (g 1 0 0 - g 0 8 0).toNat g) - kS g, locals := 220 }) (gP D dA z en [.ref (al 0 0)]) (va_Qv (fun u : en_T × Al => CP dA z (sSts (g 1 0 0 - g 0 8 0).toNat g) g al en u) (fun u t9 => Wd D (z 0) u.1 t9.heap) (fun q => z 0 ≤ q)) (kC (sSts (g 1 0 0 - g 0 8 0).toNat g) - kC g) (kS (sSts (g 1 0 0 - g 0 8 0).toNat g) - kS g) (fun q => z 0 ≤ q) := by
  refine gMet (own := RX3) (cc := cX3_startMessages) (maxL := 1) (ret := none) (by decide) rfl rfl (Nat.le_of_ble_eq_true rfl) ?_
  intro p e s m below meth c hx hb hml hown hts hr hlocks hnm hg hW ls hl
  have hK := hg.1
  have hS : va_S (fun q => z 0 ≤ q) s.heap s.heap [] := va_S.rf
  have hi5 : ∀ w ∈ u_ws RX3 TX3 14, w ∈ wsX3_startMessages := by decide +kernel
  have hl : lv_has ls 1 [(0, .ref (al 0 0))] := hl
  have hJ : IJ g := ⟨hI, hj⟩
  obtain ⟨hIX, hIL, hIS, hIF, hIR, hIG⟩ := id hI
  unfold IL at hIL
  unfold IX at hIX
  have loop : ∀ (n : Nat) (gA : St) (alA : Al) (enA : en_T) (H : Heap) (locs : List Loc) (ls : Array Slot), EC dA z gA alA enA → IJ gA → Wd D (z 0) enA H → va_S (fun q => z 0 ≤ q) s.heap H locs → lv_has ls 1 [(0, .ref (alA 0 0))] → FR en enA → AS g gA al alA → gA 0 8 0 + n = gA 1 0 0 → sSts n gA = sSts (g 1 0 0 - g 0 8 0).toNat g → W p l e ({ frames := 9, cells := kC (sSts (g 1 0 0 - g 0 8 0).toNat g) - kC g, slots := kS (sSts (g 1 0 0 - g 0 8 0).toNat g) - kS g, locals := 220 }) s m (([.ref (al 0 0)] : List Value).toArray) below meth c H locs (kC gA - kC g) (kS gA - kS g) (MQ below (va_Qv (fun u : en_T × Al => CP dA z (sSts (g 1 0 0 - g 0 8 0).toNat g) g al en u) (fun u t9 => Wd D (z 0) u.1 t9.heap) (fun q => z 0 ≤ q)) ([.ref (al 0 0)] : List Value).toArray s (kC (sSts (g 1 0 0 - g 0 8 0).toNat g) - kC g) (kS (sSts (g 1 0 0 - g 0 8 0).toNat g) - kS g) (fun q => z 0 ≤ q)) (F0 m 0 ls []) := by
    intro n
    induction n with
    | zero =>
      intro gA alA enA H locs ls  hEA hJA hW hS hl hFRA hASA hin hgo
      have hNA := hASA.1
      obtain ⟨hIX, hIL, hIS, hIF, hIR, hIG⟩ := id hJA.1
      unfold IL at hIL
      unfold IX at hIX
      have hqC := kC_m hASA
      have hqS := kS_m hASA
      have hmA := (ij_sts _ hJA hin).2.1
      rw [hgo] at hmA
      have qA := mp_kC hmA
      have qB := mp_kS hmA
      have fX : enA 0 0 = some (alA 0 0, .inr (5, [.int (iZ (gA 0 0 0)), .ref (alA 1 0), .ref (alA 1 1), .ref (alA 3 0), .ref (alA 4 0), .int (iZ (gA 0 5 0)), .ref (alA 11 0), .long (lZ (gA 0 7 0)), .int (iZ (gA 0 8 0)), .int (iZ (gA 0 9 0)), .int (iZ (gA 0 10 0)), .int (iZ (gA 0 11 0)), .int (iZ (gA 0 12 0)), .int (iZ (gA 0 13 0))])) := ec_X hEA
      have fL0 : enA 1 0 = some (alA 1 0, .inr (1, [.int (iZ (gA 3 0 0)), .ref (alA 2 0), .int (iZ (gA 1 0 0))])) := ec_L0 hEA
      have fL1 : enA 1 1 = some (alA 1 1, .inr (1, [.int (iZ (gA 3 1 0)), .ref (alA 2 1), .int (iZ (gA 1 1 0))])) := ec_L1 hEA
      have fQ : enA 3 0 = some (alA 3 0, aR dA (4) (fun j => some (alA 9 j))) := ec_Q hEA
      have fC : enA 4 0 = some (alA 4 0, aI dA (8) (fun j => gA 2 j 0)) := ec_C hEA
      refine lv_aload_n hx hb dX3_startMessages_0 rfl (lv_at hl 0 rfl) ?_
      refine g_get (C := RX3) (T := TX3) (N := 14) (ci := 5) (v := .int (iZ (gA 0 8 0))) hx hb hts hi5 hown hK hW fX rfl 8 (by decide) (hts (.fieldLink RX3 160 "LongTransfer" "started" "I") (by decide +kernel)) (fun _ h9 => h9) rfl dX3_startMessages_1 ?_
      refine lv_aload_n hx hb dX3_startMessages_4 rfl (lv_at hl 0 rfl) ?_
      refine g_get (C := RX3) (T := TX3) (N := 14) (ci := 5) (v := .ref (alA 1 0)) hx hb hts hi5 hown hK hW fX rfl 1 (by decide) (hts (.fieldLink RX3 10 "LongTransfer" "senders" "Ljava/util/ArrayList;") (by decide +kernel)) (fun _ h9 => h9) rfl dX3_startMessages_5 ?_
      refine va_calli (va_runV (As := []) (rest := [.int (iZ (gA 0 8 0))]) ⟨hx, hb, hml, hown, hts⟩ (c_AL_size l D dA z enA 0 (alA 1 0) (alA 2 0) (gA 3 0 0) (gA 1 0 0) fL0) (cwV 0 hts gX3_startMessages_Jx4a65c_size_8abf5 rfl rfl rfl (by decide +kernel) ⟨Nat.le_of_ble_eq_true rfl, Nat.le_of_ble_eq_true rfl⟩) ⟨gBl, gRecv hK hW (ci := 1) rfl fL0, gPre _ hg hS hW⟩ rfl rfl hl.1 rfl (lv_room (Nat.le_of_ble_eq_true rfl)) dX3_startMessages_8 ⟨(show kC gA - kC g + 0 ≤ kC (sSts (g 1 0 0 - g 0 8 0).toNat g) - kC g by omega), (show kS gA - kS g + 0 ≤ kS (sSts (g 1 0 0 - g 0 8 0).toNat g) - kS g by omega)⟩) hS (fun _ _ h => h) (fun _ h => h) (fun r9 u9 t9 H locs ht9 hvm9 hw9 hB9 hz9 hk9 hS => ?_)
      have hW : Wd D (z 0) enA H := by rw [← ht9]; exact hB9
      subst hw9
      refine z_icmp_ge (tgt := 45) hx hb dX3_startMessages_11 (by decide) (by omega) (by omega) (fun c_11 => ?_) (fun c_11 => ?_)
      · have hgz0 : gA = sSts (g 1 0 0 - g 0 8 0).toNat g := (sSts_0 _).symm.trans hgo
        have hqz : kC gA = kC (sSts (g 1 0 0 - g 0 8 0).toNat g) := congrArg kC hgz0
        have hqy : kS gA = kS (sSts (g 1 0 0 - g 0 8 0).toNat g) := congrArg kS hgz0
        refine W.widen (k := kC (sSts (g 1 0 0 - g 0 8 0).toNat g) - kC g) (n := kS (sSts (g 1 0 0 - g 0 8 0).toNat g) - kS g) (show kC gA - kC g + 0 ≤ kC (sSts (g 1 0 0 - g 0 8 0).toNat g) - kC g by omega) (show kS gA - kS g + 0 ≤ kS (sSts (g 1 0 0 - g 0 8 0).toNat g) - kS g by omega) ?_
        have hgz : gA = sSts (g 1 0 0 - g 0 8 0).toNat g := by exact hgz0
        rw [hgz] at hEA hASA
        exact W.vret hx hb hr (fun t ht hw => ⟨⟨(enA, alA), rfl, ⟨hEA, hFRA, hASA⟩, by show Wd _ _ _ t.heap; rw [ht]; exact hW⟩, hS.F ht⟩) hS.2.2 dX3_startMessages_45
      · exact absurd c_11 (by omega)
    | succ n ih =>
      intro gA alA enA H locs ls  hEA hJA hW hS hl hFRA hASA hin hgo
      have hNA := hASA.1
      obtain ⟨hIX, hIL, hIS, hIF, hIR, hIG⟩ := id hJA.1
      unfold IL at hIL
      unfold IX at hIX
      have hqC := kC_m hASA
      have hqS := kS_m hASA
      have hmA := (ij_sts _ hJA hin).2.1
      rw [hgo] at hmA
      have qA := mp_kC hmA
      have qB := mp_kS hmA
      have fX : enA 0 0 = some (alA 0 0, .inr (5, [.int (iZ (gA 0 0 0)), .ref (alA 1 0), .ref (alA 1 1), .ref (alA 3 0), .ref (alA 4 0), .int (iZ (gA 0 5 0)), .ref (alA 11 0), .long (lZ (gA 0 7 0)), .int (iZ (gA 0 8 0)), .int (iZ (gA 0 9 0)), .int (iZ (gA 0 10 0)), .int (iZ (gA 0 11 0)), .int (iZ (gA 0 12 0)), .int (iZ (gA 0 13 0))])) := ec_X hEA
      have fL0 : enA 1 0 = some (alA 1 0, .inr (1, [.int (iZ (gA 3 0 0)), .ref (alA 2 0), .int (iZ (gA 1 0 0))])) := ec_L0 hEA
      have fL1 : enA 1 1 = some (alA 1 1, .inr (1, [.int (iZ (gA 3 1 0)), .ref (alA 2 1), .int (iZ (gA 1 1 0))])) := ec_L1 hEA
      have fQ : enA 3 0 = some (alA 3 0, aR dA (4) (fun j => some (alA 9 j))) := ec_Q hEA
      have fC : enA 4 0 = some (alA 4 0, aI dA (8) (fun j => gA 2 j 0)) := ec_C hEA
      refine lv_aload_n hx hb dX3_startMessages_0 rfl (lv_at hl 0 rfl) ?_
      refine g_get (C := RX3) (T := TX3) (N := 14) (ci := 5) (v := .int (iZ (gA 0 8 0))) hx hb hts hi5 hown hK hW fX rfl 8 (by decide) (hts (.fieldLink RX3 160 "LongTransfer" "started" "I") (by decide +kernel)) (fun _ h9 => h9) rfl dX3_startMessages_1 ?_
      refine lv_aload_n hx hb dX3_startMessages_4 rfl (lv_at hl 0 rfl) ?_
      refine g_get (C := RX3) (T := TX3) (N := 14) (ci := 5) (v := .ref (alA 1 0)) hx hb hts hi5 hown hK hW fX rfl 1 (by decide) (hts (.fieldLink RX3 10 "LongTransfer" "senders" "Ljava/util/ArrayList;") (by decide +kernel)) (fun _ h9 => h9) rfl dX3_startMessages_5 ?_
      refine va_calli (va_runV (As := []) (rest := [.int (iZ (gA 0 8 0))]) ⟨hx, hb, hml, hown, hts⟩ (c_AL_size l D dA z enA 0 (alA 1 0) (alA 2 0) (gA 3 0 0) (gA 1 0 0) fL0) (cwV 0 hts gX3_startMessages_Jx4a65c_size_8abf5 rfl rfl rfl (by decide +kernel) ⟨Nat.le_of_ble_eq_true rfl, Nat.le_of_ble_eq_true rfl⟩) ⟨gBl, gRecv hK hW (ci := 1) rfl fL0, gPre _ hg hS hW⟩ rfl rfl hl.1 rfl (lv_room (Nat.le_of_ble_eq_true rfl)) dX3_startMessages_8 ⟨(show kC gA - kC g + 0 ≤ kC (sSts (g 1 0 0 - g 0 8 0).toNat g) - kC g by omega), (show kS gA - kS g + 0 ≤ kS (sSts (g 1 0 0 - g 0 8 0).toNat g) - kS g by omega)⟩) hS (fun _ _ h => h) (fun _ h => h) (fun r9 u9 t9 H locs ht9 hvm9 hw9 hB9 hz9 hk9 hS => ?_)
      have hW : Wd D (z 0) enA H := by rw [← ht9]; exact hB9
      subst hw9
      refine z_icmp_ge (tgt := 45) hx hb dX3_startMessages_11 (by decide) (by omega) (by omega) (fun c_11 => ?_) (fun c_11 => ?_)
      · exact absurd c_11 (by omega)
      · refine lv_aload_n hx hb dX3_startMessages_14 rfl (lv_at hl 0 rfl) ?_
        refine lv_aload_n hx hb dX3_startMessages_15 rfl (lv_at hl 0 rfl) ?_
        refine g_get (C := RX3) (T := TX3) (N := 14) (ci := 5) (v := .ref (alA 1 0)) hx hb hts hi5 hown hK hW fX rfl 1 (by decide) (hts (.fieldLink RX3 10 "LongTransfer" "senders" "Ljava/util/ArrayList;") (by decide +kernel)) (fun _ h9 => h9) rfl dX3_startMessages_16 ?_
        refine lv_aload_n hx hb dX3_startMessages_19 rfl (lv_at hl 0 rfl) ?_
        refine g_get (C := RX3) (T := TX3) (N := 14) (ci := 5) (v := .int (iZ (gA 0 8 0))) hx hb hts hi5 hown hK hW fX rfl 8 (by decide) (hts (.fieldLink RX3 160 "LongTransfer" "started" "I") (by decide +kernel)) (fun _ h9 => h9) rfl dX3_startMessages_20 ?_
        obtain ⟨hcap, fA⟩ := ec_Ar hEA (li := 0) (by omega) (by omega)
        refine va_callr (va_runV (As := [.int (iZ (gA 0 8 0))]) (rest := [.ref (alA 0 0)]) ⟨hx, hb, hml, hown, hts⟩ (c_AL_get l D dA z enA 0 (alA 1 0) (alA 2 0) (gA 3 0 0) (gA 1 0 0) (gA 4 0 0) (gA 0 8 0) (eA gA alA 0) (alA 5 (gA 0 8 0 + 1)) (by omega) (by omega) (by omega) (by omega) (by omega) (by have := eA_in (g := gA) (al := alA) (li := 0) (j := gA 0 8 0 + 1) (by omega) (by omega); rw [show gA 0 8 0 + 1 - 1 = gA 0 8 0 by omega] at this; exact this) fL0 fA) (cwV 1 hts gX3_startMessages_Jx4a65c_get_915e3 rfl rfl rfl (by decide +kernel) ⟨Nat.le_of_ble_eq_true rfl, Nat.le_of_ble_eq_true rfl⟩) ⟨gBl, gRecv hK hW (ci := 1) rfl fL0, gPre _ hg hS hW⟩ rfl rfl hl.1 rfl (lv_room (Nat.le_of_ble_eq_true rfl)) dX3_startMessages_23 ⟨(show kC gA - kC g + 0 + 0 ≤ kC (sSts (g 1 0 0 - g 0 8 0).toNat g) - kC g by omega), (show kS gA - kS g + 0 + 0 ≤ kS (sSts (g 1 0 0 - g 0 8 0).toNat g) - kS g by omega)⟩) hS (fun _ _ h => h) (fun _ h => h) (fun u9 r9 t9 H locs ht9 hvm9 hw9 hB9 hz9 hk9 hS => ?_)
        obtain ⟨rfl, hB9⟩ := hB9
        have hW : Wd D (z 0) enA H := by rw [← ht9]; exact hB9
        have fX : enA 0 0 = some (alA 0 0, .inr (5, [.int (iZ (gA 0 0 0)), .ref (alA 1 0), .ref (alA 1 1), .ref (alA 3 0), .ref (alA 4 0), .int (iZ (gA 0 5 0)), .ref (alA 11 0), .long (lZ (gA 0 7 0)), .int (iZ (gA 0 8 0)), .int (iZ (gA 0 9 0)), .int (iZ (gA 0 10 0)), .int (iZ (gA 0 11 0)), .int (iZ (gA 0 12 0)), .int (iZ (gA 0 13 0))])) := ec_X hEA
        have fL0 : enA 1 0 = some (alA 1 0, .inr (1, [.int (iZ (gA 3 0 0)), .ref (alA 2 0), .int (iZ (gA 1 0 0))])) := ec_L0 hEA
        have fL1 : enA 1 1 = some (alA 1 1, .inr (1, [.int (iZ (gA 3 1 0)), .ref (alA 2 1), .int (iZ (gA 1 1 0))])) := ec_L1 hEA
        have fQ : enA 3 0 = some (alA 3 0, aR dA (4) (fun j => some (alA 9 j))) := ec_Q hEA
        have fC : enA 4 0 = some (alA 4 0, aI dA (8) (fun j => gA 2 j 0)) := ec_C hEA
        have fS : enA 5 (gA 0 8 0 + 1) = some (alA 5 (gA 0 8 0 + 1), .inr (4, [.int (iZ (gA 0 8 0 + 1)), .ref (alA 6 (gA 0 8 0 + 1)), .int (iZ (gA 12 (gA 0 8 0 + 1) 0)), .int (iZ (gA 13 (gA 0 8 0 + 1) 0)), .int (iZ (gA 14 (gA 0 8 0 + 1) 0)), .int (iZ (gA 15 (gA 0 8 0 + 1) 0)), .int (iZ (gA 16 (gA 0 8 0 + 1) 0)), .int (iZ (gA 17 (gA 0 8 0 + 1) 0)), .long (lZ (gA 18 (gA 0 8 0 + 1) 0))])) := ec_S hEA (by omega)
        have fO : enA 6 (gA 0 8 0 + 1) = some (alA 6 (gA 0 8 0 + 1), aB dA (gA 11 (gA 0 8 0 + 1) 0) (gA 19 (gA 0 8 0 + 1))) := ec_SO hEA (by omega)
        refine g_castS (nm := RX2) (T := TX2) (N := 9) (ci := 4) hx hb hown (hts (.classLink RX3 56 "LongTransfer$Sender") (by decide +kernel)) hK hW rfl fS dX3_startMessages_26 ?_
        have hq := ij_st1 hJA (by omega)
        have hgo1 : sSts n (sSt1 gA) = sSts (g 1 0 0 - g 0 8 0).toNat g := hgo
        have hm2 := (ij_sts n hq.1 (by rw [hq.2.2.1, hq.2.1.1]; omega)).2.1
        rw [hgo1] at hm2
        have q1 := mp_kC hq.2.1
        have q2 := mp_kS hq.2.1
        have q3 := mp_kC hm2
        have q4 := mp_kS hm2
        have q5 : kC (sStart gA (gA 0 8 0 + 1)) = kC (sSt1 gA) := rfl
        have q6 : kS (sStart gA (gA 0 8 0 + 1)) = kS (sSt1 gA) := rfl
        refine va_callv (va_runV (As := [.ref (alA 5 (gA 0 8 0 + 1))]) (rest := []) ⟨hx, hb, hml, hown, hts⟩ (c_X3_startMessage l D dA z enA gA alA (gA 0 8 0 + 1) (by omega) (by omega) hEA hJA.1) (cwV 1 hts gX3_startMessages_X3_startMessage rfl rfl rfl (by decide +kernel) ⟨Nat.le_of_ble_eq_true rfl, Nat.le_of_ble_eq_true rfl⟩) ⟨gBl, gRecv hK hW (ci := 5) rfl fX, gPre _ hg hS hW⟩ rfl rfl hl.1 rfl (lv_room (Nat.le_of_ble_eq_true rfl)) dX3_startMessages_29 ⟨(show kC gA - kC g + 0 + 0 + (kC (sStart gA (gA 0 8 0 + 1)) - kC gA) ≤ kC (sSts (g 1 0 0 - g 0 8 0).toNat g) - kC g by omega), (show kS gA - kS g + 0 + 0 + (kS (sStart gA (gA 0 8 0 + 1)) - kS gA) ≤ kS (sSts (g 1 0 0 - g 0 8 0).toNat g) - kS g by omega)⟩) hS (fun _ _ h => h) (fun _ h => h) (fun u9 t9 H locs ht9 hvm9 hw9 hB9 hz9 hk9 hS => ?_)
        obtain ⟨en1v, al1v⟩ := u9
        obtain ⟨hE1v, hFR1v, hAS1v⟩ := hw9
        have hW : Wd D (z 0) en1v H := by rw [← ht9]; exact hB9
        obtain ⟨g1v, hg1v⟩ : ∃ x : St, x = sStart gA (gA 0 8 0 + 1) := ⟨_, rfl⟩
        rw [← hg1v] at hE1v hAS1v
        dsimp only at hE1v hFR1v hAS1v
        have hl : lv_has ls 1 [(0, .ref (al1v 0 0))] := by rw [hAS1v.2 0 0 (by omega)]; exact hl
        have hFR1v := FR.tr hFRA hFR1v
        have hAS1v := AS.tr hASA hAS1v
        have hN1v := hAS1v.1
        have fX : en1v 0 0 = some (al1v 0 0, .inr (5, [.int (iZ (g1v 0 0 0)), .ref (al1v 1 0), .ref (al1v 1 1), .ref (al1v 3 0), .ref (al1v 4 0), .int (iZ (g1v 0 5 0)), .ref (al1v 11 0), .long (lZ (g1v 0 7 0)), .int (iZ (g1v 0 8 0)), .int (iZ (g1v 0 9 0)), .int (iZ (g1v 0 10 0)), .int (iZ (g1v 0 11 0)), .int (iZ (g1v 0 12 0)), .int (iZ (g1v 0 13 0))])) := ec_X hE1v
        have fL0 : en1v 1 0 = some (al1v 1 0, .inr (1, [.int (iZ (g1v 3 0 0)), .ref (al1v 2 0), .int (iZ (g1v 1 0 0))])) := ec_L0 hE1v
        have fL1 : en1v 1 1 = some (al1v 1 1, .inr (1, [.int (iZ (g1v 3 1 0)), .ref (al1v 2 1), .int (iZ (g1v 1 1 0))])) := ec_L1 hE1v
        have fQ : en1v 3 0 = some (al1v 3 0, aR dA (4) (fun j => some (al1v 9 j))) := ec_Q hE1v
        have fC : en1v 4 0 = some (al1v 4 0, aI dA (8) (fun j => g1v 2 j 0)) := ec_C hE1v
        refine lv_aload_n hx hb dX3_startMessages_32 rfl (lv_at hl 0 rfl) ?_
        refine lv_dup hx hb dX3_startMessages_33 rfl ?_
        refine g_get (C := RX3) (T := TX3) (N := 14) (ci := 5) (v := .int (iZ (g1v 0 8 0))) hx hb hts hi5 hown hK hW fX rfl 8 (by decide) (hts (.fieldLink RX3 160 "LongTransfer" "started" "I") (by decide +kernel)) (fun _ h9 => h9) rfl dX3_startMessages_34 ?_
        refine z_iconst hx hb dX3_startMessages_37 ?_
        refine z_iadd hx hb dX3_startMessages_38 ?_
        refine g_put (C := RX3) (T := TX3) (N := 14) (ci := 5) (ty := .int) (v := .int (iZ ((g1v 0 8 0) + 1))) (fs' := [.int (iZ (g1v 0 0 0)), .ref (al1v 1 0), .ref (al1v 1 1), .ref (al1v 3 0), .ref (al1v 4 0), .int (iZ (g1v 0 5 0)), .ref (al1v 11 0), .long (lZ (g1v 0 7 0)), .int (iZ ((g1v 0 8 0) + 1)), .int (iZ (g1v 0 9 0)), .int (iZ (g1v 0 10 0)), .int (iZ (g1v 0 11 0)), .int (iZ (g1v 0 12 0)), .int (iZ (g1v 0 13 0))]) hx hb hts hi5 tyX3 tyX3_ok nmX3 hown hK hW hS fX rfl 8 (by decide) (hts (.fieldLink RX3 160 "LongTransfer" "started" "I") (by decide +kernel)) (fun _ h9 => h9) rfl (by decide +kernel) rfl rfl (Nat.le_of_ble_eq_true rfl) dX3_startMessages_39 rfl (fun H locs hW hS => ?_)
        have fL0 : (e2 en1v 0 0 (some (al1v 0 0, .inr (5, [.int (iZ (g1v 0 0 0)), .ref (al1v 1 0), .ref (al1v 1 1), .ref (al1v 3 0), .ref (al1v 4 0), .int (iZ (g1v 0 5 0)), .ref (al1v 11 0), .long (lZ (g1v 0 7 0)), .int (iZ ((g1v 0 8 0) + 1)), .int (iZ (g1v 0 9 0)), .int (iZ (g1v 0 10 0)), .int (iZ (g1v 0 11 0)), .int (iZ (g1v 0 12 0)), .int (iZ (g1v 0 13 0))])))) 1 0 = some (al1v 1 0, .inr (1, [.int (iZ (g1v 3 0 0)), .ref (al1v 2 0), .int (iZ (g1v 1 0 0))])) := (e2_k (by decide)).trans fL0
        have fL1 : (e2 en1v 0 0 (some (al1v 0 0, .inr (5, [.int (iZ (g1v 0 0 0)), .ref (al1v 1 0), .ref (al1v 1 1), .ref (al1v 3 0), .ref (al1v 4 0), .int (iZ (g1v 0 5 0)), .ref (al1v 11 0), .long (lZ (g1v 0 7 0)), .int (iZ ((g1v 0 8 0) + 1)), .int (iZ (g1v 0 9 0)), .int (iZ (g1v 0 10 0)), .int (iZ (g1v 0 11 0)), .int (iZ (g1v 0 12 0)), .int (iZ (g1v 0 13 0))])))) 1 1 = some (al1v 1 1, .inr (1, [.int (iZ (g1v 3 1 0)), .ref (al1v 2 1), .int (iZ (g1v 1 1 0))])) := (e2_k (by decide)).trans fL1
        have fQ : (e2 en1v 0 0 (some (al1v 0 0, .inr (5, [.int (iZ (g1v 0 0 0)), .ref (al1v 1 0), .ref (al1v 1 1), .ref (al1v 3 0), .ref (al1v 4 0), .int (iZ (g1v 0 5 0)), .ref (al1v 11 0), .long (lZ (g1v 0 7 0)), .int (iZ ((g1v 0 8 0) + 1)), .int (iZ (g1v 0 9 0)), .int (iZ (g1v 0 10 0)), .int (iZ (g1v 0 11 0)), .int (iZ (g1v 0 12 0)), .int (iZ (g1v 0 13 0))])))) 3 0 = some (al1v 3 0, aR dA (4) (fun j => some (al1v 9 j))) := (e2_k (by decide)).trans fQ
        have fC : (e2 en1v 0 0 (some (al1v 0 0, .inr (5, [.int (iZ (g1v 0 0 0)), .ref (al1v 1 0), .ref (al1v 1 1), .ref (al1v 3 0), .ref (al1v 4 0), .int (iZ (g1v 0 5 0)), .ref (al1v 11 0), .long (lZ (g1v 0 7 0)), .int (iZ ((g1v 0 8 0) + 1)), .int (iZ (g1v 0 9 0)), .int (iZ (g1v 0 10 0)), .int (iZ (g1v 0 11 0)), .int (iZ (g1v 0 12 0)), .int (iZ (g1v 0 13 0))])))) 4 0 = some (al1v 4 0, aI dA (8) (fun j => g1v 2 j 0)) := (e2_k (by decide)).trans fC
        have fX : (e2 en1v 0 0 (some (al1v 0 0, .inr (5, [.int (iZ (g1v 0 0 0)), .ref (al1v 1 0), .ref (al1v 1 1), .ref (al1v 3 0), .ref (al1v 4 0), .int (iZ (g1v 0 5 0)), .ref (al1v 11 0), .long (lZ (g1v 0 7 0)), .int (iZ ((g1v 0 8 0) + 1)), .int (iZ (g1v 0 9 0)), .int (iZ (g1v 0 10 0)), .int (iZ (g1v 0 11 0)), .int (iZ (g1v 0 12 0)), .int (iZ (g1v 0 13 0))])))) 0 0 = some (al1v 0 0, .inr (5, [.int (iZ (g1v 0 0 0)), .ref (al1v 1 0), .ref (al1v 1 1), .ref (al1v 3 0), .ref (al1v 4 0), .int (iZ (g1v 0 5 0)), .ref (al1v 11 0), .long (lZ (g1v 0 7 0)), .int (iZ ((g1v 0 8 0) + 1)), .int (iZ (g1v 0 9 0)), .int (iZ (g1v 0 10 0)), .int (iZ (g1v 0 11 0)), .int (iZ (g1v 0 12 0)), .int (iZ (g1v 0 13 0))])) := e2_s _ _ _ _
        obtain ⟨en2v, hen2v⟩ : ∃ x : en_T, x = (e2 en1v 0 0 (some (al1v 0 0, .inr (5, [.int (iZ (g1v 0 0 0)), .ref (al1v 1 0), .ref (al1v 1 1), .ref (al1v 3 0), .ref (al1v 4 0), .int (iZ (g1v 0 5 0)), .ref (al1v 11 0), .long (lZ (g1v 0 7 0)), .int (iZ ((g1v 0 8 0) + 1)), .int (iZ (g1v 0 9 0)), .int (iZ (g1v 0 10 0)), .int (iZ (g1v 0 11 0)), .int (iZ (g1v 0 12 0)), .int (iZ (g1v 0 13 0))])))) := ⟨_, rfl⟩
        rw [← hen2v] at hW
        obtain ⟨g2v, hg2v⟩ : ∃ x : St, x = wr g1v 0 8 (g1v 0 8 0 + 1) := ⟨_, rfl⟩
        have hE2v : EC dA z g2v al1v en2v := ec_x hE1v  (fun t i j h => by rw [hg2v]; repeat rw [wr_n (by omega)]) (fun _ _ _ => rfl) (fun k i h => by rw [hen2v]; exact e2_n (by omega)) (by rw [hen2v, hg2v]; refine (e2_s _ _ _ _).trans ?_; simp [wr])
        have hFR2v : FR en1v en2v := fun k i h1 h2 => by rw [hen2v]; exact e2_n (by omega)
        have hAS2v : AS g1v g2v al1v al1v := AS_e (by rw [hg2v]; rfl) (by rw [hg2v]; rfl) (by rw [hg2v]; rfl)
        have hFR2v := FR.tr hFR1v hFR2v
        have hAS2v := AS.tr hAS1v hAS2v
        have hN2v := hAS2v.1
        have fX : en2v 0 0 = some (al1v 0 0, .inr (5, [.int (iZ (g2v 0 0 0)), .ref (al1v 1 0), .ref (al1v 1 1), .ref (al1v 3 0), .ref (al1v 4 0), .int (iZ (g2v 0 5 0)), .ref (al1v 11 0), .long (lZ (g2v 0 7 0)), .int (iZ (g2v 0 8 0)), .int (iZ (g2v 0 9 0)), .int (iZ (g2v 0 10 0)), .int (iZ (g2v 0 11 0)), .int (iZ (g2v 0 12 0)), .int (iZ (g2v 0 13 0))])) := ec_X hE2v
        have fL0 : en2v 1 0 = some (al1v 1 0, .inr (1, [.int (iZ (g2v 3 0 0)), .ref (al1v 2 0), .int (iZ (g2v 1 0 0))])) := ec_L0 hE2v
        have fL1 : en2v 1 1 = some (al1v 1 1, .inr (1, [.int (iZ (g2v 3 1 0)), .ref (al1v 2 1), .int (iZ (g2v 1 1 0))])) := ec_L1 hE2v
        have fQ : en2v 3 0 = some (al1v 3 0, aR dA (4) (fun j => some (al1v 9 j))) := ec_Q hE2v
        have fC : en2v 4 0 = some (al1v 4 0, aI dA (8) (fun j => g2v 2 j 0)) := ec_C hE2v
        refine lv_goto (tgt := 0) hx hb dX3_startMessages_42 (by decide) ?_
        have hs1 : g2v = sSt1 gA := by rw [hg2v, hg1v]; unfold sSt1; rw [show sStart gA (gA 0 8 0 + 1) 0 8 0 = gA 0 8 0 from v_st (by omega)]
        have q7 : kC g2v = kC (sSt1 gA) := by rw [hs1]
        have q8 : kS g2v = kS (sSt1 gA) := by rw [hs1]
        have hj9 : IJ g2v := by rw [hs1]; exact hq.1
        have hgo9 : sSts n g2v = sSts (g 1 0 0 - g 0 8 0).toNat g := by rw [hs1]; exact hgo1
        have hn9 : g2v 0 8 0 + n = g2v 1 0 0 := by rw [hs1, hq.2.2.1, hq.2.1.1]; omega
        refine W.widen (k := kC g2v - kC g) (n := kS g2v - kS g) (show kC gA - kC g + 0 + 0 + (kC (sStart gA (gA 0 8 0 + 1)) - kC gA) ≤ kC g2v - kC g by omega) (show kS gA - kS g + 0 + 0 + (kS (sStart gA (gA 0 8 0 + 1)) - kS gA) ≤ kS g2v - kS g by omega) ?_
        exact ih  g2v al1v en2v _ _ _  hE2v hj9 hW hS (lv_sub hl [0] rfl) hFR2v hAS2v hn9 hgo9
  refine W.widen (k := kC g - kC g) (n := kS g - kS g) (show 0 ≤ kC g - kC g by omega) (show 0 ≤ kS g - kS g by omega) ?_
  exact loop (g 1 0 0 - g 0 8 0).toNat g al en _ _ _  hE hJ hW hS (lv_sub hl [0] rfl) (FR.rf _) (AS.rf _ _) (by omega) rfl
set_option maxHeartbeats 4000000 in
set_option maxRecDepth 100000 in
theorem c_X3_passTimeTo (l : Launch) (D : va_G) (dA : Nat → ClassId) (z : Nat → Nat) (en : en_T) (g : St) (al : Al) (tt : Int) (ht0 : 0 ≤ tt) (ht1 : tt ≤ 4000000) (fu fp : Nat) (hfu : fu = 6001) (hfp : fp = 5001) (hj : JB g) (hE : EC dA z g al en) (hI : IB g) : Met l yX3_passTimeTo wsX3_passTimeTo ({ frames := 10, cells := kC (wr (sPass fu fp g (sNT g) tt) 0 7 tt) - kC g, slots := kS (wr (sPass fu fp g (sNT g) tt) 0 7 tt) - kS g, locals := 250 }) (gP D dA z en [.ref (al 0 0), .long (lZ (tt))]) (va_Qv (fun u : en_T × Al => CP dA z (wr (sPass fu fp g (sNT g) tt) 0 7 tt) g al en u) (fun u t9 => Wd D (z 0) u.1 t9.heap) (fun q => z 0 ≤ q)) (kC (wr (sPass fu fp g (sNT g) tt) 0 7 tt) - kC g) (kS (wr (sPass fu fp g (sNT g) tt) 0 7 tt) - kS g) (fun q => z 0 ≤ q) := by
  refine gMet (own := RX3) (cc := cX3_passTimeTo) (maxL := 7) (ret := none) (by decide) rfl rfl (Nat.le_of_ble_eq_true rfl) ?_
  intro p e s m below meth c hx hb hml hown hts hr hlocks hnm hg hW ls hl
  have hK := hg.1
  have hS : va_S (fun q => z 0 ≤ q) s.heap s.heap [] := va_S.rf
  have hi5 : ∀ w ∈ u_ws RX3 TX3 14, w ∈ wsX3_passTimeTo := by decide +kernel
  have hl : lv_has ls 7 [(0, .ref (al 0 0)), (1, .long (lZ (tt)))] := hl
  have hJ : IJ g := ⟨hI, hj⟩
  have hNT := sNT_b hI
  have hqp : kC (wr (sPass fu fp g (sNT g) tt) 0 7 tt) = kC (sPass fu fp g (sNT g) tt) := rfl
  have hqr : kS (wr (sPass fu fp g (sNT g) tt) 0 7 tt) = kS (sPass fu fp g (sNT g) tt) := rfl
  have loop : ∀ (n : Nat) (gA : St) (alA : Al) (enA : en_T) (H : Heap) (locs : List Loc) (ls : Array Slot) (i : Int) (u : Int), EC dA z gA alA enA → IJ gA → Wd D (z 0) enA H → va_S (fun q => z 0 ≤ q) s.heap H locs → lv_has ls 7 [(5, .int (iZ (i))), (3, .long (lZ (u))), (0, .ref (alA 0 0)), (1, .long (lZ (tt)))] → FR en enA → AS g gA al alA → 0 ≤ i → i + n = 5001 → 0 ≤ u → u ≤ 9223372036854775807 → sPass fu n gA u tt = sPass fu fp g (sNT g) tt → W p l e ({ frames := 10, cells := kC (wr (sPass fu fp g (sNT g) tt) 0 7 tt) - kC g, slots := kS (wr (sPass fu fp g (sNT g) tt) 0 7 tt) - kS g, locals := 250 }) s m (([.ref (al 0 0), .long (lZ (tt))] : List Value).toArray) below meth c H locs (kC gA - kC g) (kS gA - kS g) (MQ below (va_Qv (fun u : en_T × Al => CP dA z (wr (sPass fu fp g (sNT g) tt) 0 7 tt) g al en u) (fun u t9 => Wd D (z 0) u.1 t9.heap) (fun q => z 0 ≤ q)) ([.ref (al 0 0), .long (lZ (tt))] : List Value).toArray s (kC (wr (sPass fu fp g (sNT g) tt) 0 7 tt) - kC g) (kS (wr (sPass fu fp g (sNT g) tt) 0 7 tt) - kS g) (fun q => z 0 ≤ q)) (F0 m 8 ls []) := by
    intro n
    induction n with
    | zero =>
      intro gA alA enA H locs ls i u hEA hJA hW hS hl hFRA hASA hi0 hin hu0 hu1 hgo
      have hNA := hASA.1
      obtain ⟨hIX, hIL, hIS, hIF, hIR, hIG⟩ := id hJA.1
      unfold IL at hIL
      unfold IX at hIX
      have hqC := kC_m hASA
      have hqS := kS_m hASA
      have hmA := (ij_pass fu (t := tt) ht1 0 hJA hu0).2
      rw [hgo] at hmA
      have qA := mp_kC hmA
      have qB := mp_kS hmA
      have fX : enA 0 0 = some (alA 0 0, .inr (5, [.int (iZ (gA 0 0 0)), .ref (alA 1 0), .ref (alA 1 1), .ref (alA 3 0), .ref (alA 4 0), .int (iZ (gA 0 5 0)), .ref (alA 11 0), .long (lZ (gA 0 7 0)), .int (iZ (gA 0 8 0)), .int (iZ (gA 0 9 0)), .int (iZ (gA 0 10 0)), .int (iZ (gA 0 11 0)), .int (iZ (gA 0 12 0)), .int (iZ (gA 0 13 0))])) := ec_X hEA
      have fL0 : enA 1 0 = some (alA 1 0, .inr (1, [.int (iZ (gA 3 0 0)), .ref (alA 2 0), .int (iZ (gA 1 0 0))])) := ec_L0 hEA
      have fL1 : enA 1 1 = some (alA 1 1, .inr (1, [.int (iZ (gA 3 1 0)), .ref (alA 2 1), .int (iZ (gA 1 1 0))])) := ec_L1 hEA
      have fQ : enA 3 0 = some (alA 3 0, aR dA (4) (fun j => some (alA 9 j))) := ec_Q hEA
      have fC : enA 4 0 = some (alA 4 0, aI dA (8) (fun j => gA 2 j 0)) := ec_C hEA
      refine lv_iload hx hb dX3_passTimeTo_8 (lv_at hl 0 rfl) ?_
      refine z_sipush hx hb dX3_passTimeTo_10 (by decide) ?_
      refine z_icmp_gt (tgt := 100) hx hb dX3_passTimeTo_13 (by decide) (by omega) (by omega) (fun c_13 => ?_) (fun c_13 => ?_)
      · have hgz0 : gA = sPass fu fp g (sNT g) tt := by first | exact (sPass_0 _ _ _ _).symm.trans hgo | exact (sPass_n (by omega)).symm.trans hgo
        refine lv_aload_n hx hb dX3_passTimeTo_100 rfl (lv_at hl 2 rfl) ?_
        refine lv_lload_n hx hb dX3_passTimeTo_101 rfl (lv_at hl 3 rfl) ?_
        refine g_put (C := RX3) (T := TX3) (N := 14) (ci := 5) (ty := .long) (v := .long (lZ (tt))) (fs' := [.int (iZ (gA 0 0 0)), .ref (alA 1 0), .ref (alA 1 1), .ref (alA 3 0), .ref (alA 4 0), .int (iZ (gA 0 5 0)), .ref (alA 11 0), .long (lZ (tt)), .int (iZ (gA 0 8 0)), .int (iZ (gA 0 9 0)), .int (iZ (gA 0 10 0)), .int (iZ (gA 0 11 0)), .int (iZ (gA 0 12 0)), .int (iZ (gA 0 13 0))]) hx hb hts hi5 tyX3 tyX3_ok nmX3 hown hK hW hS fX rfl 7 (by decide) (hts (.fieldLink RX3 120 "LongTransfer" "now" "J") (by decide +kernel)) (fun _ h9 => h9) rfl (by decide +kernel) rfl rfl (Nat.le_of_ble_eq_true rfl) dX3_passTimeTo_102 rfl (fun H locs hW hS => ?_)
        have fL0 : (e2 enA 0 0 (some (alA 0 0, .inr (5, [.int (iZ (gA 0 0 0)), .ref (alA 1 0), .ref (alA 1 1), .ref (alA 3 0), .ref (alA 4 0), .int (iZ (gA 0 5 0)), .ref (alA 11 0), .long (lZ (tt)), .int (iZ (gA 0 8 0)), .int (iZ (gA 0 9 0)), .int (iZ (gA 0 10 0)), .int (iZ (gA 0 11 0)), .int (iZ (gA 0 12 0)), .int (iZ (gA 0 13 0))])))) 1 0 = some (alA 1 0, .inr (1, [.int (iZ (gA 3 0 0)), .ref (alA 2 0), .int (iZ (gA 1 0 0))])) := (e2_k (by decide)).trans fL0
        have fL1 : (e2 enA 0 0 (some (alA 0 0, .inr (5, [.int (iZ (gA 0 0 0)), .ref (alA 1 0), .ref (alA 1 1), .ref (alA 3 0), .ref (alA 4 0), .int (iZ (gA 0 5 0)), .ref (alA 11 0), .long (lZ (tt)), .int (iZ (gA 0 8 0)), .int (iZ (gA 0 9 0)), .int (iZ (gA 0 10 0)), .int (iZ (gA 0 11 0)), .int (iZ (gA 0 12 0)), .int (iZ (gA 0 13 0))])))) 1 1 = some (alA 1 1, .inr (1, [.int (iZ (gA 3 1 0)), .ref (alA 2 1), .int (iZ (gA 1 1 0))])) := (e2_k (by decide)).trans fL1
        have fQ : (e2 enA 0 0 (some (alA 0 0, .inr (5, [.int (iZ (gA 0 0 0)), .ref (alA 1 0), .ref (alA 1 1), .ref (alA 3 0), .ref (alA 4 0), .int (iZ (gA 0 5 0)), .ref (alA 11 0), .long (lZ (tt)), .int (iZ (gA 0 8 0)), .int (iZ (gA 0 9 0)), .int (iZ (gA 0 10 0)), .int (iZ (gA 0 11 0)), .int (iZ (gA 0 12 0)), .int (iZ (gA 0 13 0))])))) 3 0 = some (alA 3 0, aR dA (4) (fun j => some (alA 9 j))) := (e2_k (by decide)).trans fQ
        have fC : (e2 enA 0 0 (some (alA 0 0, .inr (5, [.int (iZ (gA 0 0 0)), .ref (alA 1 0), .ref (alA 1 1), .ref (alA 3 0), .ref (alA 4 0), .int (iZ (gA 0 5 0)), .ref (alA 11 0), .long (lZ (tt)), .int (iZ (gA 0 8 0)), .int (iZ (gA 0 9 0)), .int (iZ (gA 0 10 0)), .int (iZ (gA 0 11 0)), .int (iZ (gA 0 12 0)), .int (iZ (gA 0 13 0))])))) 4 0 = some (alA 4 0, aI dA (8) (fun j => gA 2 j 0)) := (e2_k (by decide)).trans fC
        have fX : (e2 enA 0 0 (some (alA 0 0, .inr (5, [.int (iZ (gA 0 0 0)), .ref (alA 1 0), .ref (alA 1 1), .ref (alA 3 0), .ref (alA 4 0), .int (iZ (gA 0 5 0)), .ref (alA 11 0), .long (lZ (tt)), .int (iZ (gA 0 8 0)), .int (iZ (gA 0 9 0)), .int (iZ (gA 0 10 0)), .int (iZ (gA 0 11 0)), .int (iZ (gA 0 12 0)), .int (iZ (gA 0 13 0))])))) 0 0 = some (alA 0 0, .inr (5, [.int (iZ (gA 0 0 0)), .ref (alA 1 0), .ref (alA 1 1), .ref (alA 3 0), .ref (alA 4 0), .int (iZ (gA 0 5 0)), .ref (alA 11 0), .long (lZ (tt)), .int (iZ (gA 0 8 0)), .int (iZ (gA 0 9 0)), .int (iZ (gA 0 10 0)), .int (iZ (gA 0 11 0)), .int (iZ (gA 0 12 0)), .int (iZ (gA 0 13 0))])) := e2_s _ _ _ _
        obtain ⟨en1v, hen1v⟩ : ∃ x : en_T, x = (e2 enA 0 0 (some (alA 0 0, .inr (5, [.int (iZ (gA 0 0 0)), .ref (alA 1 0), .ref (alA 1 1), .ref (alA 3 0), .ref (alA 4 0), .int (iZ (gA 0 5 0)), .ref (alA 11 0), .long (lZ (tt)), .int (iZ (gA 0 8 0)), .int (iZ (gA 0 9 0)), .int (iZ (gA 0 10 0)), .int (iZ (gA 0 11 0)), .int (iZ (gA 0 12 0)), .int (iZ (gA 0 13 0))])))) := ⟨_, rfl⟩
        rw [← hen1v] at hW
        obtain ⟨g1v, hg1v⟩ : ∃ x : St, x = wr gA 0 7 tt := ⟨_, rfl⟩
        have hE1v : EC dA z g1v alA en1v := ec_x hEA  (fun t i j h => by rw [hg1v]; repeat rw [wr_n (by omega)]) (fun _ _ _ => rfl) (fun k i h => by rw [hen1v]; exact e2_n (by omega)) (by rw [hen1v, hg1v]; refine (e2_s _ _ _ _).trans ?_; simp [wr])
        have hFR1v : FR enA en1v := fun k i h1 h2 => by rw [hen1v]; exact e2_n (by omega)
        have hAS1v : AS gA g1v alA alA := AS_e (by rw [hg1v]; rfl) (by rw [hg1v]; rfl) (by rw [hg1v]; rfl)
        have hFR1v := FR.tr hFRA hFR1v
        have hAS1v := AS.tr hASA hAS1v
        have hN1v := hAS1v.1
        have fX : en1v 0 0 = some (alA 0 0, .inr (5, [.int (iZ (g1v 0 0 0)), .ref (alA 1 0), .ref (alA 1 1), .ref (alA 3 0), .ref (alA 4 0), .int (iZ (g1v 0 5 0)), .ref (alA 11 0), .long (lZ (g1v 0 7 0)), .int (iZ (g1v 0 8 0)), .int (iZ (g1v 0 9 0)), .int (iZ (g1v 0 10 0)), .int (iZ (g1v 0 11 0)), .int (iZ (g1v 0 12 0)), .int (iZ (g1v 0 13 0))])) := ec_X hE1v
        have fL0 : en1v 1 0 = some (alA 1 0, .inr (1, [.int (iZ (g1v 3 0 0)), .ref (alA 2 0), .int (iZ (g1v 1 0 0))])) := ec_L0 hE1v
        have fL1 : en1v 1 1 = some (alA 1 1, .inr (1, [.int (iZ (g1v 3 1 0)), .ref (alA 2 1), .int (iZ (g1v 1 1 0))])) := ec_L1 hE1v
        have fQ : en1v 3 0 = some (alA 3 0, aR dA (4) (fun j => some (alA 9 j))) := ec_Q hE1v
        have fC : en1v 4 0 = some (alA 4 0, aI dA (8) (fun j => g1v 2 j 0)) := ec_C hE1v
        have hqz : kC gA = kC (sPass fu fp g (sNT g) tt) := congrArg kC hgz0
        have hqy : kS gA = kS (sPass fu fp g (sNT g) tt) := congrArg kS hgz0
        refine W.widen (k := kC (wr (sPass fu fp g (sNT g) tt) 0 7 tt) - kC g) (n := kS (wr (sPass fu fp g (sNT g) tt) 0 7 tt) - kS g) (show kC gA - kC g ≤ kC (wr (sPass fu fp g (sNT g) tt) 0 7 tt) - kC g by omega) (show kS gA - kS g ≤ kS (wr (sPass fu fp g (sNT g) tt) 0 7 tt) - kS g by omega) ?_
        have hgz : g1v = wr (sPass fu fp g (sNT g) tt) 0 7 tt := by subst hg1v; rw [hgz0]
        rw [hgz] at hE1v hAS1v
        exact W.vret hx hb hr (fun t ht hw => ⟨⟨(en1v, alA), rfl, ⟨hE1v, hFR1v, hAS1v⟩, by show Wd _ _ _ t.heap; rw [ht]; exact hW⟩, hS.F ht⟩) hS.2.2 dX3_passTimeTo_105
      · exact absurd c_13 (by omega)
    | succ n ih =>
      intro gA alA enA H locs ls i u hEA hJA hW hS hl hFRA hASA hi0 hin hu0 hu1 hgo
      have hNA := hASA.1
      obtain ⟨hIX, hIL, hIS, hIF, hIR, hIG⟩ := id hJA.1
      unfold IL at hIL
      unfold IX at hIX
      have hqC := kC_m hASA
      have hqS := kS_m hASA
      have hmA := (ij_pass fu (t := tt) ht1 (n + 1) hJA hu0).2
      rw [hgo] at hmA
      have qA := mp_kC hmA
      have qB := mp_kS hmA
      have fX : enA 0 0 = some (alA 0 0, .inr (5, [.int (iZ (gA 0 0 0)), .ref (alA 1 0), .ref (alA 1 1), .ref (alA 3 0), .ref (alA 4 0), .int (iZ (gA 0 5 0)), .ref (alA 11 0), .long (lZ (gA 0 7 0)), .int (iZ (gA 0 8 0)), .int (iZ (gA 0 9 0)), .int (iZ (gA 0 10 0)), .int (iZ (gA 0 11 0)), .int (iZ (gA 0 12 0)), .int (iZ (gA 0 13 0))])) := ec_X hEA
      have fL0 : enA 1 0 = some (alA 1 0, .inr (1, [.int (iZ (gA 3 0 0)), .ref (alA 2 0), .int (iZ (gA 1 0 0))])) := ec_L0 hEA
      have fL1 : enA 1 1 = some (alA 1 1, .inr (1, [.int (iZ (gA 3 1 0)), .ref (alA 2 1), .int (iZ (gA 1 1 0))])) := ec_L1 hEA
      have fQ : enA 3 0 = some (alA 3 0, aR dA (4) (fun j => some (alA 9 j))) := ec_Q hEA
      have fC : enA 4 0 = some (alA 4 0, aI dA (8) (fun j => gA 2 j 0)) := ec_C hEA
      refine lv_iload hx hb dX3_passTimeTo_8 (lv_at hl 0 rfl) ?_
      refine z_sipush hx hb dX3_passTimeTo_10 (by decide) ?_
      refine z_icmp_gt (tgt := 100) hx hb dX3_passTimeTo_13 (by decide) (by omega) (by omega) (fun c_13 => ?_) (fun c_13 => ?_)
      · exact absurd c_13 (by omega)
      · refine lv_lload_n hx hb dX3_passTimeTo_16 rfl (lv_at hl 1 rfl) ?_
        refine lv_lload_n hx hb dX3_passTimeTo_17 rfl (lv_at hl 3 rfl) ?_
        refine z_lc_gt (tgt := 100) hx hb dX3_passTimeTo_18 dX3_passTimeTo_19 (by decide) (by omega) (by omega) (fun c_18 => ?_) (fun c_18 => ?_)
        · have hgz0 : gA = sPass fu fp g (sNT g) tt := by first | exact (sPass_0 _ _ _ _).symm.trans hgo | exact (sPass_n (by omega)).symm.trans hgo
          refine lv_aload_n hx hb dX3_passTimeTo_100 rfl (lv_at hl 2 rfl) ?_
          refine lv_lload_n hx hb dX3_passTimeTo_101 rfl (lv_at hl 3 rfl) ?_
          refine g_put (C := RX3) (T := TX3) (N := 14) (ci := 5) (ty := .long) (v := .long (lZ (tt))) (fs' := [.int (iZ (gA 0 0 0)), .ref (alA 1 0), .ref (alA 1 1), .ref (alA 3 0), .ref (alA 4 0), .int (iZ (gA 0 5 0)), .ref (alA 11 0), .long (lZ (tt)), .int (iZ (gA 0 8 0)), .int (iZ (gA 0 9 0)), .int (iZ (gA 0 10 0)), .int (iZ (gA 0 11 0)), .int (iZ (gA 0 12 0)), .int (iZ (gA 0 13 0))]) hx hb hts hi5 tyX3 tyX3_ok nmX3 hown hK hW hS fX rfl 7 (by decide) (hts (.fieldLink RX3 120 "LongTransfer" "now" "J") (by decide +kernel)) (fun _ h9 => h9) rfl (by decide +kernel) rfl rfl (Nat.le_of_ble_eq_true rfl) dX3_passTimeTo_102 rfl (fun H locs hW hS => ?_)
          have fL0 : (e2 enA 0 0 (some (alA 0 0, .inr (5, [.int (iZ (gA 0 0 0)), .ref (alA 1 0), .ref (alA 1 1), .ref (alA 3 0), .ref (alA 4 0), .int (iZ (gA 0 5 0)), .ref (alA 11 0), .long (lZ (tt)), .int (iZ (gA 0 8 0)), .int (iZ (gA 0 9 0)), .int (iZ (gA 0 10 0)), .int (iZ (gA 0 11 0)), .int (iZ (gA 0 12 0)), .int (iZ (gA 0 13 0))])))) 1 0 = some (alA 1 0, .inr (1, [.int (iZ (gA 3 0 0)), .ref (alA 2 0), .int (iZ (gA 1 0 0))])) := (e2_k (by decide)).trans fL0
          have fL1 : (e2 enA 0 0 (some (alA 0 0, .inr (5, [.int (iZ (gA 0 0 0)), .ref (alA 1 0), .ref (alA 1 1), .ref (alA 3 0), .ref (alA 4 0), .int (iZ (gA 0 5 0)), .ref (alA 11 0), .long (lZ (tt)), .int (iZ (gA 0 8 0)), .int (iZ (gA 0 9 0)), .int (iZ (gA 0 10 0)), .int (iZ (gA 0 11 0)), .int (iZ (gA 0 12 0)), .int (iZ (gA 0 13 0))])))) 1 1 = some (alA 1 1, .inr (1, [.int (iZ (gA 3 1 0)), .ref (alA 2 1), .int (iZ (gA 1 1 0))])) := (e2_k (by decide)).trans fL1
          have fQ : (e2 enA 0 0 (some (alA 0 0, .inr (5, [.int (iZ (gA 0 0 0)), .ref (alA 1 0), .ref (alA 1 1), .ref (alA 3 0), .ref (alA 4 0), .int (iZ (gA 0 5 0)), .ref (alA 11 0), .long (lZ (tt)), .int (iZ (gA 0 8 0)), .int (iZ (gA 0 9 0)), .int (iZ (gA 0 10 0)), .int (iZ (gA 0 11 0)), .int (iZ (gA 0 12 0)), .int (iZ (gA 0 13 0))])))) 3 0 = some (alA 3 0, aR dA (4) (fun j => some (alA 9 j))) := (e2_k (by decide)).trans fQ
          have fC : (e2 enA 0 0 (some (alA 0 0, .inr (5, [.int (iZ (gA 0 0 0)), .ref (alA 1 0), .ref (alA 1 1), .ref (alA 3 0), .ref (alA 4 0), .int (iZ (gA 0 5 0)), .ref (alA 11 0), .long (lZ (tt)), .int (iZ (gA 0 8 0)), .int (iZ (gA 0 9 0)), .int (iZ (gA 0 10 0)), .int (iZ (gA 0 11 0)), .int (iZ (gA 0 12 0)), .int (iZ (gA 0 13 0))])))) 4 0 = some (alA 4 0, aI dA (8) (fun j => gA 2 j 0)) := (e2_k (by decide)).trans fC
          have fX : (e2 enA 0 0 (some (alA 0 0, .inr (5, [.int (iZ (gA 0 0 0)), .ref (alA 1 0), .ref (alA 1 1), .ref (alA 3 0), .ref (alA 4 0), .int (iZ (gA 0 5 0)), .ref (alA 11 0), .long (lZ (tt)), .int (iZ (gA 0 8 0)), .int (iZ (gA 0 9 0)), .int (iZ (gA 0 10 0)), .int (iZ (gA 0 11 0)), .int (iZ (gA 0 12 0)), .int (iZ (gA 0 13 0))])))) 0 0 = some (alA 0 0, .inr (5, [.int (iZ (gA 0 0 0)), .ref (alA 1 0), .ref (alA 1 1), .ref (alA 3 0), .ref (alA 4 0), .int (iZ (gA 0 5 0)), .ref (alA 11 0), .long (lZ (tt)), .int (iZ (gA 0 8 0)), .int (iZ (gA 0 9 0)), .int (iZ (gA 0 10 0)), .int (iZ (gA 0 11 0)), .int (iZ (gA 0 12 0)), .int (iZ (gA 0 13 0))])) := e2_s _ _ _ _
          obtain ⟨en2v, hen2v⟩ : ∃ x : en_T, x = (e2 enA 0 0 (some (alA 0 0, .inr (5, [.int (iZ (gA 0 0 0)), .ref (alA 1 0), .ref (alA 1 1), .ref (alA 3 0), .ref (alA 4 0), .int (iZ (gA 0 5 0)), .ref (alA 11 0), .long (lZ (tt)), .int (iZ (gA 0 8 0)), .int (iZ (gA 0 9 0)), .int (iZ (gA 0 10 0)), .int (iZ (gA 0 11 0)), .int (iZ (gA 0 12 0)), .int (iZ (gA 0 13 0))])))) := ⟨_, rfl⟩
          rw [← hen2v] at hW
          obtain ⟨g2v, hg2v⟩ : ∃ x : St, x = wr gA 0 7 tt := ⟨_, rfl⟩
          have hE2v : EC dA z g2v alA en2v := ec_x hEA  (fun t i j h => by rw [hg2v]; repeat rw [wr_n (by omega)]) (fun _ _ _ => rfl) (fun k i h => by rw [hen2v]; exact e2_n (by omega)) (by rw [hen2v, hg2v]; refine (e2_s _ _ _ _).trans ?_; simp [wr])
          have hFR2v : FR enA en2v := fun k i h1 h2 => by rw [hen2v]; exact e2_n (by omega)
          have hAS2v : AS gA g2v alA alA := AS_e (by rw [hg2v]; rfl) (by rw [hg2v]; rfl) (by rw [hg2v]; rfl)
          have hFR2v := FR.tr hFRA hFR2v
          have hAS2v := AS.tr hASA hAS2v
          have hN2v := hAS2v.1
          have fX : en2v 0 0 = some (alA 0 0, .inr (5, [.int (iZ (g2v 0 0 0)), .ref (alA 1 0), .ref (alA 1 1), .ref (alA 3 0), .ref (alA 4 0), .int (iZ (g2v 0 5 0)), .ref (alA 11 0), .long (lZ (g2v 0 7 0)), .int (iZ (g2v 0 8 0)), .int (iZ (g2v 0 9 0)), .int (iZ (g2v 0 10 0)), .int (iZ (g2v 0 11 0)), .int (iZ (g2v 0 12 0)), .int (iZ (g2v 0 13 0))])) := ec_X hE2v
          have fL0 : en2v 1 0 = some (alA 1 0, .inr (1, [.int (iZ (g2v 3 0 0)), .ref (alA 2 0), .int (iZ (g2v 1 0 0))])) := ec_L0 hE2v
          have fL1 : en2v 1 1 = some (alA 1 1, .inr (1, [.int (iZ (g2v 3 1 0)), .ref (alA 2 1), .int (iZ (g2v 1 1 0))])) := ec_L1 hE2v
          have fQ : en2v 3 0 = some (alA 3 0, aR dA (4) (fun j => some (alA 9 j))) := ec_Q hE2v
          have fC : en2v 4 0 = some (alA 4 0, aI dA (8) (fun j => g2v 2 j 0)) := ec_C hE2v
          have hqz : kC gA = kC (sPass fu fp g (sNT g) tt) := congrArg kC hgz0
          have hqy : kS gA = kS (sPass fu fp g (sNT g) tt) := congrArg kS hgz0
          refine W.widen (k := kC (wr (sPass fu fp g (sNT g) tt) 0 7 tt) - kC g) (n := kS (wr (sPass fu fp g (sNT g) tt) 0 7 tt) - kS g) (show kC gA - kC g ≤ kC (wr (sPass fu fp g (sNT g) tt) 0 7 tt) - kC g by omega) (show kS gA - kS g ≤ kS (wr (sPass fu fp g (sNT g) tt) 0 7 tt) - kS g by omega) ?_
          have hgz : g2v = wr (sPass fu fp g (sNT g) tt) 0 7 tt := by subst hg2v; rw [hgz0]
          rw [hgz] at hE2v hAS2v
          exact W.vret hx hb hr (fun t ht hw => ⟨⟨(en2v, alA), rfl, ⟨hE2v, hFR2v, hAS2v⟩, by show Wd _ _ _ t.heap; rw [ht]; exact hW⟩, hS.F ht⟩) hS.2.2 dX3_passTimeTo_105
        · refine lv_aload_n hx hb dX3_passTimeTo_22 rfl (lv_at hl 2 rfl) ?_
          refine lv_lload_n hx hb dX3_passTimeTo_23 rfl (lv_at hl 1 rfl) ?_
          refine g_put (C := RX3) (T := TX3) (N := 14) (ci := 5) (ty := .long) (v := .long (lZ (u))) (fs' := [.int (iZ (gA 0 0 0)), .ref (alA 1 0), .ref (alA 1 1), .ref (alA 3 0), .ref (alA 4 0), .int (iZ (gA 0 5 0)), .ref (alA 11 0), .long (lZ (u)), .int (iZ (gA 0 8 0)), .int (iZ (gA 0 9 0)), .int (iZ (gA 0 10 0)), .int (iZ (gA 0 11 0)), .int (iZ (gA 0 12 0)), .int (iZ (gA 0 13 0))]) hx hb hts hi5 tyX3 tyX3_ok nmX3 hown hK hW hS fX rfl 7 (by decide) (hts (.fieldLink RX3 120 "LongTransfer" "now" "J") (by decide +kernel)) (fun _ h9 => h9) rfl (by decide +kernel) rfl rfl (Nat.le_of_ble_eq_true rfl) dX3_passTimeTo_24 rfl (fun H locs hW hS => ?_)
          have fL0 : (e2 enA 0 0 (some (alA 0 0, .inr (5, [.int (iZ (gA 0 0 0)), .ref (alA 1 0), .ref (alA 1 1), .ref (alA 3 0), .ref (alA 4 0), .int (iZ (gA 0 5 0)), .ref (alA 11 0), .long (lZ (u)), .int (iZ (gA 0 8 0)), .int (iZ (gA 0 9 0)), .int (iZ (gA 0 10 0)), .int (iZ (gA 0 11 0)), .int (iZ (gA 0 12 0)), .int (iZ (gA 0 13 0))])))) 1 0 = some (alA 1 0, .inr (1, [.int (iZ (gA 3 0 0)), .ref (alA 2 0), .int (iZ (gA 1 0 0))])) := (e2_k (by decide)).trans fL0
          have fL1 : (e2 enA 0 0 (some (alA 0 0, .inr (5, [.int (iZ (gA 0 0 0)), .ref (alA 1 0), .ref (alA 1 1), .ref (alA 3 0), .ref (alA 4 0), .int (iZ (gA 0 5 0)), .ref (alA 11 0), .long (lZ (u)), .int (iZ (gA 0 8 0)), .int (iZ (gA 0 9 0)), .int (iZ (gA 0 10 0)), .int (iZ (gA 0 11 0)), .int (iZ (gA 0 12 0)), .int (iZ (gA 0 13 0))])))) 1 1 = some (alA 1 1, .inr (1, [.int (iZ (gA 3 1 0)), .ref (alA 2 1), .int (iZ (gA 1 1 0))])) := (e2_k (by decide)).trans fL1
          have fQ : (e2 enA 0 0 (some (alA 0 0, .inr (5, [.int (iZ (gA 0 0 0)), .ref (alA 1 0), .ref (alA 1 1), .ref (alA 3 0), .ref (alA 4 0), .int (iZ (gA 0 5 0)), .ref (alA 11 0), .long (lZ (u)), .int (iZ (gA 0 8 0)), .int (iZ (gA 0 9 0)), .int (iZ (gA 0 10 0)), .int (iZ (gA 0 11 0)), .int (iZ (gA 0 12 0)), .int (iZ (gA 0 13 0))])))) 3 0 = some (alA 3 0, aR dA (4) (fun j => some (alA 9 j))) := (e2_k (by decide)).trans fQ
          have fC : (e2 enA 0 0 (some (alA 0 0, .inr (5, [.int (iZ (gA 0 0 0)), .ref (alA 1 0), .ref (alA 1 1), .ref (alA 3 0), .ref (alA 4 0), .int (iZ (gA 0 5 0)), .ref (alA 11 0), .long (lZ (u)), .int (iZ (gA 0 8 0)), .int (iZ (gA 0 9 0)), .int (iZ (gA 0 10 0)), .int (iZ (gA 0 11 0)), .int (iZ (gA 0 12 0)), .int (iZ (gA 0 13 0))])))) 4 0 = some (alA 4 0, aI dA (8) (fun j => gA 2 j 0)) := (e2_k (by decide)).trans fC
          have fX : (e2 enA 0 0 (some (alA 0 0, .inr (5, [.int (iZ (gA 0 0 0)), .ref (alA 1 0), .ref (alA 1 1), .ref (alA 3 0), .ref (alA 4 0), .int (iZ (gA 0 5 0)), .ref (alA 11 0), .long (lZ (u)), .int (iZ (gA 0 8 0)), .int (iZ (gA 0 9 0)), .int (iZ (gA 0 10 0)), .int (iZ (gA 0 11 0)), .int (iZ (gA 0 12 0)), .int (iZ (gA 0 13 0))])))) 0 0 = some (alA 0 0, .inr (5, [.int (iZ (gA 0 0 0)), .ref (alA 1 0), .ref (alA 1 1), .ref (alA 3 0), .ref (alA 4 0), .int (iZ (gA 0 5 0)), .ref (alA 11 0), .long (lZ (u)), .int (iZ (gA 0 8 0)), .int (iZ (gA 0 9 0)), .int (iZ (gA 0 10 0)), .int (iZ (gA 0 11 0)), .int (iZ (gA 0 12 0)), .int (iZ (gA 0 13 0))])) := e2_s _ _ _ _
          obtain ⟨en3v, hen3v⟩ : ∃ x : en_T, x = (e2 enA 0 0 (some (alA 0 0, .inr (5, [.int (iZ (gA 0 0 0)), .ref (alA 1 0), .ref (alA 1 1), .ref (alA 3 0), .ref (alA 4 0), .int (iZ (gA 0 5 0)), .ref (alA 11 0), .long (lZ (u)), .int (iZ (gA 0 8 0)), .int (iZ (gA 0 9 0)), .int (iZ (gA 0 10 0)), .int (iZ (gA 0 11 0)), .int (iZ (gA 0 12 0)), .int (iZ (gA 0 13 0))])))) := ⟨_, rfl⟩
          rw [← hen3v] at hW
          obtain ⟨g3v, hg3v⟩ : ∃ x : St, x = wr gA 0 7 u := ⟨_, rfl⟩
          have hE3v : EC dA z g3v alA en3v := ec_x hEA  (fun t i j h => by rw [hg3v]; repeat rw [wr_n (by omega)]) (fun _ _ _ => rfl) (fun k i h => by rw [hen3v]; exact e2_n (by omega)) (by rw [hen3v, hg3v]; refine (e2_s _ _ _ _).trans ?_; simp [wr])
          have hFR3v : FR enA en3v := fun k i h1 h2 => by rw [hen3v]; exact e2_n (by omega)
          have hAS3v : AS gA g3v alA alA := AS_e (by rw [hg3v]; rfl) (by rw [hg3v]; rfl) (by rw [hg3v]; rfl)
          have hFR3v := FR.tr hFRA hFR3v
          have hAS3v := AS.tr hASA hAS3v
          have hN3v := hAS3v.1
          have fX : en3v 0 0 = some (alA 0 0, .inr (5, [.int (iZ (g3v 0 0 0)), .ref (alA 1 0), .ref (alA 1 1), .ref (alA 3 0), .ref (alA 4 0), .int (iZ (g3v 0 5 0)), .ref (alA 11 0), .long (lZ (g3v 0 7 0)), .int (iZ (g3v 0 8 0)), .int (iZ (g3v 0 9 0)), .int (iZ (g3v 0 10 0)), .int (iZ (g3v 0 11 0)), .int (iZ (g3v 0 12 0)), .int (iZ (g3v 0 13 0))])) := ec_X hE3v
          have fL0 : en3v 1 0 = some (alA 1 0, .inr (1, [.int (iZ (g3v 3 0 0)), .ref (alA 2 0), .int (iZ (g3v 1 0 0))])) := ec_L0 hE3v
          have fL1 : en3v 1 1 = some (alA 1 1, .inr (1, [.int (iZ (g3v 3 1 0)), .ref (alA 2 1), .int (iZ (g3v 1 1 0))])) := ec_L1 hE3v
          have fQ : en3v 3 0 = some (alA 3 0, aR dA (4) (fun j => some (alA 9 j))) := ec_Q hE3v
          have fC : en3v 4 0 = some (alA 4 0, aI dA (8) (fun j => g3v 2 j 0)) := ec_C hE3v
          have hj1 : IJ g3v := by rw [hg3v]; exact ij_now hJA (by omega) (by omega)
          have hM := ij_mom fu hj1
          have hgo1 : sPass fu n (sMom fu g3v) (sNT (sMom fu g3v)) tt = sPass fu fp g (sNT g) tt := by rw [hg3v, ← sPass_p (by omega)]; exact hgo
          have hB := sNT_b hM.1.1
          have hm2 := (ij_pass fu (t := tt) (by omega) n hM.1 hB.1).2
          rw [hgo1] at hm2
          have q3 := mp_kC hm2
          have q4 := mp_kS hm2
          obtain ⟨X9, hX9⟩ : ∃ x : St, x = sMom fu g3v := ⟨_, rfl⟩
          rw [← hX9] at hM hgo1 hB hm2 q3 q4
          have q1 : kC gA = kC g3v := by rw [hg3v]; rfl
          have q2 : kS gA = kS g3v := by rw [hg3v]; rfl
          refine z_iconst hx hb dX3_passTimeTo_27 ?_
          refine lv_istore (lv' := [(6, .int (iZ (0))), (5, .int (iZ (i))), (3, .long (lZ (u))), (0, .ref (alA 0 0)), (1, .long (lZ (tt)))]) hx hb dX3_passTimeTo_28 hl (by decide) rfl (fun ls hl => ?_)
          have loopR : ∀ (n2 : Nat) (gC : St) (alC : Al) (enC : en_T) (H : Heap) (locs : List Loc) (ls : Array Slot) (i2 : Int), EC dA z gC alC enC → IJ gC → Wd D (z 0) enC H → va_S (fun q => z 0 ≤ q) s.heap H locs → lv_has ls 7 [(6, .int (iZ (i2))), (5, .int (iZ (i))), (3, .long (lZ (u))), (0, .ref (alC 0 0)), (1, .long (lZ (tt)))] → FR en enC → AS g gC al alC → 1 ≤ i2 → i2 + n2 = 5 → sRcvs n2 i2 gC = X9 → W p l e ({ frames := 10, cells := kC (wr (sPass fu fp g (sNT g) tt) 0 7 tt) - kC g, slots := kS (wr (sPass fu fp g (sNT g) tt) 0 7 tt) - kS g, locals := 250 }) s m (([.ref (al 0 0), .long (lZ (tt))] : List Value).toArray) below meth c H locs (kC gC - kC g) (kS gC - kS g) (MQ below (va_Qv (fun u : en_T × Al => CP dA z (wr (sPass fu fp g (sNT g) tt) 0 7 tt) g al en u) (fun u t9 => Wd D (z 0) u.1 t9.heap) (fun q => z 0 ≤ q)) ([.ref (al 0 0), .long (lZ (tt))] : List Value).toArray s (kC (wr (sPass fu fp g (sNT g) tt) 0 7 tt) - kC g) (kS (wr (sPass fu fp g (sNT g) tt) 0 7 tt) - kS g) (fun q => z 0 ≤ q)) (F0 m 67 ls []) := by
            intro n2
            induction n2 with
            | zero =>
              intro gC alC enC H locs ls i2 hEC hJC hW hS hl hFRC hASC hr0 hrn hgo2
              have hNC := hASC.1
              obtain ⟨hIX, hIL, hIS, hIF, hIR, hIG⟩ := id hJC.1
              unfold IL at hIL
              unfold IX at hIX
              have hqC := kC_m hASC
              have hqS := kS_m hASC
              have hmC := (ij_rcvs 0 (i := i2) hJC).2
              rw [hgo2] at hmC
              have qA := mo_kC hmC
              have qB := mo_kS hmC
              have fX : enC 0 0 = some (alC 0 0, .inr (5, [.int (iZ (gC 0 0 0)), .ref (alC 1 0), .ref (alC 1 1), .ref (alC 3 0), .ref (alC 4 0), .int (iZ (gC 0 5 0)), .ref (alC 11 0), .long (lZ (gC 0 7 0)), .int (iZ (gC 0 8 0)), .int (iZ (gC 0 9 0)), .int (iZ (gC 0 10 0)), .int (iZ (gC 0 11 0)), .int (iZ (gC 0 12 0)), .int (iZ (gC 0 13 0))])) := ec_X hEC
              have fL0 : enC 1 0 = some (alC 1 0, .inr (1, [.int (iZ (gC 3 0 0)), .ref (alC 2 0), .int (iZ (gC 1 0 0))])) := ec_L0 hEC
              have fL1 : enC 1 1 = some (alC 1 1, .inr (1, [.int (iZ (gC 3 1 0)), .ref (alC 2 1), .int (iZ (gC 1 1 0))])) := ec_L1 hEC
              have fQ : enC 3 0 = some (alC 3 0, aR dA (4) (fun j => some (alC 9 j))) := ec_Q hEC
              have fC : enC 4 0 = some (alC 4 0, aI dA (8) (fun j => gC 2 j 0)) := ec_C hEC
              refine lv_iload hx hb dX3_passTimeTo_67 (lv_at hl 0 rfl) ?_
              refine z_iconst hx hb dX3_passTimeTo_69 ?_
              refine z_icmp_gt (tgt := 89) hx hb dX3_passTimeTo_70 (by decide) (by omega) (by omega) (fun c_70 => ?_) (fun c_70 => ?_)
              · have hC9 : gC = X9 := (sRcvs_0 _ _).symm.trans hgo2
                have hBC := sNT_b hJC.1
                have hgo7 : sPass fu n gC (sNT gC) tt = sPass fu fp g (sNT g) tt := by rw [hC9]; exact hgo1
                have q15 : kC gC = kC X9 := by rw [hC9]
                have q16 : kS gC = kS X9 := by rw [hC9]
                refine lv_aload_n hx hb dX3_passTimeTo_89 rfl (lv_at hl 3 rfl) ?_
                refine va_calll (va_runV (As := []) (rest := []) ⟨hx, hb, hml, hown, hts⟩ (c_X3_nextTime l D dA z enC gC alC hEC hJC.1) (cwV 0 hts gX3_passTimeTo_X3_nextTime rfl rfl rfl (by decide +kernel) ⟨Nat.le_of_ble_eq_true rfl, Nat.le_of_ble_eq_true rfl⟩) ⟨gBl, gRecv hK hW (ci := 5) rfl fX, gPre _ hg hS hW⟩ rfl rfl hl.1 rfl (lv_room (Nat.le_of_ble_eq_true rfl)) dX3_passTimeTo_90 ⟨(show kC gC - kC g + 0 ≤ kC (wr (sPass fu fp g (sNT g) tt) 0 7 tt) - kC g by omega), (show kS gC - kS g + 0 ≤ kS (wr (sPass fu fp g (sNT g) tt) 0 7 tt) - kS g by omega)⟩) hS (fun _ _ h => h) (fun _ h => h) (fun r9 u9 t9 H locs ht9 hvm9 hw9 hB9 hz9 hk9 hS => ?_)
                have hW : Wd D (z 0) enC H := by rw [← ht9]; exact hB9
                subst hw9
                refine lv_lstore_n (lv' := [(3, .long (lZ (sNT gC))), (6, .int (iZ (i2))), (5, .int (iZ (i))), (0, .ref (alC 0 0)), (1, .long (lZ (tt)))]) hx hb dX3_passTimeTo_93 rfl hl (by decide) rfl (fun ls hl => ?_)
                refine lv_iinc (v := iZ (i + 1)) (lv' := [(5, .int (iZ (i + 1))), (3, .long (lZ (sNT gC))), (6, .int (iZ (i2))), (0, .ref (alC 0 0)), (1, .long (lZ (tt)))]) hx hb dX3_passTimeTo_94 hl (k := 2) rfl (iZ_add _ _) (by decide) rfl (fun ls hl => ?_)
                refine lv_goto (tgt := 8) hx hb dX3_passTimeTo_97 (by decide) ?_
                refine W.widen (k := kC gC - kC g) (n := kS gC - kS g) (show kC gC - kC g + 0 ≤ kC gC - kC g by omega) (show kS gC - kS g + 0 ≤ kS gC - kS g by omega) ?_
                exact ih  gC alC enC _ _ _ (i + 1) (sNT gC) hEC hJC hW hS (lv_sub hl [0, 1, 3, 4] rfl) hFRC hASC (by omega) (by omega) (by omega) (by omega) hgo7
              · exact absurd c_70 (by omega)
            | succ n2 ih2 =>
              intro gC alC enC H locs ls i2 hEC hJC hW hS hl hFRC hASC hr0 hrn hgo2
              have hNC := hASC.1
              obtain ⟨hIX, hIL, hIS, hIF, hIR, hIG⟩ := id hJC.1
              unfold IL at hIL
              unfold IX at hIX
              have hqC := kC_m hASC
              have hqS := kS_m hASC
              have hmC := (ij_rcvs (n2 + 1) (i := i2) hJC).2
              rw [hgo2] at hmC
              have qA := mo_kC hmC
              have qB := mo_kS hmC
              have fX : enC 0 0 = some (alC 0 0, .inr (5, [.int (iZ (gC 0 0 0)), .ref (alC 1 0), .ref (alC 1 1), .ref (alC 3 0), .ref (alC 4 0), .int (iZ (gC 0 5 0)), .ref (alC 11 0), .long (lZ (gC 0 7 0)), .int (iZ (gC 0 8 0)), .int (iZ (gC 0 9 0)), .int (iZ (gC 0 10 0)), .int (iZ (gC 0 11 0)), .int (iZ (gC 0 12 0)), .int (iZ (gC 0 13 0))])) := ec_X hEC
              have fL0 : enC 1 0 = some (alC 1 0, .inr (1, [.int (iZ (gC 3 0 0)), .ref (alC 2 0), .int (iZ (gC 1 0 0))])) := ec_L0 hEC
              have fL1 : enC 1 1 = some (alC 1 1, .inr (1, [.int (iZ (gC 3 1 0)), .ref (alC 2 1), .int (iZ (gC 1 1 0))])) := ec_L1 hEC
              have fQ : enC 3 0 = some (alC 3 0, aR dA (4) (fun j => some (alC 9 j))) := ec_Q hEC
              have fC : enC 4 0 = some (alC 4 0, aI dA (8) (fun j => gC 2 j 0)) := ec_C hEC
              refine lv_iload hx hb dX3_passTimeTo_67 (lv_at hl 0 rfl) ?_
              refine z_iconst hx hb dX3_passTimeTo_69 ?_
              refine z_icmp_gt (tgt := 89) hx hb dX3_passTimeTo_70 (by decide) (by omega) (by omega) (fun c_70 => ?_) (fun c_70 => ?_)
              · exact absurd c_70 (by omega)
              · refine lv_aload_n hx hb dX3_passTimeTo_73 rfl (lv_at hl 3 rfl) ?_
                refine lv_aload_n hx hb dX3_passTimeTo_74 rfl (lv_at hl 3 rfl) ?_
                refine lv_iload hx hb dX3_passTimeTo_75 (lv_at hl 0 rfl) ?_
                refine va_callr (va_runV (As := [.int (iZ (i2))]) (rest := [.ref (alC 0 0)]) ⟨hx, hb, hml, hown, hts⟩ (c_X3_receiverOf l D dA z enC gC alC i2 (by omega) (by omega) hEC hJC.1) (cwV 1 hts gX3_passTimeTo_X3_receiverOf rfl rfl rfl (by decide +kernel) ⟨Nat.le_of_ble_eq_true rfl, Nat.le_of_ble_eq_true rfl⟩) ⟨gBl, gRecv hK hW (ci := 5) rfl fX, gPre _ hg hS hW⟩ rfl rfl hl.1 rfl (lv_room (Nat.le_of_ble_eq_true rfl)) dX3_passTimeTo_77 ⟨(show kC gC - kC g + 0 ≤ kC (wr (sPass fu fp g (sNT g) tt) 0 7 tt) - kC g by omega), (show kS gC - kS g + 0 ≤ kS (wr (sPass fu fp g (sNT g) tt) 0 7 tt) - kS g by omega)⟩) hS (fun _ _ h => h) (fun _ h => h) (fun u9 r9 t9 H locs ht9 hvm9 hw9 hB9 hz9 hk9 hS => ?_)
                obtain ⟨rfl, hB9⟩ := hB9
                have hW : Wd D (z 0) enC H := by rw [← ht9]; exact hB9
                have hA := ij_actR (r := i2 % 4) hJC (by omega) (by omega)
                have hgC : sRcvs n2 (i2 + 1) (sActR gC (i2 % 4)) = X9 := hgo2
                have hA2 := (ij_rcvs n2 (i := i2 + 1) hA.1).2
                rw [hgC] at hA2
                have q11 := mo_kC hA2
                have q12 := mo_kS hA2
                have q13 := mo_kC hA.2
                have q14 := mo_kS hA.2
                refine va_callv (va_runV (As := [.ref (alC 9 (i2 % 4))]) (rest := []) ⟨hx, hb, hml, hown, hts⟩ (c_X3_actReceiver l D dA z enC gC alC (i2 % 4) (by omega) (by omega) hJC.2 hEC hJC.1) (cwV 1 hts gX3_passTimeTo_X3_actReceiver rfl rfl rfl (by decide +kernel) ⟨Nat.le_of_ble_eq_true rfl, Nat.le_of_ble_eq_true rfl⟩) ⟨gBl, gRecv hK hW (ci := 5) rfl fX, gPre _ hg hS hW⟩ rfl rfl hl.1 rfl (lv_room (Nat.le_of_ble_eq_true rfl)) dX3_passTimeTo_80 ⟨(show kC gC - kC g + 0 + (kC (sActR gC (i2 % 4)) - kC gC) ≤ kC (wr (sPass fu fp g (sNT g) tt) 0 7 tt) - kC g by omega), (show kS gC - kS g + 0 + (kS (sActR gC (i2 % 4)) - kS gC) ≤ kS (wr (sPass fu fp g (sNT g) tt) 0 7 tt) - kS g by omega)⟩) hS (fun _ _ h => h) (fun _ h => h) (fun u9 t9 H locs ht9 hvm9 hw9 hB9 hz9 hk9 hS => ?_)
                obtain ⟨en4v, al4v⟩ := u9
                obtain ⟨hE4v, hFR4v, hAS4v⟩ := hw9
                have hW : Wd D (z 0) en4v H := by rw [← ht9]; exact hB9
                obtain ⟨g4v, hg4v⟩ : ∃ x : St, x = sActR gC (i2 % 4) := ⟨_, rfl⟩
                rw [← hg4v] at hE4v hAS4v
                dsimp only at hE4v hFR4v hAS4v
                have hl : lv_has ls 7 [(6, .int (iZ (i2))), (5, .int (iZ (i))), (3, .long (lZ (u))), (0, .ref (al4v 0 0)), (1, .long (lZ (tt)))] := by rw [hAS4v.2 0 0 (by omega)]; exact hl
                have hFR4v := FR.tr hFRC hFR4v
                have hAS4v := AS.tr hASC hAS4v
                have hN4v := hAS4v.1
                have fX : en4v 0 0 = some (al4v 0 0, .inr (5, [.int (iZ (g4v 0 0 0)), .ref (al4v 1 0), .ref (al4v 1 1), .ref (al4v 3 0), .ref (al4v 4 0), .int (iZ (g4v 0 5 0)), .ref (al4v 11 0), .long (lZ (g4v 0 7 0)), .int (iZ (g4v 0 8 0)), .int (iZ (g4v 0 9 0)), .int (iZ (g4v 0 10 0)), .int (iZ (g4v 0 11 0)), .int (iZ (g4v 0 12 0)), .int (iZ (g4v 0 13 0))])) := ec_X hE4v
                have fL0 : en4v 1 0 = some (al4v 1 0, .inr (1, [.int (iZ (g4v 3 0 0)), .ref (al4v 2 0), .int (iZ (g4v 1 0 0))])) := ec_L0 hE4v
                have fL1 : en4v 1 1 = some (al4v 1 1, .inr (1, [.int (iZ (g4v 3 1 0)), .ref (al4v 2 1), .int (iZ (g4v 1 1 0))])) := ec_L1 hE4v
                have fQ : en4v 3 0 = some (al4v 3 0, aR dA (4) (fun j => some (al4v 9 j))) := ec_Q hE4v
                have fC : en4v 4 0 = some (al4v 4 0, aI dA (8) (fun j => g4v 2 j 0)) := ec_C hE4v
                refine lv_iinc (v := iZ (i2 + 1)) (lv' := [(6, .int (iZ (i2 + 1))), (5, .int (iZ (i))), (3, .long (lZ (u))), (0, .ref (al4v 0 0)), (1, .long (lZ (tt)))]) hx hb dX3_passTimeTo_83 hl (k := 0) rfl (iZ_add _ _) (by decide) rfl (fun ls hl => ?_)
                refine lv_goto (tgt := 67) hx hb dX3_passTimeTo_86 (by decide) ?_
                have hj8 : IJ g4v := by rw [hg4v]; exact hA.1
                have hgo8 : sRcvs n2 (i2 + 1) g4v = X9 := by rw [hg4v]; exact hgC
                have q7 : kC g4v = kC (sActR gC (i2 % 4)) := by rw [hg4v]
                have q8 : kS g4v = kS (sActR gC (i2 % 4)) := by rw [hg4v]
                refine W.widen (k := kC g4v - kC g) (n := kS g4v - kS g) (show kC gC - kC g + 0 + (kC (sActR gC (i2 % 4)) - kC gC) ≤ kC g4v - kC g by omega) (show kS gC - kS g + 0 + (kS (sActR gC (i2 % 4)) - kS gC) ≤ kS g4v - kS g by omega) ?_
                exact ih2  g4v al4v en4v _ _ _ (i2 + 1) hE4v hj8 hW hS (lv_sub hl [0, 1, 2, 3, 4] rfl) hFR4v hAS4v (by omega) (by omega) hgo8
          have loopS : ∀ (n1 : Nat) (gB : St) (alB : Al) (enB : en_T) (H : Heap) (locs : List Loc) (ls : Array Slot) (i1 : Int), EC dA z gB alB enB → IJ gB → Wd D (z 0) enB H → va_S (fun q => z 0 ≤ q) s.heap H locs → lv_has ls 7 [(6, .int (iZ (i1))), (5, .int (iZ (i))), (3, .long (lZ (u))), (0, .ref (alB 0 0)), (1, .long (lZ (tt)))] → FR en enB → AS g gB al alB → 0 ≤ i1 → i1 + n1 = gB 1 0 0 → sRcvs 4 1 (sSnds fu n1 i1 gB) = X9 → W p l e ({ frames := 10, cells := kC (wr (sPass fu fp g (sNT g) tt) 0 7 tt) - kC g, slots := kS (wr (sPass fu fp g (sNT g) tt) 0 7 tt) - kS g, locals := 250 }) s m (([.ref (al 0 0), .long (lZ (tt))] : List Value).toArray) below meth c H locs (kC gB - kC g) (kS gB - kS g) (MQ below (va_Qv (fun u : en_T × Al => CP dA z (wr (sPass fu fp g (sNT g) tt) 0 7 tt) g al en u) (fun u t9 => Wd D (z 0) u.1 t9.heap) (fun q => z 0 ≤ q)) ([.ref (al 0 0), .long (lZ (tt))] : List Value).toArray s (kC (wr (sPass fu fp g (sNT g) tt) 0 7 tt) - kC g) (kS (wr (sPass fu fp g (sNT g) tt) 0 7 tt) - kS g) (fun q => z 0 ≤ q)) (F0 m 30 ls []) := by
            intro n1
            induction n1 with
            | zero =>
              intro gB alB enB H locs ls i1 hEB hJB hW hS hl hFRB hASB hs0 hsn hgo3
              have hNB := hASB.1
              obtain ⟨hIX, hIL, hIS, hIF, hIR, hIG⟩ := id hJB.1
              unfold IL at hIL
              unfold IX at hIX
              have hqC := kC_m hASB
              have hqS := kS_m hASB
              have hmB := ij_snds fu 0 (i := i1) hJB hs0 hsn
              have hmB2 := hmB.2.tr (ij_rcvs 4 (i := 1) hmB.1).2
              rw [hgo3] at hmB2
              have qA := mo_kC hmB2
              have qB := mo_kS hmB2
              have fX : enB 0 0 = some (alB 0 0, .inr (5, [.int (iZ (gB 0 0 0)), .ref (alB 1 0), .ref (alB 1 1), .ref (alB 3 0), .ref (alB 4 0), .int (iZ (gB 0 5 0)), .ref (alB 11 0), .long (lZ (gB 0 7 0)), .int (iZ (gB 0 8 0)), .int (iZ (gB 0 9 0)), .int (iZ (gB 0 10 0)), .int (iZ (gB 0 11 0)), .int (iZ (gB 0 12 0)), .int (iZ (gB 0 13 0))])) := ec_X hEB
              have fL0 : enB 1 0 = some (alB 1 0, .inr (1, [.int (iZ (gB 3 0 0)), .ref (alB 2 0), .int (iZ (gB 1 0 0))])) := ec_L0 hEB
              have fL1 : enB 1 1 = some (alB 1 1, .inr (1, [.int (iZ (gB 3 1 0)), .ref (alB 2 1), .int (iZ (gB 1 1 0))])) := ec_L1 hEB
              have fQ : enB 3 0 = some (alB 3 0, aR dA (4) (fun j => some (alB 9 j))) := ec_Q hEB
              have fC : enB 4 0 = some (alB 4 0, aI dA (8) (fun j => gB 2 j 0)) := ec_C hEB
              refine lv_iload hx hb dX3_passTimeTo_30 (lv_at hl 0 rfl) ?_
              refine lv_aload_n hx hb dX3_passTimeTo_32 rfl (lv_at hl 3 rfl) ?_
              refine g_get (C := RX3) (T := TX3) (N := 14) (ci := 5) (v := .ref (alB 1 0)) hx hb hts hi5 hown hK hW fX rfl 1 (by decide) (hts (.fieldLink RX3 10 "LongTransfer" "senders" "Ljava/util/ArrayList;") (by decide +kernel)) (fun _ h9 => h9) rfl dX3_passTimeTo_33 ?_
              refine va_calli (va_runV (As := []) (rest := [.int (iZ (i1))]) ⟨hx, hb, hml, hown, hts⟩ (c_AL_size l D dA z enB 0 (alB 1 0) (alB 2 0) (gB 3 0 0) (gB 1 0 0) fL0) (cwV 0 hts gX3_passTimeTo_Jx4a65c_size_8abf5 rfl rfl rfl (by decide +kernel) ⟨Nat.le_of_ble_eq_true rfl, Nat.le_of_ble_eq_true rfl⟩) ⟨gBl, gRecv hK hW (ci := 1) rfl fL0, gPre _ hg hS hW⟩ rfl rfl hl.1 rfl (lv_room (Nat.le_of_ble_eq_true rfl)) dX3_passTimeTo_36 ⟨(show kC gB - kC g + 0 ≤ kC (wr (sPass fu fp g (sNT g) tt) 0 7 tt) - kC g by omega), (show kS gB - kS g + 0 ≤ kS (wr (sPass fu fp g (sNT g) tt) 0 7 tt) - kS g by omega)⟩) hS (fun _ _ h => h) (fun _ h => h) (fun r9 u9 t9 H locs ht9 hvm9 hw9 hB9 hz9 hk9 hS => ?_)
              have hW : Wd D (z 0) enB H := by rw [← ht9]; exact hB9
              subst hw9
              refine z_icmp_ge (tgt := 64) hx hb dX3_passTimeTo_39 (by decide) (by omega) (by omega) (fun c_39 => ?_) (fun c_39 => ?_)
              · refine z_iconst hx hb dX3_passTimeTo_64 ?_
                refine lv_istore (lv' := [(6, .int (iZ (1))), (5, .int (iZ (i))), (3, .long (lZ (u))), (0, .ref (alB 0 0)), (1, .long (lZ (tt)))]) hx hb dX3_passTimeTo_65 hl (by decide) rfl (fun ls hl => ?_)
                have hgo4 : sRcvs 4 1 gB = X9 := hgo3
                refine W.widen (k := kC gB - kC g) (n := kS gB - kS g) (show kC gB - kC g + 0 ≤ kC gB - kC g by omega) (show kS gB - kS g + 0 ≤ kS gB - kS g by omega) ?_
                exact loopR 4 gB alB enB _ _ _ 1 hEB hJB hW hS (lv_sub hl [0, 1, 2, 3, 4] rfl) hFRB hASB (by omega) (by omega) hgo4
              · exact absurd c_39 (by omega)
            | succ n1 ih1 =>
              intro gB alB enB H locs ls i1 hEB hJB hW hS hl hFRB hASB hs0 hsn hgo3
              have hNB := hASB.1
              obtain ⟨hIX, hIL, hIS, hIF, hIR, hIG⟩ := id hJB.1
              unfold IL at hIL
              unfold IX at hIX
              have hqC := kC_m hASB
              have hqS := kS_m hASB
              have hmB := ij_snds fu (n1 + 1) (i := i1) hJB hs0 hsn
              have hmB2 := hmB.2.tr (ij_rcvs 4 (i := 1) hmB.1).2
              rw [hgo3] at hmB2
              have qA := mo_kC hmB2
              have qB := mo_kS hmB2
              have fX : enB 0 0 = some (alB 0 0, .inr (5, [.int (iZ (gB 0 0 0)), .ref (alB 1 0), .ref (alB 1 1), .ref (alB 3 0), .ref (alB 4 0), .int (iZ (gB 0 5 0)), .ref (alB 11 0), .long (lZ (gB 0 7 0)), .int (iZ (gB 0 8 0)), .int (iZ (gB 0 9 0)), .int (iZ (gB 0 10 0)), .int (iZ (gB 0 11 0)), .int (iZ (gB 0 12 0)), .int (iZ (gB 0 13 0))])) := ec_X hEB
              have fL0 : enB 1 0 = some (alB 1 0, .inr (1, [.int (iZ (gB 3 0 0)), .ref (alB 2 0), .int (iZ (gB 1 0 0))])) := ec_L0 hEB
              have fL1 : enB 1 1 = some (alB 1 1, .inr (1, [.int (iZ (gB 3 1 0)), .ref (alB 2 1), .int (iZ (gB 1 1 0))])) := ec_L1 hEB
              have fQ : enB 3 0 = some (alB 3 0, aR dA (4) (fun j => some (alB 9 j))) := ec_Q hEB
              have fC : enB 4 0 = some (alB 4 0, aI dA (8) (fun j => gB 2 j 0)) := ec_C hEB
              refine lv_iload hx hb dX3_passTimeTo_30 (lv_at hl 0 rfl) ?_
              refine lv_aload_n hx hb dX3_passTimeTo_32 rfl (lv_at hl 3 rfl) ?_
              refine g_get (C := RX3) (T := TX3) (N := 14) (ci := 5) (v := .ref (alB 1 0)) hx hb hts hi5 hown hK hW fX rfl 1 (by decide) (hts (.fieldLink RX3 10 "LongTransfer" "senders" "Ljava/util/ArrayList;") (by decide +kernel)) (fun _ h9 => h9) rfl dX3_passTimeTo_33 ?_
              refine va_calli (va_runV (As := []) (rest := [.int (iZ (i1))]) ⟨hx, hb, hml, hown, hts⟩ (c_AL_size l D dA z enB 0 (alB 1 0) (alB 2 0) (gB 3 0 0) (gB 1 0 0) fL0) (cwV 0 hts gX3_passTimeTo_Jx4a65c_size_8abf5 rfl rfl rfl (by decide +kernel) ⟨Nat.le_of_ble_eq_true rfl, Nat.le_of_ble_eq_true rfl⟩) ⟨gBl, gRecv hK hW (ci := 1) rfl fL0, gPre _ hg hS hW⟩ rfl rfl hl.1 rfl (lv_room (Nat.le_of_ble_eq_true rfl)) dX3_passTimeTo_36 ⟨(show kC gB - kC g + 0 ≤ kC (wr (sPass fu fp g (sNT g) tt) 0 7 tt) - kC g by omega), (show kS gB - kS g + 0 ≤ kS (wr (sPass fu fp g (sNT g) tt) 0 7 tt) - kS g by omega)⟩) hS (fun _ _ h => h) (fun _ h => h) (fun r9 u9 t9 H locs ht9 hvm9 hw9 hB9 hz9 hk9 hS => ?_)
              have hW : Wd D (z 0) enB H := by rw [← ht9]; exact hB9
              subst hw9
              refine z_icmp_ge (tgt := 64) hx hb dX3_passTimeTo_39 (by decide) (by omega) (by omega) (fun c_39 => ?_) (fun c_39 => ?_)
              · exact absurd c_39 (by omega)
              · refine lv_aload_n hx hb dX3_passTimeTo_42 rfl (lv_at hl 3 rfl) ?_
                refine lv_aload_n hx hb dX3_passTimeTo_43 rfl (lv_at hl 3 rfl) ?_
                refine g_get (C := RX3) (T := TX3) (N := 14) (ci := 5) (v := .ref (alB 1 0)) hx hb hts hi5 hown hK hW fX rfl 1 (by decide) (hts (.fieldLink RX3 10 "LongTransfer" "senders" "Ljava/util/ArrayList;") (by decide +kernel)) (fun _ h9 => h9) rfl dX3_passTimeTo_44 ?_
                refine lv_iload hx hb dX3_passTimeTo_47 (lv_at hl 0 rfl) ?_
                obtain ⟨hcap, fA⟩ := ec_Ar hEB (li := 0) (by omega) (by omega)
                refine va_callr (va_runV (As := [.int (iZ (i1))]) (rest := [.ref (alB 0 0)]) ⟨hx, hb, hml, hown, hts⟩ (c_AL_get l D dA z enB 0 (alB 1 0) (alB 2 0) (gB 3 0 0) (gB 1 0 0) (gB 4 0 0) (i1) (eA gB alB 0) (alB 5 (i1 + 1)) (by omega) (by omega) (by omega) (by omega) (by omega) (by have := eA_in (g := gB) (al := alB) (li := 0) (j := i1 + 1) (by omega) (by omega); rw [show i1 + 1 - 1 = i1 by omega] at this; exact this) fL0 fA) (cwV 1 hts gX3_passTimeTo_Jx4a65c_get_915e3 rfl rfl rfl (by decide +kernel) ⟨Nat.le_of_ble_eq_true rfl, Nat.le_of_ble_eq_true rfl⟩) ⟨gBl, gRecv hK hW (ci := 1) rfl fL0, gPre _ hg hS hW⟩ rfl rfl hl.1 rfl (lv_room (Nat.le_of_ble_eq_true rfl)) dX3_passTimeTo_49 ⟨(show kC gB - kC g + 0 + 0 ≤ kC (wr (sPass fu fp g (sNT g) tt) 0 7 tt) - kC g by omega), (show kS gB - kS g + 0 + 0 ≤ kS (wr (sPass fu fp g (sNT g) tt) 0 7 tt) - kS g by omega)⟩) hS (fun _ _ h => h) (fun _ h => h) (fun u9 r9 t9 H locs ht9 hvm9 hw9 hB9 hz9 hk9 hS => ?_)
                obtain ⟨rfl, hB9⟩ := hB9
                have hW : Wd D (z 0) enB H := by rw [← ht9]; exact hB9
                have fX : enB 0 0 = some (alB 0 0, .inr (5, [.int (iZ (gB 0 0 0)), .ref (alB 1 0), .ref (alB 1 1), .ref (alB 3 0), .ref (alB 4 0), .int (iZ (gB 0 5 0)), .ref (alB 11 0), .long (lZ (gB 0 7 0)), .int (iZ (gB 0 8 0)), .int (iZ (gB 0 9 0)), .int (iZ (gB 0 10 0)), .int (iZ (gB 0 11 0)), .int (iZ (gB 0 12 0)), .int (iZ (gB 0 13 0))])) := ec_X hEB
                have fL0 : enB 1 0 = some (alB 1 0, .inr (1, [.int (iZ (gB 3 0 0)), .ref (alB 2 0), .int (iZ (gB 1 0 0))])) := ec_L0 hEB
                have fL1 : enB 1 1 = some (alB 1 1, .inr (1, [.int (iZ (gB 3 1 0)), .ref (alB 2 1), .int (iZ (gB 1 1 0))])) := ec_L1 hEB
                have fQ : enB 3 0 = some (alB 3 0, aR dA (4) (fun j => some (alB 9 j))) := ec_Q hEB
                have fC : enB 4 0 = some (alB 4 0, aI dA (8) (fun j => gB 2 j 0)) := ec_C hEB
                have fS : enB 5 (i1 + 1) = some (alB 5 (i1 + 1), .inr (4, [.int (iZ (i1 + 1)), .ref (alB 6 (i1 + 1)), .int (iZ (gB 12 (i1 + 1) 0)), .int (iZ (gB 13 (i1 + 1) 0)), .int (iZ (gB 14 (i1 + 1) 0)), .int (iZ (gB 15 (i1 + 1) 0)), .int (iZ (gB 16 (i1 + 1) 0)), .int (iZ (gB 17 (i1 + 1) 0)), .long (lZ (gB 18 (i1 + 1) 0))])) := ec_S hEB (by omega)
                have fO : enB 6 (i1 + 1) = some (alB 6 (i1 + 1), aB dA (gB 11 (i1 + 1) 0) (gB 19 (i1 + 1))) := ec_SO hEB (by omega)
                refine g_castS (nm := RX2) (T := TX2) (N := 9) (ci := 4) hx hb hown (hts (.classLink RX3 56 "LongTransfer$Sender") (by decide +kernel)) hK hW rfl fS dX3_passTimeTo_52 ?_
                have hA := ij_act fu (m := i1 + 1) hJB (by omega) (by omega)
                have hA2 := ij_snds fu n1 (i := i1 + 1) hA.1 (by omega) (by rw [hA.2.1]; omega)
                have hA3 := ij_rcvs 4 (i := 1) hA2.1
                have hA4 := hA2.2.tr hA3.2
                rw [← sSnds_s, hgo3] at hA4
                have q11 := mo_kC hA4
                have q12 := mo_kS hA4
                have q13 := mo_kC hA.2
                have q14 := mo_kS hA.2
                refine va_callv (va_runV (As := [.ref (alB 5 (i1 + 1))]) (rest := []) ⟨hx, hb, hml, hown, hts⟩ (c_X3_actSender l D dA z enB gB alB (i1 + 1) (by omega) (by omega) fu hfu hJB.2 hEB hJB.1) (cwV 1 hts gX3_passTimeTo_X3_actSender rfl rfl rfl (by decide +kernel) ⟨Nat.le_of_ble_eq_true rfl, Nat.le_of_ble_eq_true rfl⟩) ⟨gBl, gRecv hK hW (ci := 5) rfl fX, gPre _ hg hS hW⟩ rfl rfl hl.1 rfl (lv_room (Nat.le_of_ble_eq_true rfl)) dX3_passTimeTo_55 ⟨(show kC gB - kC g + 0 + 0 + (kC (sAct fu gB (i1 + 1)) - kC gB) ≤ kC (wr (sPass fu fp g (sNT g) tt) 0 7 tt) - kC g by omega), (show kS gB - kS g + 0 + 0 + (kS (sAct fu gB (i1 + 1)) - kS gB) ≤ kS (wr (sPass fu fp g (sNT g) tt) 0 7 tt) - kS g by omega)⟩) hS (fun _ _ h => h) (fun _ h => h) (fun u9 t9 H locs ht9 hvm9 hw9 hB9 hz9 hk9 hS => ?_)
                obtain ⟨en5v, al5v⟩ := u9
                obtain ⟨hE5v, hFR5v, hAS5v⟩ := hw9
                have hW : Wd D (z 0) en5v H := by rw [← ht9]; exact hB9
                obtain ⟨g5v, hg5v⟩ : ∃ x : St, x = sAct fu gB (i1 + 1) := ⟨_, rfl⟩
                rw [← hg5v] at hE5v hAS5v
                dsimp only at hE5v hFR5v hAS5v
                have hl : lv_has ls 7 [(6, .int (iZ (i1))), (5, .int (iZ (i))), (3, .long (lZ (u))), (0, .ref (al5v 0 0)), (1, .long (lZ (tt)))] := by rw [hAS5v.2 0 0 (by omega)]; exact hl
                have hFR5v := FR.tr hFRB hFR5v
                have hAS5v := AS.tr hASB hAS5v
                have hN5v := hAS5v.1
                have fX : en5v 0 0 = some (al5v 0 0, .inr (5, [.int (iZ (g5v 0 0 0)), .ref (al5v 1 0), .ref (al5v 1 1), .ref (al5v 3 0), .ref (al5v 4 0), .int (iZ (g5v 0 5 0)), .ref (al5v 11 0), .long (lZ (g5v 0 7 0)), .int (iZ (g5v 0 8 0)), .int (iZ (g5v 0 9 0)), .int (iZ (g5v 0 10 0)), .int (iZ (g5v 0 11 0)), .int (iZ (g5v 0 12 0)), .int (iZ (g5v 0 13 0))])) := ec_X hE5v
                have fL0 : en5v 1 0 = some (al5v 1 0, .inr (1, [.int (iZ (g5v 3 0 0)), .ref (al5v 2 0), .int (iZ (g5v 1 0 0))])) := ec_L0 hE5v
                have fL1 : en5v 1 1 = some (al5v 1 1, .inr (1, [.int (iZ (g5v 3 1 0)), .ref (al5v 2 1), .int (iZ (g5v 1 1 0))])) := ec_L1 hE5v
                have fQ : en5v 3 0 = some (al5v 3 0, aR dA (4) (fun j => some (al5v 9 j))) := ec_Q hE5v
                have fC : en5v 4 0 = some (al5v 4 0, aI dA (8) (fun j => g5v 2 j 0)) := ec_C hE5v
                refine lv_iinc (v := iZ (i1 + 1)) (lv' := [(6, .int (iZ (i1 + 1))), (5, .int (iZ (i))), (3, .long (lZ (u))), (0, .ref (al5v 0 0)), (1, .long (lZ (tt)))]) hx hb dX3_passTimeTo_58 hl (k := 0) rfl (iZ_add _ _) (by decide) rfl (fun ls hl => ?_)
                refine lv_goto (tgt := 30) hx hb dX3_passTimeTo_61 (by decide) ?_
                have hj8 : IJ g5v := by rw [hg5v]; exact hA.1
                have hgo8 : sRcvs 4 1 (sSnds fu n1 (i1 + 1) g5v) = X9 := by rw [hg5v]; exact hgo3
                have hn8 : (i1 + 1) + n1 = g5v 1 0 0 := by rw [hg5v, hA.2.1]; omega
                have q7 : kC g5v = kC (sAct fu gB (i1 + 1)) := by rw [hg5v]
                have q8 : kS g5v = kS (sAct fu gB (i1 + 1)) := by rw [hg5v]
                refine W.widen (k := kC g5v - kC g) (n := kS g5v - kS g) (show kC gB - kC g + 0 + 0 + (kC (sAct fu gB (i1 + 1)) - kC gB) ≤ kC g5v - kC g by omega) (show kS gB - kS g + 0 + 0 + (kS (sAct fu gB (i1 + 1)) - kS gB) ≤ kS g5v - kS g by omega) ?_
                exact ih1  g5v al5v en5v _ _ _ (i1 + 1) hE5v hj8 hW hS (lv_sub hl [0, 1, 2, 3, 4] rfl) hFR5v hAS5v (by omega) hn8 hgo8
          have hL1 := hj1.1.2.1
          unfold IL at hL1
          refine W.widen (k := kC g3v - kC g) (n := kS g3v - kS g) (show kC gA - kC g ≤ kC g3v - kC g by omega) (show kS gA - kS g ≤ kS g3v - kS g by omega) ?_
          exact loopS (g3v 1 0 0).toNat g3v alA en3v _ _ _ 0 hE3v hj1 hW hS (lv_sub hl [0, 1, 2, 3, 4] rfl) hFR3v hAS3v (by omega) (by omega) (by rw [hX9]; rfl)
  have fX : en 0 0 = some (al 0 0, .inr (5, [.int (iZ (g 0 0 0)), .ref (al 1 0), .ref (al 1 1), .ref (al 3 0), .ref (al 4 0), .int (iZ (g 0 5 0)), .ref (al 11 0), .long (lZ (g 0 7 0)), .int (iZ (g 0 8 0)), .int (iZ (g 0 9 0)), .int (iZ (g 0 10 0)), .int (iZ (g 0 11 0)), .int (iZ (g 0 12 0)), .int (iZ (g 0 13 0))])) := ec_X hE
  have fL0 : en 1 0 = some (al 1 0, .inr (1, [.int (iZ (g 3 0 0)), .ref (al 2 0), .int (iZ (g 1 0 0))])) := ec_L0 hE
  have fL1 : en 1 1 = some (al 1 1, .inr (1, [.int (iZ (g 3 1 0)), .ref (al 2 1), .int (iZ (g 1 1 0))])) := ec_L1 hE
  have fQ : en 3 0 = some (al 3 0, aR dA (4) (fun j => some (al 9 j))) := ec_Q hE
  have fC : en 4 0 = some (al 4 0, aI dA (8) (fun j => g 2 j 0)) := ec_C hE
  refine lv_aload_n hx hb dX3_passTimeTo_0 rfl (lv_at hl 0 rfl) ?_
  refine va_calll (va_runV (As := []) (rest := []) ⟨hx, hb, hml, hown, hts⟩ (c_X3_nextTime l D dA z en g al hE hJ.1) (cwV 0 hts gX3_passTimeTo_X3_nextTime rfl rfl rfl (by decide +kernel) ⟨Nat.le_of_ble_eq_true rfl, Nat.le_of_ble_eq_true rfl⟩) ⟨gBl, gRecv hK hW (ci := 5) rfl fX, gPre _ hg hS hW⟩ rfl rfl hl.1 rfl (lv_room (Nat.le_of_ble_eq_true rfl)) dX3_passTimeTo_1 ⟨(show 0 + 0 ≤ kC (wr (sPass fu fp g (sNT g) tt) 0 7 tt) - kC g by omega), (show 0 + 0 ≤ kS (wr (sPass fu fp g (sNT g) tt) 0 7 tt) - kS g by omega)⟩) hS (fun _ _ h => h) (fun _ h => h) (fun r9 u9 t9 H locs ht9 hvm9 hw9 hB9 hz9 hk9 hS => ?_)
  have hW : Wd D (z 0) en H := by rw [← ht9]; exact hB9
  subst hw9
  refine lv_lstore_n (lv' := [(3, .long (lZ (sNT g))), (0, .ref (al 0 0)), (1, .long (lZ (tt)))]) hx hb dX3_passTimeTo_4 rfl hl (by decide) rfl (fun ls hl => ?_)
  refine z_iconst hx hb dX3_passTimeTo_5 ?_
  refine lv_istore (lv' := [(5, .int (iZ (0))), (3, .long (lZ (sNT g))), (0, .ref (al 0 0)), (1, .long (lZ (tt)))]) hx hb dX3_passTimeTo_6 hl (by decide) rfl (fun ls hl => ?_)
  refine W.widen (k := kC g - kC g) (n := kS g - kS g) (show 0 + 0 ≤ kC g - kC g by omega) (show 0 + 0 ≤ kS g - kS g by omega) ?_
  exact loop fp g al en _ _ _ 0 (sNT g) hE hJ hW hS (lv_sub hl [0, 1, 2, 3] rfl) (FR.rf _) (AS.rf _ _) (by omega) (by omega) (by omega) (by omega) rfl
def sTick (fu fp : Nat) (g : St) (t : Int) : St := if t < g 0 7 0 ∨ 5000 < t - g 0 7 0 then g else wr (sPass fu fp (sSts (g 1 0 0 - g 0 8 0).toNat g) (sNT (sSts (g 1 0 0 - g 0 8 0).toNat g)) t) 0 7 t
theorem ij_tick {fu fp : Nat} {g : St} (hI : IJ g) {t : Int} (ht : g 0 7 0 ≤ 3990000) : IJ (sTick fu fp g t) ∧ Mp g (sTick fu fp g t) := by
  have hx := hI.1.1
  unfold IX at hx
  unfold sTick
  split
  · exact ⟨hI, Mp.rf g⟩
  · have q := ij_sts (g 1 0 0 - g 0 8 0).toNat hI (by omega)
    have q2 := ij_pass fu (t := t) (by omega) fp (u := sNT (sSts (g 1 0 0 - g 0 8 0).toNat g)) q.1 (sNT_b q.1.1).1
    exact ⟨ij_now q2.1 (by omega) (by omega), (q.2.1.tr q2.2).tr mp_wr⟩
set_option maxHeartbeats 4000000 in
set_option maxRecDepth 100000 in
theorem c_X3_tick (l : Launch) (D : va_G) (dA : Nat → ClassId) (z : Nat → Nat) (en : en_T) (g : St) (al : Al) (tt : Int) (htl : lB tt) (hnow : g 0 7 0 ≤ 3990000) (fu fp : Nat) (hfu : fu = 6001) (hfp : fp = 5001) (hj : JB g) (hE : EC dA z g al en) (hI : IB g) : Met l yX3_tick wsX3_tick ({ frames := 11, cells := kC (sTick fu fp g tt) - kC g, slots := kS (sTick fu fp g tt) - kS g, locals := 280 }) (gP D dA z en [.ref (al 0 0), .long (lZ (tt))]) (va_Qi (fun (r8 : Int32) (u : en_T × Al) => r8 = iZ (if tt < g 0 7 0 ∨ 5000 < tt - g 0 7 0 then -2 else sTick fu fp g tt 0 5 0 - g 0 5 0) ∧ CP dA z (sTick fu fp g tt) g al en u) (fun u t9 => Wd D (z 0) u.1 t9.heap) (fun q => z 0 ≤ q)) (kC (sTick fu fp g tt) - kC g) (kS (sTick fu fp g tt) - kS g) (fun q => z 0 ≤ q) := by
  refine gMet (own := RX3) (cc := cX3_tick) (maxL := 4) (ret := (some .int)) (by decide) rfl rfl (Nat.le_of_ble_eq_true rfl) ?_
  intro p e s m below meth c hx hb hml hown hts hr hlocks hnm hg hW ls hl
  have hK := hg.1
  have hS : va_S (fun q => z 0 ≤ q) s.heap s.heap [] := va_S.rf
  have hi5 : ∀ w ∈ u_ws RX3 TX3 14, w ∈ wsX3_tick := by decide +kernel
  have hl : lv_has ls 4 [(0, .ref (al 0 0)), (1, .long (lZ (tt)))] := hl
  have hJ : IJ g := ⟨hI, hj⟩
  obtain ⟨hIX, hIL, hIS, hIF, hIR, hIG⟩ := id hI
  unfold IL at hIL
  unfold IX at hIX
  have fX : en 0 0 = some (al 0 0, .inr (5, [.int (iZ (g 0 0 0)), .ref (al 1 0), .ref (al 1 1), .ref (al 3 0), .ref (al 4 0), .int (iZ (g 0 5 0)), .ref (al 11 0), .long (lZ (g 0 7 0)), .int (iZ (g 0 8 0)), .int (iZ (g 0 9 0)), .int (iZ (g 0 10 0)), .int (iZ (g 0 11 0)), .int (iZ (g 0 12 0)), .int (iZ (g 0 13 0))])) := ec_X hE
  have fL0 : en 1 0 = some (al 1 0, .inr (1, [.int (iZ (g 3 0 0)), .ref (al 2 0), .int (iZ (g 1 0 0))])) := ec_L0 hE
  have fL1 : en 1 1 = some (al 1 1, .inr (1, [.int (iZ (g 3 1 0)), .ref (al 2 1), .int (iZ (g 1 1 0))])) := ec_L1 hE
  have fQ : en 3 0 = some (al 3 0, aR dA (4) (fun j => some (al 9 j))) := ec_Q hE
  have fC : en 4 0 = some (al 4 0, aI dA (8) (fun j => g 2 j 0)) := ec_C hE
  refine lv_lload_n hx hb dX3_tick_0 rfl (lv_at hl 1 rfl) ?_
  refine lv_aload_n hx hb dX3_tick_1 rfl (lv_at hl 0 rfl) ?_
  refine g_get (C := RX3) (T := TX3) (N := 14) (ci := 5) (v := .long (lZ (g 0 7 0))) hx hb hts hi5 hown hK hW fX rfl 7 (by decide) (hts (.fieldLink RX3 120 "LongTransfer" "now" "J") (by decide +kernel)) (fun _ h9 => h9) rfl dX3_tick_2 ?_
  refine z_lc_lt (tgt := 22) hx hb dX3_tick_5 dX3_tick_6 (by decide) (by omega) (by omega) (fun c_5 => ?_) (fun c_5 => ?_)
  · refine z_bipush hx hb dX3_tick_22 (by decide) ?_
    refine W.widen (k := kC (sTick fu fp g tt) - kC g) (n := kS (sTick fu fp g tt) - kS g) (show 0 ≤ kC (sTick fu fp g tt) - kC g by omega) (show 0 ≤ kS (sTick fu fp g tt) - kS g by omega) ?_
    have hFRz := FR.rf en
    have hASz := AS.rf g al
    have hgz : g = sTick fu fp g tt := by exact (if_pos (by omega)).symm
    have hEz := hgz ▸ hE
    exact W.iret hx hb hr (fun t ht hw => ⟨⟨_, (en, al), rfl, ⟨congrArg iZ (if_pos (by omega)).symm, hgz ▸ hE, hFRz, hgz ▸ hASz⟩, by show Wd _ _ _ t.heap; rw [ht]; exact hW⟩, hS.F ht⟩) hS.2.2 dX3_tick_24
  · refine lv_lload_n hx hb dX3_tick_9 rfl (lv_at hl 1 rfl) ?_
    refine lv_aload_n hx hb dX3_tick_10 rfl (lv_at hl 0 rfl) ?_
    refine g_get (C := RX3) (T := TX3) (N := 14) (ci := 5) (v := .long (lZ (g 0 7 0))) hx hb hts hi5 hown hK hW fX rfl 7 (by decide) (hts (.fieldLink RX3 120 "LongTransfer" "now" "J") (by decide +kernel)) (fun _ h9 => h9) rfl dX3_tick_11 ?_
    refine z_lsub hx hb dX3_tick_14 ?_
    refine z_ldc2 hx hb 5000 hown (hts (.constantLong RX3 123 (5000)) (by decide +kernel)) (by decide) dX3_tick_15 ?_
    refine z_lc_le (tgt := 25) hx hb dX3_tick_18 dX3_tick_19 (by decide) (by omega) (by omega) (fun c_18 => ?_) (fun c_18 => ?_)
    · refine lv_aload_n hx hb dX3_tick_25 rfl (lv_at hl 0 rfl) ?_
      refine g_get (C := RX3) (T := TX3) (N := 14) (ci := 5) (v := .int (iZ (g 0 5 0))) hx hb hts hi5 hown hK hW fX rfl 5 (by decide) (hts (.fieldLink RX3 125 "LongTransfer" "endings" "I") (by decide +kernel)) (fun _ h9 => h9) rfl dX3_tick_26 ?_
      refine lv_istore_n (lv' := [(3, .int (iZ (g 0 5 0))), (0, .ref (al 0 0)), (1, .long (lZ (tt)))]) hx hb dX3_tick_29 rfl hl (by decide) rfl (fun ls hl => ?_)
      refine lv_aload_n hx hb dX3_tick_30 rfl (lv_at hl 1 rfl) ?_
      have hst : sTick fu fp g tt = wr (sPass fu fp (sSts (g 1 0 0 - g 0 8 0).toNat g) (sNT (sSts (g 1 0 0 - g 0 8 0).toNat g)) tt) 0 7 tt := if_neg (by omega)
      have hq := ij_sts (g 1 0 0 - g 0 8 0).toNat hJ (by omega)
      have hq2 := ij_pass fu (t := tt) (by omega) fp (u := sNT (sSts (g 1 0 0 - g 0 8 0).toNat g)) hq.1 (sNT_b hq.1.1).1
      have hkc : kC (sTick fu fp g tt) = kC (sPass fu fp (sSts (g 1 0 0 - g 0 8 0).toNat g) (sNT (sSts (g 1 0 0 - g 0 8 0).toNat g)) tt) := by rw [hst]; rfl
      have hks : kS (sTick fu fp g tt) = kS (sPass fu fp (sSts (g 1 0 0 - g 0 8 0).toNat g) (sNT (sSts (g 1 0 0 - g 0 8 0).toNat g)) tt) := by rw [hst]; rfl
      have q1 := mp_kC hq.2.1
      have q2 := mp_kS hq.2.1
      have q3 := mp_kC hq2.2
      have q4 := mp_kS hq2.2
      refine va_callv (va_runV (As := []) (rest := []) ⟨hx, hb, hml, hown, hts⟩ (c_X3_startMessages l D dA z en g al hj hE hI) (cwV 0 hts gX3_tick_X3_startMessages rfl rfl rfl (by decide +kernel) ⟨Nat.le_of_ble_eq_true rfl, Nat.le_of_ble_eq_true rfl⟩) ⟨gBl, gRecv hK hW (ci := 5) rfl fX, gPre _ hg hS hW⟩ rfl rfl hl.1 rfl (lv_room (Nat.le_of_ble_eq_true rfl)) dX3_tick_31 ⟨(show 0 + (kC (sSts (g 1 0 0 - g 0 8 0).toNat g) - kC g) ≤ kC (sTick fu fp g tt) - kC g by omega), (show 0 + (kS (sSts (g 1 0 0 - g 0 8 0).toNat g) - kS g) ≤ kS (sTick fu fp g tt) - kS g by omega)⟩) hS (fun _ _ h => h) (fun _ h => h) (fun u9 t9 H locs ht9 hvm9 hw9 hB9 hz9 hk9 hS => ?_)
      obtain ⟨en1v, al1v⟩ := u9
      obtain ⟨hE1v, hFR1v, hAS1v⟩ := hw9
      have hW : Wd D (z 0) en1v H := by rw [← ht9]; exact hB9
      obtain ⟨g1v, hg1v⟩ : ∃ x : St, x = sSts (g 1 0 0 - g 0 8 0).toNat g := ⟨_, rfl⟩
      rw [← hg1v] at hE1v hAS1v
      dsimp only at hE1v hFR1v hAS1v
      have hl : lv_has ls 4 [(3, .int (iZ (g 0 5 0))), (0, .ref (al1v 0 0)), (1, .long (lZ (tt)))] := by rw [hAS1v.2 0 0 (by omega)]; exact hl
      have hN1v := hAS1v.1
      have fX : en1v 0 0 = some (al1v 0 0, .inr (5, [.int (iZ (g1v 0 0 0)), .ref (al1v 1 0), .ref (al1v 1 1), .ref (al1v 3 0), .ref (al1v 4 0), .int (iZ (g1v 0 5 0)), .ref (al1v 11 0), .long (lZ (g1v 0 7 0)), .int (iZ (g1v 0 8 0)), .int (iZ (g1v 0 9 0)), .int (iZ (g1v 0 10 0)), .int (iZ (g1v 0 11 0)), .int (iZ (g1v 0 12 0)), .int (iZ (g1v 0 13 0))])) := ec_X hE1v
      have fL0 : en1v 1 0 = some (al1v 1 0, .inr (1, [.int (iZ (g1v 3 0 0)), .ref (al1v 2 0), .int (iZ (g1v 1 0 0))])) := ec_L0 hE1v
      have fL1 : en1v 1 1 = some (al1v 1 1, .inr (1, [.int (iZ (g1v 3 1 0)), .ref (al1v 2 1), .int (iZ (g1v 1 1 0))])) := ec_L1 hE1v
      have fQ : en1v 3 0 = some (al1v 3 0, aR dA (4) (fun j => some (al1v 9 j))) := ec_Q hE1v
      have fC : en1v 4 0 = some (al1v 4 0, aI dA (8) (fun j => g1v 2 j 0)) := ec_C hE1v
      have hk9 : kC g1v = kC (sSts (g 1 0 0 - g 0 8 0).toNat g) := by rw [hg1v]
      have hk8 : kS g1v = kS (sSts (g 1 0 0 - g 0 8 0).toNat g) := by rw [hg1v]
      rw [← hg1v] at hst hq hq2 hkc hks q1 q2 q3 q4
      refine lv_aload_n hx hb dX3_tick_34 rfl (lv_at hl 1 rfl) ?_
      refine lv_lload_n hx hb dX3_tick_35 rfl (lv_at hl 2 rfl) ?_
      have q5 : kC (wr (sPass fu fp g1v (sNT g1v) tt) 0 7 tt) = kC (sPass fu fp g1v (sNT g1v) tt) := rfl
      have q6 : kS (wr (sPass fu fp g1v (sNT g1v) tt) 0 7 tt) = kS (sPass fu fp g1v (sNT g1v) tt) := rfl
      refine va_callv (va_runV (As := [.long (lZ (tt))]) (rest := []) ⟨hx, hb, hml, hown, hts⟩ (c_X3_passTimeTo l D dA z en1v g1v al1v tt (by omega) (by omega) fu fp hfu hfp hq.1.2 hE1v hq.1.1) (cwV 1 hts gX3_tick_X3_passTimeTo rfl rfl rfl (by decide +kernel) ⟨Nat.le_of_ble_eq_true rfl, Nat.le_of_ble_eq_true rfl⟩) ⟨gBl, gRecv hK hW (ci := 5) rfl fX, gPre _ hg hS hW⟩ rfl rfl hl.1 rfl (lv_room (Nat.le_of_ble_eq_true rfl)) dX3_tick_36 ⟨(show 0 + (kC (sSts (g 1 0 0 - g 0 8 0).toNat g) - kC g) + (kC (wr (sPass fu fp g1v (sNT g1v) tt) 0 7 tt) - kC g1v) ≤ kC (sTick fu fp g tt) - kC g by omega), (show 0 + (kS (sSts (g 1 0 0 - g 0 8 0).toNat g) - kS g) + (kS (wr (sPass fu fp g1v (sNT g1v) tt) 0 7 tt) - kS g1v) ≤ kS (sTick fu fp g tt) - kS g by omega)⟩) hS (fun _ _ h => h) (fun _ h => h) (fun u9 t9 H locs ht9 hvm9 hw9 hB9 hz9 hk9 hS => ?_)
      obtain ⟨en2v, al2v⟩ := u9
      obtain ⟨hE2v, hFR2v, hAS2v⟩ := hw9
      have hW : Wd D (z 0) en2v H := by rw [← ht9]; exact hB9
      obtain ⟨g2v, hg2v⟩ : ∃ x : St, x = wr (sPass fu fp g1v (sNT g1v) tt) 0 7 tt := ⟨_, rfl⟩
      rw [← hg2v] at hE2v hAS2v
      dsimp only at hE2v hFR2v hAS2v
      have hl : lv_has ls 4 [(3, .int (iZ (g 0 5 0))), (0, .ref (al2v 0 0)), (1, .long (lZ (tt)))] := by rw [hAS2v.2 0 0 (by omega)]; exact hl
      have hFR2v := FR.tr hFR1v hFR2v
      have hAS2v := AS.tr hAS1v hAS2v
      have hN2v := hAS2v.1
      have fX : en2v 0 0 = some (al2v 0 0, .inr (5, [.int (iZ (g2v 0 0 0)), .ref (al2v 1 0), .ref (al2v 1 1), .ref (al2v 3 0), .ref (al2v 4 0), .int (iZ (g2v 0 5 0)), .ref (al2v 11 0), .long (lZ (g2v 0 7 0)), .int (iZ (g2v 0 8 0)), .int (iZ (g2v 0 9 0)), .int (iZ (g2v 0 10 0)), .int (iZ (g2v 0 11 0)), .int (iZ (g2v 0 12 0)), .int (iZ (g2v 0 13 0))])) := ec_X hE2v
      have fL0 : en2v 1 0 = some (al2v 1 0, .inr (1, [.int (iZ (g2v 3 0 0)), .ref (al2v 2 0), .int (iZ (g2v 1 0 0))])) := ec_L0 hE2v
      have fL1 : en2v 1 1 = some (al2v 1 1, .inr (1, [.int (iZ (g2v 3 1 0)), .ref (al2v 2 1), .int (iZ (g2v 1 1 0))])) := ec_L1 hE2v
      have fQ : en2v 3 0 = some (al2v 3 0, aR dA (4) (fun j => some (al2v 9 j))) := ec_Q hE2v
      have fC : en2v 4 0 = some (al2v 4 0, aI dA (8) (fun j => g2v 2 j 0)) := ec_C hE2v
      refine lv_aload_n hx hb dX3_tick_39 rfl (lv_at hl 1 rfl) ?_
      refine g_get (C := RX3) (T := TX3) (N := 14) (ci := 5) (v := .int (iZ (g2v 0 5 0))) hx hb hts hi5 hown hK hW fX rfl 5 (by decide) (hts (.fieldLink RX3 125 "LongTransfer" "endings" "I") (by decide +kernel)) (fun _ h9 => h9) rfl dX3_tick_40 ?_
      refine lv_iload_n hx hb dX3_tick_43 rfl (lv_at hl 0 rfl) ?_
      refine z_isub hx hb dX3_tick_44 ?_
      have hz9 : g2v = sTick fu fp g tt := by rw [hg2v, hst]
      refine W.widen (k := kC (sTick fu fp g tt) - kC g) (n := kS (sTick fu fp g tt) - kS g) (show 0 + (kC (sSts (g 1 0 0 - g 0 8 0).toNat g) - kC g) + (kC (wr (sPass fu fp g1v (sNT g1v) tt) 0 7 tt) - kC g1v) ≤ kC (sTick fu fp g tt) - kC g by omega) (show 0 + (kS (sSts (g 1 0 0 - g 0 8 0).toNat g) - kS g) + (kS (wr (sPass fu fp g1v (sNT g1v) tt) 0 7 tt) - kS g1v) ≤ kS (sTick fu fp g tt) - kS g by omega) ?_
      have hgz : g2v = sTick fu fp g tt := by subst hg2v; subst hg1v; rw [hst]
      rw [hgz] at hE2v hAS2v
      exact W.iret hx hb hr (fun t ht hw => ⟨⟨_, (en2v, al2v), rfl, ⟨by rw [if_neg (show ¬ (tt < g 0 7 0 ∨ 5000 < tt - g 0 7 0) by omega), hz9], hE2v, hFR2v, hAS2v⟩, by show Wd _ _ _ t.heap; rw [ht]; exact hW⟩, hS.F ht⟩) hS.2.2 dX3_tick_45
    · refine z_bipush hx hb dX3_tick_22 (by decide) ?_
      refine W.widen (k := kC (sTick fu fp g tt) - kC g) (n := kS (sTick fu fp g tt) - kS g) (show 0 ≤ kC (sTick fu fp g tt) - kC g by omega) (show 0 ≤ kS (sTick fu fp g tt) - kS g by omega) ?_
      have hFRz := FR.rf en
      have hASz := AS.rf g al
      have hgz : g = sTick fu fp g tt := by exact (if_pos (by omega)).symm
      have hEz := hgz ▸ hE
      exact W.iret hx hb hr (fun t ht hw => ⟨⟨_, (en, al), rfl, ⟨congrArg iZ (if_pos (by omega)).symm, hgz ▸ hE, hFRz, hgz ▸ hASz⟩, by show Wd _ _ _ t.heap; rw [ht]; exact hW⟩, hS.F ht⟩) hS.2.2 dX3_tick_24
