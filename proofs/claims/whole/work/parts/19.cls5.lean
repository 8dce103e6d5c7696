set_option maxHeartbeats 4000000 in
set_option maxRecDepth 100000 in
theorem c_X3_actSender (l : Launch) (D : va_G) (dA : Nat → ClassId) (z : Nat → Nat) (en : en_T) (g : St) (al : Al) (mm : Int) (h0 : 1 ≤ mm) (h1 : mm ≤ g 1 0 0) (fu : Nat) (hfu : fu = 6001) (hj : JB g) (hE : EC dA z g al en) (hI : IB g) : Met l yX3_actSender wsX3_actSender ({ frames := 9, cells := kC (sAct fu g mm) - kC g, slots := kS (sAct fu g mm) - kS g, locals := 220 }) (gP D dA z en [.ref (al 0 0), .ref (al 5 mm)]) (va_Qv (fun u : en_T × Al => CP dA z (sAct fu g mm) g al en u) (fun u t9 => Wd D (z 0) u.1 t9.heap) (fun q => z 0 ≤ q)) (kC (sAct fu g mm) - kC g) (kS (sAct fu g mm) - kS g) (fun q => z 0 ≤ q) := by
  refine gMet (own := RX3) (cc := cX3_actSender) (maxL := 3) (ret := none) (by decide) rfl rfl (Nat.le_of_ble_eq_true rfl) ?_
  intro p e s m below meth c hx hb hml hown hts hr hlocks hnm hg hW ls hl
  have hK := hg.1
  have hS : va_S (fun q => z 0 ≤ q) s.heap s.heap [] := va_S.rf
  have hi4 : ∀ w ∈ u_ws RX2 TX2 9, w ∈ wsX3_actSender := by decide +kernel
  have hi5 : ∀ w ∈ u_ws RX3 TX3 14, w ∈ wsX3_actSender := by decide +kernel
  have hl : lv_has ls 3 [(0, .ref (al 0 0)), (1, .ref (al 5 mm))] := hl
  have hJ : IJ g := ⟨hI, hj⟩
  have loop : ∀ (n : Nat) (gA : St) (alA : Al) (enA : en_T) (H : Heap) (locs : List Loc) (ls : Array Slot) (i : Int), EC dA z gA alA enA → IJ gA → Wd D (z 0) enA H → va_S (fun q => z 0 ≤ q) s.heap H locs → lv_has ls 3 [(2, .int (iZ (i))), (0, .ref (alA 0 0)), (1, .ref (alA 5 mm))] → FR en enA → AS g gA al alA → 0 ≤ i → i + n = 6001 → sAct n gA mm = sAct fu g mm → W p l e ({ frames := 9, cells := kC (sAct fu g mm) - kC g, slots := kS (sAct fu g mm) - kS g, locals := 220 }) s m (([.ref (al 0 0), .ref (al 5 mm)] : List Value).toArray) below meth c H locs (kC gA - kC g) (kS gA - kS g) (MQ below (va_Qv (fun u : en_T × Al => CP dA z (sAct fu g mm) g al en u) (fun u t9 => Wd D (z 0) u.1 t9.heap) (fun q => z 0 ≤ q)) ([.ref (al 0 0), .ref (al 5 mm)] : List Value).toArray s (kC (sAct fu g mm) - kC g) (kS (sAct fu g mm) - kS g) (fun q => z 0 ≤ q)) (F0 m 2 ls []) := by
    intro n
    induction n with
    | zero =>
      intro gA alA enA H locs ls i hEA hJA hW hS hl hFRA hASA hi0 hin hgo
      have hNA := hASA.1
      obtain ⟨hIX, hIL, hIS, hIF, hIR, hIG⟩ := id hJA.1
      unfold IL at hIL
      unfold IX at hIX
      have hqC := kC_m hASA
      have hqS := kS_m hASA
      have hISm := hIS mm (by omega) (by omega)
      unfold IS at hISm
      have fX : enA 0 0 = some (alA 0 0, .inr (5, [.int (iZ (gA 0 0 0)), .ref (alA 1 0), .ref (alA 1 1), .ref (alA 3 0), .ref (alA 4 0), .int (iZ (gA 0 5 0)), .ref (alA 11 0), .long (lZ (gA 0 7 0)), .int (iZ (gA 0 8 0)), .int (iZ (gA 0 9 0)), .int (iZ (gA 0 10 0)), .int (iZ (gA 0 11 0)), .int (iZ (gA 0 12 0)), .int (iZ (gA 0 13 0))])) := ec_X hEA
      have fL0 : enA 1 0 = some (alA 1 0, .inr (1, [.int (iZ (gA 3 0 0)), .ref (alA 2 0), .int (iZ (gA 1 0 0))])) := ec_L0 hEA
      have fL1 : enA 1 1 = some (alA 1 1, .inr (1, [.int (iZ (gA 3 1 0)), .ref (alA 2 1), .int (iZ (gA 1 1 0))])) := ec_L1 hEA
      have fQ : enA 3 0 = some (alA 3 0, aR dA (4) (fun j => some (alA 9 j))) := ec_Q hEA
      have fC : enA 4 0 = some (alA 4 0, aI dA (8) (fun j => gA 2 j 0)) := ec_C hEA
      have fS : enA 5 mm = some (alA 5 mm, .inr (4, [.int (iZ (mm)), .ref (alA 6 mm), .int (iZ (gA 12 mm 0)), .int (iZ (gA 13 mm 0)), .int (iZ (gA 14 mm 0)), .int (iZ (gA 15 mm 0)), .int (iZ (gA 16 mm 0)), .int (iZ (gA 17 mm 0)), .long (lZ (gA 18 mm 0))])) := ec_S hEA (by omega)
      have fO : enA 6 mm = some (alA 6 mm, aB dA (gA 11 mm 0) (gA 19 mm)) := ec_SO hEA (by omega)
      refine lv_iload_n hx hb dX3_actSender_2 rfl (lv_at hl 0 rfl) ?_
      refine z_sipush hx hb dX3_actSender_3 (by decide) ?_
      refine z_icmp_gt (tgt := 49) hx hb dX3_actSender_6 (by decide) (by omega) (by omega) (fun c_6 => ?_) (fun c_6 => ?_)
      · have hgz0 : gA = sAct fu g mm := by first | exact (sAct_0 _ _).symm.trans hgo | exact (sAct_n (by omega)).symm.trans hgo
        have hqz : kC gA = kC (sAct fu g mm) := congrArg kC hgz0
        have hqy : kS gA = kS (sAct fu g mm) := congrArg kS hgz0
        refine W.widen (k := kC (sAct fu g mm) - kC g) (n := kS (sAct fu g mm) - kS g) (show kC gA - kC g ≤ kC (sAct fu g mm) - kC g by omega) (show kS gA - kS g ≤ kS (sAct fu g mm) - kS g by omega) ?_
        have hgz : gA = sAct fu g mm := by exact hgz0
        rw [hgz] at hEA hASA
        exact W.vret hx hb hr (fun t ht hw => ⟨⟨(enA, alA), rfl, ⟨hEA, hFRA, hASA⟩, by show Wd _ _ _ t.heap; rw [ht]; exact hW⟩, hS.F ht⟩) hS.2.2 dX3_actSender_49
      · exact absurd c_6 (by omega)
    | succ n ih =>
      intro gA alA enA H locs ls i hEA hJA hW hS hl hFRA hASA hi0 hin hgo
      have hNA := hASA.1
      obtain ⟨hIX, hIL, hIS, hIF, hIR, hIG⟩ := id hJA.1
      unfold IL at hIL
      unfold IX at hIX
      have hqC := kC_m hASA
      have hqS := kS_m hASA
      have hISm := hIS mm (by omega) (by omega)
      unfold IS at hISm
      have fX : enA 0 0 = some (alA 0 0, .inr (5, [.int (iZ (gA 0 0 0)), .ref (alA 1 0), .ref (alA 1 1), .ref (alA 3 0), .ref (alA 4 0), .int (iZ (gA 0 5 0)), .ref (alA 11 0), .long (lZ (gA 0 7 0)), .int (iZ (gA 0 8 0)), .int (iZ (gA 0 9 0)), .int (iZ (gA 0 10 0)), .int (iZ (gA 0 11 0)), .int (iZ (gA 0 12 0)), .int (iZ (gA 0 13 0))])) := ec_X hEA
      have fL0 : enA 1 0 = some (alA 1 0, .inr (1, [.int (iZ (gA 3 0 0)), .ref (alA 2 0), .int (iZ (gA 1 0 0))])) := ec_L0 hEA
      have fL1 : enA 1 1 = some (alA 1 1, .inr (1, [.int (iZ (gA 3 1 0)), .ref (alA 2 1), .int (iZ (gA 1 1 0))])) := ec_L1 hEA
      have fQ : enA 3 0 = some (alA 3 0, aR dA (4) (fun j => some (alA 9 j))) := ec_Q hEA
      have fC : enA 4 0 = some (alA 4 0, aI dA (8) (fun j => gA 2 j 0)) := ec_C hEA
      have fS : enA 5 mm = some (alA 5 mm, .inr (4, [.int (iZ (mm)), .ref (alA 6 mm), .int (iZ (gA 12 mm 0)), .int (iZ (gA 13 mm 0)), .int (iZ (gA 14 mm 0)), .int (iZ (gA 15 mm 0)), .int (iZ (gA 16 mm 0)), .int (iZ (gA 17 mm 0)), .long (lZ (gA 18 mm 0))])) := ec_S hEA (by omega)
      have fO : enA 6 mm = some (alA 6 mm, aB dA (gA 11 mm 0) (gA 19 mm)) := ec_SO hEA (by omega)
      refine lv_iload_n hx hb dX3_actSender_2 rfl (lv_at hl 0 rfl) ?_
      refine z_sipush hx hb dX3_actSender_3 (by decide) ?_
      refine z_icmp_gt (tgt := 49) hx hb dX3_actSender_6 (by decide) (by omega) (by omega) (fun c_6 => ?_) (fun c_6 => ?_)
      · exact absurd c_6 (by omega)
      · refine lv_aload_n hx hb dX3_actSender_9 rfl (lv_at hl 2 rfl) ?_
        refine g_get (C := RX2) (T := TX2) (N := 9) (ci := 4) (v := .long (lZ (gA 18 mm 0))) hx hb hts hi4 hown hK hW fS rfl 8 (by decide) (hts (.fieldLink RX3 214 "LongTransfer$Sender" "wakeAt" "J") (by decide +kernel)) (fun _ h9 => h9) rfl dX3_actSender_10 ?_
        refine lv_aload_n hx hb dX3_actSender_13 rfl (lv_at hl 1 rfl) ?_
        refine g_get (C := RX3) (T := TX3) (N := 14) (ci := 5) (v := .long (lZ (gA 0 7 0))) hx hb hts hi5 hown hK hW fX rfl 7 (by decide) (hts (.fieldLink RX3 120 "LongTransfer" "now" "J") (by decide +kernel)) (fun _ h9 => h9) rfl dX3_actSender_14 ?_
        refine z_lc_gt (tgt := 49) hx hb dX3_actSender_17 dX3_actSender_18 (by decide) (by omega) (by omega) (fun c_17 => ?_) (fun c_17 => ?_)
        · have hgz0 : gA = sAct fu g mm := by first | exact (sAct_0 _ _).symm.trans hgo | exact (sAct_n (by omega)).symm.trans hgo
          have hqz : kC gA = kC (sAct fu g mm) := congrArg kC hgz0
          have hqy : kS gA = kS (sAct fu g mm) := congrArg kS hgz0
          refine W.widen (k := kC (sAct fu g mm) - kC g) (n := kS (sAct fu g mm) - kS g) (show kC gA - kC g ≤ kC (sAct fu g mm) - kC g by omega) (show kS gA - kS g ≤ kS (sAct fu g mm) - kS g by omega) ?_
          have hgz : gA = sAct fu g mm := by exact hgz0
          rw [hgz] at hEA hASA
          exact W.vret hx hb hr (fun t ht hw => ⟨⟨(enA, alA), rfl, ⟨hEA, hFRA, hASA⟩, by show Wd _ _ _ t.heap; rw [ht]; exact hW⟩, hS.F ht⟩) hS.2.2 dX3_actSender_49
        · refine lv_aload_n hx hb dX3_actSender_21 rfl (lv_at hl 2 rfl) ?_
          refine g_get (C := RX2) (T := TX2) (N := 9) (ci := 4) (v := .int (iZ (gA 12 mm 0))) hx hb hts hi4 hown hK hW fS rfl 2 (by decide) (hts (.fieldLink RX3 223 "LongTransfer$Sender" "state" "I") (by decide +kernel)) (fun _ h9 => h9) rfl dX3_actSender_22 ?_
          refine z_iconst hx hb dX3_actSender_25 ?_
          refine z_icmp_ne (tgt := 37) hx hb dX3_actSender_26 (by decide) (by omega) (by omega) (fun c_26 => ?_) (fun c_26 => ?_)
          · refine lv_aload_n hx hb dX3_actSender_37 rfl (lv_at hl 1 rfl) ?_
            refine lv_aload_n hx hb dX3_actSender_38 rfl (lv_at hl 2 rfl) ?_
            refine z_iconst hx hb dX3_actSender_39 ?_
            have hmo : Mo gA (sEndS gA mm 1) := mo_es
            have hij : IJ (sEndS gA mm 1) := ⟨ib_es hJA.1 1 (by omega) (by omega), jb_es hJA.2 (by omega) (by omega) (j_st hJA (by omega) (by omega) (by omega))⟩
            have hgo1 : sAct n (sEndS gA mm 1) mm = sAct fu g mm := by rw [← hgo, sAct_p (by omega)]; unfold sA1; rw [if_neg (by omega)]
            have hm2 := (ij_act n (m := mm) hij (by omega) (by rw [hmo.1]; omega)).2
            rw [hgo1] at hm2
            have q1 := mo_kC hmo
            have q2 := mo_kS hmo
            have q3 := mo_kC hm2
            have q4 := mo_kS hm2
            refine va_callv (va_runV (As := [.ref (alA 5 mm), .int (iZ (1))]) (rest := []) ⟨hx, hb, hml, hown, hts⟩ (c_X3_endSender l D dA z enA gA alA mm 1 (by omega) (by omega) (by omega) (by omega) hEA hJA.1) (cwV 2 hts gX3_actSender_X3_endSender rfl rfl rfl (by decide +kernel) ⟨Nat.le_of_ble_eq_true rfl, Nat.le_of_ble_eq_true rfl⟩) ⟨gBl, gRecv hK hW (ci := 5) rfl fX, gPre _ hg hS hW⟩ rfl rfl hl.1 rfl (lv_room (Nat.le_of_ble_eq_true rfl)) dX3_actSender_40 ⟨(show kC gA - kC g + 0 ≤ kC (sAct fu g mm) - kC g by omega), (show kS gA - kS g + 0 ≤ kS (sAct fu g mm) - kS g by omega)⟩) hS (fun _ _ h => h) (fun _ h => h) (fun u9 t9 H locs ht9 hvm9 hw9 hB9 hz9 hk9 hS => ?_)
            obtain ⟨en1v, al1v⟩ := u9
            obtain ⟨hE1v, hFR1v, hAS1v⟩ := hw9
            have hW : Wd D (z 0) en1v H := by rw [← ht9]; exact hB9
            obtain ⟨g1v, hg1v⟩ : ∃ x : St, x = sEndS gA mm 1 := ⟨_, rfl⟩
            rw [← hg1v] at hE1v hAS1v
            dsimp only at hE1v hFR1v hAS1v
            have hl : lv_has ls 3 [(2, .int (iZ (i))), (0, .ref (al1v 0 0)), (1, .ref (al1v 5 mm))] := by rw [hAS1v.2 0 0 (by omega), hAS1v.2 5 mm (by omega)]; exact hl
            have hFR1v := FR.tr hFRA hFR1v
            have hAS1v := AS.tr hASA hAS1v
            have hN1v := hAS1v.1
            have fX : en1v 0 0 = some (al1v 0 0, .inr (5, [.int (iZ (g1v 0 0 0)), .ref (al1v 1 0), .ref (al1v 1 1), .ref (al1v 3 0), .ref (al1v 4 0), .int (iZ (g1v 0 5 0)), .ref (al1v 11 0), .long (lZ (g1v 0 7 0)), .int (iZ (g1v 0 8 0)), .int (iZ (g1v 0 9 0)), .int (iZ (g1v 0 10 0)), .int (iZ (g1v 0 11 0)), .int (iZ (g1v 0 12 0)), .int (iZ (g1v 0 13 0))])) := ec_X hE1v
            have fL0 : en1v 1 0 = some (al1v 1 0, .inr (1, [.int (iZ (g1v 3 0 0)), .ref (al1v 2 0), .int (iZ (g1v 1 0 0))])) := ec_L0 hE1v
            have fL1 : en1v 1 1 = some (al1v 1 1, .inr (1, [.int (iZ (g1v 3 1 0)), .ref (al1v 2 1), .int (iZ (g1v 1 1 0))])) := ec_L1 hE1v
            have fQ : en1v 3 0 = some (al1v 3 0, aR dA (4) (fun j => some (al1v 9 j))) := ec_Q hE1v
            have fC : en1v 4 0 = some (al1v 4 0, aI dA (8) (fun j => g1v 2 j 0)) := ec_C hE1v
            have fS : en1v 5 mm = some (al1v 5 mm, .inr (4, [.int (iZ (mm)), .ref (al1v 6 mm), .int (iZ (g1v 12 mm 0)), .int (iZ (g1v 13 mm 0)), .int (iZ (g1v 14 mm 0)), .int (iZ (g1v 15 mm 0)), .int (iZ (g1v 16 mm 0)), .int (iZ (g1v 17 mm 0)), .long (lZ (g1v 18 mm 0))])) := ec_S hE1v (by omega)
            have fO : en1v 6 mm = some (al1v 6 mm, aB dA (g1v 11 mm 0) (g1v 19 mm)) := ec_SO hE1v (by omega)
            have q7 : kC g1v = kC (sEndS gA mm 1) := by rw [hg1v]
            have q8 : kS g1v = kS (sEndS gA mm 1) := by rw [hg1v]
            refine lv_iinc (v := iZ (i + 1)) (lv' := [(2, .int (iZ (i + 1))), (0, .ref (al1v 0 0)), (1, .ref (al1v 5 mm))]) hx hb dX3_actSender_43 hl (k := 0) rfl (iZ_add _ _) (by decide) rfl (fun ls hl => ?_)
            refine lv_goto (tgt := 2) hx hb dX3_actSender_46 (by decide) ?_
            have hj9 : IJ g1v := by rw [hg1v]; exact hij
            have hgo9 : sAct n g1v mm = sAct fu g mm := by rw [hg1v]; exact hgo1
            refine W.widen (k := kC g1v - kC g) (n := kS g1v - kS g) (show kC gA - kC g + 0 ≤ kC g1v - kC g by omega) (show kS gA - kS g + 0 ≤ kS g1v - kS g by omega) ?_
            exact ih  g1v al1v en1v _ _ _ (i + 1) hE1v hj9 hW hS (lv_sub hl [0, 1, 2] rfl) hFR1v hAS1v (by omega) (by omega) hgo9
          · refine lv_aload_n hx hb dX3_actSender_29 rfl (lv_at hl 1 rfl) ?_
            refine lv_aload_n hx hb dX3_actSender_30 rfl (lv_at hl 2 rfl) ?_
            have hmo : Mo gA (sNext gA mm) := mo_nx hJA.1
            have hij : IJ (sNext gA mm) := ij_nx hJA (by omega) (by omega) (by omega)
            have hgo1 : sAct n (sNext gA mm) mm = sAct fu g mm := by rw [← hgo, sAct_p (by omega)]; unfold sA1; rw [if_pos (by omega)]
            have hm2 := (ij_act n (m := mm) hij (by omega) (by rw [hmo.1]; omega)).2
            rw [hgo1] at hm2
            have q1 := mo_kC hmo
            have q2 := mo_kS hmo
            have q3 := mo_kC hm2
            have q4 := mo_kS hm2
            refine va_callv (va_runV (As := [.ref (alA 5 mm)]) (rest := []) ⟨hx, hb, hml, hown, hts⟩ (c_X3_sendNext l D dA z enA gA alA mm (by omega) (by omega) ((hJA.2.1 mm (by omega) (by omega)).1 (Or.inr (by omega))).1 hEA hJA.1) (cwV 1 hts gX3_actSender_X3_sendNext rfl rfl rfl (by decide +kernel) ⟨Nat.le_of_ble_eq_true rfl, Nat.le_of_ble_eq_true rfl⟩) ⟨gBl, gRecv hK hW (ci := 5) rfl fX, gPre _ hg hS hW⟩ rfl rfl hl.1 rfl (lv_room (Nat.le_of_ble_eq_true rfl)) dX3_actSender_31 ⟨(show kC gA - kC g + (kC (sNext gA mm) - kC gA) ≤ kC (sAct fu g mm) - kC g by omega), (show kS gA - kS g + (kS (sNext gA mm) - kS gA) ≤ kS (sAct fu g mm) - kS g by omega)⟩) hS (fun _ _ h => h) (fun _ h => h) (fun u9 t9 H locs ht9 hvm9 hw9 hB9 hz9 hk9 hS => ?_)
            obtain ⟨en2v, al2v⟩ := u9
            obtain ⟨hE2v, hFR2v, hAS2v⟩ := hw9
            have hW : Wd D (z 0) en2v H := by rw [← ht9]; exact hB9
            obtain ⟨g2v, hg2v⟩ : ∃ x : St, x = sNext gA mm := ⟨_, rfl⟩
            rw [← hg2v] at hE2v hAS2v
            dsimp only at hE2v hFR2v hAS2v
            have hl : lv_has ls 3 [(2, .int (iZ (i))), (0, .ref (al2v 0 0)), (1, .ref (al2v 5 mm))] := by rw [hAS2v.2 0 0 (by omega), hAS2v.2 5 mm (by omega)]; exact hl
            have hFR2v := FR.tr hFRA hFR2v
            have hAS2v := AS.tr hASA hAS2v
            have hN2v := hAS2v.1
            have fX : en2v 0 0 = some (al2v 0 0, .inr (5, [.int (iZ (g2v 0 0 0)), .ref (al2v 1 0), .ref (al2v 1 1), .ref (al2v 3 0), .ref (al2v 4 0), .int (iZ (g2v 0 5 0)), .ref (al2v 11 0), .long (lZ (g2v 0 7 0)), .int (iZ (g2v 0 8 0)), .int (iZ (g2v 0 9 0)), .int (iZ (g2v 0 10 0)), .int (iZ (g2v 0 11 0)), .int (iZ (g2v 0 12 0)), .int (iZ (g2v 0 13 0))])) := ec_X hE2v
            have fL0 : en2v 1 0 = some (al2v 1 0, .inr (1, [.int (iZ (g2v 3 0 0)), .ref (al2v 2 0), .int (iZ (g2v 1 0 0))])) := ec_L0 hE2v
            have fL1 : en2v 1 1 = some (al2v 1 1, .inr (1, [.int (iZ (g2v 3 1 0)), .ref (al2v 2 1), .int (iZ (g2v 1 1 0))])) := ec_L1 hE2v
            have fQ : en2v 3 0 = some (al2v 3 0, aR dA (4) (fun j => some (al2v 9 j))) := ec_Q hE2v
            have fC : en2v 4 0 = some (al2v 4 0, aI dA (8) (fun j => g2v 2 j 0)) := ec_C hE2v
            have fS : en2v 5 mm = some (al2v 5 mm, .inr (4, [.int (iZ (mm)), .ref (al2v 6 mm), .int (iZ (g2v 12 mm 0)), .int (iZ (g2v 13 mm 0)), .int (iZ (g2v 14 mm 0)), .int (iZ (g2v 15 mm 0)), .int (iZ (g2v 16 mm 0)), .int (iZ (g2v 17 mm 0)), .long (lZ (g2v 18 mm 0))])) := ec_S hE2v (by omega)
            have fO : en2v 6 mm = some (al2v 6 mm, aB dA (g2v 11 mm 0) (g2v 19 mm)) := ec_SO hE2v (by omega)
            have q7 : kC g2v = kC (sNext gA mm) := by rw [hg2v]
            have q8 : kS g2v = kS (sNext gA mm) := by rw [hg2v]
            refine lv_goto (tgt := 43) hx hb dX3_actSender_34 (by decide) ?_
            refine lv_iinc (v := iZ (i + 1)) (lv' := [(2, .int (iZ (i + 1))), (0, .ref (al2v 0 0)), (1, .ref (al2v 5 mm))]) hx hb dX3_actSender_43 hl (k := 0) rfl (iZ_add _ _) (by decide) rfl (fun ls hl => ?_)
            refine lv_goto (tgt := 2) hx hb dX3_actSender_46 (by decide) ?_
            have hj9 : IJ g2v := by rw [hg2v]; exact hij
            have hgo9 : sAct n g2v mm = sAct fu g mm := by rw [hg2v]; exact hgo1
            refine W.widen (k := kC g2v - kC g) (n := kS g2v - kS g) (show kC gA - kC g + (kC (sNext gA mm) - kC gA) ≤ kC g2v - kC g by omega) (show kS gA - kS g + (kS (sNext gA mm) - kS gA) ≤ kS g2v - kS g by omega) ?_
            exact ih  g2v al2v en2v _ _ _ (i + 1) hE2v hj9 hW hS (lv_sub hl [0, 1, 2] rfl) hFR2v hAS2v (by omega) (by omega) hgo9
  refine z_iconst hx hb dX3_actSender_0 ?_
  refine lv_istore_n (lv' := [(2, .int (iZ (0))), (0, .ref (al 0 0)), (1, .ref (al 5 mm))]) hx hb dX3_actSender_1 rfl hl (by decide) rfl (fun ls hl => ?_)
  refine W.widen (k := kC g - kC g) (n := kS g - kS g) (show 0 ≤ kC g - kC g by omega) (show 0 ≤ kS g - kS g by omega) ?_
  exact loop fu g al en _ _ _ 0 hE hJ hW hS (lv_sub hl [0, 1, 2] rfl) (FR.rf _) (AS.rf _ _) (by omega) (by omega) rfl
set_option maxHeartbeats 4000000 in
set_option maxRecDepth 100000 in
theorem c_X3_actReceiver (l : Launch) (D : va_G) (dA : Nat → ClassId) (z : Nat → Nat) (en : en_T) (g : St) (al : Al) (r : Int) (h0 : 0 ≤ r) (h1 : r < 4) (hj : JB g) (hE : EC dA z g al en) (hI : IB g) : Met l yX3_actReceiver wsX3_actReceiver ({ frames := 9, cells := kC (sActR g r) - kC g, slots := kS (sActR g r) - kS g, locals := 220 }) (gP D dA z en [.ref (al 0 0), .ref (al 9 r)]) (va_Qv (fun u : en_T × Al => CP dA z (sActR g r) g al en u) (fun u t9 => Wd D (z 0) u.1 t9.heap) (fun q => z 0 ≤ q)) (kC (sActR g r) - kC g) (kS (sActR g r) - kS g) (fun q => z 0 ≤ q) := by
  refine gMet (own := RX3) (cc := cX3_actReceiver) (maxL := 2) (ret := none) (by decide) rfl rfl (Nat.le_of_ble_eq_true rfl) ?_
  intro p e s m below meth c hx hb hml hown hts hr hlocks hnm hg hW ls hl
  have hK := hg.1
  have hS : va_S (fun q => z 0 ≤ q) s.heap s.heap [] := va_S.rf
  have hi3 : ∀ w ∈ u_ws RX1 TX1 9, w ∈ wsX3_actReceiver := by decide +kernel
  have hi5 : ∀ w ∈ u_ws RX3 TX3 14, w ∈ wsX3_actReceiver := by decide +kernel
  have hl : lv_has ls 2 [(0, .ref (al 0 0)), (1, .ref (al 9 r))] := hl
  obtain ⟨hIX, hIL, hIS, hIF, hIR, hIG⟩ := id hI
  unfold IL at hIL
  unfold IX at hIX
  have hIRr := hIR r (by omega) (by omega)
  unfold IR at hIRr
  have hJ : IJ g := ⟨hI, hj⟩
  have hJr := hj.2 r (by omega) (by omega)
  unfold JR at hJr
  have fX : en 0 0 = some (al 0 0, .inr (5, [.int (iZ (g 0 0 0)), .ref (al 1 0), .ref (al 1 1), .ref (al 3 0), .ref (al 4 0), .int (iZ (g 0 5 0)), .ref (al 11 0), .long (lZ (g 0 7 0)), .int (iZ (g 0 8 0)), .int (iZ (g 0 9 0)), .int (iZ (g 0 10 0)), .int (iZ (g 0 11 0)), .int (iZ (g 0 12 0)), .int (iZ (g 0 13 0))])) := ec_X hE
  have fL0 : en 1 0 = some (al 1 0, .inr (1, [.int (iZ (g 3 0 0)), .ref (al 2 0), .int (iZ (g 1 0 0))])) := ec_L0 hE
  have fL1 : en 1 1 = some (al 1 1, .inr (1, [.int (iZ (g 3 1 0)), .ref (al 2 1), .int (iZ (g 1 1 0))])) := ec_L1 hE
  have fQ : en 3 0 = some (al 3 0, aR dA (4) (fun j => some (al 9 j))) := ec_Q hE
  have fC : en 4 0 = some (al 4 0, aI dA (8) (fun j => g 2 j 0)) := ec_C hE
  have fR : en 9 r = some (al 9 r, .inr (3, [.int (iZ (g 30 r 0)), .int (iZ (g 31 r 0)), .ref (al 10 r), .int (iZ (g 33 r 0)), .int (iZ (g 34 r 0)), .int (iZ (g 35 r 0)), .int (iZ (g 36 r 0)), .long (lZ (g 37 r 0)), .long (lZ (g 38 r 0))])) := ec_R hE (by omega)
  refine lv_aload_n hx hb dX3_actReceiver_0 rfl (lv_at hl 1 rfl) ?_
  refine g_get (C := RX1) (T := TX1) (N := 9) (ci := 3) (v := .long (lZ (g 37 r 0))) hx hb hts hi3 hown hK hW fR rfl 7 (by decide) (hts (.fieldLink RX3 242 "LongTransfer$Receiver" "answerAt" "J") (by decide +kernel)) (fun _ h9 => h9) rfl dX3_actReceiver_1 ?_
  refine lv_aload_n hx hb dX3_actReceiver_4 rfl (lv_at hl 0 rfl) ?_
  refine g_get (C := RX3) (T := TX3) (N := 14) (ci := 5) (v := .long (lZ (g 0 7 0))) hx hb hts hi5 hown hK hW fX rfl 7 (by decide) (hts (.fieldLink RX3 120 "LongTransfer" "now" "J") (by decide +kernel)) (fun _ h9 => h9) rfl dX3_actReceiver_5 ?_
  refine z_lc_gt (tgt := 17) hx hb dX3_actReceiver_8 dX3_actReceiver_9 (by decide) (by omega) (by omega) (fun c_8 => ?_) (fun c_8 => ?_)
  · have hsp : sActR g r = if g 38 r 0 ≤ g 0 7 0 then sEndR g r 2 else g := by unfold sActR; simp only [if_neg (show ¬ g 37 r 0 ≤ g 0 7 0 by omega)]
    have hI1 := hI
    refine lv_aload_n hx hb dX3_actReceiver_17 rfl (lv_at hl 1 rfl) ?_
    refine g_get (C := RX1) (T := TX1) (N := 9) (ci := 3) (v := .long (lZ (g 38 r 0))) hx hb hts hi3 hown hK hW fR rfl 8 (by decide) (hts (.fieldLink RX3 248 "LongTransfer$Receiver" "giveUpAt" "J") (by decide +kernel)) (fun _ h9 => h9) rfl dX3_actReceiver_18 ?_
    refine lv_aload_n hx hb dX3_actReceiver_21 rfl (lv_at hl 0 rfl) ?_
    refine g_get (C := RX3) (T := TX3) (N := 14) (ci := 5) (v := .long (lZ (g 0 7 0))) hx hb hts hi5 hown hK hW fX rfl 7 (by decide) (hts (.fieldLink RX3 120 "LongTransfer" "now" "J") (by decide +kernel)) (fun _ h9 => h9) rfl dX3_actReceiver_22 ?_
    refine z_lc_gt (tgt := 35) hx hb dX3_actReceiver_25 dX3_actReceiver_26 (by decide) (by omega) (by omega) (fun c_25 => ?_) (fun c_25 => ?_)
    · refine W.widen (k := kC (sActR g r) - kC g) (n := kS (sActR g r) - kS g) (show 0 ≤ kC (sActR g r) - kC g by omega) (show 0 ≤ kS (sActR g r) - kS g by omega) ?_
      have hFRz := FR.rf en
      have hASz := AS.rf g al
      have hgz : g = sActR g r := by rw [hsp]; first | rw [if_pos (by omega)] | rw [if_neg (by omega)]
      have hEz := hgz ▸ hE
      exact W.vret hx hb hr (fun t ht hw => ⟨⟨(en, al), rfl, ⟨hgz ▸ hE, hFRz, hgz ▸ hASz⟩, by show Wd _ _ _ t.heap; rw [ht]; exact hW⟩, hS.F ht⟩) hS.2.2 dX3_actReceiver_35
    · refine lv_aload_n hx hb dX3_actReceiver_29 rfl (lv_at hl 0 rfl) ?_
      refine lv_aload_n hx hb dX3_actReceiver_30 rfl (lv_at hl 1 rfl) ?_
      refine z_iconst hx hb dX3_actReceiver_31 ?_
      refine va_callv (va_runV (As := [.ref (al 9 r), .int (iZ (2))]) (rest := []) ⟨hx, hb, hml, hown, hts⟩ (c_X3_endReceiver l D dA z en g al r 2 (by omega) (by omega) (by omega) (by omega) hE hI1) (cwV 2 hts gX3_actReceiver_X3_endReceiver rfl rfl rfl (by decide +kernel) ⟨Nat.le_of_ble_eq_true rfl, Nat.le_of_ble_eq_true rfl⟩) ⟨gBl, gRecv hK hW (ci := 5) rfl fX, gPre _ hg hS hW⟩ rfl rfl hl.1 rfl (lv_room (Nat.le_of_ble_eq_true rfl)) dX3_actReceiver_32 ⟨(show 0 + 0 ≤ kC (sActR g r) - kC g by omega), (show 0 + 0 ≤ kS (sActR g r) - kS g by omega)⟩) hS (fun _ _ h => h) (fun _ h => h) (fun u9 t9 H locs ht9 hvm9 hw9 hB9 hz9 hk9 hS => ?_)
      obtain ⟨en1v, al1v⟩ := u9
      obtain ⟨hE1v, hFR1v, hAS1v⟩ := hw9
      have hW : Wd D (z 0) en1v H := by rw [← ht9]; exact hB9
      obtain ⟨g1v, hg1v⟩ : ∃ x : St, x = sEndR g r 2 := ⟨_, rfl⟩
      rw [← hg1v] at hE1v hAS1v
      dsimp only at hE1v hFR1v hAS1v
      have hl : lv_has ls 2 [(0, .ref (al1v 0 0)), (1, .ref (al1v 9 r))] := by rw [hAS1v.2 0 0 (by omega), hAS1v.2 9 r (by omega)]; exact hl
      have hN1v := hAS1v.1
      have fX : en1v 0 0 = some (al1v 0 0, .inr (5, [.int (iZ (g1v 0 0 0)), .ref (al1v 1 0), .ref (al1v 1 1), .ref (al1v 3 0), .ref (al1v 4 0), .int (iZ (g1v 0 5 0)), .ref (al1v 11 0), .long (lZ (g1v 0 7 0)), .int (iZ (g1v 0 8 0)), .int (iZ (g1v 0 9 0)), .int (iZ (g1v 0 10 0)), .int (iZ (g1v 0 11 0)), .int (iZ (g1v 0 12 0)), .int (iZ (g1v 0 13 0))])) := ec_X hE1v
      have fL0 : en1v 1 0 = some (al1v 1 0, .inr (1, [.int (iZ (g1v 3 0 0)), .ref (al1v 2 0), .int (iZ (g1v 1 0 0))])) := ec_L0 hE1v
      have fL1 : en1v 1 1 = some (al1v 1 1, .inr (1, [.int (iZ (g1v 3 1 0)), .ref (al1v 2 1), .int (iZ (g1v 1 1 0))])) := ec_L1 hE1v
      have fQ : en1v 3 0 = some (al1v 3 0, aR dA (4) (fun j => some (al1v 9 j))) := ec_Q hE1v
      have fC : en1v 4 0 = some (al1v 4 0, aI dA (8) (fun j => g1v 2 j 0)) := ec_C hE1v
      have fR : en1v 9 r = some (al1v 9 r, .inr (3, [.int (iZ (g1v 30 r 0)), .int (iZ (g1v 31 r 0)), .ref (al1v 10 r), .int (iZ (g1v 33 r 0)), .int (iZ (g1v 34 r 0)), .int (iZ (g1v 35 r 0)), .int (iZ (g1v 36 r 0)), .long (lZ (g1v 37 r 0)), .long (lZ (g1v 38 r 0))])) := ec_R hE1v (by omega)
      refine W.widen (k := kC (sActR g r) - kC g) (n := kS (sActR g r) - kS g) (show 0 + 0 ≤ kC (sActR g r) - kC g by omega) (show 0 + 0 ≤ kS (sActR g r) - kS g by omega) ?_
      have hgz : g1v = sActR g r := by subst hg1v; rw [hsp]; first | rw [if_pos (by omega)] | rw [if_neg (by omega)]
      rw [hgz] at hE1v hAS1v
      exact W.vret hx hb hr (fun t ht hw => ⟨⟨(en1v, al1v), rfl, ⟨hE1v, hFR1v, hAS1v⟩, by show Wd _ _ _ t.heap; rw [ht]; exact hW⟩, hS.F ht⟩) hS.2.2 dX3_actReceiver_35
  · refine lv_aload_n hx hb dX3_actReceiver_12 rfl (lv_at hl 0 rfl) ?_
    refine lv_aload_n hx hb dX3_actReceiver_13 rfl (lv_at hl 1 rfl) ?_
    have hsp : sActR g r = if sAns g r 38 r 0 ≤ sAns g r 0 7 0 then sEndR (sAns g r) r 2 else sAns g r := by unfold sActR; simp only [if_pos (show g 37 r 0 ≤ g 0 7 0 by omega)]
    have hkc : kC (sActR g r) = kC (sAns g r) := by rw [hsp]; split <;> rfl
    have hks : kS (sActR g r) = kS (sAns g r) := by rw [hsp]; split <;> rfl
    refine va_callv (va_runV (As := [.ref (al 9 r)]) (rest := []) ⟨hx, hb, hml, hown, hts⟩ (c_X3_answer l D dA z en g al r h0 h1 (hJr.1 (by omega)) hE hI) (cwV 1 hts gX3_actReceiver_X3_answer rfl rfl rfl (by decide +kernel) ⟨Nat.le_of_ble_eq_true rfl, Nat.le_of_ble_eq_true rfl⟩) ⟨gBl, gRecv hK hW (ci := 5) rfl fX, gPre _ hg hS hW⟩ rfl rfl hl.1 rfl (lv_room (Nat.le_of_ble_eq_true rfl)) dX3_actReceiver_14 ⟨(show 0 + (kC (sAns g r) - kC g) ≤ kC (sActR g r) - kC g by omega), (show 0 + (kS (sAns g r) - kS g) ≤ kS (sActR g r) - kS g by omega)⟩) hS (fun _ _ h => h) (fun _ h => h) (fun u9 t9 H locs ht9 hvm9 hw9 hB9 hz9 hk9 hS => ?_)
    obtain ⟨en2v, al2v⟩ := u9
    obtain ⟨hE2v, hFR2v, hAS2v⟩ := hw9
    have hW : Wd D (z 0) en2v H := by rw [← ht9]; exact hB9
    obtain ⟨g2v, hg2v⟩ : ∃ x : St, x = sAns g r := ⟨_, rfl⟩
    rw [← hg2v] at hE2v hAS2v
    dsimp only at hE2v hFR2v hAS2v
    have hl : lv_has ls 2 [(0, .ref (al2v 0 0)), (1, .ref (al2v 9 r))] := by rw [hAS2v.2 0 0 (by omega), hAS2v.2 9 r (by omega)]; exact hl
    have hN2v := hAS2v.1
    have fX : en2v 0 0 = some (al2v 0 0, .inr (5, [.int (iZ (g2v 0 0 0)), .ref (al2v 1 0), .ref (al2v 1 1), .ref (al2v 3 0), .ref (al2v 4 0), .int (iZ (g2v 0 5 0)), .ref (al2v 11 0), .long (lZ (g2v 0 7 0)), .int (iZ (g2v 0 8 0)), .int (iZ (g2v 0 9 0)), .int (iZ (g2v 0 10 0)), .int (iZ (g2v 0 11 0)), .int (iZ (g2v 0 12 0)), .int (iZ (g2v 0 13 0))])) := ec_X hE2v
    have fL0 : en2v 1 0 = some (al2v 1 0, .inr (1, [.int (iZ (g2v 3 0 0)), .ref (al2v 2 0), .int (iZ (g2v 1 0 0))])) := ec_L0 hE2v
    have fL1 : en2v 1 1 = some (al2v 1 1, .inr (1, [.int (iZ (g2v 3 1 0)), .ref (al2v 2 1), .int (iZ (g2v 1 1 0))])) := ec_L1 hE2v
    have fQ : en2v 3 0 = some (al2v 3 0, aR dA (4) (fun j => some (al2v 9 j))) := ec_Q hE2v
    have fC : en2v 4 0 = some (al2v 4 0, aI dA (8) (fun j => g2v 2 j 0)) := ec_C hE2v
    have fR : en2v 9 r = some (al2v 9 r, .inr (3, [.int (iZ (g2v 30 r 0)), .int (iZ (g2v 31 r 0)), .ref (al2v 10 r), .int (iZ (g2v 33 r 0)), .int (iZ (g2v 34 r 0)), .int (iZ (g2v 35 r 0)), .int (iZ (g2v 36 r 0)), .long (lZ (g2v 37 r 0)), .long (lZ (g2v 38 r 0))])) := ec_R hE2v (by omega)
    have hI1 : IB g2v := by rw [hg2v]; exact ib_ans hI h0 h1 (hJr.1 (by omega))
    have hR1 := hI1.2.2.2.2.1 r (by omega) (by omega)
    unfold IR at hR1
    have hX1 := hI1.1
    unfold IX at hX1
    refine lv_aload_n hx hb dX3_actReceiver_17 rfl (lv_at hl 1 rfl) ?_
    refine g_get (C := RX1) (T := TX1) (N := 9) (ci := 3) (v := .long (lZ (g2v 38 r 0))) hx hb hts hi3 hown hK hW fR rfl 8 (by decide) (hts (.fieldLink RX3 248 "LongTransfer$Receiver" "giveUpAt" "J") (by decide +kernel)) (fun _ h9 => h9) rfl dX3_actReceiver_18 ?_
    refine lv_aload_n hx hb dX3_actReceiver_21 rfl (lv_at hl 0 rfl) ?_
    refine g_get (C := RX3) (T := TX3) (N := 14) (ci := 5) (v := .long (lZ (g2v 0 7 0))) hx hb hts hi5 hown hK hW fX rfl 7 (by decide) (hts (.fieldLink RX3 120 "LongTransfer" "now" "J") (by decide +kernel)) (fun _ h9 => h9) rfl dX3_actReceiver_22 ?_
    refine z_lc_gt (tgt := 35) hx hb dX3_actReceiver_25 dX3_actReceiver_26 (by decide) (by omega) (by omega) (fun c_25 => ?_) (fun c_25 => ?_)
    · refine W.widen (k := kC (sActR g r) - kC g) (n := kS (sActR g r) - kS g) (show 0 + (kC (sAns g r) - kC g) ≤ kC (sActR g r) - kC g by omega) (show 0 + (kS (sAns g r) - kS g) ≤ kS (sActR g r) - kS g by omega) ?_
      have hgz : g2v = sActR g r := by subst hg2v; rw [hsp]; first | rw [if_pos (by omega)] | rw [if_neg (by omega)]
      rw [hgz] at hE2v hAS2v
      exact W.vret hx hb hr (fun t ht hw => ⟨⟨(en2v, al2v), rfl, ⟨hE2v, hFR2v, hAS2v⟩, by show Wd _ _ _ t.heap; rw [ht]; exact hW⟩, hS.F ht⟩) hS.2.2 dX3_actReceiver_35
    · refine lv_aload_n hx hb dX3_actReceiver_29 rfl (lv_at hl 0 rfl) ?_
      refine lv_aload_n hx hb dX3_actReceiver_30 rfl (lv_at hl 1 rfl) ?_
      refine z_iconst hx hb dX3_actReceiver_31 ?_
      refine va_callv (va_runV (As := [.ref (al2v 9 r), .int (iZ (2))]) (rest := []) ⟨hx, hb, hml, hown, hts⟩ (c_X3_endReceiver l D dA z en2v g2v al2v r 2 (by omega) (by omega) (by omega) (by omega) hE2v hI1) (cwV 2 hts gX3_actReceiver_X3_endReceiver rfl rfl rfl (by decide +kernel) ⟨Nat.le_of_ble_eq_true rfl, Nat.le_of_ble_eq_true rfl⟩) ⟨gBl, gRecv hK hW (ci := 5) rfl fX, gPre _ hg hS hW⟩ rfl rfl hl.1 rfl (lv_room (Nat.le_of_ble_eq_true rfl)) dX3_actReceiver_32 ⟨(show 0 + (kC (sAns g r) - kC g) + 0 ≤ kC (sActR g r) - kC g by omega), (show 0 + (kS (sAns g r) - kS g) + 0 ≤ kS (sActR g r) - kS g by omega)⟩) hS (fun _ _ h => h) (fun _ h => h) (fun u9 t9 H locs ht9 hvm9 hw9 hB9 hz9 hk9 hS => ?_)
      obtain ⟨en3v, al3v⟩ := u9
      obtain ⟨hE3v, hFR3v, hAS3v⟩ := hw9
      have hW : Wd D (z 0) en3v H := by rw [← ht9]; exact hB9
      obtain ⟨g3v, hg3v⟩ : ∃ x : St, x = sEndR g2v r 2 := ⟨_, rfl⟩
      rw [← hg3v] at hE3v hAS3v
      dsimp only at hE3v hFR3v hAS3v
      have hl : lv_has ls 2 [(0, .ref (al3v 0 0)), (1, .ref (al3v 9 r))] := by rw [hAS3v.2 0 0 (by omega), hAS3v.2 9 r (by omega)]; exact hl
      have hFR3v := FR.tr hFR2v hFR3v
      have hAS3v := AS.tr hAS2v hAS3v
      have hN3v := hAS3v.1
      have fX : en3v 0 0 = some (al3v 0 0, .inr (5, [.int (iZ (g3v 0 0 0)), .ref (al3v 1 0), .ref (al3v 1 1), .ref (al3v 3 0), .ref (al3v 4 0), .int (iZ (g3v 0 5 0)), .ref (al3v 11 0), .long (lZ (g3v 0 7 0)), .int (iZ (g3v 0 8 0)), .int (iZ (g3v 0 9 0)), .int (iZ (g3v 0 10 0)), .int (iZ (g3v 0 11 0)), .int (iZ (g3v 0 12 0)), .int (iZ (g3v 0 13 0))])) := ec_X hE3v
      have fL0 : en3v 1 0 = some (al3v 1 0, .inr (1, [.int (iZ (g3v 3 0 0)), .ref (al3v 2 0), .int (iZ (g3v 1 0 0))])) := ec_L0 hE3v
      have fL1 : en3v 1 1 = some (al3v 1 1, .inr (1, [.int (iZ (g3v 3 1 0)), .ref (al3v 2 1), .int (iZ (g3v 1 1 0))])) := ec_L1 hE3v
      have fQ : en3v 3 0 = some (al3v 3 0, aR dA (4) (fun j => some (al3v 9 j))) := ec_Q hE3v
      have fC : en3v 4 0 = some (al3v 4 0, aI dA (8) (fun j => g3v 2 j 0)) := ec_C hE3v
      have fR : en3v 9 r = some (al3v 9 r, .inr (3, [.int (iZ (g3v 30 r 0)), .int (iZ (g3v 31 r 0)), .ref (al3v 10 r), .int (iZ (g3v 33 r 0)), .int (iZ (g3v 34 r 0)), .int (iZ (g3v 35 r 0)), .int (iZ (g3v 36 r 0)), .long (lZ (g3v 37 r 0)), .long (lZ (g3v 38 r 0))])) := ec_R hE3v (by omega)
      refine W.widen (k := kC (sActR g r) - kC g) (n := kS (sActR g r) - kS g) (show 0 + (kC (sAns g r) - kC g) + 0 ≤ kC (sActR g r) - kC g by omega) (show 0 + (kS (sAns g r) - kS g) + 0 ≤ kS (sActR g r) - kS g by omega) ?_
      have hgz : g3v = sActR g r := by subst hg3v; subst hg2v; rw [hsp]; first | rw [if_pos (by omega)] | rw [if_neg (by omega)]
      rw [hgz] at hE3v hAS3v
      exact W.vret hx hb hr (fun t ht hw => ⟨⟨(en3v, al3v), rfl, ⟨hE3v, hFR3v, hAS3v⟩, by show Wd _ _ _ t.heap; rw [ht]; exact hW⟩, hS.F ht⟩) hS.2.2 dX3_actReceiver_35
set_option maxHeartbeats 4000000 in
set_option maxRecDepth 100000 in
theorem c_X3_nextTime (l : Launch) (D : va_G) (dA : Nat → ClassId) (z : Nat → Nat) (en : en_T) (g : St) (al : Al)  (hE : EC dA z g al en) (hI : IB g) : Met l yX3_nextTime wsX3_nextTime ({ frames := 4, cells := 0, slots := 0, locals := 90 }) (gP D dA z en [.ref (al 0 0)]) (va_Ql (fun (r : Int64) (_ : Unit) => r = lZ (sNT g)) (fun _ t9 => Wd D (z 0) en t9.heap) (fun q => z 0 ≤ q)) (0) (0) (fun q => z 0 ≤ q) := by
  refine gMet (own := RX3) (cc := cX3_nextTime) (maxL := 4) (ret := (some .long)) (by decide) rfl rfl (Nat.le_of_ble_eq_true rfl) ?_
  intro p e s m below meth c hx hb hml hown hts hr hlocks hnm hg hW ls hl
  have hK := hg.1
  have hS : va_S (fun q => z 0 ≤ q) s.heap s.heap [] := va_S.rf
  have hi4 : ∀ w ∈ u_ws RX2 TX2 9, w ∈ wsX3_nextTime := by decide +kernel
  have hi5 : ∀ w ∈ u_ws RX3 TX3 14, w ∈ wsX3_nextTime := by decide +kernel
  have hl : lv_has ls 4 [(0, .ref (al 0 0))] := hl
  obtain ⟨hIX, hIL, hIS, hIF, hIR, hIG⟩ := id hI
  unfold IL at hIL
  unfold IX at hIX
  have fX : en 0 0 = some (al 0 0, .inr (5, [.int (iZ (g 0 0 0)), .ref (al 1 0), .ref (al 1 1), .ref (al 3 0), .ref (al 4 0), .int (iZ (g 0 5 0)), .ref (al 11 0), .long (lZ (g 0 7 0)), .int (iZ (g 0 8 0)), .int (iZ (g 0 9 0)), .int (iZ (g 0 10 0)), .int (iZ (g 0 11 0)), .int (iZ (g 0 12 0)), .int (iZ (g 0 13 0))])) := ec_X hE
  have fL0 : en 1 0 = some (al 1 0, .inr (1, [.int (iZ (g 3 0 0)), .ref (al 2 0), .int (iZ (g 1 0 0))])) := ec_L0 hE
  have fL1 : en 1 1 = some (al 1 1, .inr (1, [.int (iZ (g 3 1 0)), .ref (al 2 1), .int (iZ (g 1 1 0))])) := ec_L1 hE
  have fQ : en 3 0 = some (al 3 0, aR dA (4) (fun j => some (al 9 j))) := ec_Q hE
  have fC : en 4 0 = some (al 4 0, aI dA (8) (fun j => g 2 j 0)) := ec_C hE
  have loop2 : ∀ (n : Nat) (H : Heap) (locs : List Loc) (ls : Array Slot) (i : Int) (a : Int), Wd D (z 0) en H → va_S (fun q => z 0 ≤ q) s.heap H locs → lv_has ls 4 [(3, .int (iZ (i))), (1, .long (lZ (a))), (0, .ref (al 0 0))] → 0 ≤ i → i + n = 4 → 0 ≤ a → a ≤ 9223372036854775807 → nTr n i g a = sNT g → W p l e ({ frames := 4, cells := 0, slots := 0, locals := 90 }) s m (([.ref (al 0 0)] : List Value).toArray) below meth c H locs 0 0 (MQ below (va_Ql (fun (r : Int64) (_ : Unit) => r = lZ (sNT g)) (fun _ t9 => Wd D (z 0) en t9.heap) (fun q => z 0 ≤ q)) ([.ref (al 0 0)] : List Value).toArray s (0) (0) (fun q => z 0 ≤ q)) (F0 m 44 ls []) := by
    intro n
    induction n with
    | zero =>
      intro H locs ls i a hW hS hl hi0 hin ha0 ha1 hgo
      refine lv_iload_n hx hb dX3_nextTime_44 rfl (lv_at hl 0 rfl) ?_
      refine lv_aload_n hx hb dX3_nextTime_45 rfl (lv_at hl 2 rfl) ?_
      refine g_get (C := RX3) (T := TX3) (N := 14) (ci := 5) (v := .ref (al 3 0)) hx hb hts hi5 hown hK hW fX rfl 3 (by decide) (hts (.fieldLink RX3 21 "LongTransfer" "receivers" "[LLongTransfer$Receiver;") (by decide +kernel)) (fun _ h9 => h9) rfl dX3_nextTime_46 ?_
      refine g_len_aR hx hb hK hW fQ (by omega) dX3_nextTime_49 ?_
      refine z_icmp_ge (tgt := 73) hx hb dX3_nextTime_50 (by decide) (by omega) (by omega) (fun c_50 => ?_) (fun c_50 => ?_)
      · refine lv_lload_n hx hb dX3_nextTime_73 rfl (lv_at hl 1 rfl) ?_
        exact W.lret hx hb hr (fun t ht hw => ⟨⟨_, (), rfl, by rw [← hgo]; rfl, by show Wd _ _ _ t.heap; rw [ht]; exact hW⟩, hS.F ht⟩) hS.2.2 dX3_nextTime_74
      · exact absurd c_50 (by omega)
    | succ n ih =>
      intro H locs ls i a hW hS hl hi0 hin ha0 ha1 hgo
      refine lv_iload_n hx hb dX3_nextTime_44 rfl (lv_at hl 0 rfl) ?_
      refine lv_aload_n hx hb dX3_nextTime_45 rfl (lv_at hl 2 rfl) ?_
      refine g_get (C := RX3) (T := TX3) (N := 14) (ci := 5) (v := .ref (al 3 0)) hx hb hts hi5 hown hK hW fX rfl 3 (by decide) (hts (.fieldLink RX3 21 "LongTransfer" "receivers" "[LLongTransfer$Receiver;") (by decide +kernel)) (fun _ h9 => h9) rfl dX3_nextTime_46 ?_
      refine g_len_aR hx hb hK hW fQ (by omega) dX3_nextTime_49 ?_
      refine z_icmp_ge (tgt := 73) hx hb dX3_nextTime_50 (by decide) (by omega) (by omega) (fun c_50 => ?_) (fun c_50 => ?_)
      · exact absurd c_50 (by omega)
      · refine lv_lload_n hx hb dX3_nextTime_53 rfl (lv_at hl 1 rfl) ?_
        refine lv_aload_n hx hb dX3_nextTime_54 rfl (lv_at hl 2 rfl) ?_
        refine g_get (C := RX3) (T := TX3) (N := 14) (ci := 5) (v := .ref (al 3 0)) hx hb hts hi5 hown hK hW fX rfl 3 (by decide) (hts (.fieldLink RX3 21 "LongTransfer" "receivers" "[LLongTransfer$Receiver;") (by decide +kernel)) (fun _ h9 => h9) rfl dX3_nextTime_55 ?_
        refine lv_iload_n hx hb dX3_nextTime_58 rfl (lv_at hl 0 rfl) ?_
        refine g_ald_aR hx hb hK hW fQ (by omega) (by omega) (by omega) rfl dX3_nextTime_59 ?_
        have hIRi := hIR i (by omega) (by omega)
        unfold IR at hIRi
        have fX : en 0 0 = some (al 0 0, .inr (5, [.int (iZ (g 0 0 0)), .ref (al 1 0), .ref (al 1 1), .ref (al 3 0), .ref (al 4 0), .int (iZ (g 0 5 0)), .ref (al 11 0), .long (lZ (g 0 7 0)), .int (iZ (g 0 8 0)), .int (iZ (g 0 9 0)), .int (iZ (g 0 10 0)), .int (iZ (g 0 11 0)), .int (iZ (g 0 12 0)), .int (iZ (g 0 13 0))])) := ec_X hE
        have fL0 : en 1 0 = some (al 1 0, .inr (1, [.int (iZ (g 3 0 0)), .ref (al 2 0), .int (iZ (g 1 0 0))])) := ec_L0 hE
        have fL1 : en 1 1 = some (al 1 1, .inr (1, [.int (iZ (g 3 1 0)), .ref (al 2 1), .int (iZ (g 1 1 0))])) := ec_L1 hE
        have fQ : en 3 0 = some (al 3 0, aR dA (4) (fun j => some (al 9 j))) := ec_Q hE
        have fC : en 4 0 = some (al 4 0, aI dA (8) (fun j => g 2 j 0)) := ec_C hE
        have fR : en 9 i = some (al 9 i, .inr (3, [.int (iZ (g 30 i 0)), .int (iZ (g 31 i 0)), .ref (al 10 i), .int (iZ (g 33 i 0)), .int (iZ (g 34 i 0)), .int (iZ (g 35 i 0)), .int (iZ (g 36 i 0)), .long (lZ (g 37 i 0)), .long (lZ (g 38 i 0))])) := ec_R hE (by omega)
        refine va_calll (va_runV (As := []) (rest := [.long (lZ (a))]) ⟨hx, hb, hml, hown, hts⟩ (c_X1_wakeAt l D dA z en 9 i (al 9 i) (al 10 i) (g 30 i 0) (g 31 i 0) (g 33 i 0) (g 34 i 0) (g 35 i 0) (g 36 i 0) (g 37 i 0) (g 38 i 0) (by omega) (by omega) fR) (cwV 0 hts gX3_nextTime_X1_wakeAt rfl rfl rfl (by decide +kernel) ⟨Nat.le_of_ble_eq_true rfl, Nat.le_of_ble_eq_true rfl⟩) ⟨gBl, gRecv hK hW (ci := 3) rfl fR, gPre _ hg hS hW⟩ rfl rfl hl.1 rfl (lv_room (Nat.le_of_ble_eq_true rfl)) dX3_nextTime_60 ⟨(show 0 + 0 ≤ 0 by omega), (show 0 + 0 ≤ 0 by omega)⟩) hS (fun _ _ h => h) (fun _ h => h) (fun r9 u9 t9 H locs ht9 hvm9 hw9 hB9 hz9 hk9 hS => ?_)
        have hW : Wd D (z 0) en H := by rw [← ht9]; exact hB9
        subst hw9
        refine z_mminl hx hb (by rw [hml]; exact hl.1.symm) hown (hts (.methodLink RX3 217 Lib.MathLoose.min_long.x) (by decide +kernel)) (hts (.static Lib.MathLoose.min_long.x) (by decide +kernel)) (hts (.initialized "java/lang/Math") (by decide +kernel)) (hts _ (List.mem_of_getElem? (i := 8) rfl)) (Nat.le_of_ble_eq_true rfl) (Nat.le_of_ble_eq_true rfl) (Nat.zero_le _) (Nat.zero_le _) dX3_nextTime_63 (by omega) (by omega) ?_
        refine lv_lstore_n (lv' := [(1, .long (lZ (min a (min (g 37 i 0) (g 38 i 0))))), (3, .int (iZ (i))), (0, .ref (al 0 0))]) hx hb dX3_nextTime_66 rfl hl (by decide) rfl (fun ls hl => ?_)
        refine lv_iinc (v := iZ (i + 1)) (lv' := [(3, .int (iZ (i + 1))), (1, .long (lZ (min a (min (g 37 i 0) (g 38 i 0))))), (0, .ref (al 0 0))]) hx hb dX3_nextTime_67 hl (k := 1) rfl (iZ_add _ _) (by decide) rfl (fun ls hl => ?_)
        refine lv_goto (tgt := 44) hx hb dX3_nextTime_70 (by decide) ?_
        refine W.widen (k := 0) (n := 0) (by omega) (by omega) ?_
        exact ih  _ _ _ (i + 1) (min a (min (g 37 i 0) (g 38 i 0))) hW hS (lv_sub hl [0, 1, 2] rfl) (by omega) (by omega) (by omega) (by omega) hgo
  have loop1 : ∀ (n : Nat) (H : Heap) (locs : List Loc) (ls : Array Slot) (i : Int) (a : Int), Wd D (z 0) en H → va_S (fun q => z 0 ≤ q) s.heap H locs → lv_has ls 4 [(3, .int (iZ (i))), (1, .long (lZ (a))), (0, .ref (al 0 0))] → 0 ≤ i → i + n = g 1 0 0 → 0 ≤ a → a ≤ 9223372036854775807 → nTr 4 0 g (nTs n i g a) = sNT g → W p l e ({ frames := 4, cells := 0, slots := 0, locals := 90 }) s m (([.ref (al 0 0)] : List Value).toArray) below meth c H locs 0 0 (MQ below (va_Ql (fun (r : Int64) (_ : Unit) => r = lZ (sNT g)) (fun _ t9 => Wd D (z 0) en t9.heap) (fun q => z 0 ≤ q)) ([.ref (al 0 0)] : List Value).toArray s (0) (0) (fun q => z 0 ≤ q)) (F0 m 6 ls []) := by
    intro n
    induction n with
    | zero =>
      intro H locs ls i a hW hS hl hi0 hin ha0 ha1 hgo
      refine lv_iload_n hx hb dX3_nextTime_6 rfl (lv_at hl 0 rfl) ?_
      refine lv_aload_n hx hb dX3_nextTime_7 rfl (lv_at hl 2 rfl) ?_
      refine g_get (C := RX3) (T := TX3) (N := 14) (ci := 5) (v := .ref (al 1 0)) hx hb hts hi5 hown hK hW fX rfl 1 (by decide) (hts (.fieldLink RX3 10 "LongTransfer" "senders" "Ljava/util/ArrayList;") (by decide +kernel)) (fun _ h9 => h9) rfl dX3_nextTime_8 ?_
      refine va_calli (va_runV (As := []) (rest := [.int (iZ (i))]) ⟨hx, hb, hml, hown, hts⟩ (c_AL_size l D dA z en 0 (al 1 0) (al 2 0) (g 3 0 0) (g 1 0 0) fL0) (cwV 0 hts gX3_nextTime_Jx4a65c_size_8abf5 rfl rfl rfl (by decide +kernel) ⟨Nat.le_of_ble_eq_true rfl, Nat.le_of_ble_eq_true rfl⟩) ⟨gBl, gRecv hK hW (ci := 1) rfl fL0, gPre _ hg hS hW⟩ rfl rfl hl.1 rfl (lv_room (Nat.le_of_ble_eq_true rfl)) dX3_nextTime_11 ⟨(show 0 + 0 ≤ 0 by omega), (show 0 + 0 ≤ 0 by omega)⟩) hS (fun _ _ h => h) (fun _ h => h) (fun r9 u9 t9 H locs ht9 hvm9 hw9 hB9 hz9 hk9 hS => ?_)
      have hW : Wd D (z 0) en H := by rw [← ht9]; exact hB9
      subst hw9
      refine z_icmp_ge (tgt := 42) hx hb dX3_nextTime_14 (by decide) (by omega) (by omega) (fun c_14 => ?_) (fun c_14 => ?_)
      · refine z_iconst hx hb dX3_nextTime_42 ?_
        refine lv_istore_n (lv' := [(3, .int (iZ (0))), (1, .long (lZ (a))), (0, .ref (al 0 0))]) hx hb dX3_nextTime_43 rfl hl (by decide) rfl (fun ls hl => ?_)
        refine W.widen (k := 0) (n := 0) (by omega) (by omega) ?_
        exact loop2 4 _ _ _ 0 a hW hS (lv_sub hl [0, 1, 2] rfl) (by omega) (by omega) (by omega) (by omega) (by rw [← hgo]; rfl)
      · exact absurd c_14 (by omega)
    | succ n ih =>
      intro H locs ls i a hW hS hl hi0 hin ha0 ha1 hgo
      refine lv_iload_n hx hb dX3_nextTime_6 rfl (lv_at hl 0 rfl) ?_
      refine lv_aload_n hx hb dX3_nextTime_7 rfl (lv_at hl 2 rfl) ?_
      refine g_get (C := RX3) (T := TX3) (N := 14) (ci := 5) (v := .ref (al 1 0)) hx hb hts hi5 hown hK hW fX rfl 1 (by decide) (hts (.fieldLink RX3 10 "LongTransfer" "senders" "Ljava/util/ArrayList;") (by decide +kernel)) (fun _ h9 => h9) rfl dX3_nextTime_8 ?_
      refine va_calli (va_runV (As := []) (rest := [.int (iZ (i))]) ⟨hx, hb, hml, hown, hts⟩ (c_AL_size l D dA z en 0 (al 1 0) (al 2 0) (g 3 0 0) (g 1 0 0) fL0) (cwV 0 hts gX3_nextTime_Jx4a65c_size_8abf5 rfl rfl rfl (by decide +kernel) ⟨Nat.le_of_ble_eq_true rfl, Nat.le_of_ble_eq_true rfl⟩) ⟨gBl, gRecv hK hW (ci := 1) rfl fL0, gPre _ hg hS hW⟩ rfl rfl hl.1 rfl (lv_room (Nat.le_of_ble_eq_true rfl)) dX3_nextTime_11 ⟨(show 0 + 0 ≤ 0 by omega), (show 0 + 0 ≤ 0 by omega)⟩) hS (fun _ _ h => h) (fun _ h => h) (fun r9 u9 t9 H locs ht9 hvm9 hw9 hB9 hz9 hk9 hS => ?_)
      have hW : Wd D (z 0) en H := by rw [← ht9]; exact hB9
      subst hw9
      refine z_icmp_ge (tgt := 42) hx hb dX3_nextTime_14 (by decide) (by omega) (by omega) (fun c_14 => ?_) (fun c_14 => ?_)
      · exact absurd c_14 (by omega)
      · refine lv_lload_n hx hb dX3_nextTime_17 rfl (lv_at hl 1 rfl) ?_
        refine lv_aload_n hx hb dX3_nextTime_18 rfl (lv_at hl 2 rfl) ?_
        refine g_get (C := RX3) (T := TX3) (N := 14) (ci := 5) (v := .ref (al 1 0)) hx hb hts hi5 hown hK hW fX rfl 1 (by decide) (hts (.fieldLink RX3 10 "LongTransfer" "senders" "Ljava/util/ArrayList;") (by decide +kernel)) (fun _ h9 => h9) rfl dX3_nextTime_19 ?_
        refine lv_iload_n hx hb dX3_nextTime_22 rfl (lv_at hl 0 rfl) ?_
        obtain ⟨hcap, fA⟩ := ec_Ar hE (li := 0) (by omega) (by omega)
        refine va_callr (va_runV (As := [.int (iZ (i))]) (rest := [.long (lZ (a))]) ⟨hx, hb, hml, hown, hts⟩ (c_AL_get l D dA z en 0 (al 1 0) (al 2 0) (g 3 0 0) (g 1 0 0) (g 4 0 0) (i) (eA g al 0) (al 5 (i + 1)) (by omega) (by omega) (by omega) (by omega) (by omega) (by have := eA_in (g := g) (al := al) (li := 0) (j := i + 1) (by omega) (by omega); rw [show i + 1 - 1 = i by omega] at this; exact this) fL0 fA) (cwV 1 hts gX3_nextTime_Jx4a65c_get_915e3 rfl rfl rfl (by decide +kernel) ⟨Nat.le_of_ble_eq_true rfl, Nat.le_of_ble_eq_true rfl⟩) ⟨gBl, gRecv hK hW (ci := 1) rfl fL0, gPre _ hg hS hW⟩ rfl rfl hl.1 rfl (lv_room (Nat.le_of_ble_eq_true rfl)) dX3_nextTime_23 ⟨(show 0 + 0 + 0 ≤ 0 by omega), (show 0 + 0 + 0 ≤ 0 by omega)⟩) hS (fun _ _ h => h) (fun _ h => h) (fun u9 r9 t9 H locs ht9 hvm9 hw9 hB9 hz9 hk9 hS => ?_)
        obtain ⟨rfl, hB9⟩ := hB9
        have hW : Wd D (z 0) en H := by rw [← ht9]; exact hB9
        have fX : en 0 0 = some (al 0 0, .inr (5, [.int (iZ (g 0 0 0)), .ref (al 1 0), .ref (al 1 1), .ref (al 3 0), .ref (al 4 0), .int (iZ (g 0 5 0)), .ref (al 11 0), .long (lZ (g 0 7 0)), .int (iZ (g 0 8 0)), .int (iZ (g 0 9 0)), .int (iZ (g 0 10 0)), .int (iZ (g 0 11 0)), .int (iZ (g 0 12 0)), .int (iZ (g 0 13 0))])) := ec_X hE
        have fL0 : en 1 0 = some (al 1 0, .inr (1, [.int (iZ (g 3 0 0)), .ref (al 2 0), .int (iZ (g 1 0 0))])) := ec_L0 hE
        have fL1 : en 1 1 = some (al 1 1, .inr (1, [.int (iZ (g 3 1 0)), .ref (al 2 1), .int (iZ (g 1 1 0))])) := ec_L1 hE
        have fQ : en 3 0 = some (al 3 0, aR dA (4) (fun j => some (al 9 j))) := ec_Q hE
        have fC : en 4 0 = some (al 4 0, aI dA (8) (fun j => g 2 j 0)) := ec_C hE
        have fS : en 5 (i + 1) = some (al 5 (i + 1), .inr (4, [.int (iZ (i + 1)), .ref (al 6 (i + 1)), .int (iZ (g 12 (i + 1) 0)), .int (iZ (g 13 (i + 1) 0)), .int (iZ (g 14 (i + 1) 0)), .int (iZ (g 15 (i + 1) 0)), .int (iZ (g 16 (i + 1) 0)), .int (iZ (g 17 (i + 1) 0)), .long (lZ (g 18 (i + 1) 0))])) := ec_S hE (by omega)
        have fO : en 6 (i + 1) = some (al 6 (i + 1), aB dA (g 11 (i + 1) 0) (g 19 (i + 1))) := ec_SO hE (by omega)
        have hISi := hIS (i + 1) (by omega) (by omega)
        unfold IS at hISi
        refine g_castS (nm := RX2) (T := TX2) (N := 9) (ci := 4) hx hb hown (hts (.classLink RX3 56 "LongTransfer$Sender") (by decide +kernel)) hK hW rfl fS dX3_nextTime_26 ?_
        refine g_get (C := RX2) (T := TX2) (N := 9) (ci := 4) (v := .long (lZ (g 18 (i + 1) 0))) hx hb hts hi4 hown hK hW fS rfl 8 (by decide) (hts (.fieldLink RX3 214 "LongTransfer$Sender" "wakeAt" "J") (by decide +kernel)) (fun _ h9 => h9) rfl dX3_nextTime_29 ?_
        refine z_mminl hx hb (by rw [hml]; exact hl.1.symm) hown (hts (.methodLink RX3 217 Lib.MathLoose.min_long.x) (by decide +kernel)) (hts (.static Lib.MathLoose.min_long.x) (by decide +kernel)) (hts (.initialized "java/lang/Math") (by decide +kernel)) (hts _ (List.mem_of_getElem? (i := 8) rfl)) (Nat.le_of_ble_eq_true rfl) (Nat.le_of_ble_eq_true rfl) (Nat.zero_le _) (Nat.zero_le _) dX3_nextTime_32 (by omega) (by omega) ?_
        refine lv_lstore_n (lv' := [(1, .long (lZ (min a (g 18 (i + 1) 0)))), (3, .int (iZ (i))), (0, .ref (al 0 0))]) hx hb dX3_nextTime_35 rfl hl (by decide) rfl (fun ls hl => ?_)
        refine lv_iinc (v := iZ (i + 1)) (lv' := [(3, .int (iZ (i + 1))), (1, .long (lZ (min a (g 18 (i + 1) 0)))), (0, .ref (al 0 0))]) hx hb dX3_nextTime_36 hl (k := 1) rfl (iZ_add _ _) (by decide) rfl (fun ls hl => ?_)
        refine lv_goto (tgt := 6) hx hb dX3_nextTime_39 (by decide) ?_
        refine W.widen (k := 0) (n := 0) (by omega) (by omega) ?_
        exact ih  _ _ _ (i + 1) (min a (g 18 (i + 1) 0)) hW hS (lv_sub hl [0, 1, 2] rfl) (by omega) (by omega) (by omega) (by omega) hgo
  refine z_ldc2 hx hb 9223372036854775807 hown (hts (.constantLong RX3 212 (9223372036854775807)) (by decide +kernel)) (by decide) dX3_nextTime_0 ?_
  refine lv_lstore_n (lv' := [(1, .long (lZ (9223372036854775807))), (0, .ref (al 0 0))]) hx hb dX3_nextTime_3 rfl hl (by decide) rfl (fun ls hl => ?_)
  refine z_iconst hx hb dX3_nextTime_4 ?_
  refine lv_istore_n (lv' := [(3, .int (iZ (0))), (1, .long (lZ (9223372036854775807))), (0, .ref (al 0 0))]) hx hb dX3_nextTime_5 rfl hl (by decide) rfl (fun ls hl => ?_)
  refine W.widen (k := 0) (n := 0) (by omega) (by omega) ?_
  exact loop1 (g 1 0 0).toNat _ _ _ 0 9223372036854775807 hW hS (lv_sub hl [0, 1, 2] rfl) (by omega) (by omega) (by omega) (by omega) rfl
