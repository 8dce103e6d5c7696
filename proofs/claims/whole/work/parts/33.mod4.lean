set_option maxHeartbeats 4000000 in
set_option maxRecDepth 100000 in
theorem c_X4_takeFlow (l : Launch) (D : va_G) (dA : Nat → ClassId) (z : Nat → Nat) (en : en_T) (b : Nat → Nat) (mu : Mu) (g : St) (ff : Int) (hf0 : 1 ≤ ff) (hf1 : ff ≤ g 1 1 0) (hI : IB g) (hj : JB g) (hR : Rl g mu) (hE : EM dA b mu en) : Met l yX4_takeFlow wsX4_takeFlow ({ frames := 1, cells := 0, slots := 0, locals := 30 }) (gP D dA z en [.ref (b 0), .int (iZ (ff))]) (va_Qi (fun (r8 : Int32) (u : en_T × Mu) => r8 = iZ (sRcS g ff 12 (g 21 ff 0) 0) ∧ EM dA b u.2 u.1 ∧ FM en u.1 ∧ Rl (sRcS g ff) u.2) (fun u t9 => Wd D (z 0) u.1 t9.heap) (fun q => z 0 ≤ q)) (0) (0) (fun q => z 0 ≤ q) := by
  refine gMet (own := RX4) (cc := cX4_takeFlow) (maxL := 4) (ret := (some .int)) (by decide) rfl rfl (Nat.le_of_ble_eq_true rfl) ?_
  intro p e s m below meth c hx hb hml hown hts hr hlocks hnm hg hW ls hl
  have hK := hg.1
  have hS : va_S (fun q => z 0 ≤ q) s.heap s.heap [] := va_S.rf
  have hi6 : ∀ w ∈ u_ws RX4 TX4 43, w ∈ wsX4_takeFlow := by decide +kernel
  have hl : lv_has ls 4 [(0, .ref (b 0)), (1, .int (iZ (ff)))] := hl
  obtain ⟨rX, rC, rG, rD, rS, rF, rR, rB⟩ := id hR
  unfold RX at rX
  obtain ⟨hIX, hIL, hIS, hIF, hIR, hIG⟩ := id hI
  unfold IL at hIL
  unfold IX at hIX
  have rFf := rF.1 ff (by omega) (by omega)
  unfold RF at rFf
  obtain ⟨⟨r27, r28, r29, r30, r31, r32⟩, -, -⟩ := rFf
  have hIFf := hIF ff (by omega) (by omega)
  unfold IF at hIFf
  obtain ⟨f20, f21, f22, f23, f24, -⟩ := hIFf
  obtain ⟨mm, hmm⟩ : ∃ x : Int, x = g 21 ff 0 := ⟨_, rfl⟩
  obtain ⟨n6, n7, n8, n2, n1, n0⟩ : RN g mu mm := rS.1 mm (by omega) (by omega)
  have hN6 : ∀ _ : Unit, mu 6 mm = if mm ≤ g 0 8 0 then 1 else 0 := fun _ => n6
  clear n6
  have hISm := hIS mm (by omega) (by omega)
  unfold IS at hISm
  have hJm := hj.1 mm (by omega) (by omega)
  unfold JS at hJm
  have rD2 := rD.2.1 mm (by omega) (by omega)
  have rD3 := rD.2.2.1 mm (by omega) (by omega)
  have n1u : ∀ _ : Unit, g 12 mm 0 < 3 → mu 8 mm = g 13 mm 0 ∧ g 14 mm 0 = (mu 9 mm + 1) % 16 ∧ 0 ≤ mu 9 mm ∧ mu 9 mm < 16 ∧ mu 13 mm = g 15 mm 0 := fun _ => n8
  have hJmu : ∀ _ : Unit, (g 12 mm 0 = 1 ∨ g 12 mm 0 = 2) → g 13 mm 0 < g 11 mm 0 ∧ g 15 mm 0 ≤ 100 := fun _ => hJm.1
  have n1v : ∀ _ : Unit, g 12 mm 0 = 1 → g 18 mm 0 = mu 14 mm + 1000 := fun _ => n1
  clear n8 n2 n1 n0 hJm
  have fM : en 20 0 = some (b 0, .inr (6, [.int (iZ (mu 0 0)), .int (iZ (mu 1 0)), .long (lZ (mu 2 0)), .int (iZ (mu 3 0)), .ref (b 4), .ref (b 5), .ref (b 6), .ref (b 7), .ref (b 8), .ref (b 9), .ref (b 10), .ref (b 11), .ref (b 12), .ref (b 13), .ref (b 14), .ref (b 15), .ref (b 16), .ref (b 17), .ref (b 18), .ref (b 19), .ref (b 20), .ref (b 21), .ref (b 22), .ref (b 23), .ref (b 24), .ref (b 25), .int (iZ (mu 26 0)), .ref (b 27), .ref (b 28), .ref (b 29), .ref (b 30), .ref (b 31), .ref (b 32), .ref (b 33), .ref (b 34), .int (iZ (mu 35 0)), .int (iZ (mu 36 0)), .int (iZ (mu 37 0)), .int (iZ (mu 38 0)), .int (iZ (mu 39 0)), .int (iZ (mu 40 0)), .ref (b 41), .ref (b 42)])) := hE.1
  have f7_ : en 27 0 = some (b 7, aI dA (101) (mu 7)) := hE.2 7 (by decide)
  have f10_ : en 30 0 = some (b 10, aI dA (101) (mu 10)) := hE.2 10 (by decide)
  have f11_ : en 31 0 = some (b 11, aI dA (101) (mu 11)) := hE.2 11 (by decide)
  have f12_ : en 32 0 = some (b 12, aI dA (101) (mu 12)) := hE.2 12 (by decide)
  have f13_ : en 33 0 = some (b 13, aI dA (101) (mu 13)) := hE.2 13 (by decide)
  have f14_ : en 34 0 = some (b 14, aJ dA (101) (mu 14)) := hE.2 14 (by decide)
  have f15_ : en 35 0 = some (b 15, aJ dA (101) (mu 15)) := hE.2 15 (by decide)
  have f28_ : en 48 0 = some (b 28, aI dA (6001) (mu 28)) := hE.2 28 (by decide)
  have f29_ : en 49 0 = some (b 29, aI dA (6001) (mu 29)) := hE.2 29 (by decide)
  have f30_ : en 50 0 = some (b 30, aI dA (6001) (mu 30)) := hE.2 30 (by decide)
  have f31_ : en 51 0 = some (b 31, aI dA (6001) (mu 31)) := hE.2 31 (by decide)
  have t2_0 : mu 2 (0) = mu 2 (0) := rfl
  have t6_mm : mu 6 (mm) = mu 6 (mm) := rfl
  have t7_mm : mu 7 (mm) = mu 7 (mm) := rfl
  have t8_mm : mu 8 (mm) = mu 8 (mm) := rfl
  have t9_mm : mu 9 (mm) = mu 9 (mm) := rfl
  have t10_mm : mu 10 (mm) = mu 10 (mm) := rfl
  have t11_mm : mu 11 (mm) = mu 11 (mm) := rfl
  have t12_mm : mu 12 (mm) = mu 12 (mm) := rfl
  have t13_mm : mu 13 (mm) = mu 13 (mm) := rfl
  have t14_mm : mu 14 (mm) = mu 14 (mm) := rfl
  have t15_mm : mu 15 (mm) = mu 15 (mm) := rfl
  have t30_ff : mu 30 (ff) = mu 30 (ff) := rfl
  have t38_0 : mu 38 (0) = mu 38 (0) := rfl
  refine lv_aload_n hx hb dX4_takeFlow_0 rfl (lv_at hl 0 rfl) ?_
  refine g_get (C := RX4) (T := TX4) (N := 43) (ci := 6) (v := .ref (b 28)) hx hb hts hi6 hown hK hW fM rfl 28 (by decide) (hts (.fieldLink RX4 84 "LongTransferModel" "of" "[I") (by decide +kernel)) (fun _ h9 => h9) rfl dX4_takeFlow_1 ?_
  refine lv_iload_n hx hb dX4_takeFlow_4 rfl (lv_at hl 1 rfl) ?_
  refine g_iald hx hb hK hW f28_ (by omega) (by omega) (by omega) dX4_takeFlow_5 ?_
  rw [show (mu 28) (ff) = mm by omega]
  refine lv_istore_n (lv' := [(2, .int (iZ (mm))), (0, .ref (b 0)), (1, .int (iZ (ff)))]) hx hb dX4_takeFlow_6 rfl hl (by decide) rfl (fun ls hl => ?_)
  refine lv_aload_n hx hb dX4_takeFlow_7 rfl (lv_at hl 1 rfl) ?_
  refine g_get (C := RX4) (T := TX4) (N := 43) (ci := 6) (v := .ref (b 7)) hx hb hts hi6 hown hK hW fM rfl 7 (by decide) (hts (.fieldLink RX4 22 "LongTransferModel" "state" "[I") (by decide +kernel)) (fun _ h9 => h9) rfl dX4_takeFlow_8 ?_
  refine lv_iload_n hx hb dX4_takeFlow_11 rfl (lv_at hl 0 rfl) ?_
  refine g_iald hx hb hK hW f7_ (by omega) (by omega) (by omega) dX4_takeFlow_12 ?_
  refine z_iconst hx hb dX4_takeFlow_13 ?_
  refine z_icmp_eq (tgt := 24) hx hb dX4_takeFlow_14 (by decide) (by omega) (by omega) (fun c_14 => ?_) (fun c_14 => ?_)
  · have q8 := n1u () (by omega)
    have qj := hJmu () (by omega)
    have q18 := n1v () (by omega)
    have hgo : sRcS g ff = sTkF g mm ff := by unfold sRcS; rw [← hmm, if_pos (by omega)]
    refine lv_aload_n hx hb dX4_takeFlow_24 rfl (lv_at hl 1 rfl) ?_
    refine g_get (C := RX4) (T := TX4) (N := 43) (ci := 6) (v := .ref (b 31)) hx hb hts hi6 hown hK hW fM rfl 31 (by decide) (hts (.fieldLink RX4 93 "LongTransferModel" "apart" "[I") (by decide +kernel)) (fun _ h9 => h9) rfl dX4_takeFlow_25 ?_
    refine lv_iload_n hx hb dX4_takeFlow_28 rfl (lv_at hl 2 rfl) ?_
    refine g_iald hx hb hK hW f31_ (by omega) (by omega) (by omega) dX4_takeFlow_29 ?_
    refine lv_istore_n (lv' := [(3, .int (iZ ((mu 31) (ff)))), (2, .int (iZ (mm))), (0, .ref (b 0)), (1, .int (iZ (ff)))]) hx hb dX4_takeFlow_30 rfl hl (by decide) rfl (fun ls hl => ?_)
    refine lv_aload_n hx hb dX4_takeFlow_31 rfl (lv_at hl 2 rfl) ?_
    refine g_get (C := RX4) (T := TX4) (N := 43) (ci := 6) (v := .ref (b 29)) hx hb hts hi6 hown hK hW fM rfl 29 (by decide) (hts (.fieldLink RX4 87 "LongTransferModel" "number" "[I") (by decide +kernel)) (fun _ h9 => h9) rfl dX4_takeFlow_32 ?_
    refine lv_iload_n hx hb dX4_takeFlow_35 rfl (lv_at hl 3 rfl) ?_
    refine g_iald hx hb hK hW f29_ (by omega) (by omega) (by omega) dX4_takeFlow_36 ?_
    refine z_if_ne (tgt := 121) hx hb dX4_takeFlow_37 (by decide) (by omega) (fun c_37 => ?_) (fun c_37 => ?_)
    · refine lv_aload_n hx hb dX4_takeFlow_121 rfl (lv_at hl 2 rfl) ?_
      refine g_get (C := RX4) (T := TX4) (N := 43) (ci := 6) (v := .ref (b 29)) hx hb hts hi6 hown hK hW fM rfl 29 (by decide) (hts (.fieldLink RX4 87 "LongTransferModel" "number" "[I") (by decide +kernel)) (fun _ h9 => h9) rfl dX4_takeFlow_122 ?_
      refine lv_iload_n hx hb dX4_takeFlow_125 rfl (lv_at hl 3 rfl) ?_
      refine g_iald hx hb hK hW f29_ (by omega) (by omega) (by omega) dX4_takeFlow_126 ?_
      refine z_iconst hx hb dX4_takeFlow_127 ?_
      refine z_icmp_ne (tgt := 173) hx hb dX4_takeFlow_128 (by decide) (by omega) (by omega) (fun c_128 => ?_) (fun c_128 => ?_)
      · refine lv_aload_n hx hb dX4_takeFlow_173 rfl (lv_at hl 2 rfl) ?_
        refine lv_iload_n hx hb dX4_takeFlow_174 rfl (lv_at hl 1 rfl) ?_
        refine z_iconst hx hb dX4_takeFlow_175 ?_
        refine va_callv (va_runV (As := [.int (iZ (mm)), .int (iZ (4))]) (rest := []) ⟨hx, hb, hml, hown, hts⟩ (c_X4_endSender l D dA z en b mu mm 4 (by omega) (by omega) (by omega) (by omega) hE) (cwV 2 hts gX4_takeFlow_X4_endSender rfl rfl rfl (by decide +kernel) ⟨Nat.le_of_ble_eq_true rfl, Nat.le_of_ble_eq_true rfl⟩) ⟨gBl, gRecv hK hW (ci := 6) rfl fM, gPre _ hg hS hW⟩ rfl rfl hl.1 rfl (lv_room (Nat.le_of_ble_eq_true rfl)) dX4_takeFlow_176 ⟨(show 0 + 0 ≤ 0 by omega), (show 0 + 0 ≤ 0 by omega)⟩) hS (fun _ _ h => h) (fun _ h => h) (fun u9 t9 H locs ht9 hvm9 hw9 hB9 hz9 hk9 hS => ?_)
        obtain ⟨en1w, mu1w⟩ := u9
        obtain ⟨hE1w, hF1w, hmu1w⟩ := hw9
        have hW : Wd D (z 0) en1w H := by rw [← ht9]; exact hB9
        dsimp only at hE1w hF1w hmu1w
        have fM : en1w 20 0 = some (b 0, .inr (6, [.int (iZ (mu1w 0 0)), .int (iZ (mu1w 1 0)), .long (lZ (mu1w 2 0)), .int (iZ (mu1w 3 0)), .ref (b 4), .ref (b 5), .ref (b 6), .ref (b 7), .ref (b 8), .ref (b 9), .ref (b 10), .ref (b 11), .ref (b 12), .ref (b 13), .ref (b 14), .ref (b 15), .ref (b 16), .ref (b 17), .ref (b 18), .ref (b 19), .ref (b 20), .ref (b 21), .ref (b 22), .ref (b 23), .ref (b 24), .ref (b 25), .int (iZ (mu1w 26 0)), .ref (b 27), .ref (b 28), .ref (b 29), .ref (b 30), .ref (b 31), .ref (b 32), .ref (b 33), .ref (b 34), .int (iZ (mu1w 35 0)), .int (iZ (mu1w 36 0)), .int (iZ (mu1w 37 0)), .int (iZ (mu1w 38 0)), .int (iZ (mu1w 39 0)), .int (iZ (mu1w 40 0)), .ref (b 41), .ref (b 42)])) := hE1w.1
        have f7_ : en1w 27 0 = some (b 7, aI dA (101) (mu1w 7)) := hE1w.2 7 (by decide)
        have f10_ : en1w 30 0 = some (b 10, aI dA (101) (mu1w 10)) := hE1w.2 10 (by decide)
        have f11_ : en1w 31 0 = some (b 11, aI dA (101) (mu1w 11)) := hE1w.2 11 (by decide)
        have f12_ : en1w 32 0 = some (b 12, aI dA (101) (mu1w 12)) := hE1w.2 12 (by decide)
        have f13_ : en1w 33 0 = some (b 13, aI dA (101) (mu1w 13)) := hE1w.2 13 (by decide)
        have f14_ : en1w 34 0 = some (b 14, aJ dA (101) (mu1w 14)) := hE1w.2 14 (by decide)
        have f15_ : en1w 35 0 = some (b 15, aJ dA (101) (mu1w 15)) := hE1w.2 15 (by decide)
        have f28_ : en1w 48 0 = some (b 28, aI dA (6001) (mu1w 28)) := hE1w.2 28 (by decide)
        have f29_ : en1w 49 0 = some (b 29, aI dA (6001) (mu1w 29)) := hE1w.2 29 (by decide)
        have f30_ : en1w 50 0 = some (b 30, aI dA (6001) (mu1w 30)) := hE1w.2 30 (by decide)
        have f31_ : en1w 51 0 = some (b 31, aI dA (6001) (mu1w 31)) := hE1w.2 31 (by decide)
        replace t2_0 : mu1w 2 (0) = mu 2 (0) := by rw [hmu1w]; exact (v_mes ⟨fun q => absurd q.1 (by decide), fun q => absurd q.1 (by decide)⟩).trans t2_0
        replace t6_mm : mu1w 6 (mm) = mu 6 (mm) := by rw [hmu1w]; exact (v_mes ⟨fun q => absurd q.1 (by decide), fun q => absurd q.1 (by decide)⟩).trans t6_mm
        replace t7_mm : mu1w 7 (mm) = 4 := by rw [hmu1w]; unfold mEndS; rw [u2_n (fun q => absurd q.1 (by decide)), u2_s]
        replace t8_mm : mu1w 8 (mm) = mu 8 (mm) := by rw [hmu1w]; exact (v_mes ⟨fun q => absurd q.1 (by decide), fun q => absurd q.1 (by decide)⟩).trans t8_mm
        replace t9_mm : mu1w 9 (mm) = mu 9 (mm) := by rw [hmu1w]; exact (v_mes ⟨fun q => absurd q.1 (by decide), fun q => absurd q.1 (by decide)⟩).trans t9_mm
        replace t10_mm : mu1w 10 (mm) = mu 10 (mm) := by rw [hmu1w]; exact (v_mes ⟨fun q => absurd q.1 (by decide), fun q => absurd q.1 (by decide)⟩).trans t10_mm
        replace t11_mm : mu1w 11 (mm) = mu 11 (mm) := by rw [hmu1w]; exact (v_mes ⟨fun q => absurd q.1 (by decide), fun q => absurd q.1 (by decide)⟩).trans t11_mm
        replace t12_mm : mu1w 12 (mm) = mu 12 (mm) := by rw [hmu1w]; exact (v_mes ⟨fun q => absurd q.1 (by decide), fun q => absurd q.1 (by decide)⟩).trans t12_mm
        replace t13_mm : mu1w 13 (mm) = mu 13 (mm) := by rw [hmu1w]; exact (v_mes ⟨fun q => absurd q.1 (by decide), fun q => absurd q.1 (by decide)⟩).trans t13_mm
        replace t14_mm : mu1w 14 (mm) = mu 14 (mm) := by rw [hmu1w]; exact (v_mes ⟨fun q => absurd q.1 (by decide), fun q => absurd q.1 (by decide)⟩).trans t14_mm
        replace t15_mm : mu1w 15 (mm) = mu 15 (mm) := by rw [hmu1w]; exact (v_mes ⟨fun q => absurd q.1 (by decide), fun q => absurd q.1 (by decide)⟩).trans t15_mm
        replace t30_ff : mu1w 30 (ff) = mu 30 (ff) := by rw [hmu1w]; exact (v_mes ⟨fun q => absurd q.1 (by decide), fun q => absurd q.1 (by decide)⟩).trans t30_ff
        replace t38_0 : mu1w 38 (0) = mu 38 (0) := by rw [hmu1w]; exact (v_mes ⟨fun q => absurd q.1 (by decide), fun q => absurd q.1 (by decide)⟩).trans t38_0
        refine lv_aload_n hx hb dX4_takeFlow_179 rfl (lv_at hl 2 rfl) ?_
        refine g_get (C := RX4) (T := TX4) (N := 43) (ci := 6) (v := .ref (b 7)) hx hb hts hi6 hown hK hW fM rfl 7 (by decide) (hts (.fieldLink RX4 22 "LongTransferModel" "state" "[I") (by decide +kernel)) (fun _ h9 => h9) rfl dX4_takeFlow_180 ?_
        refine lv_iload_n hx hb dX4_takeFlow_183 rfl (lv_at hl 1 rfl) ?_
        refine g_iald hx hb hK hW f7_ (by omega) (by omega) (by omega) dX4_takeFlow_184 ?_
        rw [t7_mm]
        have hg1 : sTkF g mm ff = sEndS g mm 4 := by unfold sTkF; rw [if_neg (by omega), if_neg (by omega)]
        have hpst : Rl (sRcS g ff) mu1w := by rw [hgo, hg1, hmu1w]; exact rl_es hI hR (by omega) (by omega) (by omega)
        exact W.iret hx hb hr (fun t ht hw => ⟨⟨_, (en1w, mu1w), rfl, ⟨by rw [← hmm, hgo, hg1, v_es12], hE1w, hF1w, hpst⟩, by show Wd _ _ _ t.heap; rw [ht]; exact hW⟩, hS.F ht⟩) hS.2.2 dX4_takeFlow_185
      · refine lv_aload_n hx hb dX4_takeFlow_131 rfl (lv_at hl 2 rfl) ?_
        refine g_get (C := RX4) (T := TX4) (N := 43) (ci := 6) (v := .ref (b 13)) hx hb hts hi6 hown hK hW fM rfl 13 (by decide) (hts (.fieldLink RX4 40 "LongTransferModel" "waits" "[I") (by decide +kernel)) (fun _ h9 => h9) rfl dX4_takeFlow_132 ?_
        refine lv_iload_n hx hb dX4_takeFlow_135 rfl (lv_at hl 1 rfl) ?_
        refine lv_dup2_11 hx hb dX4_takeFlow_136 rfl rfl ?_
        refine g_iald hx hb hK hW f13_ (by omega) (by omega) (by omega) dX4_takeFlow_137 ?_
        refine z_iconst hx hb dX4_takeFlow_138 ?_
        refine z_iadd hx hb dX4_takeFlow_139 ?_
        refine g_iast (x := (mu 13 (mm)) + 1) hx hb hK hW hS f13_ (by omega) (by omega) (by omega) dX4_takeFlow_140 (fun H locs hW hS => ?_)
        obtain ⟨en2w, hen2w⟩ : ∃ x : en_T, x = e2 en 33 0 (some (b 13, aI dA (101) (uF (mu 13) (mm) ((mu 13 (mm)) + 1)))) := ⟨_, rfl⟩
        rw [← hen2w] at hW
        obtain ⟨mu2w, hmu2w⟩ : ∃ x : Mu, x = u2 mu 13 (mm) ((mu 13 (mm)) + 1) := ⟨_, rfl⟩
        have hE2w : EM dA b mu2w en2w := by rw [hen2w, hmu2w]; exact em_w hE (k0 := 13) (j := mm) (v := (mu 13 (mm)) + 1) (by decide)
        have hF2w : FM en en2w := fun k i q => by rw [hen2w]; exact e2_k (fun w => q (by rw [w]; decide))
        replace t2_0 : mu2w 2 (0) = mu 2 (0) := by rw [hmu2w]; exact (u2_n (fun q => absurd q.1 (by decide))).trans t2_0
        replace t6_mm : mu2w 6 (mm) = mu 6 (mm) := by rw [hmu2w]; exact (u2_n (fun q => absurd q.1 (by decide))).trans t6_mm
        replace t7_mm : mu2w 7 (mm) = mu 7 (mm) := by rw [hmu2w]; exact (u2_n (fun q => absurd q.1 (by decide))).trans t7_mm
        replace t8_mm : mu2w 8 (mm) = mu 8 (mm) := by rw [hmu2w]; exact (u2_n (fun q => absurd q.1 (by decide))).trans t8_mm
        replace t9_mm : mu2w 9 (mm) = mu 9 (mm) := by rw [hmu2w]; exact (u2_n (fun q => absurd q.1 (by decide))).trans t9_mm
        replace t10_mm : mu2w 10 (mm) = mu 10 (mm) := by rw [hmu2w]; exact (u2_n (fun q => absurd q.1 (by decide))).trans t10_mm
        replace t11_mm : mu2w 11 (mm) = mu 11 (mm) := by rw [hmu2w]; exact (u2_n (fun q => absurd q.1 (by decide))).trans t11_mm
        replace t12_mm : mu2w 12 (mm) = mu 12 (mm) := by rw [hmu2w]; exact (u2_n (fun q => absurd q.1 (by decide))).trans t12_mm
        replace t13_mm : mu2w 13 (mm) = (mu 13 (mm)) + 1 := by rw [hmu2w]; exact u2_s _ _ _ _
        replace t14_mm : mu2w 14 (mm) = mu 14 (mm) := by rw [hmu2w]; exact (u2_n (fun q => absurd q.1 (by decide))).trans t14_mm
        replace t15_mm : mu2w 15 (mm) = mu 15 (mm) := by rw [hmu2w]; exact (u2_n (fun q => absurd q.1 (by decide))).trans t15_mm
        replace t30_ff : mu2w 30 (ff) = mu 30 (ff) := by rw [hmu2w]; exact (u2_n (fun q => absurd q.1 (by decide))).trans t30_ff
        replace t38_0 : mu2w 38 (0) = mu 38 (0) := by rw [hmu2w]; exact (u2_n (fun q => absurd q.1 (by decide))).trans t38_0
        have fM : en2w 20 0 = some (b 0, .inr (6, [.int (iZ (mu2w 0 0)), .int (iZ (mu2w 1 0)), .long (lZ (mu2w 2 0)), .int (iZ (mu2w 3 0)), .ref (b 4), .ref (b 5), .ref (b 6), .ref (b 7), .ref (b 8), .ref (b 9), .ref (b 10), .ref (b 11), .ref (b 12), .ref (b 13), .ref (b 14), .ref (b 15), .ref (b 16), .ref (b 17), .ref (b 18), .ref (b 19), .ref (b 20), .ref (b 21), .ref (b 22), .ref (b 23), .ref (b 24), .ref (b 25), .int (iZ (mu2w 26 0)), .ref (b 27), .ref (b 28), .ref (b 29), .ref (b 30), .ref (b 31), .ref (b 32), .ref (b 33), .ref (b 34), .int (iZ (mu2w 35 0)), .int (iZ (mu2w 36 0)), .int (iZ (mu2w 37 0)), .int (iZ (mu2w 38 0)), .int (iZ (mu2w 39 0)), .int (iZ (mu2w 40 0)), .ref (b 41), .ref (b 42)])) := hE2w.1
        have f7_ : en2w 27 0 = some (b 7, aI dA (101) (mu2w 7)) := hE2w.2 7 (by decide)
        have f10_ : en2w 30 0 = some (b 10, aI dA (101) (mu2w 10)) := hE2w.2 10 (by decide)
        have f11_ : en2w 31 0 = some (b 11, aI dA (101) (mu2w 11)) := hE2w.2 11 (by decide)
        have f12_ : en2w 32 0 = some (b 12, aI dA (101) (mu2w 12)) := hE2w.2 12 (by decide)
        have f13_ : en2w 33 0 = some (b 13, aI dA (101) (mu2w 13)) := hE2w.2 13 (by decide)
        have f14_ : en2w 34 0 = some (b 14, aJ dA (101) (mu2w 14)) := hE2w.2 14 (by decide)
        have f15_ : en2w 35 0 = some (b 15, aJ dA (101) (mu2w 15)) := hE2w.2 15 (by decide)
        have f28_ : en2w 48 0 = some (b 28, aI dA (6001) (mu2w 28)) := hE2w.2 28 (by decide)
        have f29_ : en2w 49 0 = some (b 29, aI dA (6001) (mu2w 29)) := hE2w.2 29 (by decide)
        have f30_ : en2w 50 0 = some (b 30, aI dA (6001) (mu2w 30)) := hE2w.2 30 (by decide)
        have f31_ : en2w 51 0 = some (b 31, aI dA (6001) (mu2w 31)) := hE2w.2 31 (by decide)
        refine lv_aload_n hx hb dX4_takeFlow_141 rfl (lv_at hl 2 rfl) ?_
        refine g_get (C := RX4) (T := TX4) (N := 43) (ci := 6) (v := .ref (b 14)) hx hb hts hi6 hown hK hW fM rfl 14 (by decide) (hts (.fieldLink RX4 43 "LongTransferModel" "since" "[J") (by decide +kernel)) (fun _ h9 => h9) rfl dX4_takeFlow_142 ?_
        refine lv_iload_n hx hb dX4_takeFlow_145 rfl (lv_at hl 1 rfl) ?_
        refine lv_aload_n hx hb dX4_takeFlow_146 rfl (lv_at hl 2 rfl) ?_
        refine g_get (C := RX4) (T := TX4) (N := 43) (ci := 6) (v := .long (lZ (mu2w 2 0))) hx hb hts hi6 hown hK hW fM rfl 2 (by decide) (hts (.fieldLink RX4 137 "LongTransferModel" "now" "J") (by decide +kernel)) (fun _ h9 => h9) rfl dX4_takeFlow_147 ?_
        rw [t2_0]
        refine g_last (x := mu 2 (0)) hx hb hK hW hS f14_ (by omega) (by omega) (by omega) dX4_takeFlow_150 (fun H locs hW hS => ?_)
        obtain ⟨en3w, hen3w⟩ : ∃ x : en_T, x = e2 en2w 34 0 (some (b 14, aJ dA (101) (uF (mu2w 14) (mm) (mu 2 (0))))) := ⟨_, rfl⟩
        rw [← hen3w] at hW
        obtain ⟨mu3w, hmu3w⟩ : ∃ x : Mu, x = u2 mu2w 14 (mm) (mu 2 (0)) := ⟨_, rfl⟩
        have hE3w : EM dA b mu3w en3w := by rw [hen3w, hmu3w]; exact em_w hE2w (k0 := 14) (j := mm) (v := mu 2 (0)) (by decide)
        have hF3w : FM en2w en3w := fun k i q => by rw [hen3w]; exact e2_k (fun w => q (by rw [w]; decide))
        have hF3w := FM.tr hF2w hF3w
        replace t2_0 : mu3w 2 (0) = mu 2 (0) := by rw [hmu3w]; exact (u2_n (fun q => absurd q.1 (by decide))).trans t2_0
        replace t6_mm : mu3w 6 (mm) = mu 6 (mm) := by rw [hmu3w]; exact (u2_n (fun q => absurd q.1 (by decide))).trans t6_mm
        replace t7_mm : mu3w 7 (mm) = mu 7 (mm) := by rw [hmu3w]; exact (u2_n (fun q => absurd q.1 (by decide))).trans t7_mm
        replace t8_mm : mu3w 8 (mm) = mu 8 (mm) := by rw [hmu3w]; exact (u2_n (fun q => absurd q.1 (by decide))).trans t8_mm
        replace t9_mm : mu3w 9 (mm) = mu 9 (mm) := by rw [hmu3w]; exact (u2_n (fun q => absurd q.1 (by decide))).trans t9_mm
        replace t10_mm : mu3w 10 (mm) = mu 10 (mm) := by rw [hmu3w]; exact (u2_n (fun q => absurd q.1 (by decide))).trans t10_mm
        replace t11_mm : mu3w 11 (mm) = mu 11 (mm) := by rw [hmu3w]; exact (u2_n (fun q => absurd q.1 (by decide))).trans t11_mm
        replace t12_mm : mu3w 12 (mm) = mu 12 (mm) := by rw [hmu3w]; exact (u2_n (fun q => absurd q.1 (by decide))).trans t12_mm
        replace t13_mm : mu3w 13 (mm) = (mu 13 (mm)) + 1 := by rw [hmu3w]; exact (u2_n (fun q => absurd q.1 (by decide))).trans t13_mm
        replace t14_mm : mu3w 14 (mm) = mu 2 (0) := by rw [hmu3w]; exact u2_s _ _ _ _
        replace t15_mm : mu3w 15 (mm) = mu 15 (mm) := by rw [hmu3w]; exact (u2_n (fun q => absurd q.1 (by decide))).trans t15_mm
        replace t30_ff : mu3w 30 (ff) = mu 30 (ff) := by rw [hmu3w]; exact (u2_n (fun q => absurd q.1 (by decide))).trans t30_ff
        replace t38_0 : mu3w 38 (0) = mu 38 (0) := by rw [hmu3w]; exact (u2_n (fun q => absurd q.1 (by decide))).trans t38_0
        have fM : en3w 20 0 = some (b 0, .inr (6, [.int (iZ (mu3w 0 0)), .int (iZ (mu3w 1 0)), .long (lZ (mu3w 2 0)), .int (iZ (mu3w 3 0)), .ref (b 4), .ref (b 5), .ref (b 6), .ref (b 7), .ref (b 8), .ref (b 9), .ref (b 10), .ref (b 11), .ref (b 12), .ref (b 13), .ref (b 14), .ref (b 15), .ref (b 16), .ref (b 17), .ref (b 18), .ref (b 19), .ref (b 20), .ref (b 21), .ref (b 22), .ref (b 23), .ref (b 24), .ref (b 25), .int (iZ (mu3w 26 0)), .ref (b 27), .ref (b 28), .ref (b 29), .ref (b 30), .ref (b 31), .ref (b 32), .ref (b 33), .ref (b 34), .int (iZ (mu3w 35 0)), .int (iZ (mu3w 36 0)), .int (iZ (mu3w 37 0)), .int (iZ (mu3w 38 0)), .int (iZ (mu3w 39 0)), .int (iZ (mu3w 40 0)), .ref (b 41), .ref (b 42)])) := hE3w.1
        have f7_ : en3w 27 0 = some (b 7, aI dA (101) (mu3w 7)) := hE3w.2 7 (by decide)
        have f10_ : en3w 30 0 = some (b 10, aI dA (101) (mu3w 10)) := hE3w.2 10 (by decide)
        have f11_ : en3w 31 0 = some (b 11, aI dA (101) (mu3w 11)) := hE3w.2 11 (by decide)
        have f12_ : en3w 32 0 = some (b 12, aI dA (101) (mu3w 12)) := hE3w.2 12 (by decide)
        have f13_ : en3w 33 0 = some (b 13, aI dA (101) (mu3w 13)) := hE3w.2 13 (by decide)
        have f14_ : en3w 34 0 = some (b 14, aJ dA (101) (mu3w 14)) := hE3w.2 14 (by decide)
        have f15_ : en3w 35 0 = some (b 15, aJ dA (101) (mu3w 15)) := hE3w.2 15 (by decide)
        have f28_ : en3w 48 0 = some (b 28, aI dA (6001) (mu3w 28)) := hE3w.2 28 (by decide)
        have f29_ : en3w 49 0 = some (b 29, aI dA (6001) (mu3w 29)) := hE3w.2 29 (by decide)
        have f30_ : en3w 50 0 = some (b 30, aI dA (6001) (mu3w 30)) := hE3w.2 30 (by decide)
        have f31_ : en3w 51 0 = some (b 31, aI dA (6001) (mu3w 31)) := hE3w.2 31 (by decide)
        refine lv_aload_n hx hb dX4_takeFlow_151 rfl (lv_at hl 2 rfl) ?_
        refine g_get (C := RX4) (T := TX4) (N := 43) (ci := 6) (v := .ref (b 13)) hx hb hts hi6 hown hK hW fM rfl 13 (by decide) (hts (.fieldLink RX4 40 "LongTransferModel" "waits" "[I") (by decide +kernel)) (fun _ h9 => h9) rfl dX4_takeFlow_152 ?_
        refine lv_iload_n hx hb dX4_takeFlow_155 rfl (lv_at hl 1 rfl) ?_
        refine g_iald hx hb hK hW f13_ (by omega) (by omega) (by omega) dX4_takeFlow_156 ?_
        rw [t13_mm]
        refine lv_aload_n hx hb dX4_takeFlow_157 rfl (lv_at hl 2 rfl) ?_
        refine g_get (C := RX4) (T := TX4) (N := 43) (ci := 6) (v := .int (iZ (mu3w 38 0))) hx hb hts hi6 hown hK hW fM rfl 38 (by decide) (hts (.fieldLink RX4 106 "LongTransferModel" "limit" "I") (by decide +kernel)) (fun _ h9 => h9) rfl dX4_takeFlow_158 ?_
        rw [t38_0]
        refine z_icmp_le (tgt := 179) hx hb dX4_takeFlow_161 (by decide) (by omega) (by omega) (fun c_161 => ?_) (fun c_161 => ?_)
        · refine lv_aload_n hx hb dX4_takeFlow_179 rfl (lv_at hl 2 rfl) ?_
          refine g_get (C := RX4) (T := TX4) (N := 43) (ci := 6) (v := .ref (b 7)) hx hb hts hi6 hown hK hW fM rfl 7 (by decide) (hts (.fieldLink RX4 22 "LongTransferModel" "state" "[I") (by decide +kernel)) (fun _ h9 => h9) rfl dX4_takeFlow_180 ?_
          refine lv_iload_n hx hb dX4_takeFlow_183 rfl (lv_at hl 1 rfl) ?_
          refine g_iald hx hb hK hW f7_ (by omega) (by omega) (by omega) dX4_takeFlow_184 ?_
          rw [t7_mm]
          have hg1 : sTkF g mm ff = sTkW g mm := by unfold sTkF; rw [if_neg (by omega), if_pos (by omega)]
          have hwt : sWt g mm 15 mm 0 = g 15 mm 0 + 1 := wr_s _ _ _ _
          have hwl : sWt g mm 0 12 0 = g 0 12 0 := wr_n (by omega)
          have hg2 : sTkW g mm = sAwait (sWt g mm) mm := if_pos (by omega)
          have v12 : sAwait (sWt g mm) mm 12 mm 0 = 1 := by simp [sAwait, sWt, wr]
          have v15 : sAwait (sWt g mm) mm 15 mm 0 = g 15 mm 0 + 1 := by simp [sAwait, sWt, wr]
          have v18 : sAwait (sWt g mm) mm 18 mm 0 = g 0 7 0 + 1000 := by simp [sAwait, sWt, wr]
          have v13 : sAwait (sWt g mm) mm 13 mm 0 = g 13 mm 0 := by simp [sAwait, sWt, wr]
          have v14 : sAwait (sWt g mm) mm 14 mm 0 = g 14 mm 0 := by simp [sAwait, sWt, wr]
          have v8 : sAwait (sWt g mm) mm 0 8 0 = g 0 8 0 := by simp [sAwait, sWt, wr]
          have hN : RN (sAwait (sWt g mm) mm) mu3w mm := RN_1 (by rw [v8, t6_mm]; exact hN6 ()) (by omega) v12 (by omega) (by omega) (by omega) (by omega) (by omega) (by omega)
          have hpst : Rl (sRcS g ff) mu3w := by rw [hgo, hg1, hg2]; exact rl_2 hI hR (m := mm) (by omega) (fun t i j q => by rw [v_aw (by omega)]; unfold sWt; exact wr_n (by omega)) (fun j q => by rw [v8]) (fun t j q => by rw [hmu3w, u2_n (by omega), hmu2w, u2_n (by omega)]) hN
          exact W.iret hx hb hr (fun t ht hw => ⟨⟨_, (en3w, mu3w), rfl, ⟨by rw [← hmm, hgo, hg1, hg2, v12]; exact congrArg iZ (by omega), hE3w, hF3w, hpst⟩, by show Wd _ _ _ t.heap; rw [ht]; exact hW⟩, hS.F ht⟩) hS.2.2 dX4_takeFlow_185
        · refine lv_aload_n hx hb dX4_takeFlow_164 rfl (lv_at hl 2 rfl) ?_
          refine lv_iload_n hx hb dX4_takeFlow_165 rfl (lv_at hl 1 rfl) ?_
          refine z_iconst hx hb dX4_takeFlow_166 ?_
          refine va_callv (va_runV (As := [.int (iZ (mm)), .int (iZ (5))]) (rest := []) ⟨hx, hb, hml, hown, hts⟩ (c_X4_endSender l D dA z en3w b mu3w mm 5 (by omega) (by omega) (by omega) (by omega) hE3w) (cwV 2 hts gX4_takeFlow_X4_endSender rfl rfl rfl (by decide +kernel) ⟨Nat.le_of_ble_eq_true rfl, Nat.le_of_ble_eq_true rfl⟩) ⟨gBl, gRecv hK hW (ci := 6) rfl fM, gPre _ hg hS hW⟩ rfl rfl hl.1 rfl (lv_room (Nat.le_of_ble_eq_true rfl)) dX4_takeFlow_167 ⟨(show 0 + 0 ≤ 0 by omega), (show 0 + 0 ≤ 0 by omega)⟩) hS (fun _ _ h => h) (fun _ h => h) (fun u9 t9 H locs ht9 hvm9 hw9 hB9 hz9 hk9 hS => ?_)
          obtain ⟨en4w, mu4w⟩ := u9
          obtain ⟨hE4w, hF4w, hmu4w⟩ := hw9
          have hW : Wd D (z 0) en4w H := by rw [← ht9]; exact hB9
          dsimp only at hE4w hF4w hmu4w
          have hF4w := FM.tr hF3w hF4w
          have fM : en4w 20 0 = some (b 0, .inr (6, [.int (iZ (mu4w 0 0)), .int (iZ (mu4w 1 0)), .long (lZ (mu4w 2 0)), .int (iZ (mu4w 3 0)), .ref (b 4), .ref (b 5), .ref (b 6), .ref (b 7), .ref (b 8), .ref (b 9), .ref (b 10), .ref (b 11), .ref (b 12), .ref (b 13), .ref (b 14), .ref (b 15), .ref (b 16), .ref (b 17), .ref (b 18), .ref (b 19), .ref (b 20), .ref (b 21), .ref (b 22), .ref (b 23), .ref (b 24), .ref (b 25), .int (iZ (mu4w 26 0)), .ref (b 27), .ref (b 28), .ref (b 29), .ref (b 30), .ref (b 31), .ref (b 32), .ref (b 33), .ref (b 34), .int (iZ (mu4w 35 0)), .int (iZ (mu4w 36 0)), .int (iZ (mu4w 37 0)), .int (iZ (mu4w 38 0)), .int (iZ (mu4w 39 0)), .int (iZ (mu4w 40 0)), .ref (b 41), .ref (b 42)])) := hE4w.1
          have f7_ : en4w 27 0 = some (b 7, aI dA (101) (mu4w 7)) := hE4w.2 7 (by decide)
          have f10_ : en4w 30 0 = some (b 10, aI dA (101) (mu4w 10)) := hE4w.2 10 (by decide)
          have f11_ : en4w 31 0 = some (b 11, aI dA (101) (mu4w 11)) := hE4w.2 11 (by decide)
          have f12_ : en4w 32 0 = some (b 12, aI dA (101) (mu4w 12)) := hE4w.2 12 (by decide)
          have f13_ : en4w 33 0 = some (b 13, aI dA (101) (mu4w 13)) := hE4w.2 13 (by decide)
          have f14_ : en4w 34 0 = some (b 14, aJ dA (101) (mu4w 14)) := hE4w.2 14 (by decide)
          have f15_ : en4w 35 0 = some (b 15, aJ dA (101) (mu4w 15)) := hE4w.2 15 (by decide)
          have f28_ : en4w 48 0 = some (b 28, aI dA (6001) (mu4w 28)) := hE4w.2 28 (by decide)
          have f29_ : en4w 49 0 = some (b 29, aI dA (6001) (mu4w 29)) := hE4w.2 29 (by decide)
          have f30_ : en4w 50 0 = some (b 30, aI dA (6001) (mu4w 30)) := hE4w.2 30 (by decide)
          have f31_ : en4w 51 0 = some (b 31, aI dA (6001) (mu4w 31)) := hE4w.2 31 (by decide)
          replace t2_0 : mu4w 2 (0) = mu 2 (0) := by rw [hmu4w]; exact (v_mes ⟨fun q => absurd q.1 (by decide), fun q => absurd q.1 (by decide)⟩).trans t2_0
          replace t6_mm : mu4w 6 (mm) = mu 6 (mm) := by rw [hmu4w]; exact (v_mes ⟨fun q => absurd q.1 (by decide), fun q => absurd q.1 (by decide)⟩).trans t6_mm
          replace t7_mm : mu4w 7 (mm) = 4 := by rw [hmu4w]; unfold mEndS; rw [u2_n (fun q => absurd q.1 (by decide)), u2_s]
          replace t8_mm : mu4w 8 (mm) = mu 8 (mm) := by rw [hmu4w]; exact (v_mes ⟨fun q => absurd q.1 (by decide), fun q => absurd q.1 (by decide)⟩).trans t8_mm
          replace t9_mm : mu4w 9 (mm) = mu 9 (mm) := by rw [hmu4w]; exact (v_mes ⟨fun q => absurd q.1 (by decide), fun q => absurd q.1 (by decide)⟩).trans t9_mm
          replace t10_mm : mu4w 10 (mm) = mu 10 (mm) := by rw [hmu4w]; exact (v_mes ⟨fun q => absurd q.1 (by decide), fun q => absurd q.1 (by decide)⟩).trans t10_mm
          replace t11_mm : mu4w 11 (mm) = mu 11 (mm) := by rw [hmu4w]; exact (v_mes ⟨fun q => absurd q.1 (by decide), fun q => absurd q.1 (by decide)⟩).trans t11_mm
          replace t12_mm : mu4w 12 (mm) = mu 12 (mm) := by rw [hmu4w]; exact (v_mes ⟨fun q => absurd q.1 (by decide), fun q => absurd q.1 (by decide)⟩).trans t12_mm
          replace t13_mm : mu4w 13 (mm) = (mu 13 (mm)) + 1 := by rw [hmu4w]; exact (v_mes ⟨fun q => absurd q.1 (by decide), fun q => absurd q.1 (by decide)⟩).trans t13_mm
          replace t14_mm : mu4w 14 (mm) = mu 2 (0) := by rw [hmu4w]; exact (v_mes ⟨fun q => absurd q.1 (by decide), fun q => absurd q.1 (by decide)⟩).trans t14_mm
          replace t15_mm : mu4w 15 (mm) = mu 15 (mm) := by rw [hmu4w]; exact (v_mes ⟨fun q => absurd q.1 (by decide), fun q => absurd q.1 (by decide)⟩).trans t15_mm
          replace t30_ff : mu4w 30 (ff) = mu 30 (ff) := by rw [hmu4w]; exact (v_mes ⟨fun q => absurd q.1 (by decide), fun q => absurd q.1 (by decide)⟩).trans t30_ff
          replace t38_0 : mu4w 38 (0) = mu 38 (0) := by rw [hmu4w]; exact (v_mes ⟨fun q => absurd q.1 (by decide), fun q => absurd q.1 (by decide)⟩).trans t38_0
          refine lv_goto (tgt := 179) hx hb dX4_takeFlow_170 (by decide) ?_
          refine lv_aload_n hx hb dX4_takeFlow_179 rfl (lv_at hl 2 rfl) ?_
          refine g_get (C := RX4) (T := TX4) (N := 43) (ci := 6) (v := .ref (b 7)) hx hb hts hi6 hown hK hW fM rfl 7 (by decide) (hts (.fieldLink RX4 22 "LongTransferModel" "state" "[I") (by decide +kernel)) (fun _ h9 => h9) rfl dX4_takeFlow_180 ?_
          refine lv_iload_n hx hb dX4_takeFlow_183 rfl (lv_at hl 1 rfl) ?_
          refine g_iald hx hb hK hW f7_ (by omega) (by omega) (by omega) dX4_takeFlow_184 ?_
          rw [t7_mm]
          have hg1 : sTkF g mm ff = sTkW g mm := by unfold sTkF; rw [if_neg (by omega), if_pos (by omega)]
          have hwt : sWt g mm 15 mm 0 = g 15 mm 0 + 1 := wr_s _ _ _ _
          have hwl : sWt g mm 0 12 0 = g 0 12 0 := wr_n (by omega)
          have hg2 : sTkW g mm = sEndS (sWt g mm) mm 5 := if_neg (by omega)
          have i1 : IB (sWt g mm) := ib_wt hI (by omega) (by omega) (by omega)
          have v12 : sWt g mm 12 mm 0 = g 12 mm 0 := wr_n (by omega)
          have v13 : sWt g mm 13 mm 0 = g 13 mm 0 := wr_n (by omega)
          have v14 : sWt g mm 14 mm 0 = g 14 mm 0 := wr_n (by omega)
          have v18 : sWt g mm 18 mm 0 = g 18 mm 0 := wr_n (by omega)
          have v8 : sWt g mm 0 8 0 = g 0 8 0 := wr_n (by omega)
          have d13 : mu2w 13 mm = mu 13 mm + 1 := by rw [hmu2w, u2_s]
          have d6 : mu2w 6 mm = mu 6 mm := by rw [hmu2w]; exact u2_n (fun q => absurd q.1 (by decide))
          have d7 : mu2w 7 mm = mu 7 mm := by rw [hmu2w]; exact u2_n (fun q => absurd q.1 (by decide))
          have d8 : mu2w 8 mm = mu 8 mm := by rw [hmu2w]; exact u2_n (fun q => absurd q.1 (by decide))
          have d9 : mu2w 9 mm = mu 9 mm := by rw [hmu2w]; exact u2_n (fun q => absurd q.1 (by decide))
          have d14 : mu2w 14 mm = mu 14 mm := by rw [hmu2w]; exact u2_n (fun q => absurd q.1 (by decide))
          have hN : RN (sWt g mm) mu2w mm := RN_1 (by rw [v8, d6]; exact hN6 ()) (by omega) (by omega) (by omega) (by omega) (by omega) (by omega) (by omega) (by omega)
          have hR1 : Rl (sWt g mm) mu2w := rl_2 hI hR (m := mm) (by omega) (fun t i j q => by unfold sWt; exact wr_n (by omega)) (fun j q => by rw [v8]) (fun t j q => by rw [hmu2w]; exact u2_n (by omega)) hN
          have hpst : Rl (sRcS g ff) mu4w := by rw [hgo, hg1, hg2, hmu4w]; exact rl_es1 i1 hR1 (by omega) (by show mm ≤ g 1 0 0; omega) (by omega) (fun t j q => by rw [hmu3w]; exact u2_n (by omega))
          exact W.iret hx hb hr (fun t ht hw => ⟨⟨_, (en4w, mu4w), rfl, ⟨by rw [← hmm, hgo, hg1, hg2, v_es12], hE4w, hF4w, hpst⟩, by show Wd _ _ _ t.heap; rw [ht]; exact hW⟩, hS.F ht⟩) hS.2.2 dX4_takeFlow_185
    · refine lv_aload_n hx hb dX4_takeFlow_40 rfl (lv_at hl 2 rfl) ?_
      refine g_get (C := RX4) (T := TX4) (N := 43) (ci := 6) (v := .ref (b 7)) hx hb hts hi6 hown hK hW fM rfl 7 (by decide) (hts (.fieldLink RX4 22 "LongTransferModel" "state" "[I") (by decide +kernel)) (fun _ h9 => h9) rfl dX4_takeFlow_41 ?_
      refine lv_iload_n hx hb dX4_takeFlow_44 rfl (lv_at hl 1 rfl) ?_
      refine z_iconst hx hb dX4_takeFlow_45 ?_
      refine g_iast (x := 2) hx hb hK hW hS f7_ (by omega) (by omega) (by omega) dX4_takeFlow_46 (fun H locs hW hS => ?_)
      obtain ⟨en5w, hen5w⟩ : ∃ x : en_T, x = e2 en 27 0 (some (b 7, aI dA (101) (uF (mu 7) (mm) (2)))) := ⟨_, rfl⟩
      rw [← hen5w] at hW
      obtain ⟨mu5w, hmu5w⟩ : ∃ x : Mu, x = u2 mu 7 (mm) (2) := ⟨_, rfl⟩
      have hE5w : EM dA b mu5w en5w := by rw [hen5w, hmu5w]; exact em_w hE (k0 := 7) (j := mm) (v := 2) (by decide)
      have hF5w : FM en en5w := fun k i q => by rw [hen5w]; exact e2_k (fun w => q (by rw [w]; decide))
      replace t2_0 : mu5w 2 (0) = mu 2 (0) := by rw [hmu5w]; exact (u2_n (fun q => absurd q.1 (by decide))).trans t2_0
      replace t6_mm : mu5w 6 (mm) = mu 6 (mm) := by rw [hmu5w]; exact (u2_n (fun q => absurd q.1 (by decide))).trans t6_mm
      replace t7_mm : mu5w 7 (mm) = 2 := by rw [hmu5w]; exact u2_s _ _ _ _
      replace t8_mm : mu5w 8 (mm) = mu 8 (mm) := by rw [hmu5w]; exact (u2_n (fun q => absurd q.1 (by decide))).trans t8_mm
      replace t9_mm : mu5w 9 (mm) = mu 9 (mm) := by rw [hmu5w]; exact (u2_n (fun q => absurd q.1 (by decide))).trans t9_mm
      replace t10_mm : mu5w 10 (mm) = mu 10 (mm) := by rw [hmu5w]; exact (u2_n (fun q => absurd q.1 (by decide))).trans t10_mm
      replace t11_mm : mu5w 11 (mm) = mu 11 (mm) := by rw [hmu5w]; exact (u2_n (fun q => absurd q.1 (by decide))).trans t11_mm
      replace t12_mm : mu5w 12 (mm) = mu 12 (mm) := by rw [hmu5w]; exact (u2_n (fun q => absurd q.1 (by decide))).trans t12_mm
      replace t13_mm : mu5w 13 (mm) = mu 13 (mm) := by rw [hmu5w]; exact (u2_n (fun q => absurd q.1 (by decide))).trans t13_mm
      replace t14_mm : mu5w 14 (mm) = mu 14 (mm) := by rw [hmu5w]; exact (u2_n (fun q => absurd q.1 (by decide))).trans t14_mm
      replace t15_mm : mu5w 15 (mm) = mu 15 (mm) := by rw [hmu5w]; exact (u2_n (fun q => absurd q.1 (by decide))).trans t15_mm
      replace t30_ff : mu5w 30 (ff) = mu 30 (ff) := by rw [hmu5w]; exact (u2_n (fun q => absurd q.1 (by decide))).trans t30_ff
      replace t38_0 : mu5w 38 (0) = mu 38 (0) := by rw [hmu5w]; exact (u2_n (fun q => absurd q.1 (by decide))).trans t38_0
      have fM : en5w 20 0 = some (b 0, .inr (6, [.int (iZ (mu5w 0 0)), .int (iZ (mu5w 1 0)), .long (lZ (mu5w 2 0)), .int (iZ (mu5w 3 0)), .ref (b 4), .ref (b 5), .ref (b 6), .ref (b 7), .ref (b 8), .ref (b 9), .ref (b 10), .ref (b 11), .ref (b 12), .ref (b 13), .ref (b 14), .ref (b 15), .ref (b 16), .ref (b 17), .ref (b 18), .ref (b 19), .ref (b 20), .ref (b 21), .ref (b 22), .ref (b 23), .ref (b 24), .ref (b 25), .int (iZ (mu5w 26 0)), .ref (b 27), .ref (b 28), .ref (b 29), .ref (b 30), .ref (b 31), .ref (b 32), .ref (b 33), .ref (b 34), .int (iZ (mu5w 35 0)), .int (iZ (mu5w 36 0)), .int (iZ (mu5w 37 0)), .int (iZ (mu5w 38 0)), .int (iZ (mu5w 39 0)), .int (iZ (mu5w 40 0)), .ref (b 41), .ref (b 42)])) := hE5w.1
      have f7_ : en5w 27 0 = some (b 7, aI dA (101) (mu5w 7)) := hE5w.2 7 (by decide)
      have f10_ : en5w 30 0 = some (b 10, aI dA (101) (mu5w 10)) := hE5w.2 10 (by decide)
      have f11_ : en5w 31 0 = some (b 11, aI dA (101) (mu5w 11)) := hE5w.2 11 (by decide)
      have f12_ : en5w 32 0 = some (b 12, aI dA (101) (mu5w 12)) := hE5w.2 12 (by decide)
      have f13_ : en5w 33 0 = some (b 13, aI dA (101) (mu5w 13)) := hE5w.2 13 (by decide)
      have f14_ : en5w 34 0 = some (b 14, aJ dA (101) (mu5w 14)) := hE5w.2 14 (by decide)
      have f15_ : en5w 35 0 = some (b 15, aJ dA (101) (mu5w 15)) := hE5w.2 15 (by decide)
      have f28_ : en5w 48 0 = some (b 28, aI dA (6001) (mu5w 28)) := hE5w.2 28 (by decide)
      have f29_ : en5w 49 0 = some (b 29, aI dA (6001) (mu5w 29)) := hE5w.2 29 (by decide)
      have f30_ : en5w 50 0 = some (b 30, aI dA (6001) (mu5w 30)) := hE5w.2 30 (by decide)
      have f31_ : en5w 51 0 = some (b 31, aI dA (6001) (mu5w 31)) := hE5w.2 31 (by decide)
      refine lv_aload_n hx hb dX4_takeFlow_47 rfl (lv_at hl 2 rfl) ?_
      refine g_get (C := RX4) (T := TX4) (N := 43) (ci := 6) (v := .ref (b 10)) hx hb hts hi6 hown hK hW fM rfl 10 (by decide) (hts (.fieldLink RX4 31 "LongTransferModel" "block" "[I") (by decide +kernel)) (fun _ h9 => h9) rfl dX4_takeFlow_48 ?_
      refine lv_iload_n hx hb dX4_takeFlow_51 rfl (lv_at hl 1 rfl) ?_
      refine lv_aload_n hx hb dX4_takeFlow_52 rfl (lv_at hl 2 rfl) ?_
      refine g_get (C := RX4) (T := TX4) (N := 43) (ci := 6) (v := .ref (b 30)) hx hb hts hi6 hown hK hW fM rfl 30 (by decide) (hts (.fieldLink RX4 90 "LongTransferModel" "count" "[I") (by decide +kernel)) (fun _ h9 => h9) rfl dX4_takeFlow_53 ?_
      refine lv_iload_n hx hb dX4_takeFlow_56 rfl (lv_at hl 3 rfl) ?_
      refine g_iald hx hb hK hW f30_ (by omega) (by omega) (by omega) dX4_takeFlow_57 ?_
      rw [t30_ff]
      refine g_iast (x := mu 30 (ff)) hx hb hK hW hS f10_ (by omega) (by omega) (by omega) dX4_takeFlow_58 (fun H locs hW hS => ?_)
      obtain ⟨en6w, hen6w⟩ : ∃ x : en_T, x = e2 en5w 30 0 (some (b 10, aI dA (101) (uF (mu5w 10) (mm) (mu 30 (ff))))) := ⟨_, rfl⟩
      rw [← hen6w] at hW
      obtain ⟨mu6w, hmu6w⟩ : ∃ x : Mu, x = u2 mu5w 10 (mm) (mu 30 (ff)) := ⟨_, rfl⟩
      have hE6w : EM dA b mu6w en6w := by rw [hen6w, hmu6w]; exact em_w hE5w (k0 := 10) (j := mm) (v := mu 30 (ff)) (by decide)
      have hF6w : FM en5w en6w := fun k i q => by rw [hen6w]; exact e2_k (fun w => q (by rw [w]; decide))
      have hF6w := FM.tr hF5w hF6w
      replace t2_0 : mu6w 2 (0) = mu 2 (0) := by rw [hmu6w]; exact (u2_n (fun q => absurd q.1 (by decide))).trans t2_0
      replace t6_mm : mu6w 6 (mm) = mu 6 (mm) := by rw [hmu6w]; exact (u2_n (fun q => absurd q.1 (by decide))).trans t6_mm
      replace t7_mm : mu6w 7 (mm) = 2 := by rw [hmu6w]; exact (u2_n (fun q => absurd q.1 (by decide))).trans t7_mm
      replace t8_mm : mu6w 8 (mm) = mu 8 (mm) := by rw [hmu6w]; exact (u2_n (fun q => absurd q.1 (by decide))).trans t8_mm
      replace t9_mm : mu6w 9 (mm) = mu 9 (mm) := by rw [hmu6w]; exact (u2_n (fun q => absurd q.1 (by decide))).trans t9_mm
      replace t10_mm : mu6w 10 (mm) = mu 30 (ff) := by rw [hmu6w]; exact u2_s _ _ _ _
      replace t11_mm : mu6w 11 (mm) = mu 11 (mm) := by rw [hmu6w]; exact (u2_n (fun q => absurd q.1 (by decide))).trans t11_mm
      replace t12_mm : mu6w 12 (mm) = mu 12 (mm) := by rw [hmu6w]; exact (u2_n (fun q => absurd q.1 (by decide))).trans t12_mm
      replace t13_mm : mu6w 13 (mm) = mu 13 (mm) := by rw [hmu6w]; exact (u2_n (fun q => absurd q.1 (by decide))).trans t13_mm
      replace t14_mm : mu6w 14 (mm) = mu 14 (mm) := by rw [hmu6w]; exact (u2_n (fun q => absurd q.1 (by decide))).trans t14_mm
      replace t15_mm : mu6w 15 (mm) = mu 15 (mm) := by rw [hmu6w]; exact (u2_n (fun q => absurd q.1 (by decide))).trans t15_mm
      replace t30_ff : mu6w 30 (ff) = mu 30 (ff) := by rw [hmu6w]; exact (u2_n (fun q => absurd q.1 (by decide))).trans t30_ff
      replace t38_0 : mu6w 38 (0) = mu 38 (0) := by rw [hmu6w]; exact (u2_n (fun q => absurd q.1 (by decide))).trans t38_0
      have fM : en6w 20 0 = some (b 0, .inr (6, [.int (iZ (mu6w 0 0)), .int (iZ (mu6w 1 0)), .long (lZ (mu6w 2 0)), .int (iZ (mu6w 3 0)), .ref (b 4), .ref (b 5), .ref (b 6), .ref (b 7), .ref (b 8), .ref (b 9), .ref (b 10), .ref (b 11), .ref (b 12), .ref (b 13), .ref (b 14), .ref (b 15), .ref (b 16), .ref (b 17), .ref (b 18), .ref (b 19), .ref (b 20), .ref (b 21), .ref (b 22), .ref (b 23), .ref (b 24), .ref (b 25), .int (iZ (mu6w 26 0)), .ref (b 27), .ref (b 28), .ref (b 29), .ref (b 30), .ref (b 31), .ref (b 32), .ref (b 33), .ref (b 34), .int (iZ (mu6w 35 0)), .int (iZ (mu6w 36 0)), .int (iZ (mu6w 37 0)), .int (iZ (mu6w 38 0)), .int (iZ (mu6w 39 0)), .int (iZ (mu6w 40 0)), .ref (b 41), .ref (b 42)])) := hE6w.1
      have f7_ : en6w 27 0 = some (b 7, aI dA (101) (mu6w 7)) := hE6w.2 7 (by decide)
      have f10_ : en6w 30 0 = some (b 10, aI dA (101) (mu6w 10)) := hE6w.2 10 (by decide)
      have f11_ : en6w 31 0 = some (b 11, aI dA (101) (mu6w 11)) := hE6w.2 11 (by decide)
      have f12_ : en6w 32 0 = some (b 12, aI dA (101) (mu6w 12)) := hE6w.2 12 (by decide)
      have f13_ : en6w 33 0 = some (b 13, aI dA (101) (mu6w 13)) := hE6w.2 13 (by decide)
      have f14_ : en6w 34 0 = some (b 14, aJ dA (101) (mu6w 14)) := hE6w.2 14 (by decide)
      have f15_ : en6w 35 0 = some (b 15, aJ dA (101) (mu6w 15)) := hE6w.2 15 (by decide)
      have f28_ : en6w 48 0 = some (b 28, aI dA (6001) (mu6w 28)) := hE6w.2 28 (by decide)
      have f29_ : en6w 49 0 = some (b 29, aI dA (6001) (mu6w 29)) := hE6w.2 29 (by decide)
      have f30_ : en6w 50 0 = some (b 30, aI dA (6001) (mu6w 30)) := hE6w.2 30 (by decide)
      have f31_ : en6w 51 0 = some (b 31, aI dA (6001) (mu6w 31)) := hE6w.2 31 (by decide)
      refine lv_aload_n hx hb dX4_takeFlow_59 rfl (lv_at hl 2 rfl) ?_
      refine g_get (C := RX4) (T := TX4) (N := 43) (ci := 6) (v := .ref (b 11)) hx hb hts hi6 hown hK hW fM rfl 11 (by decide) (hts (.fieldLink RX4 34 "LongTransferModel" "left" "[I") (by decide +kernel)) (fun _ h9 => h9) rfl dX4_takeFlow_60 ?_
      refine lv_iload_n hx hb dX4_takeFlow_63 rfl (lv_at hl 1 rfl) ?_
      refine lv_aload_n hx hb dX4_takeFlow_64 rfl (lv_at hl 2 rfl) ?_
      refine g_get (C := RX4) (T := TX4) (N := 43) (ci := 6) (v := .ref (b 30)) hx hb hts hi6 hown hK hW fM rfl 30 (by decide) (hts (.fieldLink RX4 90 "LongTransferModel" "count" "[I") (by decide +kernel)) (fun _ h9 => h9) rfl dX4_takeFlow_65 ?_
      refine lv_iload_n hx hb dX4_takeFlow_68 rfl (lv_at hl 3 rfl) ?_
      refine g_iald hx hb hK hW f30_ (by omega) (by omega) (by omega) dX4_takeFlow_69 ?_
      rw [t30_ff]
      refine g_iast (x := mu 30 (ff)) hx hb hK hW hS f11_ (by omega) (by omega) (by omega) dX4_takeFlow_70 (fun H locs hW hS => ?_)
      obtain ⟨en7w, hen7w⟩ : ∃ x : en_T, x = e2 en6w 31 0 (some (b 11, aI dA (101) (uF (mu6w 11) (mm) (mu 30 (ff))))) := ⟨_, rfl⟩
      rw [← hen7w] at hW
      obtain ⟨mu7w, hmu7w⟩ : ∃ x : Mu, x = u2 mu6w 11 (mm) (mu 30 (ff)) := ⟨_, rfl⟩
      have hE7w : EM dA b mu7w en7w := by rw [hen7w, hmu7w]; exact em_w hE6w (k0 := 11) (j := mm) (v := mu 30 (ff)) (by decide)
      have hF7w : FM en6w en7w := fun k i q => by rw [hen7w]; exact e2_k (fun w => q (by rw [w]; decide))
      have hF7w := FM.tr hF6w hF7w
      replace t2_0 : mu7w 2 (0) = mu 2 (0) := by rw [hmu7w]; exact (u2_n (fun q => absurd q.1 (by decide))).trans t2_0
      replace t6_mm : mu7w 6 (mm) = mu 6 (mm) := by rw [hmu7w]; exact (u2_n (fun q => absurd q.1 (by decide))).trans t6_mm
      replace t7_mm : mu7w 7 (mm) = 2 := by rw [hmu7w]; exact (u2_n (fun q => absurd q.1 (by decide))).trans t7_mm
      replace t8_mm : mu7w 8 (mm) = mu 8 (mm) := by rw [hmu7w]; exact (u2_n (fun q => absurd q.1 (by decide))).trans t8_mm
      replace t9_mm : mu7w 9 (mm) = mu 9 (mm) := by rw [hmu7w]; exact (u2_n (fun q => absurd q.1 (by decide))).trans t9_mm
      replace t10_mm : mu7w 10 (mm) = mu 30 (ff) := by rw [hmu7w]; exact (u2_n (fun q => absurd q.1 (by decide))).trans t10_mm
      replace t11_mm : mu7w 11 (mm) = mu 30 (ff) := by rw [hmu7w]; exact u2_s _ _ _ _
      replace t12_mm : mu7w 12 (mm) = mu 12 (mm) := by rw [hmu7w]; exact (u2_n (fun q => absurd q.1 (by decide))).trans t12_mm
      replace t13_mm : mu7w 13 (mm) = mu 13 (mm) := by rw [hmu7w]; exact (u2_n (fun q => absurd q.1 (by decide))).trans t13_mm
      replace t14_mm : mu7w 14 (mm) = mu 14 (mm) := by rw [hmu7w]; exact (u2_n (fun q => absurd q.1 (by decide))).trans t14_mm
      replace t15_mm : mu7w 15 (mm) = mu 15 (mm) := by rw [hmu7w]; exact (u2_n (fun q => absurd q.1 (by decide))).trans t15_mm
      replace t30_ff : mu7w 30 (ff) = mu 30 (ff) := by rw [hmu7w]; exact (u2_n (fun q => absurd q.1 (by decide))).trans t30_ff
      replace t38_0 : mu7w 38 (0) = mu 38 (0) := by rw [hmu7w]; exact (u2_n (fun q => absurd q.1 (by decide))).trans t38_0
      have fM : en7w 20 0 = some (b 0, .inr (6, [.int (iZ (mu7w 0 0)), .int (iZ (mu7w 1 0)), .long (lZ (mu7w 2 0)), .int (iZ (mu7w 3 0)), .ref (b 4), .ref (b 5), .ref (b 6), .ref (b 7), .ref (b 8), .ref (b 9), .ref (b 10), .ref (b 11), .ref (b 12), .ref (b 13), .ref (b 14), .ref (b 15), .ref (b 16), .ref (b 17), .ref (b 18), .ref (b 19), .ref (b 20), .ref (b 21), .ref (b 22), .ref (b 23), .ref (b 24), .ref (b 25), .int (iZ (mu7w 26 0)), .ref (b 27), .ref (b 28), .ref (b 29), .ref (b 30), .ref (b 31), .ref (b 32), .ref (b 33), .ref (b 34), .int (iZ (mu7w 35 0)), .int (iZ (mu7w 36 0)), .int (iZ (mu7w 37 0)), .int (iZ (mu7w 38 0)), .int (iZ (mu7w 39 0)), .int (iZ (mu7w 40 0)), .ref (b 41), .ref (b 42)])) := hE7w.1
      have f7_ : en7w 27 0 = some (b 7, aI dA (101) (mu7w 7)) := hE7w.2 7 (by decide)
      have f10_ : en7w 30 0 = some (b 10, aI dA (101) (mu7w 10)) := hE7w.2 10 (by decide)
      have f11_ : en7w 31 0 = some (b 11, aI dA (101) (mu7w 11)) := hE7w.2 11 (by decide)
      have f12_ : en7w 32 0 = some (b 12, aI dA (101) (mu7w 12)) := hE7w.2 12 (by decide)
      have f13_ : en7w 33 0 = some (b 13, aI dA (101) (mu7w 13)) := hE7w.2 13 (by decide)
      have f14_ : en7w 34 0 = some (b 14, aJ dA (101) (mu7w 14)) := hE7w.2 14 (by decide)
      have f15_ : en7w 35 0 = some (b 15, aJ dA (101) (mu7w 15)) := hE7w.2 15 (by decide)
      have f28_ : en7w 48 0 = some (b 28, aI dA (6001) (mu7w 28)) := hE7w.2 28 (by decide)
      have f29_ : en7w 49 0 = some (b 29, aI dA (6001) (mu7w 29)) := hE7w.2 29 (by decide)
      have f30_ : en7w 50 0 = some (b 30, aI dA (6001) (mu7w 30)) := hE7w.2 30 (by decide)
      have f31_ : en7w 51 0 = some (b 31, aI dA (6001) (mu7w 31)) := hE7w.2 31 (by decide)
      refine lv_aload_n hx hb dX4_takeFlow_71 rfl (lv_at hl 2 rfl) ?_
      refine g_get (C := RX4) (T := TX4) (N := 43) (ci := 6) (v := .ref (b 12)) hx hb hts hi6 hown hK hW fM rfl 12 (by decide) (hts (.fieldLink RX4 37 "LongTransferModel" "separation" "[I") (by decide +kernel)) (fun _ h9 => h9) rfl dX4_takeFlow_72 ?_
      refine lv_iload_n hx hb dX4_takeFlow_75 rfl (lv_at hl 1 rfl) ?_
      refine lv_iload_n hx hb dX4_takeFlow_76 rfl (lv_at hl 0 rfl) ?_
      refine z_sipush hx hb dX4_takeFlow_77 (by decide) ?_
      refine z_icmp_ge (tgt := 87) hx hb dX4_takeFlow_80 (by decide) (by omega) (by omega) (fun c_80 => ?_) (fun c_80 => ?_)
      · refine lv_iload_n hx hb dX4_takeFlow_87 rfl (lv_at hl 0 rfl) ?_
        refine z_sipush hx hb dX4_takeFlow_88 (by decide) ?_
        refine z_icmp_lt (tgt := 105) hx hb dX4_takeFlow_91 (by decide) (by omega) (by omega) (fun c_91 => ?_) (fun c_91 => ?_)
        · refine z_bipush hx hb dX4_takeFlow_105 (by decide) ?_
          refine g_iast (x := 127) hx hb hK hW hS f12_ (by omega) (by omega) (by omega) dX4_takeFlow_107 (fun H locs hW hS => ?_)
          obtain ⟨en8w, hen8w⟩ : ∃ x : en_T, x = e2 en7w 32 0 (some (b 12, aI dA (101) (uF (mu7w 12) (mm) (127)))) := ⟨_, rfl⟩
          rw [← hen8w] at hW
          obtain ⟨mu8w, hmu8w⟩ : ∃ x : Mu, x = u2 mu7w 12 (mm) (127) := ⟨_, rfl⟩
          have hE8w : EM dA b mu8w en8w := by rw [hen8w, hmu8w]; exact em_w hE7w (k0 := 12) (j := mm) (v := 127) (by decide)
          have hF8w : FM en7w en8w := fun k i q => by rw [hen8w]; exact e2_k (fun w => q (by rw [w]; decide))
          have hF8w := FM.tr hF7w hF8w
          replace t2_0 : mu8w 2 (0) = mu 2 (0) := by rw [hmu8w]; exact (u2_n (fun q => absurd q.1 (by decide))).trans t2_0
          replace t6_mm : mu8w 6 (mm) = mu 6 (mm) := by rw [hmu8w]; exact (u2_n (fun q => absurd q.1 (by decide))).trans t6_mm
          replace t7_mm : mu8w 7 (mm) = 2 := by rw [hmu8w]; exact (u2_n (fun q => absurd q.1 (by decide))).trans t7_mm
          replace t8_mm : mu8w 8 (mm) = mu 8 (mm) := by rw [hmu8w]; exact (u2_n (fun q => absurd q.1 (by decide))).trans t8_mm
          replace t9_mm : mu8w 9 (mm) = mu 9 (mm) := by rw [hmu8w]; exact (u2_n (fun q => absurd q.1 (by decide))).trans t9_mm
          replace t10_mm : mu8w 10 (mm) = mu 30 (ff) := by rw [hmu8w]; exact (u2_n (fun q => absurd q.1 (by decide))).trans t10_mm
          replace t11_mm : mu8w 11 (mm) = mu 30 (ff) := by rw [hmu8w]; exact (u2_n (fun q => absurd q.1 (by decide))).trans t11_mm
          replace t12_mm : mu8w 12 (mm) = 127 := by rw [hmu8w]; exact u2_s _ _ _ _
          replace t13_mm : mu8w 13 (mm) = mu 13 (mm) := by rw [hmu8w]; exact (u2_n (fun q => absurd q.1 (by decide))).trans t13_mm
          replace t14_mm : mu8w 14 (mm) = mu 14 (mm) := by rw [hmu8w]; exact (u2_n (fun q => absurd q.1 (by decide))).trans t14_mm
          replace t15_mm : mu8w 15 (mm) = mu 15 (mm) := by rw [hmu8w]; exact (u2_n (fun q => absurd q.1 (by decide))).trans t15_mm
          replace t30_ff : mu8w 30 (ff) = mu 30 (ff) := by rw [hmu8w]; exact (u2_n (fun q => absurd q.1 (by decide))).trans t30_ff
          replace t38_0 : mu8w 38 (0) = mu 38 (0) := by rw [hmu8w]; exact (u2_n (fun q => absurd q.1 (by decide))).trans t38_0
          have fM : en8w 20 0 = some (b 0, .inr (6, [.int (iZ (mu8w 0 0)), .int (iZ (mu8w 1 0)), .long (lZ (mu8w 2 0)), .int (iZ (mu8w 3 0)), .ref (b 4), .ref (b 5), .ref (b 6), .ref (b 7), .ref (b 8), .ref (b 9), .ref (b 10), .ref (b 11), .ref (b 12), .ref (b 13), .ref (b 14), .ref (b 15), .ref (b 16), .ref (b 17), .ref (b 18), .ref (b 19), .ref (b 20), .ref (b 21), .ref (b 22), .ref (b 23), .ref (b 24), .ref (b 25), .int (iZ (mu8w 26 0)), .ref (b 27), .ref (b 28), .ref (b 29), .ref (b 30), .ref (b 31), .ref (b 32), .ref (b 33), .ref (b 34), .int (iZ (mu8w 35 0)), .int (iZ (mu8w 36 0)), .int (iZ (mu8w 37 0)), .int (iZ (mu8w 38 0)), .int (iZ (mu8w 39 0)), .int (iZ (mu8w 40 0)), .ref (b 41), .ref (b 42)])) := hE8w.1
          have f7_ : en8w 27 0 = some (b 7, aI dA (101) (mu8w 7)) := hE8w.2 7 (by decide)
          have f10_ : en8w 30 0 = some (b 10, aI dA (101) (mu8w 10)) := hE8w.2 10 (by decide)
          have f11_ : en8w 31 0 = some (b 11, aI dA (101) (mu8w 11)) := hE8w.2 11 (by decide)
          have f12_ : en8w 32 0 = some (b 12, aI dA (101) (mu8w 12)) := hE8w.2 12 (by decide)
          have f13_ : en8w 33 0 = some (b 13, aI dA (101) (mu8w 13)) := hE8w.2 13 (by decide)
          have f14_ : en8w 34 0 = some (b 14, aJ dA (101) (mu8w 14)) := hE8w.2 14 (by decide)
          have f15_ : en8w 35 0 = some (b 15, aJ dA (101) (mu8w 15)) := hE8w.2 15 (by decide)
          have f28_ : en8w 48 0 = some (b 28, aI dA (6001) (mu8w 28)) := hE8w.2 28 (by decide)
          have f29_ : en8w 49 0 = some (b 29, aI dA (6001) (mu8w 29)) := hE8w.2 29 (by decide)
          have f30_ : en8w 50 0 = some (b 30, aI dA (6001) (mu8w 30)) := hE8w.2 30 (by decide)
          have f31_ : en8w 51 0 = some (b 31, aI dA (6001) (mu8w 31)) := hE8w.2 31 (by decide)
          refine lv_aload_n hx hb dX4_takeFlow_108 rfl (lv_at hl 2 rfl) ?_
          refine g_get (C := RX4) (T := TX4) (N := 43) (ci := 6) (v := .ref (b 15)) hx hb hts hi6 hown hK hW fM rfl 15 (by decide) (hts (.fieldLink RX4 47 "LongTransferModel" "due" "[J") (by decide +kernel)) (fun _ h9 => h9) rfl dX4_takeFlow_109 ?_
          refine lv_iload_n hx hb dX4_takeFlow_112 rfl (lv_at hl 1 rfl) ?_
          refine lv_aload_n hx hb dX4_takeFlow_113 rfl (lv_at hl 2 rfl) ?_
          refine g_get (C := RX4) (T := TX4) (N := 43) (ci := 6) (v := .long (lZ (mu8w 2 0))) hx hb hts hi6 hown hK hW fM rfl 2 (by decide) (hts (.fieldLink RX4 137 "LongTransferModel" "now" "J") (by decide +kernel)) (fun _ h9 => h9) rfl dX4_takeFlow_114 ?_
          rw [t2_0]
          refine g_last (x := mu 2 (0)) hx hb hK hW hS f15_ (by omega) (by omega) (by omega) dX4_takeFlow_117 (fun H locs hW hS => ?_)
          obtain ⟨en9w, hen9w⟩ : ∃ x : en_T, x = e2 en8w 35 0 (some (b 15, aJ dA (101) (uF (mu8w 15) (mm) (mu 2 (0))))) := ⟨_, rfl⟩
          rw [← hen9w] at hW
          obtain ⟨mu9w, hmu9w⟩ : ∃ x : Mu, x = u2 mu8w 15 (mm) (mu 2 (0)) := ⟨_, rfl⟩
          have hE9w : EM dA b mu9w en9w := by rw [hen9w, hmu9w]; exact em_w hE8w (k0 := 15) (j := mm) (v := mu 2 (0)) (by decide)
          have hF9w : FM en8w en9w := fun k i q => by rw [hen9w]; exact e2_k (fun w => q (by rw [w]; decide))
          have hF9w := FM.tr hF8w hF9w
          replace t2_0 : mu9w 2 (0) = mu 2 (0) := by rw [hmu9w]; exact (u2_n (fun q => absurd q.1 (by decide))).trans t2_0
          replace t6_mm : mu9w 6 (mm) = mu 6 (mm) := by rw [hmu9w]; exact (u2_n (fun q => absurd q.1 (by decide))).trans t6_mm
          replace t7_mm : mu9w 7 (mm) = 2 := by rw [hmu9w]; exact (u2_n (fun q => absurd q.1 (by decide))).trans t7_mm
          replace t8_mm : mu9w 8 (mm) = mu 8 (mm) := by rw [hmu9w]; exact (u2_n (fun q => absurd q.1 (by decide))).trans t8_mm
          replace t9_mm : mu9w 9 (mm) = mu 9 (mm) := by rw [hmu9w]; exact (u2_n (fun q => absurd q.1 (by decide))).trans t9_mm
          replace t10_mm : mu9w 10 (mm) = mu 30 (ff) := by rw [hmu9w]; exact (u2_n (fun q => absurd q.1 (by decide))).trans t10_mm
          replace t11_mm : mu9w 11 (mm) = mu 30 (ff) := by rw [hmu9w]; exact (u2_n (fun q => absurd q.1 (by decide))).trans t11_mm
          replace t12_mm : mu9w 12 (mm) = 127 := by rw [hmu9w]; exact (u2_n (fun q => absurd q.1 (by decide))).trans t12_mm
          replace t13_mm : mu9w 13 (mm) = mu 13 (mm) := by rw [hmu9w]; exact (u2_n (fun q => absurd q.1 (by decide))).trans t13_mm
          replace t14_mm : mu9w 14 (mm) = mu 14 (mm) := by rw [hmu9w]; exact (u2_n (fun q => absurd q.1 (by decide))).trans t14_mm
          replace t15_mm : mu9w 15 (mm) = mu 2 (0) := by rw [hmu9w]; exact u2_s _ _ _ _
          replace t30_ff : mu9w 30 (ff) = mu 30 (ff) := by rw [hmu9w]; exact (u2_n (fun q => absurd q.1 (by decide))).trans t30_ff
          replace t38_0 : mu9w 38 (0) = mu 38 (0) := by rw [hmu9w]; exact (u2_n (fun q => absurd q.1 (by decide))).trans t38_0
          have fM : en9w 20 0 = some (b 0, .inr (6, [.int (iZ (mu9w 0 0)), .int (iZ (mu9w 1 0)), .long (lZ (mu9w 2 0)), .int (iZ (mu9w 3 0)), .ref (b 4), .ref (b 5), .ref (b 6), .ref (b 7), .ref (b 8), .ref (b 9), .ref (b 10), .ref (b 11), .ref (b 12), .ref (b 13), .ref (b 14), .ref (b 15), .ref (b 16), .ref (b 17), .ref (b 18), .ref (b 19), .ref (b 20), .ref (b 21), .ref (b 22), .ref (b 23), .ref (b 24), .ref (b 25), .int (iZ (mu9w 26 0)), .ref (b 27), .ref (b 28), .ref (b 29), .ref (b 30), .ref (b 31), .ref (b 32), .ref (b 33), .ref (b 34), .int (iZ (mu9w 35 0)), .int (iZ (mu9w 36 0)), .int (iZ (mu9w 37 0)), .int (iZ (mu9w 38 0)), .int (iZ (mu9w 39 0)), .int (iZ (mu9w 40 0)), .ref (b 41), .ref (b 42)])) := hE9w.1
          have f7_ : en9w 27 0 = some (b 7, aI dA (101) (mu9w 7)) := hE9w.2 7 (by decide)
          have f10_ : en9w 30 0 = some (b 10, aI dA (101) (mu9w 10)) := hE9w.2 10 (by decide)
          have f11_ : en9w 31 0 = some (b 11, aI dA (101) (mu9w 11)) := hE9w.2 11 (by decide)
          have f12_ : en9w 32 0 = some (b 12, aI dA (101) (mu9w 12)) := hE9w.2 12 (by decide)
          have f13_ : en9w 33 0 = some (b 13, aI dA (101) (mu9w 13)) := hE9w.2 13 (by decide)
          have f14_ : en9w 34 0 = some (b 14, aJ dA (101) (mu9w 14)) := hE9w.2 14 (by decide)
          have f15_ : en9w 35 0 = some (b 15, aJ dA (101) (mu9w 15)) := hE9w.2 15 (by decide)
          have f28_ : en9w 48 0 = some (b 28, aI dA (6001) (mu9w 28)) := hE9w.2 28 (by decide)
          have f29_ : en9w 49 0 = some (b 29, aI dA (6001) (mu9w 29)) := hE9w.2 29 (by decide)
          have f30_ : en9w 50 0 = some (b 30, aI dA (6001) (mu9w 30)) := hE9w.2 30 (by decide)
          have f31_ : en9w 51 0 = some (b 31, aI dA (6001) (mu9w 31)) := hE9w.2 31 (by decide)
          refine lv_goto (tgt := 179) hx hb dX4_takeFlow_118 (by decide) ?_
          refine lv_aload_n hx hb dX4_takeFlow_179 rfl (lv_at hl 2 rfl) ?_
          refine g_get (C := RX4) (T := TX4) (N := 43) (ci := 6) (v := .ref (b 7)) hx hb hts hi6 hown hK hW fM rfl 7 (by decide) (hts (.fieldLink RX4 22 "LongTransferModel" "state" "[I") (by decide +kernel)) (fun _ h9 => h9) rfl dX4_takeFlow_180 ?_
          refine lv_iload_n hx hb dX4_takeFlow_183 rfl (lv_at hl 1 rfl) ?_
          refine g_iald hx hb hK hW f7_ (by omega) (by omega) (by omega) dX4_takeFlow_184 ?_
          rw [t7_mm]
          have hg1 : sTkF g mm ff = sGo g mm (g 23 ff 0) (tkO (g 24 ff 0)) := if_pos (by omega)
          have hv : 127 = tkO (g 24 ff 0) := by unfold tkO; first | rw [if_pos (by omega)]; omega | rw [if_neg (by omega), if_pos (by omega)] | rw [if_neg (by omega), if_neg (by omega)]
          have v12 : sGo g mm (g 23 ff 0) (tkO (g 24 ff 0)) 12 mm 0 = 2 := by simp [sGo, wr]
          have v16 : sGo g mm (g 23 ff 0) (tkO (g 24 ff 0)) 16 mm 0 = g 23 ff 0 := by simp [sGo, wr]
          have v17 : sGo g mm (g 23 ff 0) (tkO (g 24 ff 0)) 17 mm 0 = tkO (g 24 ff 0) := by simp [sGo, wr]
          have v18 : sGo g mm (g 23 ff 0) (tkO (g 24 ff 0)) 18 mm 0 = g 0 7 0 := by simp [sGo, wr]
          have v13 : sGo g mm (g 23 ff 0) (tkO (g 24 ff 0)) 13 mm 0 = g 13 mm 0 := by simp [sGo, wr]
          have v14 : sGo g mm (g 23 ff 0) (tkO (g 24 ff 0)) 14 mm 0 = g 14 mm 0 := by simp [sGo, wr]
          have v15 : sGo g mm (g 23 ff 0) (tkO (g 24 ff 0)) 15 mm 0 = g 15 mm 0 := by simp [sGo, wr]
          have v8 : sGo g mm (g 23 ff 0) (tkO (g 24 ff 0)) 0 8 0 = g 0 8 0 := by simp [sGo, wr]
          have hN : RN (sGo g mm (g 23 ff 0) (tkO (g 24 ff 0))) mu9w mm := RN_2 (by rw [v8, t6_mm]; exact hN6 ()) (by omega) v12 (by omega) (by omega) (by omega) (by omega) (by omega) (by omega) (by omega) (by omega) (by omega)
          have hpst : Rl (sRcS g ff) mu9w := by rw [hgo, hg1]; exact rl_2 hI hR (m := mm) (by omega) (fun t i j q => by unfold sGo; rw [wr_n (by omega), wr_n (by omega), wr_n (by omega), wr_n (by omega)]) (fun j q => by rw [v8]) (fun t j q => by rw [hmu9w, u2_n (by omega), hmu8w, u2_n (by omega), hmu7w, u2_n (by omega), hmu6w, u2_n (by omega), hmu5w, u2_n (by omega)]) hN
          exact W.iret hx hb hr (fun t ht hw => ⟨⟨_, (en9w, mu9w), rfl, ⟨by rw [← hmm, hgo, hg1, v12], hE9w, hF9w, hpst⟩, by show Wd _ _ _ t.heap; rw [ht]; exact hW⟩, hS.F ht⟩) hS.2.2 dX4_takeFlow_185
        · refine lv_iload_n hx hb dX4_takeFlow_94 rfl (lv_at hl 0 rfl) ?_
          refine z_sipush hx hb dX4_takeFlow_95 (by decide) ?_
          refine z_icmp_gt (tgt := 105) hx hb dX4_takeFlow_98 (by decide) (by omega) (by omega) (fun c_98 => ?_) (fun c_98 => ?_)
          · refine z_bipush hx hb dX4_takeFlow_105 (by decide) ?_
            refine g_iast (x := 127) hx hb hK hW hS f12_ (by omega) (by omega) (by omega) dX4_takeFlow_107 (fun H locs hW hS => ?_)
            obtain ⟨en10w, hen10w⟩ : ∃ x : en_T, x = e2 en7w 32 0 (some (b 12, aI dA (101) (uF (mu7w 12) (mm) (127)))) := ⟨_, rfl⟩
            rw [← hen10w] at hW
            obtain ⟨mu10w, hmu10w⟩ : ∃ x : Mu, x = u2 mu7w 12 (mm) (127) := ⟨_, rfl⟩
            have hE10w : EM dA b mu10w en10w := by rw [hen10w, hmu10w]; exact em_w hE7w (k0 := 12) (j := mm) (v := 127) (by decide)
            have hF10w : FM en7w en10w := fun k i q => by rw [hen10w]; exact e2_k (fun w => q (by rw [w]; decide))
            have hF10w := FM.tr hF7w hF10w
            replace t2_0 : mu10w 2 (0) = mu 2 (0) := by rw [hmu10w]; exact (u2_n (fun q => absurd q.1 (by decide))).trans t2_0
            replace t6_mm : mu10w 6 (mm) = mu 6 (mm) := by rw [hmu10w]; exact (u2_n (fun q => absurd q.1 (by decide))).trans t6_mm
            replace t7_mm : mu10w 7 (mm) = 2 := by rw [hmu10w]; exact (u2_n (fun q => absurd q.1 (by decide))).trans t7_mm
            replace t8_mm : mu10w 8 (mm) = mu 8 (mm) := by rw [hmu10w]; exact (u2_n (fun q => absurd q.1 (by decide))).trans t8_mm
            replace t9_mm : mu10w 9 (mm) = mu 9 (mm) := by rw [hmu10w]; exact (u2_n (fun q => absurd q.1 (by decide))).trans t9_mm
            replace t10_mm : mu10w 10 (mm) = mu 30 (ff) := by rw [hmu10w]; exact (u2_n (fun q => absurd q.1 (by decide))).trans t10_mm
            replace t11_mm : mu10w 11 (mm) = mu 30 (ff) := by rw [hmu10w]; exact (u2_n (fun q => absurd q.1 (by decide))).trans t11_mm
            replace t12_mm : mu10w 12 (mm) = 127 := by rw [hmu10w]; exact u2_s _ _ _ _
            replace t13_mm : mu10w 13 (mm) = mu 13 (mm) := by rw [hmu10w]; exact (u2_n (fun q => absurd q.1 (by decide))).trans t13_mm
            replace t14_mm : mu10w 14 (mm) = mu 14 (mm) := by rw [hmu10w]; exact (u2_n (fun q => absurd q.1 (by decide))).trans t14_mm
            replace t15_mm : mu10w 15 (mm) = mu 15 (mm) := by rw [hmu10w]; exact (u2_n (fun q => absurd q.1 (by decide))).trans t15_mm
            replace t30_ff : mu10w 30 (ff) = mu 30 (ff) := by rw [hmu10w]; exact (u2_n (fun q => absurd q.1 (by decide))).trans t30_ff
            replace t38_0 : mu10w 38 (0) = mu 38 (0) := by rw [hmu10w]; exact (u2_n (fun q => absurd q.1 (by decide))).trans t38_0
            have fM : en10w 20 0 = some (b 0, .inr (6, [.int (iZ (mu10w 0 0)), .int (iZ (mu10w 1 0)), .long (lZ (mu10w 2 0)), .int (iZ (mu10w 3 0)), .ref (b 4), .ref (b 5), .ref (b 6), .ref (b 7), .ref (b 8), .ref (b 9), .ref (b 10), .ref (b 11), .ref (b 12), .ref (b 13), .ref (b 14), .ref (b 15), .ref (b 16), .ref (b 17), .ref (b 18), .ref (b 19), .ref (b 20), .ref (b 21), .ref (b 22), .ref (b 23), .ref (b 24), .ref (b 25), .int (iZ (mu10w 26 0)), .ref (b 27), .ref (b 28), .ref (b 29), .ref (b 30), .ref (b 31), .ref (b 32), .ref (b 33), .ref (b 34), .int (iZ (mu10w 35 0)), .int (iZ (mu10w 36 0)), .int (iZ (mu10w 37 0)), .int (iZ (mu10w 38 0)), .int (iZ (mu10w 39 0)), .int (iZ (mu10w 40 0)), .ref (b 41), .ref (b 42)])) := hE10w.1
            have f7_ : en10w 27 0 = some (b 7, aI dA (101) (mu10w 7)) := hE10w.2 7 (by decide)
            have f10_ : en10w 30 0 = some (b 10, aI dA (101) (mu10w 10)) := hE10w.2 10 (by decide)
            have f11_ : en10w 31 0 = some (b 11, aI dA (101) (mu10w 11)) := hE10w.2 11 (by decide)
            have f12_ : en10w 32 0 = some (b 12, aI dA (101) (mu10w 12)) := hE10w.2 12 (by decide)
            have f13_ : en10w 33 0 = some (b 13, aI dA (101) (mu10w 13)) := hE10w.2 13 (by decide)
            have f14_ : en10w 34 0 = some (b 14, aJ dA (101) (mu10w 14)) := hE10w.2 14 (by decide)
            have f15_ : en10w 35 0 = some (b 15, aJ dA (101) (mu10w 15)) := hE10w.2 15 (by decide)
            have f28_ : en10w 48 0 = some (b 28, aI dA (6001) (mu10w 28)) := hE10w.2 28 (by decide)
            have f29_ : en10w 49 0 = some (b 29, aI dA (6001) (mu10w 29)) := hE10w.2 29 (by decide)
            have f30_ : en10w 50 0 = some (b 30, aI dA (6001) (mu10w 30)) := hE10w.2 30 (by decide)
            have f31_ : en10w 51 0 = some (b 31, aI dA (6001) (mu10w 31)) := hE10w.2 31 (by decide)
            refine lv_aload_n hx hb dX4_takeFlow_108 rfl (lv_at hl 2 rfl) ?_
            refine g_get (C := RX4) (T := TX4) (N := 43) (ci := 6) (v := .ref (b 15)) hx hb hts hi6 hown hK hW fM rfl 15 (by decide) (hts (.fieldLink RX4 47 "LongTransferModel" "due" "[J") (by decide +kernel)) (fun _ h9 => h9) rfl dX4_takeFlow_109 ?_
            refine lv_iload_n hx hb dX4_takeFlow_112 rfl (lv_at hl 1 rfl) ?_
            refine lv_aload_n hx hb dX4_takeFlow_113 rfl (lv_at hl 2 rfl) ?_
            refine g_get (C := RX4) (T := TX4) (N := 43) (ci := 6) (v := .long (lZ (mu10w 2 0))) hx hb hts hi6 hown hK hW fM rfl 2 (by decide) (hts (.fieldLink RX4 137 "LongTransferModel" "now" "J") (by decide +kernel)) (fun _ h9 => h9) rfl dX4_takeFlow_114 ?_
            rw [t2_0]
            refine g_last (x := mu 2 (0)) hx hb hK hW hS f15_ (by omega) (by omega) (by omega) dX4_takeFlow_117 (fun H locs hW hS => ?_)
            obtain ⟨en11w, hen11w⟩ : ∃ x : en_T, x = e2 en10w 35 0 (some (b 15, aJ dA (101) (uF (mu10w 15) (mm) (mu 2 (0))))) := ⟨_, rfl⟩
            rw [← hen11w] at hW
            obtain ⟨mu11w, hmu11w⟩ : ∃ x : Mu, x = u2 mu10w 15 (mm) (mu 2 (0)) := ⟨_, rfl⟩
            have hE11w : EM dA b mu11w en11w := by rw [hen11w, hmu11w]; exact em_w hE10w (k0 := 15) (j := mm) (v := mu 2 (0)) (by decide)
            have hF11w : FM en10w en11w := fun k i q => by rw [hen11w]; exact e2_k (fun w => q (by rw [w]; decide))
            have hF11w := FM.tr hF10w hF11w
            replace t2_0 : mu11w 2 (0) = mu 2 (0) := by rw [hmu11w]; exact (u2_n (fun q => absurd q.1 (by decide))).trans t2_0
            replace t6_mm : mu11w 6 (mm) = mu 6 (mm) := by rw [hmu11w]; exact (u2_n (fun q => absurd q.1 (by decide))).trans t6_mm
            replace t7_mm : mu11w 7 (mm) = 2 := by rw [hmu11w]; exact (u2_n (fun q => absurd q.1 (by decide))).trans t7_mm
            replace t8_mm : mu11w 8 (mm) = mu 8 (mm) := by rw [hmu11w]; exact (u2_n (fun q => absurd q.1 (by decide))).trans t8_mm
            replace t9_mm : mu11w 9 (mm) = mu 9 (mm) := by rw [hmu11w]; exact (u2_n (fun q => absurd q.1 (by decide))).trans t9_mm
            replace t10_mm : mu11w 10 (mm) = mu 30 (ff) := by rw [hmu11w]; exact (u2_n (fun q => absurd q.1 (by decide))).trans t10_mm
            replace t11_mm : mu11w 11 (mm) = mu 30 (ff) := by rw [hmu11w]; exact (u2_n (fun q => absurd q.1 (by decide))).trans t11_mm
            replace t12_mm : mu11w 12 (mm) = 127 := by rw [hmu11w]; exact (u2_n (fun q => absurd q.1 (by decide))).trans t12_mm
            replace t13_mm : mu11w 13 (mm) = mu 13 (mm) := by rw [hmu11w]; exact (u2_n (fun q => absurd q.1 (by decide))).trans t13_mm
            replace t14_mm : mu11w 14 (mm) = mu 14 (mm) := by rw [hmu11w]; exact (u2_n (fun q => absurd q.1 (by decide))).trans t14_mm
            replace t15_mm : mu11w 15 (mm) = mu 2 (0) := by rw [hmu11w]; exact u2_s _ _ _ _
            replace t30_ff : mu11w 30 (ff) = mu 30 (ff) := by rw [hmu11w]; exact (u2_n (fun q => absurd q.1 (by decide))).trans t30_ff
            replace t38_0 : mu11w 38 (0) = mu 38 (0) := by rw [hmu11w]; exact (u2_n (fun q => absurd q.1 (by decide))).trans t38_0
            have fM : en11w 20 0 = some (b 0, .inr (6, [.int (iZ (mu11w 0 0)), .int (iZ (mu11w 1 0)), .long (lZ (mu11w 2 0)), .int (iZ (mu11w 3 0)), .ref (b 4), .ref (b 5), .ref (b 6), .ref (b 7), .ref (b 8), .ref (b 9), .ref (b 10), .ref (b 11), .ref (b 12), .ref (b 13), .ref (b 14), .ref (b 15), .ref (b 16), .ref (b 17), .ref (b 18), .ref (b 19), .ref (b 20), .ref (b 21), .ref (b 22), .ref (b 23), .ref (b 24), .ref (b 25), .int (iZ (mu11w 26 0)), .ref (b 27), .ref (b 28), .ref (b 29), .ref (b 30), .ref (b 31), .ref (b 32), .ref (b 33), .ref (b 34), .int (iZ (mu11w 35 0)), .int (iZ (mu11w 36 0)), .int (iZ (mu11w 37 0)), .int (iZ (mu11w 38 0)), .int (iZ (mu11w 39 0)), .int (iZ (mu11w 40 0)), .ref (b 41), .ref (b 42)])) := hE11w.1
            have f7_ : en11w 27 0 = some (b 7, aI dA (101) (mu11w 7)) := hE11w.2 7 (by decide)
            have f10_ : en11w 30 0 = some (b 10, aI dA (101) (mu11w 10)) := hE11w.2 10 (by decide)
            have f11_ : en11w 31 0 = some (b 11, aI dA (101) (mu11w 11)) := hE11w.2 11 (by decide)
            have f12_ : en11w 32 0 = some (b 12, aI dA (101) (mu11w 12)) := hE11w.2 12 (by decide)
            have f13_ : en11w 33 0 = some (b 13, aI dA (101) (mu11w 13)) := hE11w.2 13 (by decide)
            have f14_ : en11w 34 0 = some (b 14, aJ dA (101) (mu11w 14)) := hE11w.2 14 (by decide)
            have f15_ : en11w 35 0 = some (b 15, aJ dA (101) (mu11w 15)) := hE11w.2 15 (by decide)
            have f28_ : en11w 48 0 = some (b 28, aI dA (6001) (mu11w 28)) := hE11w.2 28 (by decide)
            have f29_ : en11w 49 0 = some (b 29, aI dA (6001) (mu11w 29)) := hE11w.2 29 (by decide)
            have f30_ : en11w 50 0 = some (b 30, aI dA (6001) (mu11w 30)) := hE11w.2 30 (by decide)
            have f31_ : en11w 51 0 = some (b 31, aI dA (6001) (mu11w 31)) := hE11w.2 31 (by decide)
            refine lv_goto (tgt := 179) hx hb dX4_takeFlow_118 (by decide) ?_
            refine lv_aload_n hx hb dX4_takeFlow_179 rfl (lv_at hl 2 rfl) ?_
            refine g_get (C := RX4) (T := TX4) (N := 43) (ci := 6) (v := .ref (b 7)) hx hb hts hi6 hown hK hW fM rfl 7 (by decide) (hts (.fieldLink RX4 22 "LongTransferModel" "state" "[I") (by decide +kernel)) (fun _ h9 => h9) rfl dX4_takeFlow_180 ?_
            refine lv_iload_n hx hb dX4_takeFlow_183 rfl (lv_at hl 1 rfl) ?_
            refine g_iald hx hb hK hW f7_ (by omega) (by omega) (by omega) dX4_takeFlow_184 ?_
            rw [t7_mm]
            have hg1 : sTkF g mm ff = sGo g mm (g 23 ff 0) (tkO (g 24 ff 0)) := if_pos (by omega)
            have hv : 127 = tkO (g 24 ff 0) := by unfold tkO; first | rw [if_pos (by omega)]; omega | rw [if_neg (by omega), if_pos (by omega)] | rw [if_neg (by omega), if_neg (by omega)]
            have v12 : sGo g mm (g 23 ff 0) (tkO (g 24 ff 0)) 12 mm 0 = 2 := by simp [sGo, wr]
            have v16 : sGo g mm (g 23 ff 0) (tkO (g 24 ff 0)) 16 mm 0 = g 23 ff 0 := by simp [sGo, wr]
            have v17 : sGo g mm (g 23 ff 0) (tkO (g 24 ff 0)) 17 mm 0 = tkO (g 24 ff 0) := by simp [sGo, wr]
            have v18 : sGo g mm (g 23 ff 0) (tkO (g 24 ff 0)) 18 mm 0 = g 0 7 0 := by simp [sGo, wr]
            have v13 : sGo g mm (g 23 ff 0) (tkO (g 24 ff 0)) 13 mm 0 = g 13 mm 0 := by simp [sGo, wr]
            have v14 : sGo g mm (g 23 ff 0) (tkO (g 24 ff 0)) 14 mm 0 = g 14 mm 0 := by simp [sGo, wr]
            have v15 : sGo g mm (g 23 ff 0) (tkO (g 24 ff 0)) 15 mm 0 = g 15 mm 0 := by simp [sGo, wr]
            have v8 : sGo g mm (g 23 ff 0) (tkO (g 24 ff 0)) 0 8 0 = g 0 8 0 := by simp [sGo, wr]
            have hN : RN (sGo g mm (g 23 ff 0) (tkO (g 24 ff 0))) mu11w mm := RN_2 (by rw [v8, t6_mm]; exact hN6 ()) (by omega) v12 (by omega) (by omega) (by omega) (by omega) (by omega) (by omega) (by omega) (by omega) (by omega)
            have hpst : Rl (sRcS g ff) mu11w := by rw [hgo, hg1]; exact rl_2 hI hR (m := mm) (by omega) (fun t i j q => by unfold sGo; rw [wr_n (by omega), wr_n (by omega), wr_n (by omega), wr_n (by omega)]) (fun j q => by rw [v8]) (fun t j q => by rw [hmu11w, u2_n (by omega), hmu10w, u2_n (by omega), hmu7w, u2_n (by omega), hmu6w, u2_n (by omega), hmu5w, u2_n (by omega)]) hN
            exact W.iret hx hb hr (fun t ht hw => ⟨⟨_, (en11w, mu11w), rfl, ⟨by rw [← hmm, hgo, hg1, v12], hE11w, hF11w, hpst⟩, by show Wd _ _ _ t.heap; rw [ht]; exact hW⟩, hS.F ht⟩) hS.2.2 dX4_takeFlow_185
          · refine z_iconst hx hb dX4_takeFlow_101 ?_
            refine lv_goto (tgt := 107) hx hb dX4_takeFlow_102 (by decide) ?_
            refine g_iast (x := 1) hx hb hK hW hS f12_ (by omega) (by omega) (by omega) dX4_takeFlow_107 (fun H locs hW hS => ?_)
            obtain ⟨en12w, hen12w⟩ : ∃ x : en_T, x = e2 en7w 32 0 (some (b 12, aI dA (101) (uF (mu7w 12) (mm) (1)))) := ⟨_, rfl⟩
            rw [← hen12w] at hW
            obtain ⟨mu12w, hmu12w⟩ : ∃ x : Mu, x = u2 mu7w 12 (mm) (1) := ⟨_, rfl⟩
            have hE12w : EM dA b mu12w en12w := by rw [hen12w, hmu12w]; exact em_w hE7w (k0 := 12) (j := mm) (v := 1) (by decide)
            have hF12w : FM en7w en12w := fun k i q => by rw [hen12w]; exact e2_k (fun w => q (by rw [w]; decide))
            have hF12w := FM.tr hF7w hF12w
            replace t2_0 : mu12w 2 (0) = mu 2 (0) := by rw [hmu12w]; exact (u2_n (fun q => absurd q.1 (by decide))).trans t2_0
            replace t6_mm : mu12w 6 (mm) = mu 6 (mm) := by rw [hmu12w]; exact (u2_n (fun q => absurd q.1 (by decide))).trans t6_mm
            replace t7_mm : mu12w 7 (mm) = 2 := by rw [hmu12w]; exact (u2_n (fun q => absurd q.1 (by decide))).trans t7_mm
            replace t8_mm : mu12w 8 (mm) = mu 8 (mm) := by rw [hmu12w]; exact (u2_n (fun q => absurd q.1 (by decide))).trans t8_mm
            replace t9_mm : mu12w 9 (mm) = mu 9 (mm) := by rw [hmu12w]; exact (u2_n (fun q => absurd q.1 (by decide))).trans t9_mm
            replace t10_mm : mu12w 10 (mm) = mu 30 (ff) := by rw [hmu12w]; exact (u2_n (fun q => absurd q.1 (by decide))).trans t10_mm
            replace t11_mm : mu12w 11 (mm) = mu 30 (ff) := by rw [hmu12w]; exact (u2_n (fun q => absurd q.1 (by decide))).trans t11_mm
            replace t12_mm : mu12w 12 (mm) = 1 := by rw [hmu12w]; exact u2_s _ _ _ _
            replace t13_mm : mu12w 13 (mm) = mu 13 (mm) := by rw [hmu12w]; exact (u2_n (fun q => absurd q.1 (by decide))).trans t13_mm
            replace t14_mm : mu12w 14 (mm) = mu 14 (mm) := by rw [hmu12w]; exact (u2_n (fun q => absurd q.1 (by decide))).trans t14_mm
            replace t15_mm : mu12w 15 (mm) = mu 15 (mm) := by rw [hmu12w]; exact (u2_n (fun q => absurd q.1 (by decide))).trans t15_mm
            replace t30_ff : mu12w 30 (ff) = mu 30 (ff) := by rw [hmu12w]; exact (u2_n (fun q => absurd q.1 (by decide))).trans t30_ff
            replace t38_0 : mu12w 38 (0) = mu 38 (0) := by rw [hmu12w]; exact (u2_n (fun q => absurd q.1 (by decide))).trans t38_0
            have fM : en12w 20 0 = some (b 0, .inr (6, [.int (iZ (mu12w 0 0)), .int (iZ (mu12w 1 0)), .long (lZ (mu12w 2 0)), .int (iZ (mu12w 3 0)), .ref (b 4), .ref (b 5), .ref (b 6), .ref (b 7), .ref (b 8), .ref (b 9), .ref (b 10), .ref (b 11), .ref (b 12), .ref (b 13), .ref (b 14), .ref (b 15), .ref (b 16), .ref (b 17), .ref (b 18), .ref (b 19), .ref (b 20), .ref (b 21), .ref (b 22), .ref (b 23), .ref (b 24), .ref (b 25), .int (iZ (mu12w 26 0)), .ref (b 27), .ref (b 28), .ref (b 29), .ref (b 30), .ref (b 31), .ref (b 32), .ref (b 33), .ref (b 34), .int (iZ (mu12w 35 0)), .int (iZ (mu12w 36 0)), .int (iZ (mu12w 37 0)), .int (iZ (mu12w 38 0)), .int (iZ (mu12w 39 0)), .int (iZ (mu12w 40 0)), .ref (b 41), .ref (b 42)])) := hE12w.1
            have f7_ : en12w 27 0 = some (b 7, aI dA (101) (mu12w 7)) := hE12w.2 7 (by decide)
            have f10_ : en12w 30 0 = some (b 10, aI dA (101) (mu12w 10)) := hE12w.2 10 (by decide)
            have f11_ : en12w 31 0 = some (b 11, aI dA (101) (mu12w 11)) := hE12w.2 11 (by decide)
            have f12_ : en12w 32 0 = some (b 12, aI dA (101) (mu12w 12)) := hE12w.2 12 (by decide)
            have f13_ : en12w 33 0 = some (b 13, aI dA (101) (mu12w 13)) := hE12w.2 13 (by decide)
            have f14_ : en12w 34 0 = some (b 14, aJ dA (101) (mu12w 14)) := hE12w.2 14 (by decide)
            have f15_ : en12w 35 0 = some (b 15, aJ dA (101) (mu12w 15)) := hE12w.2 15 (by decide)
            have f28_ : en12w 48 0 = some (b 28, aI dA (6001) (mu12w 28)) := hE12w.2 28 (by decide)
            have f29_ : en12w 49 0 = some (b 29, aI dA (6001) (mu12w 29)) := hE12w.2 29 (by decide)
            have f30_ : en12w 50 0 = some (b 30, aI dA (6001) (mu12w 30)) := hE12w.2 30 (by decide)
            have f31_ : en12w 51 0 = some (b 31, aI dA (6001) (mu12w 31)) := hE12w.2 31 (by decide)
            refine lv_aload_n hx hb dX4_takeFlow_108 rfl (lv_at hl 2 rfl) ?_
            refine g_get (C := RX4) (T := TX4) (N := 43) (ci := 6) (v := .ref (b 15)) hx hb hts hi6 hown hK hW fM rfl 15 (by decide) (hts (.fieldLink RX4 47 "LongTransferModel" "due" "[J") (by decide +kernel)) (fun _ h9 => h9) rfl dX4_takeFlow_109 ?_
            refine lv_iload_n hx hb dX4_takeFlow_112 rfl (lv_at hl 1 rfl) ?_
            refine lv_aload_n hx hb dX4_takeFlow_113 rfl (lv_at hl 2 rfl) ?_
            refine g_get (C := RX4) (T := TX4) (N := 43) (ci := 6) (v := .long (lZ (mu12w 2 0))) hx hb hts hi6 hown hK hW fM rfl 2 (by decide) (hts (.fieldLink RX4 137 "LongTransferModel" "now" "J") (by decide +kernel)) (fun _ h9 => h9) rfl dX4_takeFlow_114 ?_
            rw [t2_0]
            refine g_last (x := mu 2 (0)) hx hb hK hW hS f15_ (by omega) (by omega) (by omega) dX4_takeFlow_117 (fun H locs hW hS => ?_)
            obtain ⟨en13w, hen13w⟩ : ∃ x : en_T, x = e2 en12w 35 0 (some (b 15, aJ dA (101) (uF (mu12w 15) (mm) (mu 2 (0))))) := ⟨_, rfl⟩
            rw [← hen13w] at hW
            obtain ⟨mu13w, hmu13w⟩ : ∃ x : Mu, x = u2 mu12w 15 (mm) (mu 2 (0)) := ⟨_, rfl⟩
            have hE13w : EM dA b mu13w en13w := by rw [hen13w, hmu13w]; exact em_w hE12w (k0 := 15) (j := mm) (v := mu 2 (0)) (by decide)
            have hF13w : FM en12w en13w := fun k i q => by rw [hen13w]; exact e2_k (fun w => q (by rw [w]; decide))
            have hF13w := FM.tr hF12w hF13w
            replace t2_0 : mu13w 2 (0) = mu 2 (0) := by rw [hmu13w]; exact (u2_n (fun q => absurd q.1 (by decide))).trans t2_0
            replace t6_mm : mu13w 6 (mm) = mu 6 (mm) := by rw [hmu13w]; exact (u2_n (fun q => absurd q.1 (by decide))).trans t6_mm
            replace t7_mm : mu13w 7 (mm) = 2 := by rw [hmu13w]; exact (u2_n (fun q => absurd q.1 (by decide))).trans t7_mm
            replace t8_mm : mu13w 8 (mm) = mu 8 (mm) := by rw [hmu13w]; exact (u2_n (fun q => absurd q.1 (by decide))).trans t8_mm
            replace t9_mm : mu13w 9 (mm) = mu 9 (mm) := by rw [hmu13w]; exact (u2_n (fun q => absurd q.1 (by decide))).trans t9_mm
            replace t10_mm : mu13w 10 (mm) = mu 30 (ff) := by rw [hmu13w]; exact (u2_n (fun q => absurd q.1 (by decide))).trans t10_mm
            replace t11_mm : mu13w 11 (mm) = mu 30 (ff) := by rw [hmu13w]; exact (u2_n (fun q => absurd q.1 (by decide))).trans t11_mm
            replace t12_mm : mu13w 12 (mm) = 1 := by rw [hmu13w]; exact (u2_n (fun q => absurd q.1 (by decide))).trans t12_mm
            replace t13_mm : mu13w 13 (mm) = mu 13 (mm) := by rw [hmu13w]; exact (u2_n (fun q => absurd q.1 (by decide))).trans t13_mm
            replace t14_mm : mu13w 14 (mm) = mu 14 (mm) := by rw [hmu13w]; exact (u2_n (fun q => absurd q.1 (by decide))).trans t14_mm
            replace t15_mm : mu13w 15 (mm) = mu 2 (0) := by rw [hmu13w]; exact u2_s _ _ _ _
            replace t30_ff : mu13w 30 (ff) = mu 30 (ff) := by rw [hmu13w]; exact (u2_n (fun q => absurd q.1 (by decide))).trans t30_ff
            replace t38_0 : mu13w 38 (0) = mu 38 (0) := by rw [hmu13w]; exact (u2_n (fun q => absurd q.1 (by decide))).trans t38_0
            have fM : en13w 20 0 = some (b 0, .inr (6, [.int (iZ (mu13w 0 0)), .int (iZ (mu13w 1 0)), .long (lZ (mu13w 2 0)), .int (iZ (mu13w 3 0)), .ref (b 4), .ref (b 5), .ref (b 6), .ref (b 7), .ref (b 8), .ref (b 9), .ref (b 10), .ref (b 11), .ref (b 12), .ref (b 13), .ref (b 14), .ref (b 15), .ref (b 16), .ref (b 17), .ref (b 18), .ref (b 19), .ref (b 20), .ref (b 21), .ref (b 22), .ref (b 23), .ref (b 24), .ref (b 25), .int (iZ (mu13w 26 0)), .ref (b 27), .ref (b 28), .ref (b 29), .ref (b 30), .ref (b 31), .ref (b 32), .ref (b 33), .ref (b 34), .int (iZ (mu13w 35 0)), .int (iZ (mu13w 36 0)), .int (iZ (mu13w 37 0)), .int (iZ (mu13w 38 0)), .int (iZ (mu13w 39 0)), .int (iZ (mu13w 40 0)), .ref (b 41), .ref (b 42)])) := hE13w.1
            have f7_ : en13w 27 0 = some (b 7, aI dA (101) (mu13w 7)) := hE13w.2 7 (by decide)
            have f10_ : en13w 30 0 = some (b 10, aI dA (101) (mu13w 10)) := hE13w.2 10 (by decide)
            have f11_ : en13w 31 0 = some (b 11, aI dA (101) (mu13w 11)) := hE13w.2 11 (by decide)
            have f12_ : en13w 32 0 = some (b 12, aI dA (101) (mu13w 12)) := hE13w.2 12 (by decide)
            have f13_ : en13w 33 0 = some (b 13, aI dA (101) (mu13w 13)) := hE13w.2 13 (by decide)
            have f14_ : en13w 34 0 = some (b 14, aJ dA (101) (mu13w 14)) := hE13w.2 14 (by decide)
            have f15_ : en13w 35 0 = some (b 15, aJ dA (101) (mu13w 15)) := hE13w.2 15 (by decide)
            have f28_ : en13w 48 0 = some (b 28, aI dA (6001) (mu13w 28)) := hE13w.2 28 (by decide)
            have f29_ : en13w 49 0 = some (b 29, aI dA (6001) (mu13w 29)) := hE13w.2 29 (by decide)
            have f30_ : en13w 50 0 = some (b 30, aI dA (6001) (mu13w 30)) := hE13w.2 30 (by decide)
            have f31_ : en13w 51 0 = some (b 31, aI dA (6001) (mu13w 31)) := hE13w.2 31 (by decide)
            refine lv_goto (tgt := 179) hx hb dX4_takeFlow_118 (by decide) ?_
            refine lv_aload_n hx hb dX4_takeFlow_179 rfl (lv_at hl 2 rfl) ?_
            refine g_get (C := RX4) (T := TX4) (N := 43) (ci := 6) (v := .ref (b 7)) hx hb hts hi6 hown hK hW fM rfl 7 (by decide) (hts (.fieldLink RX4 22 "LongTransferModel" "state" "[I") (by decide +kernel)) (fun _ h9 => h9) rfl dX4_takeFlow_180 ?_
            refine lv_iload_n hx hb dX4_takeFlow_183 rfl (lv_at hl 1 rfl) ?_
            refine g_iald hx hb hK hW f7_ (by omega) (by omega) (by omega) dX4_takeFlow_184 ?_
            rw [t7_mm]
            have hg1 : sTkF g mm ff = sGo g mm (g 23 ff 0) (tkO (g 24 ff 0)) := if_pos (by omega)
            have hv : 1 = tkO (g 24 ff 0) := by unfold tkO; first | rw [if_pos (by omega)]; omega | rw [if_neg (by omega), if_pos (by omega)] | rw [if_neg (by omega), if_neg (by omega)]
            have v12 : sGo g mm (g 23 ff 0) (tkO (g 24 ff 0)) 12 mm 0 = 2 := by simp [sGo, wr]
            have v16 : sGo g mm (g 23 ff 0) (tkO (g 24 ff 0)) 16 mm 0 = g 23 ff 0 := by simp [sGo, wr]
            have v17 : sGo g mm (g 23 ff 0) (tkO (g 24 ff 0)) 17 mm 0 = tkO (g 24 ff 0) := by simp [sGo, wr]
            have v18 : sGo g mm (g 23 ff 0) (tkO (g 24 ff 0)) 18 mm 0 = g 0 7 0 := by simp [sGo, wr]
            have v13 : sGo g mm (g 23 ff 0) (tkO (g 24 ff 0)) 13 mm 0 = g 13 mm 0 := by simp [sGo, wr]
            have v14 : sGo g mm (g 23 ff 0) (tkO (g 24 ff 0)) 14 mm 0 = g 14 mm 0 := by simp [sGo, wr]
            have v15 : sGo g mm (g 23 ff 0) (tkO (g 24 ff 0)) 15 mm 0 = g 15 mm 0 := by simp [sGo, wr]
            have v8 : sGo g mm (g 23 ff 0) (tkO (g 24 ff 0)) 0 8 0 = g 0 8 0 := by simp [sGo, wr]
            have hN : RN (sGo g mm (g 23 ff 0) (tkO (g 24 ff 0))) mu13w mm := RN_2 (by rw [v8, t6_mm]; exact hN6 ()) (by omega) v12 (by omega) (by omega) (by omega) (by omega) (by omega) (by omega) (by omega) (by omega) (by omega)
            have hpst : Rl (sRcS g ff) mu13w := by rw [hgo, hg1]; exact rl_2 hI hR (m := mm) (by omega) (fun t i j q => by unfold sGo; rw [wr_n (by omega), wr_n (by omega), wr_n (by omega), wr_n (by omega)]) (fun j q => by rw [v8]) (fun t j q => by rw [hmu13w, u2_n (by omega), hmu12w, u2_n (by omega), hmu7w, u2_n (by omega), hmu6w, u2_n (by omega), hmu5w, u2_n (by omega)]) hN
            exact W.iret hx hb hr (fun t ht hw => ⟨⟨_, (en13w, mu13w), rfl, ⟨by rw [← hmm, hgo, hg1, v12], hE13w, hF13w, hpst⟩, by show Wd _ _ _ t.heap; rw [ht]; exact hW⟩, hS.F ht⟩) hS.2.2 dX4_takeFlow_185
      · refine lv_iload_n hx hb dX4_takeFlow_83 rfl (lv_at hl 0 rfl) ?_
        refine lv_goto (tgt := 107) hx hb dX4_takeFlow_84 (by decide) ?_
        refine g_iast (x := (mu 31) (ff)) hx hb hK hW hS f12_ (by omega) (by omega) (by omega) dX4_takeFlow_107 (fun H locs hW hS => ?_)
        obtain ⟨en14w, hen14w⟩ : ∃ x : en_T, x = e2 en7w 32 0 (some (b 12, aI dA (101) (uF (mu7w 12) (mm) ((mu 31) (ff))))) := ⟨_, rfl⟩
        rw [← hen14w] at hW
        obtain ⟨mu14w, hmu14w⟩ : ∃ x : Mu, x = u2 mu7w 12 (mm) ((mu 31) (ff)) := ⟨_, rfl⟩
        have hE14w : EM dA b mu14w en14w := by rw [hen14w, hmu14w]; exact em_w hE7w (k0 := 12) (j := mm) (v := (mu 31) (ff)) (by decide)
        have hF14w : FM en7w en14w := fun k i q => by rw [hen14w]; exact e2_k (fun w => q (by rw [w]; decide))
        have hF14w := FM.tr hF7w hF14w
        replace t2_0 : mu14w 2 (0) = mu 2 (0) := by rw [hmu14w]; exact (u2_n (fun q => absurd q.1 (by decide))).trans t2_0
        replace t6_mm : mu14w 6 (mm) = mu 6 (mm) := by rw [hmu14w]; exact (u2_n (fun q => absurd q.1 (by decide))).trans t6_mm
        replace t7_mm : mu14w 7 (mm) = 2 := by rw [hmu14w]; exact (u2_n (fun q => absurd q.1 (by decide))).trans t7_mm
        replace t8_mm : mu14w 8 (mm) = mu 8 (mm) := by rw [hmu14w]; exact (u2_n (fun q => absurd q.1 (by decide))).trans t8_mm
        replace t9_mm : mu14w 9 (mm) = mu 9 (mm) := by rw [hmu14w]; exact (u2_n (fun q => absurd q.1 (by decide))).trans t9_mm
        replace t10_mm : mu14w 10 (mm) = mu 30 (ff) := by rw [hmu14w]; exact (u2_n (fun q => absurd q.1 (by decide))).trans t10_mm
        replace t11_mm : mu14w 11 (mm) = mu 30 (ff) := by rw [hmu14w]; exact (u2_n (fun q => absurd q.1 (by decide))).trans t11_mm
        replace t12_mm : mu14w 12 (mm) = (mu 31) (ff) := by rw [hmu14w]; exact u2_s _ _ _ _
        replace t13_mm : mu14w 13 (mm) = mu 13 (mm) := by rw [hmu14w]; exact (u2_n (fun q => absurd q.1 (by decide))).trans t13_mm
        replace t14_mm : mu14w 14 (mm) = mu 14 (mm) := by rw [hmu14w]; exact (u2_n (fun q => absurd q.1 (by decide))).trans t14_mm
        replace t15_mm : mu14w 15 (mm) = mu 15 (mm) := by rw [hmu14w]; exact (u2_n (fun q => absurd q.1 (by decide))).trans t15_mm
        replace t30_ff : mu14w 30 (ff) = mu 30 (ff) := by rw [hmu14w]; exact (u2_n (fun q => absurd q.1 (by decide))).trans t30_ff
        replace t38_0 : mu14w 38 (0) = mu 38 (0) := by rw [hmu14w]; exact (u2_n (fun q => absurd q.1 (by decide))).trans t38_0
        have fM : en14w 20 0 = some (b 0, .inr (6, [.int (iZ (mu14w 0 0)), .int (iZ (mu14w 1 0)), .long (lZ (mu14w 2 0)), .int (iZ (mu14w 3 0)), .ref (b 4), .ref (b 5), .ref (b 6), .ref (b 7), .ref (b 8), .ref (b 9), .ref (b 10), .ref (b 11), .ref (b 12), .ref (b 13), .ref (b 14), .ref (b 15), .ref (b 16), .ref (b 17), .ref (b 18), .ref (b 19), .ref (b 20), .ref (b 21), .ref (b 22), .ref (b 23), .ref (b 24), .ref (b 25), .int (iZ (mu14w 26 0)), .ref (b 27), .ref (b 28), .ref (b 29), .ref (b 30), .ref (b 31), .ref (b 32), .ref (b 33), .ref (b 34), .int (iZ (mu14w 35 0)), .int (iZ (mu14w 36 0)), .int (iZ (mu14w 37 0)), .int (iZ (mu14w 38 0)), .int (iZ (mu14w 39 0)), .int (iZ (mu14w 40 0)), .ref (b 41), .ref (b 42)])) := hE14w.1
        have f7_ : en14w 27 0 = some (b 7, aI dA (101) (mu14w 7)) := hE14w.2 7 (by decide)
        have f10_ : en14w 30 0 = some (b 10, aI dA (101) (mu14w 10)) := hE14w.2 10 (by decide)
        have f11_ : en14w 31 0 = some (b 11, aI dA (101) (mu14w 11)) := hE14w.2 11 (by decide)
        have f12_ : en14w 32 0 = some (b 12, aI dA (101) (mu14w 12)) := hE14w.2 12 (by decide)
        have f13_ : en14w 33 0 = some (b 13, aI dA (101) (mu14w 13)) := hE14w.2 13 (by decide)
        have f14_ : en14w 34 0 = some (b 14, aJ dA (101) (mu14w 14)) := hE14w.2 14 (by decide)
        have f15_ : en14w 35 0 = some (b 15, aJ dA (101) (mu14w 15)) := hE14w.2 15 (by decide)
        have f28_ : en14w 48 0 = some (b 28, aI dA (6001) (mu14w 28)) := hE14w.2 28 (by decide)
        have f29_ : en14w 49 0 = some (b 29, aI dA (6001) (mu14w 29)) := hE14w.2 29 (by decide)
        have f30_ : en14w 50 0 = some (b 30, aI dA (6001) (mu14w 30)) := hE14w.2 30 (by decide)
        have f31_ : en14w 51 0 = some (b 31, aI dA (6001) (mu14w 31)) := hE14w.2 31 (by decide)
        refine lv_aload_n hx hb dX4_takeFlow_108 rfl (lv_at hl 2 rfl) ?_
        refine g_get (C := RX4) (T := TX4) (N := 43) (ci := 6) (v := .ref (b 15)) hx hb hts hi6 hown hK hW fM rfl 15 (by decide) (hts (.fieldLink RX4 47 "LongTransferModel" "due" "[J") (by decide +kernel)) (fun _ h9 => h9) rfl dX4_takeFlow_109 ?_
        refine lv_iload_n hx hb dX4_takeFlow_112 rfl (lv_at hl 1 rfl) ?_
        refine lv_aload_n hx hb dX4_takeFlow_113 rfl (lv_at hl 2 rfl) ?_
        refine g_get (C := RX4) (T := TX4) (N := 43) (ci := 6) (v := .long (lZ (mu14w 2 0))) hx hb hts hi6 hown hK hW fM rfl 2 (by decide) (hts (.fieldLink RX4 137 "LongTransferModel" "now" "J") (by decide +kernel)) (fun _ h9 => h9) rfl dX4_takeFlow_114 ?_
        rw [t2_0]
        refine g_last (x := mu 2 (0)) hx hb hK hW hS f15_ (by omega) (by omega) (by omega) dX4_takeFlow_117 (fun H locs hW hS => ?_)
        obtain ⟨en15w, hen15w⟩ : ∃ x : en_T, x = e2 en14w 35 0 (some (b 15, aJ dA (101) (uF (mu14w 15) (mm) (mu 2 (0))))) := ⟨_, rfl⟩
        rw [← hen15w] at hW
        obtain ⟨mu15w, hmu15w⟩ : ∃ x : Mu, x = u2 mu14w 15 (mm) (mu 2 (0)) := ⟨_, rfl⟩
        have hE15w : EM dA b mu15w en15w := by rw [hen15w, hmu15w]; exact em_w hE14w (k0 := 15) (j := mm) (v := mu 2 (0)) (by decide)
        have hF15w : FM en14w en15w := fun k i q => by rw [hen15w]; exact e2_k (fun w => q (by rw [w]; decide))
        have hF15w := FM.tr hF14w hF15w
        replace t2_0 : mu15w 2 (0) = mu 2 (0) := by rw [hmu15w]; exact (u2_n (fun q => absurd q.1 (by decide))).trans t2_0
        replace t6_mm : mu15w 6 (mm) = mu 6 (mm) := by rw [hmu15w]; exact (u2_n (fun q => absurd q.1 (by decide))).trans t6_mm
        replace t7_mm : mu15w 7 (mm) = 2 := by rw [hmu15w]; exact (u2_n (fun q => absurd q.1 (by decide))).trans t7_mm
        replace t8_mm : mu15w 8 (mm) = mu 8 (mm) := by rw [hmu15w]; exact (u2_n (fun q => absurd q.1 (by decide))).trans t8_mm
        replace t9_mm : mu15w 9 (mm) = mu 9 (mm) := by rw [hmu15w]; exact (u2_n (fun q => absurd q.1 (by decide))).trans t9_mm
        replace t10_mm : mu15w 10 (mm) = mu 30 (ff) := by rw [hmu15w]; exact (u2_n (fun q => absurd q.1 (by decide))).trans t10_mm
        replace t11_mm : mu15w 11 (mm) = mu 30 (ff) := by rw [hmu15w]; exact (u2_n (fun q => absurd q.1 (by decide))).trans t11_mm
        replace t12_mm : mu15w 12 (mm) = (mu 31) (ff) := by rw [hmu15w]; exact (u2_n (fun q => absurd q.1 (by decide))).trans t12_mm
        replace t13_mm : mu15w 13 (mm) = mu 13 (mm) := by rw [hmu15w]; exact (u2_n (fun q => absurd q.1 (by decide))).trans t13_mm
        replace t14_mm : mu15w 14 (mm) = mu 14 (mm) := by rw [hmu15w]; exact (u2_n (fun q => absurd q.1 (by decide))).trans t14_mm
        replace t15_mm : mu15w 15 (mm) = mu 2 (0) := by rw [hmu15w]; exact u2_s _ _ _ _
        replace t30_ff : mu15w 30 (ff) = mu 30 (ff) := by rw [hmu15w]; exact (u2_n (fun q => absurd q.1 (by decide))).trans t30_ff
        replace t38_0 : mu15w 38 (0) = mu 38 (0) := by rw [hmu15w]; exact (u2_n (fun q => absurd q.1 (by decide))).trans t38_0
        have fM : en15w 20 0 = some (b 0, .inr (6, [.int (iZ (mu15w 0 0)), .int (iZ (mu15w 1 0)), .long (lZ (mu15w 2 0)), .int (iZ (mu15w 3 0)), .ref (b 4), .ref (b 5), .ref (b 6), .ref (b 7), .ref (b 8), .ref (b 9), .ref (b 10), .ref (b 11), .ref (b 12), .ref (b 13), .ref (b 14), .ref (b 15), .ref (b 16), .ref (b 17), .ref (b 18), .ref (b 19), .ref (b 20), .ref (b 21), .ref (b 22), .ref (b 23), .ref (b 24), .ref (b 25), .int (iZ (mu15w 26 0)), .ref (b 27), .ref (b 28), .ref (b 29), .ref (b 30), .ref (b 31), .ref (b 32), .ref (b 33), .ref (b 34), .int (iZ (mu15w 35 0)), .int (iZ (mu15w 36 0)), .int (iZ (mu15w 37 0)), .int (iZ (mu15w 38 0)), .int (iZ (mu15w 39 0)), .int (iZ (mu15w 40 0)), .ref (b 41), .ref (b 42)])) := hE15w.1
        have f7_ : en15w 27 0 = some (b 7, aI dA (101) (mu15w 7)) := hE15w.2 7 (by decide)
        have f10_ : en15w 30 0 = some (b 10, aI dA (101) (mu15w 10)) := hE15w.2 10 (by decide)
        have f11_ : en15w 31 0 = some (b 11, aI dA (101) (mu15w 11)) := hE15w.2 11 (by decide)
        have f12_ : en15w 32 0 = some (b 12, aI dA (101) (mu15w 12)) := hE15w.2 12 (by decide)
        have f13_ : en15w 33 0 = some (b 13, aI dA (101) (mu15w 13)) := hE15w.2 13 (by decide)
        have f14_ : en15w 34 0 = some (b 14, aJ dA (101) (mu15w 14)) := hE15w.2 14 (by decide)
        have f15_ : en15w 35 0 = some (b 15, aJ dA (101) (mu15w 15)) := hE15w.2 15 (by decide)
        have f28_ : en15w 48 0 = some (b 28, aI dA (6001) (mu15w 28)) := hE15w.2 28 (by decide)
        have f29_ : en15w 49 0 = some (b 29, aI dA (6001) (mu15w 29)) := hE15w.2 29 (by decide)
        have f30_ : en15w 50 0 = some (b 30, aI dA (6001) (mu15w 30)) := hE15w.2 30 (by decide)
        have f31_ : en15w 51 0 = some (b 31, aI dA (6001) (mu15w 31)) := hE15w.2 31 (by decide)
        refine lv_goto (tgt := 179) hx hb dX4_takeFlow_118 (by decide) ?_
        refine lv_aload_n hx hb dX4_takeFlow_179 rfl (lv_at hl 2 rfl) ?_
        refine g_get (C := RX4) (T := TX4) (N := 43) (ci := 6) (v := .ref (b 7)) hx hb hts hi6 hown hK hW fM rfl 7 (by decide) (hts (.fieldLink RX4 22 "LongTransferModel" "state" "[I") (by decide +kernel)) (fun _ h9 => h9) rfl dX4_takeFlow_180 ?_
        refine lv_iload_n hx hb dX4_takeFlow_183 rfl (lv_at hl 1 rfl) ?_
        refine g_iald hx hb hK hW f7_ (by omega) (by omega) (by omega) dX4_takeFlow_184 ?_
        rw [t7_mm]
        have hg1 : sTkF g mm ff = sGo g mm (g 23 ff 0) (tkO (g 24 ff 0)) := if_pos (by omega)
        have hv : (mu 31) (ff) = tkO (g 24 ff 0) := by unfold tkO; first | rw [if_pos (by omega)]; omega | rw [if_neg (by omega), if_pos (by omega)] | rw [if_neg (by omega), if_neg (by omega)]
        have v12 : sGo g mm (g 23 ff 0) (tkO (g 24 ff 0)) 12 mm 0 = 2 := by simp [sGo, wr]
        have v16 : sGo g mm (g 23 ff 0) (tkO (g 24 ff 0)) 16 mm 0 = g 23 ff 0 := by simp [sGo, wr]
        have v17 : sGo g mm (g 23 ff 0) (tkO (g 24 ff 0)) 17 mm 0 = tkO (g 24 ff 0) := by simp [sGo, wr]
        have v18 : sGo g mm (g 23 ff 0) (tkO (g 24 ff 0)) 18 mm 0 = g 0 7 0 := by simp [sGo, wr]
        have v13 : sGo g mm (g 23 ff 0) (tkO (g 24 ff 0)) 13 mm 0 = g 13 mm 0 := by simp [sGo, wr]
        have v14 : sGo g mm (g 23 ff 0) (tkO (g 24 ff 0)) 14 mm 0 = g 14 mm 0 := by simp [sGo, wr]
        have v15 : sGo g mm (g 23 ff 0) (tkO (g 24 ff 0)) 15 mm 0 = g 15 mm 0 := by simp [sGo, wr]
        have v8 : sGo g mm (g 23 ff 0) (tkO (g 24 ff 0)) 0 8 0 = g 0 8 0 := by simp [sGo, wr]
        have hN : RN (sGo g mm (g 23 ff 0) (tkO (g 24 ff 0))) mu15w mm := RN_2 (by rw [v8, t6_mm]; exact hN6 ()) (by omega) v12 (by omega) (by omega) (by omega) (by omega) (by omega) (by omega) (by omega) (by omega) (by omega)
        have hpst : Rl (sRcS g ff) mu15w := by rw [hgo, hg1]; exact rl_2 hI hR (m := mm) (by omega) (fun t i j q => by unfold sGo; rw [wr_n (by omega), wr_n (by omega), wr_n (by omega), wr_n (by omega)]) (fun j q => by rw [v8]) (fun t j q => by rw [hmu15w, u2_n (by omega), hmu14w, u2_n (by omega), hmu7w, u2_n (by omega), hmu6w, u2_n (by omega), hmu5w, u2_n (by omega)]) hN
        exact W.iret hx hb hr (fun t ht hw => ⟨⟨_, (en15w, mu15w), rfl, ⟨by rw [← hmm, hgo, hg1, v12], hE15w, hF15w, hpst⟩, by show Wd _ _ _ t.heap; rw [ht]; exact hW⟩, hS.F ht⟩) hS.2.2 dX4_takeFlow_185
  · refine lv_aload_n hx hb dX4_takeFlow_17 rfl (lv_at hl 1 rfl) ?_
    refine g_get (C := RX4) (T := TX4) (N := 43) (ci := 6) (v := .ref (b 7)) hx hb hts hi6 hown hK hW fM rfl 7 (by decide) (hts (.fieldLink RX4 22 "LongTransferModel" "state" "[I") (by decide +kernel)) (fun _ h9 => h9) rfl dX4_takeFlow_18 ?_
    refine lv_iload_n hx hb dX4_takeFlow_21 rfl (lv_at hl 0 rfl) ?_
    refine g_iald hx hb hK hW f7_ (by omega) (by omega) (by omega) dX4_takeFlow_22 ?_
    have hpst : Rl (sRcS g ff) mu := by have e : sRcS g ff = g := (if_neg (by rw [← hmm]; omega)); rw [e]; exact hR
    exact W.iret hx hb hr (fun t ht hw => ⟨⟨_, (en, mu), rfl, ⟨by have e : sRcS g ff = g := (if_neg (by rw [← hmm]; omega)); rw [e, ← hmm, n7], hE, (FM.rf _), hpst⟩, by show Wd _ _ _ t.heap; rw [ht]; exact hW⟩, hS.F ht⟩) hS.2.2 dX4_takeFlow_23
