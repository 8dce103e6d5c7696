theorem rl_d {g g' : St} {mu mu1 mu' : Mu} (hI : IB g) (h : Rl g mu) {m kd nu mo n f fr : Int} (h1 : 1 ≤ m) (h2 : m ≤ g 1 0 0) (hkd : 0 ≤ kd ∧ kd < 3) (hmo : 1 ≤ mo ∧ mo ≤ 7) (hfr : g 13 m 0 < g 11 m 0)
    (hg : ∀ (t : Nat) (i j : Int), ¬ (12 ≤ t ∧ t ≤ 18 ∧ i = m) ∧ ¬ (t = 0 ∧ i = 8) → g' t i j = sData g m kd nu mo t i j) (h8 : ∀ j : Int, j ≠ m → (j ≤ g' 0 8 0) = (j ≤ g 0 8 0))
    (hm1 : ∀ (t : Nat) (j : Int), ¬ (6 ≤ t ∧ t ≤ 15 ∧ j = m) → mu1 t j = mu t j) (hf : f = mu1 26 0 + 1) (hn : n = min (g 13 m 0 + mo) (g 11 m 0) - g 13 m 0) (hfr2 : fr = g 13 m 0)
    (hm : ∀ (t : Nat) (j : Int), ¬ (6 ≤ t ∧ t ≤ 15 ∧ j = m) → mu' t j = mFl (mMk mu1 kd m nu n 0) f m fr n t j) (hN : RN g' mu' m) : Rl g' mu' := by
  have e26 := hm1 26 0 (by omega)
  have hx := h.1
  unfold RX at hx
  have hf2 : f = g 1 1 0 + 1 := by omega
  have hs := hI.2.2.1 m h1 h2
  unfold IS at hs
  have hl := hI.2.1
  unfold IL at hl
  obtain ⟨vd, vd28⟩ := v_daf g m kd nu mo
  have hv := mMk_v mu1 kd m nu n 0
  rw [← hf, hf2] at hv
  have e2 := hm1 2 0 (by omega)
  have G : ∀ (t : Nat) (i j : Int), 20 ≤ t ∧ t ≤ 28 → g' t i j = sData g m kd nu mo t i j := fun t i j q => hg t i j (by omega)
  have M : ∀ (t : Nat) (j : Int), 26 ≤ t ∧ t ≤ 32 → mu' t j = mMk mu1 kd m nu n 0 t j := fun t j q => by rw [hm t j (by omega), mFl_n (by omega)]
  refine rl_1 hI h (m := m) h2 (fun t i j q => ?_) ?_ h8 (fun t j q => ?_) ?_ ?_ hN ?_
  · rw [hg t i j (by omega)]; exact v_dan (by omega)
  · rw [hg 1 1 0 (by omega)]; exact vd.1
  · rw [hm t j (by omega), mFl_n (by omega), mMk_n (by omega)]; exact hm1 t j (by omega)
  · rw [M 26 0 (by omega), hv.1]; omega
  · unfold RF
    rw [G 20 _ _ (by omega), G 21 _ _ (by omega), G 22 _ _ (by omega), G 23 _ _ (by omega), G 24 _ _ (by omega), G 25 _ _ (by omega), G 27 _ _ (by omega), M 27 _ (by omega), M 28 _ (by omega), M 29 _ (by omega), M 30 _ (by omega), M 31 _ (by omega), M 32 _ (by omega), vd.2.1, vd.2.2.1, vd.2.2.2.1, vd.2.2.2.2.1, vd.2.2.2.2.2.1, vd.2.2.2.2.2.2.1, vd.2.2.2.2.2.2.2, hv.2.1, hv.2.2.1, hv.2.2.2.1, hv.2.2.2.2.1, hv.2.2.2.2.2.1, hv.2.2.2.2.2.2]
    refine ⟨⟨rfl, rfl, rfl, by omega, rfl, by omega⟩, ?_, fun _ j q1 q2 => ?_⟩
    · rw [hm 33 _ (by omega), mFl_n (by omega), mMk_n (by omega), hm1 33 _ (by omega), h.2.2.2.2.2.1.2 _ (by omega)]
      rfl
    · rw [G 28 _ _ (by omega), vd28, hm 34 _ (by omega), ← hf2, mFl_v q1 (by omega), mMk_n (t := 4) (by omega), mMk_n (t := 5) (by omega), hm1 4 m (by omega), hm1 5 _ (by omega)]
      have hd := h.2.2.2.1.2.2.2.1 m (g 13 m 0 + j) h1 h2 (by omega) (by omega)
      rw [hfr2, Int.add_assoc, hd]
      unfold slF
      rw [if_pos (by omega)]
  · intro j
    rw [hm 34 j (by omega)]
    refine mFl_b (fun j => ?_) (fun j => ?_) j
    · rw [mMk_n (by omega), hm1 5 j (by omega)]; exact h.2.2.2.2.2.2.2 5 j (by omega)
    · rw [mMk_n (by omega), hm1 34 j (by omega)]; exact h.2.2.2.2.2.2.2 34 j (by omega)
theorem v_nxa {g : St} {m : Int} (h : ¬ 6000 ≤ g 1 1 0) (h1 : g 11 m 0 ≤ g 13 m 0 + 7) : sNext g m 12 m 0 = 3 ∧ sNext g m 18 m 0 = 9223372036854775807 := by
  obtain ⟨-, -, ⟨a, b, c, d⟩ | ⟨a, b, c, d, e⟩ | ⟨a, b, c, d, e⟩⟩ := v_nxs (g := g) (m := m) h
  · exact ⟨b, d⟩
  · omega
  · omega
theorem v_nxb {g : St} {m : Int} (h : ¬ 6000 ≤ g 1 1 0) (h1 : g 13 m 0 + 7 < g 11 m 0) (h2 : g 16 m 0 = 1) : sNext g m 12 m 0 = 1 ∧ sNext g m 13 m 0 = g 13 m 0 + 7 ∧ sNext g m 14 m 0 = (g 14 m 0 + 1) % 16 ∧ sNext g m 18 m 0 = g 0 7 0 + 1000 := by
  obtain ⟨e13, e14, ⟨a, b, c, d⟩ | ⟨a, b, c, d, e⟩ | ⟨a, b, c, d, e⟩⟩ := v_nxs (g := g) (m := m) h
  · omega
  · exact ⟨c, by omega, e14, e⟩
  · omega
theorem v_nxc {g : St} {m : Int} (h : ¬ 6000 ≤ g 1 1 0) (h1 : g 13 m 0 + 7 < g 11 m 0) (h2 : g 16 m 0 ≠ 1) : sNext g m 12 m 0 = g 12 m 0 ∧ sNext g m 13 m 0 = g 13 m 0 + 7 ∧ sNext g m 14 m 0 = (g 14 m 0 + 1) % 16 ∧ sNext g m 16 m 0 = max 0 (g 16 m 0 - 1) ∧ sNext g m 18 m 0 = g 0 7 0 + g 17 m 0 := by
  obtain ⟨e13, e14, ⟨a, b, c, d⟩ | ⟨a, b, c, d, e⟩ | ⟨a, b, c, d, e⟩⟩ := v_nxs (g := g) (m := m) h
  · omega
  · omega
  · exact ⟨c, by omega, e14, d, e⟩
set_option maxHeartbeats 4000000 in
set_option maxRecDepth 100000 in
theorem c_X4_sendNext (l : Launch) (D : va_G) (dA : Nat → ClassId) (z : Nat → Nat) (en : en_T) (b : Nat → Nat) (mu : Mu) (g : St) (mm : Int) (h0 : 1 ≤ mm) (h1 : mm ≤ g 1 0 0) (hst : g 12 mm 0 = 2) (hI : IB g) (hj : JB g) (hR : Rl g mu) (hE : EM dA b mu en) : Met l yX4_sendNext wsX4_sendNext ({ frames := 2, cells := 0, slots := 0, locals := 60 }) (gP D dA z en [.ref (b 0), .int (iZ (mm))]) (va_Qv (fun u : en_T × Mu => EM dA b u.2 u.1 ∧ FM en u.1 ∧ Rl (sNext g mm) u.2) (fun u t9 => Wd D (z 0) u.1 t9.heap) (fun q => z 0 ≤ q)) (0) (0) (fun q => z 0 ≤ q) := by
  refine gMet (own := RX4) (cc := cX4_sendNext) (maxL := 5) (ret := none) (by decide) rfl rfl (Nat.le_of_ble_eq_true rfl) ?_
  intro p e s m below meth c hx hb hml hown hts hr hlocks hnm hg hW ls hl
  have hK := hg.1
  have hS : va_S (fun q => z 0 ≤ q) s.heap s.heap [] := va_S.rf
  have hi6 : ∀ w ∈ u_ws RX4 TX4 43, w ∈ wsX4_sendNext := by decide +kernel
  have hl : lv_has ls 5 [(0, .ref (b 0)), (1, .int (iZ (mm)))] := hl
  obtain ⟨rX, rC, rG, rD, rS, rF, rR, rB⟩ := id hR
  unfold RX at rX
  obtain ⟨hIX, hIL, hIS, hIF, hIR, hIG⟩ := id hI
  unfold IL at hIL
  unfold IX at hIX
  obtain ⟨n6, n7, n8, n2, n1, n0⟩ : RN g mu mm := rS.1 mm (by omega) (by omega)
  have hN6 : ∀ _ : Unit, mu 6 mm = if mm ≤ g 0 8 0 then 1 else 0 := fun _ => n6
  clear n6
  have hISm := hIS mm (by omega) (by omega)
  unfold IS at hISm
  have hJm := hj.1 mm (by omega) (by omega)
  unfold JS at hJm
  have rD2 := rD.2.1 mm (by omega) (by omega)
  have rD3 := rD.2.2.1 mm (by omega) (by omega)
  have rN2 := n8 (by omega)
  obtain ⟨rN3, rN4, rb, rN5⟩ := n2 (by omega)
  have rbu : ∀ _ : Unit, (mu 10 mm = 0 ∧ g 16 mm 0 = 0) ∨ (mu 10 mm ≠ 0 ∧ 1 ≤ g 16 mm 0 ∧ mu 11 mm = g 16 mm 0) := fun _ => rb
  have hJm1 := hJm.1 (Or.inr hst)
  clear n8 n2 n1 n0 rb hJm
  have fM : en 20 0 = some (b 0, .inr (6, [.int (iZ (mu 0 0)), .int (iZ (mu 1 0)), .long (lZ (mu 2 0)), .int (iZ (mu 3 0)), .ref (b 4), .ref (b 5), .ref (b 6), .ref (b 7), .ref (b 8), .ref (b 9), .ref (b 10), .ref (b 11), .ref (b 12), .ref (b 13), .ref (b 14), .ref (b 15), .ref (b 16), .ref (b 17), .ref (b 18), .ref (b 19), .ref (b 20), .ref (b 21), .ref (b 22), .ref (b 23), .ref (b 24), .ref (b 25), .int (iZ (mu 26 0)), .ref (b 27), .ref (b 28), .ref (b 29), .ref (b 30), .ref (b 31), .ref (b 32), .ref (b 33), .ref (b 34), .int (iZ (mu 35 0)), .int (iZ (mu 36 0)), .int (iZ (mu 37 0)), .int (iZ (mu 38 0)), .int (iZ (mu 39 0)), .int (iZ (mu 40 0)), .ref (b 41), .ref (b 42)])) := hE.1
  have f7_ : en 27 0 = some (b 7, aI dA (101) (mu 7)) := hE.2 7 (by decide)
  have f8_ : en 28 0 = some (b 8, aI dA (101) (mu 8)) := hE.2 8 (by decide)
  have f9_ : en 29 0 = some (b 9, aI dA (101) (mu 9)) := hE.2 9 (by decide)
  have f10_ : en 30 0 = some (b 10, aI dA (101) (mu 10)) := hE.2 10 (by decide)
  have f11_ : en 31 0 = some (b 11, aI dA (101) (mu 11)) := hE.2 11 (by decide)
  have f12_ : en 32 0 = some (b 12, aI dA (101) (mu 12)) := hE.2 12 (by decide)
  have f14_ : en 34 0 = some (b 14, aJ dA (101) (mu 14)) := hE.2 14 (by decide)
  have f15_ : en 35 0 = some (b 15, aJ dA (101) (mu 15)) := hE.2 15 (by decide)
  have t26_0 : mu 26 (0) = mu 26 (0) := rfl
  have t2_0 : mu 2 (0) = mu 2 (0) := rfl
  have t4_mm : mu 4 (mm) = mu 4 (mm) := rfl
  have t7_mm : mu 7 (mm) = mu 7 (mm) := rfl
  have t8_mm : mu 8 (mm) = mu 8 (mm) := rfl
  have t9_mm : mu 9 (mm) = mu 9 (mm) := rfl
  have t12_mm : mu 12 (mm) = mu 12 (mm) := rfl
  have t10_mm : mu 10 (mm) = mu 10 (mm) := rfl
  have t11_mm : mu 11 (mm) = mu 11 (mm) := rfl
  have t6_mm : mu 6 (mm) = mu 6 (mm) := rfl
  have t13_mm : mu 13 (mm) = mu 13 (mm) := rfl
  have t14_mm : mu 14 (mm) = mu 14 (mm) := rfl
  have t15_mm : mu 15 (mm) = mu 15 (mm) := rfl
  refine lv_aload_n hx hb dX4_sendNext_0 rfl (lv_at hl 0 rfl) ?_
  refine lv_iload_n hx hb dX4_sendNext_1 rfl (lv_at hl 1 rfl) ?_
  refine va_calli (va_runV (As := [.int (iZ (mm))]) (rest := []) ⟨hx, hb, hml, hown, hts⟩ (c_X4_size l D dA z en b mu mm (by omega) (by omega) hE) (cwV 1 hts gX4_sendNext_X4_size rfl rfl rfl (by decide +kernel) ⟨Nat.le_of_ble_eq_true rfl, Nat.le_of_ble_eq_true rfl⟩) ⟨gBl, gRecv hK hW (ci := 6) rfl fM, gPre _ hg hS hW⟩ rfl rfl hl.1 rfl (lv_room (Nat.le_of_ble_eq_true rfl)) dX4_sendNext_2 ⟨(show 0 + 0 ≤ 0 by omega), (show 0 + 0 ≤ 0 by omega)⟩) hS (fun _ _ h => h) (fun _ h => h) (fun r9 u9 t9 H locs ht9 hvm9 hw9 hB9 hz9 hk9 hS => ?_)
  have hW : Wd D (z 0) en H := by rw [← ht9]; exact hB9
  subst hw9
  refine lv_aload_n hx hb dX4_sendNext_5 rfl (lv_at hl 0 rfl) ?_
  refine g_get (C := RX4) (T := TX4) (N := 43) (ci := 6) (v := .ref (b 8)) hx hb hts hi6 hown hK hW fM rfl 8 (by decide) (hts (.fieldLink RX4 25 "LongTransferModel" "sent" "[I") (by decide +kernel)) (fun _ h9 => h9) rfl dX4_sendNext_6 ?_
  refine lv_iload_n hx hb dX4_sendNext_9 rfl (lv_at hl 1 rfl) ?_
  refine g_iald hx hb hK hW f8_ (by omega) (by omega) (by omega) dX4_sendNext_10 ?_
  refine z_isub hx hb dX4_sendNext_11 ?_
  refine lv_istore_n (lv' := [(2, .int (iZ ((mu 4 (mm + 1) - mu 4 mm) - (mu 8 (mm))))), (0, .ref (b 0)), (1, .int (iZ (mm)))]) hx hb dX4_sendNext_12 rfl hl (by decide) rfl (fun ls hl => ?_)
  refine lv_iload_n hx hb dX4_sendNext_13 rfl (lv_at hl 0 rfl) ?_
  refine z_bipush hx hb dX4_sendNext_14 (by decide) ?_
  refine z_icmp_le (tgt := 24) hx hb dX4_sendNext_16 (by decide) (by omega) (by omega) (fun c_16 => ?_) (fun c_16 => ?_)
  · refine lv_iload_n hx hb dX4_sendNext_24 rfl (lv_at hl 0 rfl) ?_
    refine lv_istore_n (lv' := [(3, .int (iZ ((mu 4 (mm + 1) - mu 4 mm) - (mu 8 (mm))))), (2, .int (iZ ((mu 4 (mm + 1) - mu 4 mm) - (mu 8 (mm))))), (0, .ref (b 0)), (1, .int (iZ (mm)))]) hx hb dX4_sendNext_25 rfl hl (by decide) rfl (fun ls hl => ?_)
    refine lv_aload_n hx hb dX4_sendNext_26 rfl (lv_at hl 2 rfl) ?_
    refine g_get (C := RX4) (T := TX4) (N := 43) (ci := 6) (v := .ref (b 9)) hx hb hts hi6 hown hK hW fM rfl 9 (by decide) (hts (.fieldLink RX4 28 "LongTransferModel" "sequence" "[I") (by decide +kernel)) (fun _ h9 => h9) rfl dX4_sendNext_27 ?_
    refine lv_iload_n hx hb dX4_sendNext_30 rfl (lv_at hl 3 rfl) ?_
    refine lv_aload_n hx hb dX4_sendNext_31 rfl (lv_at hl 2 rfl) ?_
    refine g_get (C := RX4) (T := TX4) (N := 43) (ci := 6) (v := .ref (b 9)) hx hb hts hi6 hown hK hW fM rfl 9 (by decide) (hts (.fieldLink RX4 28 "LongTransferModel" "sequence" "[I") (by decide +kernel)) (fun _ h9 => h9) rfl dX4_sendNext_32 ?_
    refine lv_iload_n hx hb dX4_sendNext_35 rfl (lv_at hl 3 rfl) ?_
    refine g_iald hx hb hK hW f9_ (by omega) (by omega) (by omega) dX4_sendNext_36 ?_
    refine z_iconst hx hb dX4_sendNext_37 ?_
    refine z_iadd hx hb dX4_sendNext_38 ?_
    refine z_bipush hx hb dX4_sendNext_39 (by decide) ?_
    refine z_irem hx hb (by omega) (by omega) (by omega) (by omega) dX4_sendNext_41 ?_
    refine g_iast (x := ((mu 9 (mm)) + 1) % 16) hx hb hK hW hS f9_ (by omega) (by omega) (by omega) dX4_sendNext_42 (fun H locs hW hS => ?_)
    obtain ⟨en1w, hen1w⟩ : ∃ x : en_T, x = e2 en 29 0 (some (b 9, aI dA (101) (uF (mu 9) (mm) (((mu 9 (mm)) + 1) % 16)))) := ⟨_, rfl⟩
    rw [← hen1w] at hW
    obtain ⟨mu1w, hmu1w⟩ : ∃ x : Mu, x = u2 mu 9 (mm) (((mu 9 (mm)) + 1) % 16) := ⟨_, rfl⟩
    have hE1w : EM dA b mu1w en1w := by rw [hen1w, hmu1w]; exact em_w hE (k0 := 9) (j := mm) (v := ((mu 9 (mm)) + 1) % 16) (by decide)
    have hF1w : FM en en1w := fun k i q => by rw [hen1w]; exact e2_k (fun w => q (by rw [w]; decide))
    replace t26_0 : mu1w 26 (0) = mu 26 (0) := by rw [hmu1w]; exact (u2_n (fun q => absurd q.1 (by decide))).trans t26_0
    replace t2_0 : mu1w 2 (0) = mu 2 (0) := by rw [hmu1w]; exact (u2_n (fun q => absurd q.1 (by decide))).trans t2_0
    replace t4_mm : mu1w 4 (mm) = mu 4 (mm) := by rw [hmu1w]; exact (u2_n (fun q => absurd q.1 (by decide))).trans t4_mm
    replace t7_mm : mu1w 7 (mm) = mu 7 (mm) := by rw [hmu1w]; exact (u2_n (fun q => absurd q.1 (by decide))).trans t7_mm
    replace t8_mm : mu1w 8 (mm) = mu 8 (mm) := by rw [hmu1w]; exact (u2_n (fun q => absurd q.1 (by decide))).trans t8_mm
    replace t9_mm : mu1w 9 (mm) = ((mu 9 (mm)) + 1) % 16 := by rw [hmu1w]; exact u2_s _ _ _ _
    replace t12_mm : mu1w 12 (mm) = mu 12 (mm) := by rw [hmu1w]; exact (u2_n (fun q => absurd q.1 (by decide))).trans t12_mm
    replace t10_mm : mu1w 10 (mm) = mu 10 (mm) := by rw [hmu1w]; exact (u2_n (fun q => absurd q.1 (by decide))).trans t10_mm
    replace t11_mm : mu1w 11 (mm) = mu 11 (mm) := by rw [hmu1w]; exact (u2_n (fun q => absurd q.1 (by decide))).trans t11_mm
    replace t6_mm : mu1w 6 (mm) = mu 6 (mm) := by rw [hmu1w]; exact (u2_n (fun q => absurd q.1 (by decide))).trans t6_mm
    replace t13_mm : mu1w 13 (mm) = mu 13 (mm) := by rw [hmu1w]; exact (u2_n (fun q => absurd q.1 (by decide))).trans t13_mm
    replace t14_mm : mu1w 14 (mm) = mu 14 (mm) := by rw [hmu1w]; exact (u2_n (fun q => absurd q.1 (by decide))).trans t14_mm
    replace t15_mm : mu1w 15 (mm) = mu 15 (mm) := by rw [hmu1w]; exact (u2_n (fun q => absurd q.1 (by decide))).trans t15_mm
    have fM : en1w 20 0 = some (b 0, .inr (6, [.int (iZ (mu1w 0 0)), .int (iZ (mu1w 1 0)), .long (lZ (mu1w 2 0)), .int (iZ (mu1w 3 0)), .ref (b 4), .ref (b 5), .ref (b 6), .ref (b 7), .ref (b 8), .ref (b 9), .ref (b 10), .ref (b 11), .ref (b 12), .ref (b 13), .ref (b 14), .ref (b 15), .ref (b 16), .ref (b 17), .ref (b 18), .ref (b 19), .ref (b 20), .ref (b 21), .ref (b 22), .ref (b 23), .ref (b 24), .ref (b 25), .int (iZ (mu1w 26 0)), .ref (b 27), .ref (b 28), .ref (b 29), .ref (b 30), .ref (b 31), .ref (b 32), .ref (b 33), .ref (b 34), .int (iZ (mu1w 35 0)), .int (iZ (mu1w 36 0)), .int (iZ (mu1w 37 0)), .int (iZ (mu1w 38 0)), .int (iZ (mu1w 39 0)), .int (iZ (mu1w 40 0)), .ref (b 41), .ref (b 42)])) := hE1w.1
    have f7_ : en1w 27 0 = some (b 7, aI dA (101) (mu1w 7)) := hE1w.2 7 (by decide)
    have f8_ : en1w 28 0 = some (b 8, aI dA (101) (mu1w 8)) := hE1w.2 8 (by decide)
    have f9_ : en1w 29 0 = some (b 9, aI dA (101) (mu1w 9)) := hE1w.2 9 (by decide)
    have f10_ : en1w 30 0 = some (b 10, aI dA (101) (mu1w 10)) := hE1w.2 10 (by decide)
    have f11_ : en1w 31 0 = some (b 11, aI dA (101) (mu1w 11)) := hE1w.2 11 (by decide)
    have f12_ : en1w 32 0 = some (b 12, aI dA (101) (mu1w 12)) := hE1w.2 12 (by decide)
    have f14_ : en1w 34 0 = some (b 14, aJ dA (101) (mu1w 14)) := hE1w.2 14 (by decide)
    have f15_ : en1w 35 0 = some (b 15, aJ dA (101) (mu1w 15)) := hE1w.2 15 (by decide)
    refine lv_aload_n hx hb dX4_sendNext_43 rfl (lv_at hl 2 rfl) ?_
    refine z_iconst hx hb dX4_sendNext_44 ?_
    refine lv_iload_n hx hb dX4_sendNext_45 rfl (lv_at hl 3 rfl) ?_
    refine lv_aload_n hx hb dX4_sendNext_46 rfl (lv_at hl 2 rfl) ?_
    refine g_get (C := RX4) (T := TX4) (N := 43) (ci := 6) (v := .ref (b 9)) hx hb hts hi6 hown hK hW fM rfl 9 (by decide) (hts (.fieldLink RX4 28 "LongTransferModel" "sequence" "[I") (by decide +kernel)) (fun _ h9 => h9) rfl dX4_sendNext_47 ?_
    refine lv_iload_n hx hb dX4_sendNext_50 rfl (lv_at hl 3 rfl) ?_
    refine g_iald hx hb hK hW f9_ (by omega) (by omega) (by omega) dX4_sendNext_51 ?_
    rw [t9_mm]
    refine lv_iload_n hx hb dX4_sendNext_52 rfl (lv_at hl 0 rfl) ?_
    refine z_iconst hx hb dX4_sendNext_53 ?_
    refine va_calli (va_runV (As := [.int (iZ (2)), .int (iZ (mm)), .int (iZ (((mu 9 (mm)) + 1) % 16)), .int (iZ ((mu 4 (mm + 1) - mu 4 mm) - (mu 8 (mm)))), .int (iZ (0))]) (rest := []) ⟨hx, hb, hml, hown, hts⟩ (c_X4_make l D dA z en1w b mu1w 2 mm (((mu 9 (mm)) + 1) % 16) ((mu 4 (mm + 1) - mu 4 mm) - (mu 8 (mm))) 0 (by omega) (by omega) hE1w) (cwV 5 hts gX4_sendNext_X4_make rfl rfl rfl (by decide +kernel) ⟨Nat.le_of_ble_eq_true rfl, Nat.le_of_ble_eq_true rfl⟩) ⟨gBl, gRecv hK hW (ci := 6) rfl fM, gPre _ hg hS hW⟩ rfl rfl hl.1 rfl (lv_room (Nat.le_of_ble_eq_true rfl)) dX4_sendNext_54 ⟨(show 0 + 0 + 0 ≤ 0 by omega), (show 0 + 0 + 0 ≤ 0 by omega)⟩) hS (fun _ _ h => h) (fun _ h => h) (fun r9 u9 t9 H locs ht9 hvm9 hw9 hB9 hz9 hk9 hS => ?_)
    obtain ⟨en2w, mu2w⟩ := u9
    obtain ⟨hr9, hE2w, hF2w, hmu2w⟩ := hw9
    have hW : Wd D (z 0) en2w H := by rw [← ht9]; exact hB9
    dsimp only at hE2w hF2w hmu2w
    subst hr9
    have hF2w := FM.tr hF1w hF2w
    have fM : en2w 20 0 = some (b 0, .inr (6, [.int (iZ (mu2w 0 0)), .int (iZ (mu2w 1 0)), .long (lZ (mu2w 2 0)), .int (iZ (mu2w 3 0)), .ref (b 4), .ref (b 5), .ref (b 6), .ref (b 7), .ref (b 8), .ref (b 9), .ref (b 10), .ref (b 11), .ref (b 12), .ref (b 13), .ref (b 14), .ref (b 15), .ref (b 16), .ref (b 17), .ref (b 18), .ref (b 19), .ref (b 20), .ref (b 21), .ref (b 22), .ref (b 23), .ref (b 24), .ref (b 25), .int (iZ (mu2w 26 0)), .ref (b 27), .ref (b 28), .ref (b 29), .ref (b 30), .ref (b 31), .ref (b 32), .ref (b 33), .ref (b 34), .int (iZ (mu2w 35 0)), .int (iZ (mu2w 36 0)), .int (iZ (mu2w 37 0)), .int (iZ (mu2w 38 0)), .int (iZ (mu2w 39 0)), .int (iZ (mu2w 40 0)), .ref (b 41), .ref (b 42)])) := hE2w.1
    have f7_ : en2w 27 0 = some (b 7, aI dA (101) (mu2w 7)) := hE2w.2 7 (by decide)
    have f8_ : en2w 28 0 = some (b 8, aI dA (101) (mu2w 8)) := hE2w.2 8 (by decide)
    have f9_ : en2w 29 0 = some (b 9, aI dA (101) (mu2w 9)) := hE2w.2 9 (by decide)
    have f10_ : en2w 30 0 = some (b 10, aI dA (101) (mu2w 10)) := hE2w.2 10 (by decide)
    have f11_ : en2w 31 0 = some (b 11, aI dA (101) (mu2w 11)) := hE2w.2 11 (by decide)
    have f12_ : en2w 32 0 = some (b 12, aI dA (101) (mu2w 12)) := hE2w.2 12 (by decide)
    have f14_ : en2w 34 0 = some (b 14, aJ dA (101) (mu2w 14)) := hE2w.2 14 (by decide)
    have f15_ : en2w 35 0 = some (b 15, aJ dA (101) (mu2w 15)) := hE2w.2 15 (by decide)
    have t26b : mu1w 26 0 = mu 26 (0) := by first | exact t26_0 | rfl
    by_cases hful : mu1w 26 0 = 6000
    · rw [if_pos hful]
      have hmk : mu2w = mu1w := by rw [hmu2w]; exact if_pos hful
      replace t26_0 : mu2w 26 (0) = mu 26 (0) := (congrFun (congrFun hmk 26) (0)).trans t26_0
      replace t2_0 : mu2w 2 (0) = mu 2 (0) := (congrFun (congrFun hmk 2) (0)).trans t2_0
      replace t4_mm : mu2w 4 (mm) = mu 4 (mm) := (congrFun (congrFun hmk 4) (mm)).trans t4_mm
      replace t7_mm : mu2w 7 (mm) = mu 7 (mm) := (congrFun (congrFun hmk 7) (mm)).trans t7_mm
      replace t8_mm : mu2w 8 (mm) = mu 8 (mm) := (congrFun (congrFun hmk 8) (mm)).trans t8_mm
      replace t9_mm : mu2w 9 (mm) = ((mu 9 (mm)) + 1) % 16 := (congrFun (congrFun hmk 9) (mm)).trans t9_mm
      replace t12_mm : mu2w 12 (mm) = mu 12 (mm) := (congrFun (congrFun hmk 12) (mm)).trans t12_mm
      replace t10_mm : mu2w 10 (mm) = mu 10 (mm) := (congrFun (congrFun hmk 10) (mm)).trans t10_mm
      replace t11_mm : mu2w 11 (mm) = mu 11 (mm) := (congrFun (congrFun hmk 11) (mm)).trans t11_mm
      replace t6_mm : mu2w 6 (mm) = mu 6 (mm) := (congrFun (congrFun hmk 6) (mm)).trans t6_mm
      replace t13_mm : mu2w 13 (mm) = mu 13 (mm) := (congrFun (congrFun hmk 13) (mm)).trans t13_mm
      replace t14_mm : mu2w 14 (mm) = mu 14 (mm) := (congrFun (congrFun hmk 14) (mm)).trans t14_mm
      replace t15_mm : mu2w 15 (mm) = mu 15 (mm) := (congrFun (congrFun hmk 15) (mm)).trans t15_mm
      refine lv_istore (lv' := [(4, .int (iZ (0))), (3, .int (iZ ((mu 4 (mm + 1) - mu 4 mm) - (mu 8 (mm))))), (2, .int (iZ ((mu 4 (mm + 1) - mu 4 mm) - (mu 8 (mm))))), (0, .ref (b 0)), (1, .int (iZ (mm)))]) hx hb dX4_sendNext_57 hl (by decide) rfl (fun ls hl => ?_)
      refine lv_iload hx hb dX4_sendNext_59 (lv_at hl 0 rfl) ?_
      refine z_if_ne (tgt := 72) hx hb dX4_sendNext_61 (by decide) (by omega) (fun c_61 => absurd c_61 (by omega)) (fun _ => ?_)
      refine lv_aload_n hx hb dX4_sendNext_64 rfl (lv_at hl 3 rfl) ?_
      refine lv_iload_n hx hb dX4_sendNext_65 rfl (lv_at hl 4 rfl) ?_
      refine z_bipush hx hb dX4_sendNext_66 (by decide) ?_
      refine va_callv (va_runV (As := [.int (iZ (mm)), .int (iZ (7))]) (rest := []) ⟨hx, hb, hml, hown, hts⟩ (c_X4_endSender l D dA z en2w b mu2w mm 7 (by omega) (by omega) (by omega) (by omega) hE2w) (cwV 2 hts gX4_sendNext_X4_endSender rfl rfl rfl (by decide +kernel) ⟨Nat.le_of_ble_eq_true rfl, Nat.le_of_ble_eq_true rfl⟩) ⟨gBl, gRecv hK hW (ci := 6) rfl fM, gPre _ hg hS hW⟩ rfl rfl hl.1 rfl (lv_room (Nat.le_of_ble_eq_true rfl)) dX4_sendNext_68 ⟨(show 0 + 0 + 0 + 0 ≤ 0 by omega), (show 0 + 0 + 0 + 0 ≤ 0 by omega)⟩) hS (fun _ _ h => h) (fun _ h => h) (fun u9 t9 H locs ht9 hvm9 hw9 hB9 hz9 hk9 hS => ?_)
      obtain ⟨en3w, mu3w⟩ := u9
      obtain ⟨hE3w, hF3w, hmu3w⟩ := hw9
      have hW : Wd D (z 0) en3w H := by rw [← ht9]; exact hB9
      dsimp only at hE3w hF3w hmu3w
      have hF3w := FM.tr hF2w hF3w
      have fM : en3w 20 0 = some (b 0, .inr (6, [.int (iZ (mu3w 0 0)), .int (iZ (mu3w 1 0)), .long (lZ (mu3w 2 0)), .int (iZ (mu3w 3 0)), .ref (b 4), .ref (b 5), .ref (b 6), .ref (b 7), .ref (b 8), .ref (b 9), .ref (b 10), .ref (b 11), .ref (b 12), .ref (b 13), .ref (b 14), .ref (b 15), .ref (b 16), .ref (b 17), .ref (b 18), .ref (b 19), .ref (b 20), .ref (b 21), .ref (b 22), .ref (b 23), .ref (b 24), .ref (b 25), .int (iZ (mu3w 26 0)), .ref (b 27), .ref (b 28), .ref (b 29), .ref (b 30), .ref (b 31), .ref (b 32), .ref (b 33), .ref (b 34), .int (iZ (mu3w 35 0)), .int (iZ (mu3w 36 0)), .int (iZ (mu3w 37 0)), .int (iZ (mu3w 38 0)), .int (iZ (mu3w 39 0)), .int (iZ (mu3w 40 0)), .ref (b 41), .ref (b 42)])) := hE3w.1
      have f7_ : en3w 27 0 = some (b 7, aI dA (101) (mu3w 7)) := hE3w.2 7 (by decide)
      have f8_ : en3w 28 0 = some (b 8, aI dA (101) (mu3w 8)) := hE3w.2 8 (by decide)
      have f9_ : en3w 29 0 = some (b 9, aI dA (101) (mu3w 9)) := hE3w.2 9 (by decide)
      have f10_ : en3w 30 0 = some (b 10, aI dA (101) (mu3w 10)) := hE3w.2 10 (by decide)
      have f11_ : en3w 31 0 = some (b 11, aI dA (101) (mu3w 11)) := hE3w.2 11 (by decide)
      have f12_ : en3w 32 0 = some (b 12, aI dA (101) (mu3w 12)) := hE3w.2 12 (by decide)
      have f14_ : en3w 34 0 = some (b 14, aJ dA (101) (mu3w 14)) := hE3w.2 14 (by decide)
      have f15_ : en3w 35 0 = some (b 15, aJ dA (101) (mu3w 15)) := hE3w.2 15 (by decide)
      have hz0 : mu3w = mEndS mu1w mm 7 := by rw [hmu3w, hmk]
      have hpst : Rl (sNext g mm) mu3w := by rw [v_nx0 (by omega), hz0]; exact rl_es1 hI hR (by omega) (by omega) (by omega) (fun t j q => by rw [hmu1w]; exact u2_n (by omega))
      exact W.vret hx hb hr (fun t ht hw => ⟨⟨(en3w, mu3w), rfl, ⟨hE3w, hF3w, hpst⟩, by show Wd _ _ _ t.heap; rw [ht]; exact hW⟩, hS.F ht⟩) hS.2.2 dX4_sendNext_71
    · rw [if_neg hful]
      have hmk : mu2w = mMk mu1w 2 mm (((mu 9 (mm)) + 1) % 16) ((mu 4 (mm + 1) - mu 4 mm) - (mu 8 (mm))) 0 := by rw [hmu2w]; exact if_neg hful
      replace t26_0 : mu2w 26 (0) = mu 26 (0) + 1 := by rw [hmk, (mMk_v _ _ _ _ _ _).1, t26_0]
      replace t2_0 : mu2w 2 (0) = mu 2 (0) := by rw [hmk]; exact (mMk_n ⟨fun q => absurd q.1 (by decide), fun q => absurd q.1 (by decide)⟩).trans t2_0
      replace t4_mm : mu2w 4 (mm) = mu 4 (mm) := by rw [hmk]; exact (mMk_n ⟨fun q => absurd q.1 (by decide), fun q => absurd q.1 (by decide)⟩).trans t4_mm
      replace t7_mm : mu2w 7 (mm) = mu 7 (mm) := by rw [hmk]; exact (mMk_n ⟨fun q => absurd q.1 (by decide), fun q => absurd q.1 (by decide)⟩).trans t7_mm
      replace t8_mm : mu2w 8 (mm) = mu 8 (mm) := by rw [hmk]; exact (mMk_n ⟨fun q => absurd q.1 (by decide), fun q => absurd q.1 (by decide)⟩).trans t8_mm
      replace t9_mm : mu2w 9 (mm) = ((mu 9 (mm)) + 1) % 16 := by rw [hmk]; exact (mMk_n ⟨fun q => absurd q.1 (by decide), fun q => absurd q.1 (by decide)⟩).trans t9_mm
      replace t12_mm : mu2w 12 (mm) = mu 12 (mm) := by rw [hmk]; exact (mMk_n ⟨fun q => absurd q.1 (by decide), fun q => absurd q.1 (by decide)⟩).trans t12_mm
      replace t10_mm : mu2w 10 (mm) = mu 10 (mm) := by rw [hmk]; exact (mMk_n ⟨fun q => absurd q.1 (by decide), fun q => absurd q.1 (by decide)⟩).trans t10_mm
      replace t11_mm : mu2w 11 (mm) = mu 11 (mm) := by rw [hmk]; exact (mMk_n ⟨fun q => absurd q.1 (by decide), fun q => absurd q.1 (by decide)⟩).trans t11_mm
      replace t6_mm : mu2w 6 (mm) = mu 6 (mm) := by rw [hmk]; exact (mMk_n ⟨fun q => absurd q.1 (by decide), fun q => absurd q.1 (by decide)⟩).trans t6_mm
      replace t13_mm : mu2w 13 (mm) = mu 13 (mm) := by rw [hmk]; exact (mMk_n ⟨fun q => absurd q.1 (by decide), fun q => absurd q.1 (by decide)⟩).trans t13_mm
      replace t14_mm : mu2w 14 (mm) = mu 14 (mm) := by rw [hmk]; exact (mMk_n ⟨fun q => absurd q.1 (by decide), fun q => absurd q.1 (by decide)⟩).trans t14_mm
      replace t15_mm : mu2w 15 (mm) = mu 15 (mm) := by rw [hmk]; exact (mMk_n ⟨fun q => absurd q.1 (by decide), fun q => absurd q.1 (by decide)⟩).trans t15_mm
      have hB5 : ∀ j : Int, -128 ≤ mu2w 5 j ∧ mu2w 5 j ≤ 127 := fun j => by rw [hmk, mMk_n (by omega), hmu1w, u2_n (by omega)]; exact rB 5 j (by omega)
      refine lv_istore (lv' := [(4, .int (iZ (mu1w 26 0 + 1))), (3, .int (iZ ((mu 4 (mm + 1) - mu 4 mm) - (mu 8 (mm))))), (2, .int (iZ ((mu 4 (mm + 1) - mu 4 mm) - (mu 8 (mm))))), (0, .ref (b 0)), (1, .int (iZ (mm)))]) hx hb dX4_sendNext_57 hl (by decide) rfl (fun ls hl => ?_)
      refine lv_iload hx hb dX4_sendNext_59 (lv_at hl 0 rfl) ?_
      refine z_if_ne (tgt := 72) hx hb dX4_sendNext_61 (by decide) (by omega) (fun _ => ?_) (fun c_61 => absurd c_61 (by omega))
      refine lv_aload_n hx hb dX4_sendNext_72 rfl (lv_at hl 3 rfl) ?_
      refine lv_iload hx hb dX4_sendNext_73 (lv_at hl 0 rfl) ?_
      refine lv_iload_n hx hb dX4_sendNext_75 rfl (lv_at hl 4 rfl) ?_
      refine lv_aload_n hx hb dX4_sendNext_76 rfl (lv_at hl 3 rfl) ?_
      refine g_get (C := RX4) (T := TX4) (N := 43) (ci := 6) (v := .ref (b 8)) hx hb hts hi6 hown hK hW fM rfl 8 (by decide) (hts (.fieldLink RX4 25 "LongTransferModel" "sent" "[I") (by decide +kernel)) (fun _ h9 => h9) rfl dX4_sendNext_77 ?_
      refine lv_iload_n hx hb dX4_sendNext_80 rfl (lv_at hl 4 rfl) ?_
      refine g_iald hx hb hK hW f8_ (by omega) (by omega) (by omega) dX4_sendNext_81 ?_
      rw [t8_mm]
      refine lv_iload_n hx hb dX4_sendNext_82 rfl (lv_at hl 1 rfl) ?_
      have hq4 : mu2w 4 mm = mu 4 mm := by omega
      refine va_callv (va_runV (As := [.int (iZ (mu1w 26 0 + 1)), .int (iZ (mm)), .int (iZ (mu 8 (mm))), .int (iZ ((mu 4 (mm + 1) - mu 4 mm) - (mu 8 (mm))))]) (rest := []) ⟨hx, hb, hml, hown, hts⟩ (c_X4_fill l D dA z en2w b mu2w (mu1w 26 0 + 1) mm (mu 8 (mm)) ((mu 4 (mm + 1) - mu 4 mm) - (mu 8 (mm))) (by omega) (by omega) (by omega) (by omega) (by omega) (by omega) (by omega) (by omega) hB5 hE2w) (cwV 4 hts gX4_sendNext_X4_fill rfl rfl rfl (by decide +kernel) ⟨Nat.le_of_ble_eq_true rfl, Nat.le_of_ble_eq_true rfl⟩) ⟨gBl, gRecv hK hW (ci := 6) rfl fM, gPre _ hg hS hW⟩ rfl rfl hl.1 rfl (lv_room (Nat.le_of_ble_eq_true rfl)) dX4_sendNext_83 ⟨(show 0 + 0 + 0 + 0 ≤ 0 by omega), (show 0 + 0 + 0 + 0 ≤ 0 by omega)⟩) hS (fun _ _ h => h) (fun _ h => h) (fun u9 t9 H locs ht9 hvm9 hw9 hB9 hz9 hk9 hS => ?_)
      obtain ⟨en4w, mu4w⟩ := u9
      obtain ⟨hE4w, hF4w, hmu4w⟩ := hw9
      have hW : Wd D (z 0) en4w H := by rw [← ht9]; exact hB9
      dsimp only at hE4w hF4w hmu4w
      have hF4w := FM.tr hF2w hF4w
      have fM : en4w 20 0 = some (b 0, .inr (6, [.int (iZ (mu4w 0 0)), .int (iZ (mu4w 1 0)), .long (lZ (mu4w 2 0)), .int (iZ (mu4w 3 0)), .ref (b 4), .ref (b 5), .ref (b 6), .ref (b 7), .ref (b 8), .ref (b 9), .ref (b 10), .ref (b 11), .ref (b 12), .ref (b 13), .ref (b 14), .ref (b 15), .ref (b 16), .ref (b 17), .ref (b 18), .ref (b 19), .ref (b 20), .ref (b 21), .ref (b 22), .ref (b 23), .ref (b 24), .ref (b 25), .int (iZ (mu4w 26 0)), .ref (b 27), .ref (b 28), .ref (b 29), .ref (b 30), .ref (b 31), .ref (b 32), .ref (b 33), .ref (b 34), .int (iZ (mu4w 35 0)), .int (iZ (mu4w 36 0)), .int (iZ (mu4w 37 0)), .int (iZ (mu4w 38 0)), .int (iZ (mu4w 39 0)), .int (iZ (mu4w 40 0)), .ref (b 41), .ref (b 42)])) := hE4w.1
      have f7_ : en4w 27 0 = some (b 7, aI dA (101) (mu4w 7)) := hE4w.2 7 (by decide)
      have f8_ : en4w 28 0 = some (b 8, aI dA (101) (mu4w 8)) := hE4w.2 8 (by decide)
      have f9_ : en4w 29 0 = some (b 9, aI dA (101) (mu4w 9)) := hE4w.2 9 (by decide)
      have f10_ : en4w 30 0 = some (b 10, aI dA (101) (mu4w 10)) := hE4w.2 10 (by decide)
      have f11_ : en4w 31 0 = some (b 11, aI dA (101) (mu4w 11)) := hE4w.2 11 (by decide)
      have f12_ : en4w 32 0 = some (b 12, aI dA (101) (mu4w 12)) := hE4w.2 12 (by decide)
      have f14_ : en4w 34 0 = some (b 14, aJ dA (101) (mu4w 14)) := hE4w.2 14 (by decide)
      have f15_ : en4w 35 0 = some (b 15, aJ dA (101) (mu4w 15)) := hE4w.2 15 (by decide)
      replace t26_0 : mu4w 26 (0) = mu 26 (0) + 1 := by rw [hmu4w]; exact (mFl_n (fun q => absurd q.1 (by decide))).trans t26_0
      replace t2_0 : mu4w 2 (0) = mu 2 (0) := by rw [hmu4w]; exact (mFl_n (fun q => absurd q.1 (by decide))).trans t2_0
      replace t4_mm : mu4w 4 (mm) = mu 4 (mm) := by rw [hmu4w]; exact (mFl_n (fun q => absurd q.1 (by decide))).trans t4_mm
      replace t7_mm : mu4w 7 (mm) = mu 7 (mm) := by rw [hmu4w]; exact (mFl_n (fun q => absurd q.1 (by decide))).trans t7_mm
      replace t8_mm : mu4w 8 (mm) = mu 8 (mm) := by rw [hmu4w]; exact (mFl_n (fun q => absurd q.1 (by decide))).trans t8_mm
      replace t9_mm : mu4w 9 (mm) = ((mu 9 (mm)) + 1) % 16 := by rw [hmu4w]; exact (mFl_n (fun q => absurd q.1 (by decide))).trans t9_mm
      replace t12_mm : mu4w 12 (mm) = mu 12 (mm) := by rw [hmu4w]; exact (mFl_n (fun q => absurd q.1 (by decide))).trans t12_mm
      replace t10_mm : mu4w 10 (mm) = mu 10 (mm) := by rw [hmu4w]; exact (mFl_n (fun q => absurd q.1 (by decide))).trans t10_mm
      replace t11_mm : mu4w 11 (mm) = mu 11 (mm) := by rw [hmu4w]; exact (mFl_n (fun q => absurd q.1 (by decide))).trans t11_mm
      replace t6_mm : mu4w 6 (mm) = mu 6 (mm) := by rw [hmu4w]; exact (mFl_n (fun q => absurd q.1 (by decide))).trans t6_mm
      replace t13_mm : mu4w 13 (mm) = mu 13 (mm) := by rw [hmu4w]; exact (mFl_n (fun q => absurd q.1 (by decide))).trans t13_mm
      replace t14_mm : mu4w 14 (mm) = mu 14 (mm) := by rw [hmu4w]; exact (mFl_n (fun q => absurd q.1 (by decide))).trans t14_mm
      replace t15_mm : mu4w 15 (mm) = mu 15 (mm) := by rw [hmu4w]; exact (mFl_n (fun q => absurd q.1 (by decide))).trans t15_mm
      refine lv_aload_n hx hb dX4_sendNext_86 rfl (lv_at hl 3 rfl) ?_
      refine g_get (C := RX4) (T := TX4) (N := 43) (ci := 6) (v := .ref (b 8)) hx hb hts hi6 hown hK hW fM rfl 8 (by decide) (hts (.fieldLink RX4 25 "LongTransferModel" "sent" "[I") (by decide +kernel)) (fun _ h9 => h9) rfl dX4_sendNext_87 ?_
      refine lv_iload_n hx hb dX4_sendNext_90 rfl (lv_at hl 4 rfl) ?_
      refine lv_aload_n hx hb dX4_sendNext_91 rfl (lv_at hl 3 rfl) ?_
      refine g_get (C := RX4) (T := TX4) (N := 43) (ci := 6) (v := .ref (b 8)) hx hb hts hi6 hown hK hW fM rfl 8 (by decide) (hts (.fieldLink RX4 25 "LongTransferModel" "sent" "[I") (by decide +kernel)) (fun _ h9 => h9) rfl dX4_sendNext_92 ?_
      refine lv_iload_n hx hb dX4_sendNext_95 rfl (lv_at hl 4 rfl) ?_
      refine g_iald hx hb hK hW f8_ (by omega) (by omega) (by omega) dX4_sendNext_96 ?_
      rw [t8_mm]
      refine lv_iload_n hx hb dX4_sendNext_97 rfl (lv_at hl 1 rfl) ?_
      refine z_iadd hx hb dX4_sendNext_98 ?_
      refine g_iast (x := (mu 8 (mm)) + ((mu 4 (mm + 1) - mu 4 mm) - (mu 8 (mm)))) hx hb hK hW hS f8_ (by omega) (by omega) (by omega) dX4_sendNext_99 (fun H locs hW hS => ?_)
      obtain ⟨en5w, hen5w⟩ : ∃ x : en_T, x = e2 en4w 28 0 (some (b 8, aI dA (101) (uF (mu4w 8) (mm) ((mu 8 (mm)) + ((mu 4 (mm + 1) - mu 4 mm) - (mu 8 (mm))))))) := ⟨_, rfl⟩
      rw [← hen5w] at hW
      obtain ⟨mu5w, hmu5w⟩ : ∃ x : Mu, x = u2 mu4w 8 (mm) ((mu 8 (mm)) + ((mu 4 (mm + 1) - mu 4 mm) - (mu 8 (mm)))) := ⟨_, rfl⟩
      have hE5w : EM dA b mu5w en5w := by rw [hen5w, hmu5w]; exact em_w hE4w (k0 := 8) (j := mm) (v := (mu 8 (mm)) + ((mu 4 (mm + 1) - mu 4 mm) - (mu 8 (mm)))) (by decide)
      have hF5w : FM en4w en5w := fun k i q => by rw [hen5w]; exact e2_k (fun w => q (by rw [w]; decide))
      have hF5w := FM.tr hF4w hF5w
      replace t26_0 : mu5w 26 (0) = mu 26 (0) + 1 := by rw [hmu5w]; exact (u2_n (fun q => absurd q.1 (by decide))).trans t26_0
      replace t2_0 : mu5w 2 (0) = mu 2 (0) := by rw [hmu5w]; exact (u2_n (fun q => absurd q.1 (by decide))).trans t2_0
      replace t4_mm : mu5w 4 (mm) = mu 4 (mm) := by rw [hmu5w]; exact (u2_n (fun q => absurd q.1 (by decide))).trans t4_mm
      replace t7_mm : mu5w 7 (mm) = mu 7 (mm) := by rw [hmu5w]; exact (u2_n (fun q => absurd q.1 (by decide))).trans t7_mm
      replace t8_mm : mu5w 8 (mm) = (mu 8 (mm)) + ((mu 4 (mm + 1) - mu 4 mm) - (mu 8 (mm))) := by rw [hmu5w]; exact u2_s _ _ _ _
      replace t9_mm : mu5w 9 (mm) = ((mu 9 (mm)) + 1) % 16 := by rw [hmu5w]; exact (u2_n (fun q => absurd q.1 (by decide))).trans t9_mm
      replace t12_mm : mu5w 12 (mm) = mu 12 (mm) := by rw [hmu5w]; exact (u2_n (fun q => absurd q.1 (by decide))).trans t12_mm
      replace t10_mm : mu5w 10 (mm) = mu 10 (mm) := by rw [hmu5w]; exact (u2_n (fun q => absurd q.1 (by decide))).trans t10_mm
      replace t11_mm : mu5w 11 (mm) = mu 11 (mm) := by rw [hmu5w]; exact (u2_n (fun q => absurd q.1 (by decide))).trans t11_mm
      replace t6_mm : mu5w 6 (mm) = mu 6 (mm) := by rw [hmu5w]; exact (u2_n (fun q => absurd q.1 (by decide))).trans t6_mm
      replace t13_mm : mu5w 13 (mm) = mu 13 (mm) := by rw [hmu5w]; exact (u2_n (fun q => absurd q.1 (by decide))).trans t13_mm
      replace t14_mm : mu5w 14 (mm) = mu 14 (mm) := by rw [hmu5w]; exact (u2_n (fun q => absurd q.1 (by decide))).trans t14_mm
      replace t15_mm : mu5w 15 (mm) = mu 15 (mm) := by rw [hmu5w]; exact (u2_n (fun q => absurd q.1 (by decide))).trans t15_mm
      have fM : en5w 20 0 = some (b 0, .inr (6, [.int (iZ (mu5w 0 0)), .int (iZ (mu5w 1 0)), .long (lZ (mu5w 2 0)), .int (iZ (mu5w 3 0)), .ref (b 4), .ref (b 5), .ref (b 6), .ref (b 7), .ref (b 8), .ref (b 9), .ref (b 10), .ref (b 11), .ref (b 12), .ref (b 13), .ref (b 14), .ref (b 15), .ref (b 16), .ref (b 17), .ref (b 18), .ref (b 19), .ref (b 20), .ref (b 21), .ref (b 22), .ref (b 23), .ref (b 24), .ref (b 25), .int (iZ (mu5w 26 0)), .ref (b 27), .ref (b 28), .ref (b 29), .ref (b 30), .ref (b 31), .ref (b 32), .ref (b 33), .ref (b 34), .int (iZ (mu5w 35 0)), .int (iZ (mu5w 36 0)), .int (iZ (mu5w 37 0)), .int (iZ (mu5w 38 0)), .int (iZ (mu5w 39 0)), .int (iZ (mu5w 40 0)), .ref (b 41), .ref (b 42)])) := hE5w.1
      have f7_ : en5w 27 0 = some (b 7, aI dA (101) (mu5w 7)) := hE5w.2 7 (by decide)
      have f8_ : en5w 28 0 = some (b 8, aI dA (101) (mu5w 8)) := hE5w.2 8 (by decide)
      have f9_ : en5w 29 0 = some (b 9, aI dA (101) (mu5w 9)) := hE5w.2 9 (by decide)
      have f10_ : en5w 30 0 = some (b 10, aI dA (101) (mu5w 10)) := hE5w.2 10 (by decide)
      have f11_ : en5w 31 0 = some (b 11, aI dA (101) (mu5w 11)) := hE5w.2 11 (by decide)
      have f12_ : en5w 32 0 = some (b 12, aI dA (101) (mu5w 12)) := hE5w.2 12 (by decide)
      have f14_ : en5w 34 0 = some (b 14, aJ dA (101) (mu5w 14)) := hE5w.2 14 (by decide)
      have f15_ : en5w 35 0 = some (b 15, aJ dA (101) (mu5w 15)) := hE5w.2 15 (by decide)
      refine lv_aload_n hx hb dX4_sendNext_100 rfl (lv_at hl 3 rfl) ?_
      refine g_get (C := RX4) (T := TX4) (N := 43) (ci := 6) (v := .ref (b 15)) hx hb hts hi6 hown hK hW fM rfl 15 (by decide) (hts (.fieldLink RX4 47 "LongTransferModel" "due" "[J") (by decide +kernel)) (fun _ h9 => h9) rfl dX4_sendNext_101 ?_
      refine lv_iload_n hx hb dX4_sendNext_104 rfl (lv_at hl 4 rfl) ?_
      refine lv_aload_n hx hb dX4_sendNext_105 rfl (lv_at hl 3 rfl) ?_
      refine g_get (C := RX4) (T := TX4) (N := 43) (ci := 6) (v := .long (lZ (mu5w 2 0))) hx hb hts hi6 hown hK hW fM rfl 2 (by decide) (hts (.fieldLink RX4 137 "LongTransferModel" "now" "J") (by decide +kernel)) (fun _ h9 => h9) rfl dX4_sendNext_106 ?_
      rw [t2_0]
      refine lv_aload_n hx hb dX4_sendNext_109 rfl (lv_at hl 3 rfl) ?_
      refine g_get (C := RX4) (T := TX4) (N := 43) (ci := 6) (v := .ref (b 12)) hx hb hts hi6 hown hK hW fM rfl 12 (by decide) (hts (.fieldLink RX4 37 "LongTransferModel" "separation" "[I") (by decide +kernel)) (fun _ h9 => h9) rfl dX4_sendNext_110 ?_
      refine lv_iload_n hx hb dX4_sendNext_113 rfl (lv_at hl 4 rfl) ?_
      refine g_iald hx hb hK hW f12_ (by omega) (by omega) (by omega) dX4_sendNext_114 ?_
      rw [t12_mm]
      refine z_i2l hx hb (by omega) dX4_sendNext_115 ?_
      refine z_ladd hx hb dX4_sendNext_116 ?_
      refine g_last (x := (mu 2 (0)) + (mu 12 (mm))) hx hb hK hW hS f15_ (by omega) (by omega) (by omega) dX4_sendNext_117 (fun H locs hW hS => ?_)
      obtain ⟨en6w, hen6w⟩ : ∃ x : en_T, x = e2 en5w 35 0 (some (b 15, aJ dA (101) (uF (mu5w 15) (mm) ((mu 2 (0)) + (mu 12 (mm)))))) := ⟨_, rfl⟩
      rw [← hen6w] at hW
      obtain ⟨mu6w, hmu6w⟩ : ∃ x : Mu, x = u2 mu5w 15 (mm) ((mu 2 (0)) + (mu 12 (mm))) := ⟨_, rfl⟩
      have hE6w : EM dA b mu6w en6w := by rw [hen6w, hmu6w]; exact em_w hE5w (k0 := 15) (j := mm) (v := (mu 2 (0)) + (mu 12 (mm))) (by decide)
      have hF6w : FM en5w en6w := fun k i q => by rw [hen6w]; exact e2_k (fun w => q (by rw [w]; decide))
      have hF6w := FM.tr hF5w hF6w
      replace t26_0 : mu6w 26 (0) = mu 26 (0) + 1 := by rw [hmu6w]; exact (u2_n (fun q => absurd q.1 (by decide))).trans t26_0
      replace t2_0 : mu6w 2 (0) = mu 2 (0) := by rw [hmu6w]; exact (u2_n (fun q => absurd q.1 (by decide))).trans t2_0
      replace t4_mm : mu6w 4 (mm) = mu 4 (mm) := by rw [hmu6w]; exact (u2_n (fun q => absurd q.1 (by decide))).trans t4_mm
      replace t7_mm : mu6w 7 (mm) = mu 7 (mm) := by rw [hmu6w]; exact (u2_n (fun q => absurd q.1 (by decide))).trans t7_mm
      replace t8_mm : mu6w 8 (mm) = (mu 8 (mm)) + ((mu 4 (mm + 1) - mu 4 mm) - (mu 8 (mm))) := by rw [hmu6w]; exact (u2_n (fun q => absurd q.1 (by decide))).trans t8_mm
      replace t9_mm : mu6w 9 (mm) = ((mu 9 (mm)) + 1) % 16 := by rw [hmu6w]; exact (u2_n (fun q => absurd q.1 (by decide))).trans t9_mm
      replace t12_mm : mu6w 12 (mm) = mu 12 (mm) := by rw [hmu6w]; exact (u2_n (fun q => absurd q.1 (by decide))).trans t12_mm
      replace t10_mm : mu6w 10 (mm) = mu 10 (mm) := by rw [hmu6w]; exact (u2_n (fun q => absurd q.1 (by decide))).trans t10_mm
      replace t11_mm : mu6w 11 (mm) = mu 11 (mm) := by rw [hmu6w]; exact (u2_n (fun q => absurd q.1 (by decide))).trans t11_mm
      replace t6_mm : mu6w 6 (mm) = mu 6 (mm) := by rw [hmu6w]; exact (u2_n (fun q => absurd q.1 (by decide))).trans t6_mm
      replace t13_mm : mu6w 13 (mm) = mu 13 (mm) := by rw [hmu6w]; exact (u2_n (fun q => absurd q.1 (by decide))).trans t13_mm
      replace t14_mm : mu6w 14 (mm) = mu 14 (mm) := by rw [hmu6w]; exact (u2_n (fun q => absurd q.1 (by decide))).trans t14_mm
      replace t15_mm : mu6w 15 (mm) = (mu 2 (0)) + (mu 12 (mm)) := by rw [hmu6w]; exact u2_s _ _ _ _
      have fM : en6w 20 0 = some (b 0, .inr (6, [.int (iZ (mu6w 0 0)), .int (iZ (mu6w 1 0)), .long (lZ (mu6w 2 0)), .int (iZ (mu6w 3 0)), .ref (b 4), .ref (b 5), .ref (b 6), .ref (b 7), .ref (b 8), .ref (b 9), .ref (b 10), .ref (b 11), .ref (b 12), .ref (b 13), .ref (b 14), .ref (b 15), .ref (b 16), .ref (b 17), .ref (b 18), .ref (b 19), .ref (b 20), .ref (b 21), .ref (b 22), .ref (b 23), .ref (b 24), .ref (b 25), .int (iZ (mu6w 26 0)), .ref (b 27), .ref (b 28), .ref (b 29), .ref (b 30), .ref (b 31), .ref (b 32), .ref (b 33), .ref (b 34), .int (iZ (mu6w 35 0)), .int (iZ (mu6w 36 0)), .int (iZ (mu6w 37 0)), .int (iZ (mu6w 38 0)), .int (iZ (mu6w 39 0)), .int (iZ (mu6w 40 0)), .ref (b 41), .ref (b 42)])) := hE6w.1
      have f7_ : en6w 27 0 = some (b 7, aI dA (101) (mu6w 7)) := hE6w.2 7 (by decide)
      have f8_ : en6w 28 0 = some (b 8, aI dA (101) (mu6w 8)) := hE6w.2 8 (by decide)
      have f9_ : en6w 29 0 = some (b 9, aI dA (101) (mu6w 9)) := hE6w.2 9 (by decide)
      have f10_ : en6w 30 0 = some (b 10, aI dA (101) (mu6w 10)) := hE6w.2 10 (by decide)
      have f11_ : en6w 31 0 = some (b 11, aI dA (101) (mu6w 11)) := hE6w.2 11 (by decide)
      have f12_ : en6w 32 0 = some (b 12, aI dA (101) (mu6w 12)) := hE6w.2 12 (by decide)
      have f14_ : en6w 34 0 = some (b 14, aJ dA (101) (mu6w 14)) := hE6w.2 14 (by decide)
      have f15_ : en6w 35 0 = some (b 15, aJ dA (101) (mu6w 15)) := hE6w.2 15 (by decide)
      refine lv_iload_n hx hb dX4_sendNext_118 rfl (lv_at hl 1 rfl) ?_
      refine lv_iload_n hx hb dX4_sendNext_119 rfl (lv_at hl 2 rfl) ?_
      refine z_icmp_ne (tgt := 131) hx hb dX4_sendNext_120 (by decide) (by omega) (by omega) (fun c_120 => ?_) (fun c_120 => ?_)
      · refine lv_aload_n hx hb dX4_sendNext_131 rfl (lv_at hl 3 rfl) ?_
        refine g_get (C := RX4) (T := TX4) (N := 43) (ci := 6) (v := .ref (b 10)) hx hb hts hi6 hown hK hW fM rfl 10 (by decide) (hts (.fieldLink RX4 31 "LongTransferModel" "block" "[I") (by decide +kernel)) (fun _ h9 => h9) rfl dX4_sendNext_132 ?_
        refine lv_iload_n hx hb dX4_sendNext_135 rfl (lv_at hl 4 rfl) ?_
        refine g_iald hx hb hK hW f10_ (by omega) (by omega) (by omega) dX4_sendNext_136 ?_
        rw [t10_mm]
        refine z_if_ne (tgt := 141) hx hb dX4_sendNext_137 (by decide) (by omega) (fun c_137 => ?_) (fun c_137 => ?_)
        · have rb3 : mu 10 mm ≠ 0 ∧ 1 ≤ g 16 mm 0 ∧ mu 11 mm = g 16 mm 0 := (rbu ()).elim (fun q => absurd q.1 (by omega)) id
          refine lv_aload_n hx hb dX4_sendNext_141 rfl (lv_at hl 3 rfl) ?_
          refine g_get (C := RX4) (T := TX4) (N := 43) (ci := 6) (v := .ref (b 11)) hx hb hts hi6 hown hK hW fM rfl 11 (by decide) (hts (.fieldLink RX4 34 "LongTransferModel" "left" "[I") (by decide +kernel)) (fun _ h9 => h9) rfl dX4_sendNext_142 ?_
          refine lv_iload_n hx hb dX4_sendNext_145 rfl (lv_at hl 4 rfl) ?_
          refine lv_dup2_11 hx hb dX4_sendNext_146 rfl rfl ?_
          refine g_iald hx hb hK hW f11_ (by omega) (by omega) (by omega) dX4_sendNext_147 ?_
          rw [t11_mm]
          refine z_iconst hx hb dX4_sendNext_148 ?_
          refine z_isub hx hb dX4_sendNext_149 ?_
          refine g_iast (x := (mu 11 (mm)) - 1) hx hb hK hW hS f11_ (by omega) (by omega) (by omega) dX4_sendNext_150 (fun H locs hW hS => ?_)
          obtain ⟨en7w, hen7w⟩ : ∃ x : en_T, x = e2 en6w 31 0 (some (b 11, aI dA (101) (uF (mu6w 11) (mm) ((mu 11 (mm)) - 1)))) := ⟨_, rfl⟩
          rw [← hen7w] at hW
          obtain ⟨mu7w, hmu7w⟩ : ∃ x : Mu, x = u2 mu6w 11 (mm) ((mu 11 (mm)) - 1) := ⟨_, rfl⟩
          have hE7w : EM dA b mu7w en7w := by rw [hen7w, hmu7w]; exact em_w hE6w (k0 := 11) (j := mm) (v := (mu 11 (mm)) - 1) (by decide)
          have hF7w : FM en6w en7w := fun k i q => by rw [hen7w]; exact e2_k (fun w => q (by rw [w]; decide))
          have hF7w := FM.tr hF6w hF7w
          replace t26_0 : mu7w 26 (0) = mu 26 (0) + 1 := by rw [hmu7w]; exact (u2_n (fun q => absurd q.1 (by decide))).trans t26_0
          replace t2_0 : mu7w 2 (0) = mu 2 (0) := by rw [hmu7w]; exact (u2_n (fun q => absurd q.1 (by decide))).trans t2_0
          replace t4_mm : mu7w 4 (mm) = mu 4 (mm) := by rw [hmu7w]; exact (u2_n (fun q => absurd q.1 (by decide))).trans t4_mm
          replace t7_mm : mu7w 7 (mm) = mu 7 (mm) := by rw [hmu7w]; exact (u2_n (fun q => absurd q.1 (by decide))).trans t7_mm
          replace t8_mm : mu7w 8 (mm) = (mu 8 (mm)) + ((mu 4 (mm + 1) - mu 4 mm) - (mu 8 (mm))) := by rw [hmu7w]; exact (u2_n (fun q => absurd q.1 (by decide))).trans t8_mm
          replace t9_mm : mu7w 9 (mm) = ((mu 9 (mm)) + 1) % 16 := by rw [hmu7w]; exact (u2_n (fun q => absurd q.1 (by decide))).trans t9_mm
          replace t12_mm : mu7w 12 (mm) = mu 12 (mm) := by rw [hmu7w]; exact (u2_n (fun q => absurd q.1 (by decide))).trans t12_mm
          replace t10_mm : mu7w 10 (mm) = mu 10 (mm) := by rw [hmu7w]; exact (u2_n (fun q => absurd q.1 (by decide))).trans t10_mm
          replace t11_mm : mu7w 11 (mm) = (mu 11 (mm)) - 1 := by rw [hmu7w]; exact u2_s _ _ _ _
          replace t6_mm : mu7w 6 (mm) = mu 6 (mm) := by rw [hmu7w]; exact (u2_n (fun q => absurd q.1 (by decide))).trans t6_mm
          replace t13_mm : mu7w 13 (mm) = mu 13 (mm) := by rw [hmu7w]; exact (u2_n (fun q => absurd q.1 (by decide))).trans t13_mm
          replace t14_mm : mu7w 14 (mm) = mu 14 (mm) := by rw [hmu7w]; exact (u2_n (fun q => absurd q.1 (by decide))).trans t14_mm
          replace t15_mm : mu7w 15 (mm) = (mu 2 (0)) + (mu 12 (mm)) := by rw [hmu7w]; exact (u2_n (fun q => absurd q.1 (by decide))).trans t15_mm
          have fM : en7w 20 0 = some (b 0, .inr (6, [.int (iZ (mu7w 0 0)), .int (iZ (mu7w 1 0)), .long (lZ (mu7w 2 0)), .int (iZ (mu7w 3 0)), .ref (b 4), .ref (b 5), .ref (b 6), .ref (b 7), .ref (b 8), .ref (b 9), .ref (b 10), .ref (b 11), .ref (b 12), .ref (b 13), .ref (b 14), .ref (b 15), .ref (b 16), .ref (b 17), .ref (b 18), .ref (b 19), .ref (b 20), .ref (b 21), .ref (b 22), .ref (b 23), .ref (b 24), .ref (b 25), .int (iZ (mu7w 26 0)), .ref (b 27), .ref (b 28), .ref (b 29), .ref (b 30), .ref (b 31), .ref (b 32), .ref (b 33), .ref (b 34), .int (iZ (mu7w 35 0)), .int (iZ (mu7w 36 0)), .int (iZ (mu7w 37 0)), .int (iZ (mu7w 38 0)), .int (iZ (mu7w 39 0)), .int (iZ (mu7w 40 0)), .ref (b 41), .ref (b 42)])) := hE7w.1
          have f7_ : en7w 27 0 = some (b 7, aI dA (101) (mu7w 7)) := hE7w.2 7 (by decide)
          have f8_ : en7w 28 0 = some (b 8, aI dA (101) (mu7w 8)) := hE7w.2 8 (by decide)
          have f9_ : en7w 29 0 = some (b 9, aI dA (101) (mu7w 9)) := hE7w.2 9 (by decide)
          have f10_ : en7w 30 0 = some (b 10, aI dA (101) (mu7w 10)) := hE7w.2 10 (by decide)
          have f11_ : en7w 31 0 = some (b 11, aI dA (101) (mu7w 11)) := hE7w.2 11 (by decide)
          have f12_ : en7w 32 0 = some (b 12, aI dA (101) (mu7w 12)) := hE7w.2 12 (by decide)
          have f14_ : en7w 34 0 = some (b 14, aJ dA (101) (mu7w 14)) := hE7w.2 14 (by decide)
          have f15_ : en7w 35 0 = some (b 15, aJ dA (101) (mu7w 15)) := hE7w.2 15 (by decide)
          refine lv_aload_n hx hb dX4_sendNext_151 rfl (lv_at hl 3 rfl) ?_
          refine g_get (C := RX4) (T := TX4) (N := 43) (ci := 6) (v := .ref (b 11)) hx hb hts hi6 hown hK hW fM rfl 11 (by decide) (hts (.fieldLink RX4 34 "LongTransferModel" "left" "[I") (by decide +kernel)) (fun _ h9 => h9) rfl dX4_sendNext_152 ?_
          refine lv_iload_n hx hb dX4_sendNext_155 rfl (lv_at hl 4 rfl) ?_
          refine g_iald hx hb hK hW f11_ (by omega) (by omega) (by omega) dX4_sendNext_156 ?_
          rw [t11_mm]
          refine z_if_ne (tgt := 177) hx hb dX4_sendNext_157 (by decide) (by omega) (fun c_157 => ?_) (fun c_157 => ?_)
          · have v15 : sNext g mm 15 mm 0 = g 15 mm 0 := v_nx (by omega) (by omega)
            have v17 : sNext g mm 17 mm 0 = g 17 mm 0 := v_nx (by omega) (by omega)
            have v8 : sNext g mm 0 8 0 = g 0 8 0 := v_nx (by omega) (by omega)
            obtain ⟨s1, s2, s3, s5, s4⟩ := v_nxc (g := g) (m := mm) (by omega) (by omega) (by omega)
            have hN : RN (sNext g mm) mu7w mm := RN_2 (by rw [v8, t6_mm]; exact hN6 ()) (by omega) (by omega) (by omega) (by omega) (by omega) (by omega) (by omega) (by omega) (by omega) (Or.inr ⟨by omega, by omega, by omega⟩) (by omega)
            have hgd : ∀ (t : Nat) (i j : Int), ¬ (12 ≤ t ∧ t ≤ 18 ∧ i = mm) ∧ ¬ (t = 0 ∧ i = 8) → sNext g mm t i j = sData g mm 2 (g 14 mm 0) 7 t i j := fun t i j q => by unfold sNext sMkD; rw [if_neg (by omega), if_neg (by omega), v_n2 (by omega)]; unfold sSeq; exact wr_n (by omega)
            have hmd : ∀ (t : Nat) (j : Int), ¬ (6 ≤ t ∧ t ≤ 15 ∧ j = mm) → mu7w t j = mFl (mMk mu1w 2 mm (g 14 mm 0) ((mu 4 (mm + 1) - mu 4 mm) - (mu 8 (mm))) 0) (mu1w 26 0 + 1) mm (mu 8 (mm)) ((mu 4 (mm + 1) - mu 4 mm) - (mu 8 (mm))) t j := fun t j q => by rw [hmu7w, u2_n (by omega), hmu6w, u2_n (by omega), hmu5w, u2_n (by omega), hmu4w, hmk, show ((mu 9 (mm)) + 1) % 16 = g 14 mm 0 by omega]
            have hpst : Rl (sNext g mm) mu7w := rl_d hI hR (m := mm) (kd := 2) (nu := g 14 mm 0) (mo := 7) (by omega) (by omega) (by omega) (by omega) (by omega) hgd (fun j q => by rw [v8]) (fun t j q => by rw [hmu1w]; exact u2_n (by omega)) rfl (by omega) (by omega) hmd hN
            exact W.vret hx hb hr (fun t ht hw => ⟨⟨(en7w, mu7w), rfl, ⟨hE7w, hF7w, hpst⟩, by show Wd _ _ _ t.heap; rw [ht]; exact hW⟩, hS.F ht⟩) hS.2.2 dX4_sendNext_177
          · refine lv_aload_n hx hb dX4_sendNext_160 rfl (lv_at hl 3 rfl) ?_
            refine g_get (C := RX4) (T := TX4) (N := 43) (ci := 6) (v := .ref (b 7)) hx hb hts hi6 hown hK hW fM rfl 7 (by decide) (hts (.fieldLink RX4 22 "LongTransferModel" "state" "[I") (by decide +kernel)) (fun _ h9 => h9) rfl dX4_sendNext_161 ?_
            refine lv_iload_n hx hb dX4_sendNext_164 rfl (lv_at hl 4 rfl) ?_
            refine z_iconst hx hb dX4_sendNext_165 ?_
            refine g_iast (x := 1) hx hb hK hW hS f7_ (by omega) (by omega) (by omega) dX4_sendNext_166 (fun H locs hW hS => ?_)
            obtain ⟨en8w, hen8w⟩ : ∃ x : en_T, x = e2 en7w 27 0 (some (b 7, aI dA (101) (uF (mu7w 7) (mm) (1)))) := ⟨_, rfl⟩
            rw [← hen8w] at hW
            obtain ⟨mu8w, hmu8w⟩ : ∃ x : Mu, x = u2 mu7w 7 (mm) (1) := ⟨_, rfl⟩
            have hE8w : EM dA b mu8w en8w := by rw [hen8w, hmu8w]; exact em_w hE7w (k0 := 7) (j := mm) (v := 1) (by decide)
            have hF8w : FM en7w en8w := fun k i q => by rw [hen8w]; exact e2_k (fun w => q (by rw [w]; decide))
            have hF8w := FM.tr hF7w hF8w
            replace t26_0 : mu8w 26 (0) = mu 26 (0) + 1 := by rw [hmu8w]; exact (u2_n (fun q => absurd q.1 (by decide))).trans t26_0
            replace t2_0 : mu8w 2 (0) = mu 2 (0) := by rw [hmu8w]; exact (u2_n (fun q => absurd q.1 (by decide))).trans t2_0
            replace t4_mm : mu8w 4 (mm) = mu 4 (mm) := by rw [hmu8w]; exact (u2_n (fun q => absurd q.1 (by decide))).trans t4_mm
            replace t7_mm : mu8w 7 (mm) = 1 := by rw [hmu8w]; exact u2_s _ _ _ _
            replace t8_mm : mu8w 8 (mm) = (mu 8 (mm)) + ((mu 4 (mm + 1) - mu 4 mm) - (mu 8 (mm))) := by rw [hmu8w]; exact (u2_n (fun q => absurd q.1 (by decide))).trans t8_mm
            replace t9_mm : mu8w 9 (mm) = ((mu 9 (mm)) + 1) % 16 := by rw [hmu8w]; exact (u2_n (fun q => absurd q.1 (by decide))).trans t9_mm
            replace t12_mm : mu8w 12 (mm) = mu 12 (mm) := by rw [hmu8w]; exact (u2_n (fun q => absurd q.1 (by decide))).trans t12_mm
            replace t10_mm : mu8w 10 (mm) = mu 10 (mm) := by rw [hmu8w]; exact (u2_n (fun q => absurd q.1 (by decide))).trans t10_mm
            replace t11_mm : mu8w 11 (mm) = (mu 11 (mm)) - 1 := by rw [hmu8w]; exact (u2_n (fun q => absurd q.1 (by decide))).trans t11_mm
            replace t6_mm : mu8w 6 (mm) = mu 6 (mm) := by rw [hmu8w]; exact (u2_n (fun q => absurd q.1 (by decide))).trans t6_mm
            replace t13_mm : mu8w 13 (mm) = mu 13 (mm) := by rw [hmu8w]; exact (u2_n (fun q => absurd q.1 (by decide))).trans t13_mm
            replace t14_mm : mu8w 14 (mm) = mu 14 (mm) := by rw [hmu8w]; exact (u2_n (fun q => absurd q.1 (by decide))).trans t14_mm
            replace t15_mm : mu8w 15 (mm) = (mu 2 (0)) + (mu 12 (mm)) := by rw [hmu8w]; exact (u2_n (fun q => absurd q.1 (by decide))).trans t15_mm
            have fM : en8w 20 0 = some (b 0, .inr (6, [.int (iZ (mu8w 0 0)), .int (iZ (mu8w 1 0)), .long (lZ (mu8w 2 0)), .int (iZ (mu8w 3 0)), .ref (b 4), .ref (b 5), .ref (b 6), .ref (b 7), .ref (b 8), .ref (b 9), .ref (b 10), .ref (b 11), .ref (b 12), .ref (b 13), .ref (b 14), .ref (b 15), .ref (b 16), .ref (b 17), .ref (b 18), .ref (b 19), .ref (b 20), .ref (b 21), .ref (b 22), .ref (b 23), .ref (b 24), .ref (b 25), .int (iZ (mu8w 26 0)), .ref (b 27), .ref (b 28), .ref (b 29), .ref (b 30), .ref (b 31), .ref (b 32), .ref (b 33), .ref (b 34), .int (iZ (mu8w 35 0)), .int (iZ (mu8w 36 0)), .int (iZ (mu8w 37 0)), .int (iZ (mu8w 38 0)), .int (iZ (mu8w 39 0)), .int (iZ (mu8w 40 0)), .ref (b 41), .ref (b 42)])) := hE8w.1
            have f7_ : en8w 27 0 = some (b 7, aI dA (101) (mu8w 7)) := hE8w.2 7 (by decide)
            have f8_ : en8w 28 0 = some (b 8, aI dA (101) (mu8w 8)) := hE8w.2 8 (by decide)
            have f9_ : en8w 29 0 = some (b 9, aI dA (101) (mu8w 9)) := hE8w.2 9 (by decide)
            have f10_ : en8w 30 0 = some (b 10, aI dA (101) (mu8w 10)) := hE8w.2 10 (by decide)
            have f11_ : en8w 31 0 = some (b 11, aI dA (101) (mu8w 11)) := hE8w.2 11 (by decide)
            have f12_ : en8w 32 0 = some (b 12, aI dA (101) (mu8w 12)) := hE8w.2 12 (by decide)
            have f14_ : en8w 34 0 = some (b 14, aJ dA (101) (mu8w 14)) := hE8w.2 14 (by decide)
            have f15_ : en8w 35 0 = some (b 15, aJ dA (101) (mu8w 15)) := hE8w.2 15 (by decide)
            refine lv_aload_n hx hb dX4_sendNext_167 rfl (lv_at hl 3 rfl) ?_
            refine g_get (C := RX4) (T := TX4) (N := 43) (ci := 6) (v := .ref (b 14)) hx hb hts hi6 hown hK hW fM rfl 14 (by decide) (hts (.fieldLink RX4 43 "LongTransferModel" "since" "[J") (by decide +kernel)) (fun _ h9 => h9) rfl dX4_sendNext_168 ?_
            refine lv_iload_n hx hb dX4_sendNext_171 rfl (lv_at hl 4 rfl) ?_
            refine lv_aload_n hx hb dX4_sendNext_172 rfl (lv_at hl 3 rfl) ?_
            refine g_get (C := RX4) (T := TX4) (N := 43) (ci := 6) (v := .long (lZ (mu8w 2 0))) hx hb hts hi6 hown hK hW fM rfl 2 (by decide) (hts (.fieldLink RX4 137 "LongTransferModel" "now" "J") (by decide +kernel)) (fun _ h9 => h9) rfl dX4_sendNext_173 ?_
            rw [t2_0]
            refine g_last (x := mu 2 (0)) hx hb hK hW hS f14_ (by omega) (by omega) (by omega) dX4_sendNext_176 (fun H locs hW hS => ?_)
            obtain ⟨en9w, hen9w⟩ : ∃ x : en_T, x = e2 en8w 34 0 (some (b 14, aJ dA (101) (uF (mu8w 14) (mm) (mu 2 (0))))) := ⟨_, rfl⟩
            rw [← hen9w] at hW
            obtain ⟨mu9w, hmu9w⟩ : ∃ x : Mu, x = u2 mu8w 14 (mm) (mu 2 (0)) := ⟨_, rfl⟩
            have hE9w : EM dA b mu9w en9w := by rw [hen9w, hmu9w]; exact em_w hE8w (k0 := 14) (j := mm) (v := mu 2 (0)) (by decide)
            have hF9w : FM en8w en9w := fun k i q => by rw [hen9w]; exact e2_k (fun w => q (by rw [w]; decide))
            have hF9w := FM.tr hF8w hF9w
            replace t26_0 : mu9w 26 (0) = mu 26 (0) + 1 := by rw [hmu9w]; exact (u2_n (fun q => absurd q.1 (by decide))).trans t26_0
            replace t2_0 : mu9w 2 (0) = mu 2 (0) := by rw [hmu9w]; exact (u2_n (fun q => absurd q.1 (by decide))).trans t2_0
            replace t4_mm : mu9w 4 (mm) = mu 4 (mm) := by rw [hmu9w]; exact (u2_n (fun q => absurd q.1 (by decide))).trans t4_mm
            replace t7_mm : mu9w 7 (mm) = 1 := by rw [hmu9w]; exact (u2_n (fun q => absurd q.1 (by decide))).trans t7_mm
            replace t8_mm : mu9w 8 (mm) = (mu 8 (mm)) + ((mu 4 (mm + 1) - mu 4 mm) - (mu 8 (mm))) := by rw [hmu9w]; exact (u2_n (fun q => absurd q.1 (by decide))).trans t8_mm
            replace t9_mm : mu9w 9 (mm) = ((mu 9 (mm)) + 1) % 16 := by rw [hmu9w]; exact (u2_n (fun q => absurd q.1 (by decide))).trans t9_mm
            replace t12_mm : mu9w 12 (mm) = mu 12 (mm) := by rw [hmu9w]; exact (u2_n (fun q => absurd q.1 (by decide))).trans t12_mm
            replace t10_mm : mu9w 10 (mm) = mu 10 (mm) := by rw [hmu9w]; exact (u2_n (fun q => absurd q.1 (by decide))).trans t10_mm
            replace t11_mm : mu9w 11 (mm) = (mu 11 (mm)) - 1 := by rw [hmu9w]; exact (u2_n (fun q => absurd q.1 (by decide))).trans t11_mm
            replace t6_mm : mu9w 6 (mm) = mu 6 (mm) := by rw [hmu9w]; exact (u2_n (fun q => absurd q.1 (by decide))).trans t6_mm
            replace t13_mm : mu9w 13 (mm) = mu 13 (mm) := by rw [hmu9w]; exact (u2_n (fun q => absurd q.1 (by decide))).trans t13_mm
            replace t14_mm : mu9w 14 (mm) = mu 2 (0) := by rw [hmu9w]; exact u2_s _ _ _ _
            replace t15_mm : mu9w 15 (mm) = (mu 2 (0)) + (mu 12 (mm)) := by rw [hmu9w]; exact (u2_n (fun q => absurd q.1 (by decide))).trans t15_mm
            have fM : en9w 20 0 = some (b 0, .inr (6, [.int (iZ (mu9w 0 0)), .int (iZ (mu9w 1 0)), .long (lZ (mu9w 2 0)), .int (iZ (mu9w 3 0)), .ref (b 4), .ref (b 5), .ref (b 6), .ref (b 7), .ref (b 8), .ref (b 9), .ref (b 10), .ref (b 11), .ref (b 12), .ref (b 13), .ref (b 14), .ref (b 15), .ref (b 16), .ref (b 17), .ref (b 18), .ref (b 19), .ref (b 20), .ref (b 21), .ref (b 22), .ref (b 23), .ref (b 24), .ref (b 25), .int (iZ (mu9w 26 0)), .ref (b 27), .ref (b 28), .ref (b 29), .ref (b 30), .ref (b 31), .ref (b 32), .ref (b 33), .ref (b 34), .int (iZ (mu9w 35 0)), .int (iZ (mu9w 36 0)), .int (iZ (mu9w 37 0)), .int (iZ (mu9w 38 0)), .int (iZ (mu9w 39 0)), .int (iZ (mu9w 40 0)), .ref (b 41), .ref (b 42)])) := hE9w.1
            have f7_ : en9w 27 0 = some (b 7, aI dA (101) (mu9w 7)) := hE9w.2 7 (by decide)
            have f8_ : en9w 28 0 = some (b 8, aI dA (101) (mu9w 8)) := hE9w.2 8 (by decide)
            have f9_ : en9w 29 0 = some (b 9, aI dA (101) (mu9w 9)) := hE9w.2 9 (by decide)
            have f10_ : en9w 30 0 = some (b 10, aI dA (101) (mu9w 10)) := hE9w.2 10 (by decide)
            have f11_ : en9w 31 0 = some (b 11, aI dA (101) (mu9w 11)) := hE9w.2 11 (by decide)
            have f12_ : en9w 32 0 = some (b 12, aI dA (101) (mu9w 12)) := hE9w.2 12 (by decide)
            have f14_ : en9w 34 0 = some (b 14, aJ dA (101) (mu9w 14)) := hE9w.2 14 (by decide)
            have f15_ : en9w 35 0 = some (b 15, aJ dA (101) (mu9w 15)) := hE9w.2 15 (by decide)
            have v15 : sNext g mm 15 mm 0 = g 15 mm 0 := v_nx (by omega) (by omega)
            have v17 : sNext g mm 17 mm 0 = g 17 mm 0 := v_nx (by omega) (by omega)
            have v8 : sNext g mm 0 8 0 = g 0 8 0 := v_nx (by omega) (by omega)
            obtain ⟨s1, s2, s3, s4⟩ := v_nxb (g := g) (m := mm) (by omega) (by omega) (by omega)
            have hN : RN (sNext g mm) mu9w mm := RN_1 (by rw [v8, t6_mm]; exact hN6 ()) (by omega) s1 (by omega) (by omega) (by omega) (by omega) (by omega) (by omega)
            have hgd : ∀ (t : Nat) (i j : Int), ¬ (12 ≤ t ∧ t ≤ 18 ∧ i = mm) ∧ ¬ (t = 0 ∧ i = 8) → sNext g mm t i j = sData g mm 2 (g 14 mm 0) 7 t i j := fun t i j q => by unfold sNext sMkD; rw [if_neg (by omega), if_neg (by omega), v_n2 (by omega)]; unfold sSeq; exact wr_n (by omega)
            have hmd : ∀ (t : Nat) (j : Int), ¬ (6 ≤ t ∧ t ≤ 15 ∧ j = mm) → mu9w t j = mFl (mMk mu1w 2 mm (g 14 mm 0) ((mu 4 (mm + 1) - mu 4 mm) - (mu 8 (mm))) 0) (mu1w 26 0 + 1) mm (mu 8 (mm)) ((mu 4 (mm + 1) - mu 4 mm) - (mu 8 (mm))) t j := fun t j q => by rw [hmu9w, u2_n (by omega), hmu8w, u2_n (by omega), hmu7w, u2_n (by omega), hmu6w, u2_n (by omega), hmu5w, u2_n (by omega), hmu4w, hmk, show ((mu 9 (mm)) + 1) % 16 = g 14 mm 0 by omega]
            have hpst : Rl (sNext g mm) mu9w := rl_d hI hR (m := mm) (kd := 2) (nu := g 14 mm 0) (mo := 7) (by omega) (by omega) (by omega) (by omega) (by omega) hgd (fun j q => by rw [v8]) (fun t j q => by rw [hmu1w]; exact u2_n (by omega)) rfl (by omega) (by omega) hmd hN
            exact W.vret hx hb hr (fun t ht hw => ⟨⟨(en9w, mu9w), rfl, ⟨hE9w, hF9w, hpst⟩, by show Wd _ _ _ t.heap; rw [ht]; exact hW⟩, hS.F ht⟩) hS.2.2 dX4_sendNext_177
        · have v15 : sNext g mm 15 mm 0 = g 15 mm 0 := v_nx (by omega) (by omega)
          have v17 : sNext g mm 17 mm 0 = g 17 mm 0 := v_nx (by omega) (by omega)
          have v8 : sNext g mm 0 8 0 = g 0 8 0 := v_nx (by omega) (by omega)
          have rb3 : mu 10 mm = 0 ∧ g 16 mm 0 = 0 := (rbu ()).elim id (fun q => absurd (by omega) q.1)
          obtain ⟨s1, s2, s3, s5, s4⟩ := v_nxc (g := g) (m := mm) (by omega) (by omega) (by omega)
          have hN : RN (sNext g mm) mu6w mm := RN_2 (by rw [v8, t6_mm]; exact hN6 ()) (by omega) (by omega) (by omega) (by omega) (by omega) (by omega) (by omega) (by omega) (by omega) (Or.inl ⟨by omega, by omega⟩) (by omega)
          have hgd : ∀ (t : Nat) (i j : Int), ¬ (12 ≤ t ∧ t ≤ 18 ∧ i = mm) ∧ ¬ (t = 0 ∧ i = 8) → sNext g mm t i j = sData g mm 2 (g 14 mm 0) 7 t i j := fun t i j q => by unfold sNext sMkD; rw [if_neg (by omega), if_neg (by omega), v_n2 (by omega)]; unfold sSeq; exact wr_n (by omega)
          have hmd : ∀ (t : Nat) (j : Int), ¬ (6 ≤ t ∧ t ≤ 15 ∧ j = mm) → mu6w t j = mFl (mMk mu1w 2 mm (g 14 mm 0) ((mu 4 (mm + 1) - mu 4 mm) - (mu 8 (mm))) 0) (mu1w 26 0 + 1) mm (mu 8 (mm)) ((mu 4 (mm + 1) - mu 4 mm) - (mu 8 (mm))) t j := fun t j q => by rw [hmu6w, u2_n (by omega), hmu5w, u2_n (by omega), hmu4w, hmk, show ((mu 9 (mm)) + 1) % 16 = g 14 mm 0 by omega]
          have hpst : Rl (sNext g mm) mu6w := rl_d hI hR (m := mm) (kd := 2) (nu := g 14 mm 0) (mo := 7) (by omega) (by omega) (by omega) (by omega) (by omega) hgd (fun j q => by rw [v8]) (fun t j q => by rw [hmu1w]; exact u2_n (by omega)) rfl (by omega) (by omega) hmd hN
          exact W.vret hx hb hr (fun t ht hw => ⟨⟨(en6w, mu6w), rfl, ⟨hE6w, hF6w, hpst⟩, by show Wd _ _ _ t.heap; rw [ht]; exact hW⟩, hS.F ht⟩) hS.2.2 dX4_sendNext_140
      · refine lv_aload_n hx hb dX4_sendNext_123 rfl (lv_at hl 3 rfl) ?_
        refine g_get (C := RX4) (T := TX4) (N := 43) (ci := 6) (v := .ref (b 7)) hx hb hts hi6 hown hK hW fM rfl 7 (by decide) (hts (.fieldLink RX4 22 "LongTransferModel" "state" "[I") (by decide +kernel)) (fun _ h9 => h9) rfl dX4_sendNext_124 ?_
        refine lv_iload_n hx hb dX4_sendNext_127 rfl (lv_at hl 4 rfl) ?_
        refine z_iconst hx hb dX4_sendNext_128 ?_
        refine g_iast (x := 3) hx hb hK hW hS f7_ (by omega) (by omega) (by omega) dX4_sendNext_129 (fun H locs hW hS => ?_)
        obtain ⟨en10w, hen10w⟩ : ∃ x : en_T, x = e2 en6w 27 0 (some (b 7, aI dA (101) (uF (mu6w 7) (mm) (3)))) := ⟨_, rfl⟩
        rw [← hen10w] at hW
        obtain ⟨mu10w, hmu10w⟩ : ∃ x : Mu, x = u2 mu6w 7 (mm) (3) := ⟨_, rfl⟩
        have hE10w : EM dA b mu10w en10w := by rw [hen10w, hmu10w]; exact em_w hE6w (k0 := 7) (j := mm) (v := 3) (by decide)
        have hF10w : FM en6w en10w := fun k i q => by rw [hen10w]; exact e2_k (fun w => q (by rw [w]; decide))
        have hF10w := FM.tr hF6w hF10w
        replace t26_0 : mu10w 26 (0) = mu 26 (0) + 1 := by rw [hmu10w]; exact (u2_n (fun q => absurd q.1 (by decide))).trans t26_0
        replace t2_0 : mu10w 2 (0) = mu 2 (0) := by rw [hmu10w]; exact (u2_n (fun q => absurd q.1 (by decide))).trans t2_0
        replace t4_mm : mu10w 4 (mm) = mu 4 (mm) := by rw [hmu10w]; exact (u2_n (fun q => absurd q.1 (by decide))).trans t4_mm
        replace t7_mm : mu10w 7 (mm) = 3 := by rw [hmu10w]; exact u2_s _ _ _ _
        replace t8_mm : mu10w 8 (mm) = (mu 8 (mm)) + ((mu 4 (mm + 1) - mu 4 mm) - (mu 8 (mm))) := by rw [hmu10w]; exact (u2_n (fun q => absurd q.1 (by decide))).trans t8_mm
        replace t9_mm : mu10w 9 (mm) = ((mu 9 (mm)) + 1) % 16 := by rw [hmu10w]; exact (u2_n (fun q => absurd q.1 (by decide))).trans t9_mm
        replace t12_mm : mu10w 12 (mm) = mu 12 (mm) := by rw [hmu10w]; exact (u2_n (fun q => absurd q.1 (by decide))).trans t12_mm
        replace t10_mm : mu10w 10 (mm) = mu 10 (mm) := by rw [hmu10w]; exact (u2_n (fun q => absurd q.1 (by decide))).trans t10_mm
        replace t11_mm : mu10w 11 (mm) = mu 11 (mm) := by rw [hmu10w]; exact (u2_n (fun q => absurd q.1 (by decide))).trans t11_mm
        replace t6_mm : mu10w 6 (mm) = mu 6 (mm) := by rw [hmu10w]; exact (u2_n (fun q => absurd q.1 (by decide))).trans t6_mm
        replace t13_mm : mu10w 13 (mm) = mu 13 (mm) := by rw [hmu10w]; exact (u2_n (fun q => absurd q.1 (by decide))).trans t13_mm
        replace t14_mm : mu10w 14 (mm) = mu 14 (mm) := by rw [hmu10w]; exact (u2_n (fun q => absurd q.1 (by decide))).trans t14_mm
        replace t15_mm : mu10w 15 (mm) = (mu 2 (0)) + (mu 12 (mm)) := by rw [hmu10w]; exact (u2_n (fun q => absurd q.1 (by decide))).trans t15_mm
        have fM : en10w 20 0 = some (b 0, .inr (6, [.int (iZ (mu10w 0 0)), .int (iZ (mu10w 1 0)), .long (lZ (mu10w 2 0)), .int (iZ (mu10w 3 0)), .ref (b 4), .ref (b 5), .ref (b 6), .ref (b 7), .ref (b 8), .ref (b 9), .ref (b 10), .ref (b 11), .ref (b 12), .ref (b 13), .ref (b 14), .ref (b 15), .ref (b 16), .ref (b 17), .ref (b 18), .ref (b 19), .ref (b 20), .ref (b 21), .ref (b 22), .ref (b 23), .ref (b 24), .ref (b 25), .int (iZ (mu10w 26 0)), .ref (b 27), .ref (b 28), .ref (b 29), .ref (b 30), .ref (b 31), .ref (b 32), .ref (b 33), .ref (b 34), .int (iZ (mu10w 35 0)), .int (iZ (mu10w 36 0)), .int (iZ (mu10w 37 0)), .int (iZ (mu10w 38 0)), .int (iZ (mu10w 39 0)), .int (iZ (mu10w 40 0)), .ref (b 41), .ref (b 42)])) := hE10w.1
        have f7_ : en10w 27 0 = some (b 7, aI dA (101) (mu10w 7)) := hE10w.2 7 (by decide)
        have f8_ : en10w 28 0 = some (b 8, aI dA (101) (mu10w 8)) := hE10w.2 8 (by decide)
        have f9_ : en10w 29 0 = some (b 9, aI dA (101) (mu10w 9)) := hE10w.2 9 (by decide)
        have f10_ : en10w 30 0 = some (b 10, aI dA (101) (mu10w 10)) := hE10w.2 10 (by decide)
        have f11_ : en10w 31 0 = some (b 11, aI dA (101) (mu10w 11)) := hE10w.2 11 (by decide)
        have f12_ : en10w 32 0 = some (b 12, aI dA (101) (mu10w 12)) := hE10w.2 12 (by decide)
        have f14_ : en10w 34 0 = some (b 14, aJ dA (101) (mu10w 14)) := hE10w.2 14 (by decide)
        have f15_ : en10w 35 0 = some (b 15, aJ dA (101) (mu10w 15)) := hE10w.2 15 (by decide)
        have v15 : sNext g mm 15 mm 0 = g 15 mm 0 := v_nx (by omega) (by omega)
        have v17 : sNext g mm 17 mm 0 = g 17 mm 0 := v_nx (by omega) (by omega)
        have v8 : sNext g mm 0 8 0 = g 0 8 0 := v_nx (by omega) (by omega)
        have vs := v_nxa (g := g) (m := mm) (by omega) (by omega)
        have hN : RN (sNext g mm) mu10w mm := RN_3 (by rw [v8, t6_mm]; exact hN6 ()) (by omega) (by omega) vs.2
        have hgd : ∀ (t : Nat) (i j : Int), ¬ (12 ≤ t ∧ t ≤ 18 ∧ i = mm) ∧ ¬ (t = 0 ∧ i = 8) → sNext g mm t i j = sData g mm 2 (g 14 mm 0) 7 t i j := fun t i j q => by unfold sNext sMkD; rw [if_neg (by omega), if_neg (by omega), v_n2 (by omega)]; unfold sSeq; exact wr_n (by omega)
        have hmd : ∀ (t : Nat) (j : Int), ¬ (6 ≤ t ∧ t ≤ 15 ∧ j = mm) → mu10w t j = mFl (mMk mu1w 2 mm (g 14 mm 0) ((mu 4 (mm + 1) - mu 4 mm) - (mu 8 (mm))) 0) (mu1w 26 0 + 1) mm (mu 8 (mm)) ((mu 4 (mm + 1) - mu 4 mm) - (mu 8 (mm))) t j := fun t j q => by rw [hmu10w, u2_n (by omega), hmu6w, u2_n (by omega), hmu5w, u2_n (by omega), hmu4w, hmk, show ((mu 9 (mm)) + 1) % 16 = g 14 mm 0 by omega]
        have hpst : Rl (sNext g mm) mu10w := rl_d hI hR (m := mm) (kd := 2) (nu := g 14 mm 0) (mo := 7) (by omega) (by omega) (by omega) (by omega) (by omega) hgd (fun j q => by rw [v8]) (fun t j q => by rw [hmu1w]; exact u2_n (by omega)) rfl (by omega) (by omega) hmd hN
        exact W.vret hx hb hr (fun t ht hw => ⟨⟨(en10w, mu10w), rfl, ⟨hE10w, hF10w, hpst⟩, by show Wd _ _ _ t.heap; rw [ht]; exact hW⟩, hS.F ht⟩) hS.2.2 dX4_sendNext_130
  · refine z_bipush hx hb dX4_sendNext_19 (by decide) ?_
    refine lv_goto (tgt := 25) hx hb dX4_sendNext_21 (by decide) ?_
    refine lv_istore_n (lv' := [(3, .int (iZ (7))), (2, .int (iZ ((mu 4 (mm + 1) - mu 4 mm) - (mu 8 (mm))))), (0, .ref (b 0)), (1, .int (iZ (mm)))]) hx hb dX4_sendNext_25 rfl hl (by decide) rfl (fun ls hl => ?_)
    refine lv_aload_n hx hb dX4_sendNext_26 rfl (lv_at hl 2 rfl) ?_
    refine g_get (C := RX4) (T := TX4) (N := 43) (ci := 6) (v := .ref (b 9)) hx hb hts hi6 hown hK hW fM rfl 9 (by decide) (hts (.fieldLink RX4 28 "LongTransferModel" "sequence" "[I") (by decide +kernel)) (fun _ h9 => h9) rfl dX4_sendNext_27 ?_
    refine lv_iload_n hx hb dX4_sendNext_30 rfl (lv_at hl 3 rfl) ?_
    refine lv_aload_n hx hb dX4_sendNext_31 rfl (lv_at hl 2 rfl) ?_
    refine g_get (C := RX4) (T := TX4) (N := 43) (ci := 6) (v := .ref (b 9)) hx hb hts hi6 hown hK hW fM rfl 9 (by decide) (hts (.fieldLink RX4 28 "LongTransferModel" "sequence" "[I") (by decide +kernel)) (fun _ h9 => h9) rfl dX4_sendNext_32 ?_
    refine lv_iload_n hx hb dX4_sendNext_35 rfl (lv_at hl 3 rfl) ?_
    refine g_iald hx hb hK hW f9_ (by omega) (by omega) (by omega) dX4_sendNext_36 ?_
    refine z_iconst hx hb dX4_sendNext_37 ?_
    refine z_iadd hx hb dX4_sendNext_38 ?_
    refine z_bipush hx hb dX4_sendNext_39 (by decide) ?_
    refine z_irem hx hb (by omega) (by omega) (by omega) (by omega) dX4_sendNext_41 ?_
    refine g_iast (x := ((mu 9 (mm)) + 1) % 16) hx hb hK hW hS f9_ (by omega) (by omega) (by omega) dX4_sendNext_42 (fun H locs hW hS => ?_)
    obtain ⟨en11w, hen11w⟩ : ∃ x : en_T, x = e2 en 29 0 (some (b 9, aI dA (101) (uF (mu 9) (mm) (((mu 9 (mm)) + 1) % 16)))) := ⟨_, rfl⟩
    rw [← hen11w] at hW
    obtain ⟨mu11w, hmu11w⟩ : ∃ x : Mu, x = u2 mu 9 (mm) (((mu 9 (mm)) + 1) % 16) := ⟨_, rfl⟩
    have hE11w : EM dA b mu11w en11w := by rw [hen11w, hmu11w]; exact em_w hE (k0 := 9) (j := mm) (v := ((mu 9 (mm)) + 1) % 16) (by decide)
    have hF11w : FM en en11w := fun k i q => by rw [hen11w]; exact e2_k (fun w => q (by rw [w]; decide))
    replace t26_0 : mu11w 26 (0) = mu 26 (0) := by rw [hmu11w]; exact (u2_n (fun q => absurd q.1 (by decide))).trans t26_0
    replace t2_0 : mu11w 2 (0) = mu 2 (0) := by rw [hmu11w]; exact (u2_n (fun q => absurd q.1 (by decide))).trans t2_0
    replace t4_mm : mu11w 4 (mm) = mu 4 (mm) := by rw [hmu11w]; exact (u2_n (fun q => absurd q.1 (by decide))).trans t4_mm
    replace t7_mm : mu11w 7 (mm) = mu 7 (mm) := by rw [hmu11w]; exact (u2_n (fun q => absurd q.1 (by decide))).trans t7_mm
    replace t8_mm : mu11w 8 (mm) = mu 8 (mm) := by rw [hmu11w]; exact (u2_n (fun q => absurd q.1 (by decide))).trans t8_mm
    replace t9_mm : mu11w 9 (mm) = ((mu 9 (mm)) + 1) % 16 := by rw [hmu11w]; exact u2_s _ _ _ _
    replace t12_mm : mu11w 12 (mm) = mu 12 (mm) := by rw [hmu11w]; exact (u2_n (fun q => absurd q.1 (by decide))).trans t12_mm
    replace t10_mm : mu11w 10 (mm) = mu 10 (mm) := by rw [hmu11w]; exact (u2_n (fun q => absurd q.1 (by decide))).trans t10_mm
    replace t11_mm : mu11w 11 (mm) = mu 11 (mm) := by rw [hmu11w]; exact (u2_n (fun q => absurd q.1 (by decide))).trans t11_mm
    replace t6_mm : mu11w 6 (mm) = mu 6 (mm) := by rw [hmu11w]; exact (u2_n (fun q => absurd q.1 (by decide))).trans t6_mm
    replace t13_mm : mu11w 13 (mm) = mu 13 (mm) := by rw [hmu11w]; exact (u2_n (fun q => absurd q.1 (by decide))).trans t13_mm
    replace t14_mm : mu11w 14 (mm) = mu 14 (mm) := by rw [hmu11w]; exact (u2_n (fun q => absurd q.1 (by decide))).trans t14_mm
    replace t15_mm : mu11w 15 (mm) = mu 15 (mm) := by rw [hmu11w]; exact (u2_n (fun q => absurd q.1 (by decide))).trans t15_mm
    have fM : en11w 20 0 = some (b 0, .inr (6, [.int (iZ (mu11w 0 0)), .int (iZ (mu11w 1 0)), .long (lZ (mu11w 2 0)), .int (iZ (mu11w 3 0)), .ref (b 4), .ref (b 5), .ref (b 6), .ref (b 7), .ref (b 8), .ref (b 9), .ref (b 10), .ref (b 11), .ref (b 12), .ref (b 13), .ref (b 14), .ref (b 15), .ref (b 16), .ref (b 17), .ref (b 18), .ref (b 19), .ref (b 20), .ref (b 21), .ref (b 22), .ref (b 23), .ref (b 24), .ref (b 25), .int (iZ (mu11w 26 0)), .ref (b 27), .ref (b 28), .ref (b 29), .ref (b 30), .ref (b 31), .ref (b 32), .ref (b 33), .ref (b 34), .int (iZ (mu11w 35 0)), .int (iZ (mu11w 36 0)), .int (iZ (mu11w 37 0)), .int (iZ (mu11w 38 0)), .int (iZ (mu11w 39 0)), .int (iZ (mu11w 40 0)), .ref (b 41), .ref (b 42)])) := hE11w.1
    have f7_ : en11w 27 0 = some (b 7, aI dA (101) (mu11w 7)) := hE11w.2 7 (by decide)
    have f8_ : en11w 28 0 = some (b 8, aI dA (101) (mu11w 8)) := hE11w.2 8 (by decide)
    have f9_ : en11w 29 0 = some (b 9, aI dA (101) (mu11w 9)) := hE11w.2 9 (by decide)
    have f10_ : en11w 30 0 = some (b 10, aI dA (101) (mu11w 10)) := hE11w.2 10 (by decide)
    have f11_ : en11w 31 0 = some (b 11, aI dA (101) (mu11w 11)) := hE11w.2 11 (by decide)
    have f12_ : en11w 32 0 = some (b 12, aI dA (101) (mu11w 12)) := hE11w.2 12 (by decide)
    have f14_ : en11w 34 0 = some (b 14, aJ dA (101) (mu11w 14)) := hE11w.2 14 (by decide)
    have f15_ : en11w 35 0 = some (b 15, aJ dA (101) (mu11w 15)) := hE11w.2 15 (by decide)
    refine lv_aload_n hx hb dX4_sendNext_43 rfl (lv_at hl 2 rfl) ?_
    refine z_iconst hx hb dX4_sendNext_44 ?_
    refine lv_iload_n hx hb dX4_sendNext_45 rfl (lv_at hl 3 rfl) ?_
    refine lv_aload_n hx hb dX4_sendNext_46 rfl (lv_at hl 2 rfl) ?_
    refine g_get (C := RX4) (T := TX4) (N := 43) (ci := 6) (v := .ref (b 9)) hx hb hts hi6 hown hK hW fM rfl 9 (by decide) (hts (.fieldLink RX4 28 "LongTransferModel" "sequence" "[I") (by decide +kernel)) (fun _ h9 => h9) rfl dX4_sendNext_47 ?_
    refine lv_iload_n hx hb dX4_sendNext_50 rfl (lv_at hl 3 rfl) ?_
    refine g_iald hx hb hK hW f9_ (by omega) (by omega) (by omega) dX4_sendNext_51 ?_
    rw [t9_mm]
    refine lv_iload_n hx hb dX4_sendNext_52 rfl (lv_at hl 0 rfl) ?_
    refine z_iconst hx hb dX4_sendNext_53 ?_
    refine va_calli (va_runV (As := [.int (iZ (2)), .int (iZ (mm)), .int (iZ (((mu 9 (mm)) + 1) % 16)), .int (iZ (7)), .int (iZ (0))]) (rest := []) ⟨hx, hb, hml, hown, hts⟩ (c_X4_make l D dA z en11w b mu11w 2 mm (((mu 9 (mm)) + 1) % 16) 7 0 (by omega) (by omega) hE11w) (cwV 5 hts gX4_sendNext_X4_make rfl rfl rfl (by decide +kernel) ⟨Nat.le_of_ble_eq_true rfl, Nat.le_of_ble_eq_true rfl⟩) ⟨gBl, gRecv hK hW (ci := 6) rfl fM, gPre _ hg hS hW⟩ rfl rfl hl.1 rfl (lv_room (Nat.le_of_ble_eq_true rfl)) dX4_sendNext_54 ⟨(show 0 + 0 + 0 ≤ 0 by omega), (show 0 + 0 + 0 ≤ 0 by omega)⟩) hS (fun _ _ h => h) (fun _ h => h) (fun r9 u9 t9 H locs ht9 hvm9 hw9 hB9 hz9 hk9 hS => ?_)
    obtain ⟨en12w, mu12w⟩ := u9
    obtain ⟨hr9, hE12w, hF12w, hmu12w⟩ := hw9
    have hW : Wd D (z 0) en12w H := by rw [← ht9]; exact hB9
    dsimp only at hE12w hF12w hmu12w
    subst hr9
    have hF12w := FM.tr hF11w hF12w
    have fM : en12w 20 0 = some (b 0, .inr (6, [.int (iZ (mu12w 0 0)), .int (iZ (mu12w 1 0)), .long (lZ (mu12w 2 0)), .int (iZ (mu12w 3 0)), .ref (b 4), .ref (b 5), .ref (b 6), .ref (b 7), .ref (b 8), .ref (b 9), .ref (b 10), .ref (b 11), .ref (b 12), .ref (b 13), .ref (b 14), .ref (b 15), .ref (b 16), .ref (b 17), .ref (b 18), .ref (b 19), .ref (b 20), .ref (b 21), .ref (b 22), .ref (b 23), .ref (b 24), .ref (b 25), .int (iZ (mu12w 26 0)), .ref (b 27), .ref (b 28), .ref (b 29), .ref (b 30), .ref (b 31), .ref (b 32), .ref (b 33), .ref (b 34), .int (iZ (mu12w 35 0)), .int (iZ (mu12w 36 0)), .int (iZ (mu12w 37 0)), .int (iZ (mu12w 38 0)), .int (iZ (mu12w 39 0)), .int (iZ (mu12w 40 0)), .ref (b 41), .ref (b 42)])) := hE12w.1
    have f7_ : en12w 27 0 = some (b 7, aI dA (101) (mu12w 7)) := hE12w.2 7 (by decide)
    have f8_ : en12w 28 0 = some (b 8, aI dA (101) (mu12w 8)) := hE12w.2 8 (by decide)
    have f9_ : en12w 29 0 = some (b 9, aI dA (101) (mu12w 9)) := hE12w.2 9 (by decide)
    have f10_ : en12w 30 0 = some (b 10, aI dA (101) (mu12w 10)) := hE12w.2 10 (by decide)
    have f11_ : en12w 31 0 = some (b 11, aI dA (101) (mu12w 11)) := hE12w.2 11 (by decide)
    have f12_ : en12w 32 0 = some (b 12, aI dA (101) (mu12w 12)) := hE12w.2 12 (by decide)
    have f14_ : en12w 34 0 = some (b 14, aJ dA (101) (mu12w 14)) := hE12w.2 14 (by decide)
    have f15_ : en12w 35 0 = some (b 15, aJ dA (101) (mu12w 15)) := hE12w.2 15 (by decide)
    have t26b : mu11w 26 0 = mu 26 (0) := by first | exact t26_0 | rfl
    by_cases hful : mu11w 26 0 = 6000
    · rw [if_pos hful]
      have hmk : mu12w = mu11w := by rw [hmu12w]; exact if_pos hful
      replace t26_0 : mu12w 26 (0) = mu 26 (0) := (congrFun (congrFun hmk 26) (0)).trans t26_0
      replace t2_0 : mu12w 2 (0) = mu 2 (0) := (congrFun (congrFun hmk 2) (0)).trans t2_0
      replace t4_mm : mu12w 4 (mm) = mu 4 (mm) := (congrFun (congrFun hmk 4) (mm)).trans t4_mm
      replace t7_mm : mu12w 7 (mm) = mu 7 (mm) := (congrFun (congrFun hmk 7) (mm)).trans t7_mm
      replace t8_mm : mu12w 8 (mm) = mu 8 (mm) := (congrFun (congrFun hmk 8) (mm)).trans t8_mm
      replace t9_mm : mu12w 9 (mm) = ((mu 9 (mm)) + 1) % 16 := (congrFun (congrFun hmk 9) (mm)).trans t9_mm
      replace t12_mm : mu12w 12 (mm) = mu 12 (mm) := (congrFun (congrFun hmk 12) (mm)).trans t12_mm
      replace t10_mm : mu12w 10 (mm) = mu 10 (mm) := (congrFun (congrFun hmk 10) (mm)).trans t10_mm
      replace t11_mm : mu12w 11 (mm) = mu 11 (mm) := (congrFun (congrFun hmk 11) (mm)).trans t11_mm
      replace t6_mm : mu12w 6 (mm) = mu 6 (mm) := (congrFun (congrFun hmk 6) (mm)).trans t6_mm
      replace t13_mm : mu12w 13 (mm) = mu 13 (mm) := (congrFun (congrFun hmk 13) (mm)).trans t13_mm
      replace t14_mm : mu12w 14 (mm) = mu 14 (mm) := (congrFun (congrFun hmk 14) (mm)).trans t14_mm
      replace t15_mm : mu12w 15 (mm) = mu 15 (mm) := (congrFun (congrFun hmk 15) (mm)).trans t15_mm
      refine lv_istore (lv' := [(4, .int (iZ (0))), (3, .int (iZ (7))), (2, .int (iZ ((mu 4 (mm + 1) - mu 4 mm) - (mu 8 (mm))))), (0, .ref (b 0)), (1, .int (iZ (mm)))]) hx hb dX4_sendNext_57 hl (by decide) rfl (fun ls hl => ?_)
      refine lv_iload hx hb dX4_sendNext_59 (lv_at hl 0 rfl) ?_
      refine z_if_ne (tgt := 72) hx hb dX4_sendNext_61 (by decide) (by omega) (fun c_61 => absurd c_61 (by omega)) (fun _ => ?_)
      refine lv_aload_n hx hb dX4_sendNext_64 rfl (lv_at hl 3 rfl) ?_
      refine lv_iload_n hx hb dX4_sendNext_65 rfl (lv_at hl 4 rfl) ?_
      refine z_bipush hx hb dX4_sendNext_66 (by decide) ?_
      refine va_callv (va_runV (As := [.int (iZ (mm)), .int (iZ (7))]) (rest := []) ⟨hx, hb, hml, hown, hts⟩ (c_X4_endSender l D dA z en12w b mu12w mm 7 (by omega) (by omega) (by omega) (by omega) hE12w) (cwV 2 hts gX4_sendNext_X4_endSender rfl rfl rfl (by decide +kernel) ⟨Nat.le_of_ble_eq_true rfl, Nat.le_of_ble_eq_true rfl⟩) ⟨gBl, gRecv hK hW (ci := 6) rfl fM, gPre _ hg hS hW⟩ rfl rfl hl.1 rfl (lv_room (Nat.le_of_ble_eq_true rfl)) dX4_sendNext_68 ⟨(show 0 + 0 + 0 + 0 ≤ 0 by omega), (show 0 + 0 + 0 + 0 ≤ 0 by omega)⟩) hS (fun _ _ h => h) (fun _ h => h) (fun u9 t9 H locs ht9 hvm9 hw9 hB9 hz9 hk9 hS => ?_)
      obtain ⟨en13w, mu13w⟩ := u9
      obtain ⟨hE13w, hF13w, hmu13w⟩ := hw9
      have hW : Wd D (z 0) en13w H := by rw [← ht9]; exact hB9
      dsimp only at hE13w hF13w hmu13w
      have hF13w := FM.tr hF12w hF13w
      have fM : en13w 20 0 = some (b 0, .inr (6, [.int (iZ (mu13w 0 0)), .int (iZ (mu13w 1 0)), .long (lZ (mu13w 2 0)), .int (iZ (mu13w 3 0)), .ref (b 4), .ref (b 5), .ref (b 6), .ref (b 7), .ref (b 8), .ref (b 9), .ref (b 10), .ref (b 11), .ref (b 12), .ref (b 13), .ref (b 14), .ref (b 15), .ref (b 16), .ref (b 17), .ref (b 18), .ref (b 19), .ref (b 20), .ref (b 21), .ref (b 22), .ref (b 23), .ref (b 24), .ref (b 25), .int (iZ (mu13w 26 0)), .ref (b 27), .ref (b 28), .ref (b 29), .ref (b 30), .ref (b 31), .ref (b 32), .ref (b 33), .ref (b 34), .int (iZ (mu13w 35 0)), .int (iZ (mu13w 36 0)), .int (iZ (mu13w 37 0)), .int (iZ (mu13w 38 0)), .int (iZ (mu13w 39 0)), .int (iZ (mu13w 40 0)), .ref (b 41), .ref (b 42)])) := hE13w.1
      have f7_ : en13w 27 0 = some (b 7, aI dA (101) (mu13w 7)) := hE13w.2 7 (by decide)
      have f8_ : en13w 28 0 = some (b 8, aI dA (101) (mu13w 8)) := hE13w.2 8 (by decide)
      have f9_ : en13w 29 0 = some (b 9, aI dA (101) (mu13w 9)) := hE13w.2 9 (by decide)
      have f10_ : en13w 30 0 = some (b 10, aI dA (101) (mu13w 10)) := hE13w.2 10 (by decide)
      have f11_ : en13w 31 0 = some (b 11, aI dA (101) (mu13w 11)) := hE13w.2 11 (by decide)
      have f12_ : en13w 32 0 = some (b 12, aI dA (101) (mu13w 12)) := hE13w.2 12 (by decide)
      have f14_ : en13w 34 0 = some (b 14, aJ dA (101) (mu13w 14)) := hE13w.2 14 (by decide)
      have f15_ : en13w 35 0 = some (b 15, aJ dA (101) (mu13w 15)) := hE13w.2 15 (by decide)
      have hz0 : mu13w = mEndS mu11w mm 7 := by rw [hmu13w, hmk]
      have hpst : Rl (sNext g mm) mu13w := by rw [v_nx0 (by omega), hz0]; exact rl_es1 hI hR (by omega) (by omega) (by omega) (fun t j q => by rw [hmu11w]; exact u2_n (by omega))
      exact W.vret hx hb hr (fun t ht hw => ⟨⟨(en13w, mu13w), rfl, ⟨hE13w, hF13w, hpst⟩, by show Wd _ _ _ t.heap; rw [ht]; exact hW⟩, hS.F ht⟩) hS.2.2 dX4_sendNext_71
    · rw [if_neg hful]
      have hmk : mu12w = mMk mu11w 2 mm (((mu 9 (mm)) + 1) % 16) 7 0 := by rw [hmu12w]; exact if_neg hful
      replace t26_0 : mu12w 26 (0) = mu 26 (0) + 1 := by rw [hmk, (mMk_v _ _ _ _ _ _).1, t26_0]
      replace t2_0 : mu12w 2 (0) = mu 2 (0) := by rw [hmk]; exact (mMk_n ⟨fun q => absurd q.1 (by decide), fun q => absurd q.1 (by decide)⟩).trans t2_0
      replace t4_mm : mu12w 4 (mm) = mu 4 (mm) := by rw [hmk]; exact (mMk_n ⟨fun q => absurd q.1 (by decide), fun q => absurd q.1 (by decide)⟩).trans t4_mm
      replace t7_mm : mu12w 7 (mm) = mu 7 (mm) := by rw [hmk]; exact (mMk_n ⟨fun q => absurd q.1 (by decide), fun q => absurd q.1 (by decide)⟩).trans t7_mm
      replace t8_mm : mu12w 8 (mm) = mu 8 (mm) := by rw [hmk]; exact (mMk_n ⟨fun q => absurd q.1 (by decide), fun q => absurd q.1 (by decide)⟩).trans t8_mm
      replace t9_mm : mu12w 9 (mm) = ((mu 9 (mm)) + 1) % 16 := by rw [hmk]; exact (mMk_n ⟨fun q => absurd q.1 (by decide), fun q => absurd q.1 (by decide)⟩).trans t9_mm
      replace t12_mm : mu12w 12 (mm) = mu 12 (mm) := by rw [hmk]; exact (mMk_n ⟨fun q => absurd q.1 (by decide), fun q => absurd q.1 (by decide)⟩).trans t12_mm
      replace t10_mm : mu12w 10 (mm) = mu 10 (mm) := by rw [hmk]; exact (mMk_n ⟨fun q => absurd q.1 (by decide), fun q => absurd q.1 (by decide)⟩).trans t10_mm
      replace t11_mm : mu12w 11 (mm) = mu 11 (mm) := by rw [hmk]; exact (mMk_n ⟨fun q => absurd q.1 (by decide), fun q => absurd q.1 (by decide)⟩).trans t11_mm
      replace t6_mm : mu12w 6 (mm) = mu 6 (mm) := by rw [hmk]; exact (mMk_n ⟨fun q => absurd q.1 (by decide), fun q => absurd q.1 (by decide)⟩).trans t6_mm
      replace t13_mm : mu12w 13 (mm) = mu 13 (mm) := by rw [hmk]; exact (mMk_n ⟨fun q => absurd q.1 (by decide), fun q => absurd q.1 (by decide)⟩).trans t13_mm
      replace t14_mm : mu12w 14 (mm) = mu 14 (mm) := by rw [hmk]; exact (mMk_n ⟨fun q => absurd q.1 (by decide), fun q => absurd q.1 (by decide)⟩).trans t14_mm
      replace t15_mm : mu12w 15 (mm) = mu 15 (mm) := by rw [hmk]; exact (mMk_n ⟨fun q => absurd q.1 (by decide), fun q => absurd q.1 (by decide)⟩).trans t15_mm
      have hB5 : ∀ j : Int, -128 ≤ mu12w 5 j ∧ mu12w 5 j ≤ 127 := fun j => by rw [hmk, mMk_n (by omega), hmu11w, u2_n (by omega)]; exact rB 5 j (by omega)
      refine lv_istore (lv' := [(4, .int (iZ (mu11w 26 0 + 1))), (3, .int (iZ (7))), (2, .int (iZ ((mu 4 (mm + 1) - mu 4 mm) - (mu 8 (mm))))), (0, .ref (b 0)), (1, .int (iZ (mm)))]) hx hb dX4_sendNext_57 hl (by decide) rfl (fun ls hl => ?_)
      refine lv_iload hx hb dX4_sendNext_59 (lv_at hl 0 rfl) ?_
      refine z_if_ne (tgt := 72) hx hb dX4_sendNext_61 (by decide) (by omega) (fun _ => ?_) (fun c_61 => absurd c_61 (by omega))
      refine lv_aload_n hx hb dX4_sendNext_72 rfl (lv_at hl 3 rfl) ?_
      refine lv_iload hx hb dX4_sendNext_73 (lv_at hl 0 rfl) ?_
      refine lv_iload_n hx hb dX4_sendNext_75 rfl (lv_at hl 4 rfl) ?_
      refine lv_aload_n hx hb dX4_sendNext_76 rfl (lv_at hl 3 rfl) ?_
      refine g_get (C := RX4) (T := TX4) (N := 43) (ci := 6) (v := .ref (b 8)) hx hb hts hi6 hown hK hW fM rfl 8 (by decide) (hts (.fieldLink RX4 25 "LongTransferModel" "sent" "[I") (by decide +kernel)) (fun _ h9 => h9) rfl dX4_sendNext_77 ?_
      refine lv_iload_n hx hb dX4_sendNext_80 rfl (lv_at hl 4 rfl) ?_
      refine g_iald hx hb hK hW f8_ (by omega) (by omega) (by omega) dX4_sendNext_81 ?_
      rw [t8_mm]
      refine lv_iload_n hx hb dX4_sendNext_82 rfl (lv_at hl 1 rfl) ?_
      have hq4 : mu12w 4 mm = mu 4 mm := by omega
      refine va_callv (va_runV (As := [.int (iZ (mu11w 26 0 + 1)), .int (iZ (mm)), .int (iZ (mu 8 (mm))), .int (iZ (7))]) (rest := []) ⟨hx, hb, hml, hown, hts⟩ (c_X4_fill l D dA z en12w b mu12w (mu11w 26 0 + 1) mm (mu 8 (mm)) 7 (by omega) (by omega) (by omega) (by omega) (by omega) (by omega) (by omega) (by omega) hB5 hE12w) (cwV 4 hts gX4_sendNext_X4_fill rfl rfl rfl (by decide +kernel) ⟨Nat.le_of_ble_eq_true rfl, Nat.le_of_ble_eq_true rfl⟩) ⟨gBl, gRecv hK hW (ci := 6) rfl fM, gPre _ hg hS hW⟩ rfl rfl hl.1 rfl (lv_room (Nat.le_of_ble_eq_true rfl)) dX4_sendNext_83 ⟨(show 0 + 0 + 0 + 0 ≤ 0 by omega), (show 0 + 0 + 0 + 0 ≤ 0 by omega)⟩) hS (fun _ _ h => h) (fun _ h => h) (fun u9 t9 H locs ht9 hvm9 hw9 hB9 hz9 hk9 hS => ?_)
      obtain ⟨en14w, mu14w⟩ := u9
      obtain ⟨hE14w, hF14w, hmu14w⟩ := hw9
      have hW : Wd D (z 0) en14w H := by rw [← ht9]; exact hB9
      dsimp only at hE14w hF14w hmu14w
      have hF14w := FM.tr hF12w hF14w
      have fM : en14w 20 0 = some (b 0, .inr (6, [.int (iZ (mu14w 0 0)), .int (iZ (mu14w 1 0)), .long (lZ (mu14w 2 0)), .int (iZ (mu14w 3 0)), .ref (b 4), .ref (b 5), .ref (b 6), .ref (b 7), .ref (b 8), .ref (b 9), .ref (b 10), .ref (b 11), .ref (b 12), .ref (b 13), .ref (b 14), .ref (b 15), .ref (b 16), .ref (b 17), .ref (b 18), .ref (b 19), .ref (b 20), .ref (b 21), .ref (b 22), .ref (b 23), .ref (b 24), .ref (b 25), .int (iZ (mu14w 26 0)), .ref (b 27), .ref (b 28), .ref (b 29), .ref (b 30), .ref (b 31), .ref (b 32), .ref (b 33), .ref (b 34), .int (iZ (mu14w 35 0)), .int (iZ (mu14w 36 0)), .int (iZ (mu14w 37 0)), .int (iZ (mu14w 38 0)), .int (iZ (mu14w 39 0)), .int (iZ (mu14w 40 0)), .ref (b 41), .ref (b 42)])) := hE14w.1
      have f7_ : en14w 27 0 = some (b 7, aI dA (101) (mu14w 7)) := hE14w.2 7 (by decide)
      have f8_ : en14w 28 0 = some (b 8, aI dA (101) (mu14w 8)) := hE14w.2 8 (by decide)
      have f9_ : en14w 29 0 = some (b 9, aI dA (101) (mu14w 9)) := hE14w.2 9 (by decide)
      have f10_ : en14w 30 0 = some (b 10, aI dA (101) (mu14w 10)) := hE14w.2 10 (by decide)
      have f11_ : en14w 31 0 = some (b 11, aI dA (101) (mu14w 11)) := hE14w.2 11 (by decide)
      have f12_ : en14w 32 0 = some (b 12, aI dA (101) (mu14w 12)) := hE14w.2 12 (by decide)
      have f14_ : en14w 34 0 = some (b 14, aJ dA (101) (mu14w 14)) := hE14w.2 14 (by decide)
      have f15_ : en14w 35 0 = some (b 15, aJ dA (101) (mu14w 15)) := hE14w.2 15 (by decide)
      replace t26_0 : mu14w 26 (0) = mu 26 (0) + 1 := by rw [hmu14w]; exact (mFl_n (fun q => absurd q.1 (by decide))).trans t26_0
      replace t2_0 : mu14w 2 (0) = mu 2 (0) := by rw [hmu14w]; exact (mFl_n (fun q => absurd q.1 (by decide))).trans t2_0
      replace t4_mm : mu14w 4 (mm) = mu 4 (mm) := by rw [hmu14w]; exact (mFl_n (fun q => absurd q.1 (by decide))).trans t4_mm
      replace t7_mm : mu14w 7 (mm) = mu 7 (mm) := by rw [hmu14w]; exact (mFl_n (fun q => absurd q.1 (by decide))).trans t7_mm
      replace t8_mm : mu14w 8 (mm) = mu 8 (mm) := by rw [hmu14w]; exact (mFl_n (fun q => absurd q.1 (by decide))).trans t8_mm
      replace t9_mm : mu14w 9 (mm) = ((mu 9 (mm)) + 1) % 16 := by rw [hmu14w]; exact (mFl_n (fun q => absurd q.1 (by decide))).trans t9_mm
      replace t12_mm : mu14w 12 (mm) = mu 12 (mm) := by rw [hmu14w]; exact (mFl_n (fun q => absurd q.1 (by decide))).trans t12_mm
      replace t10_mm : mu14w 10 (mm) = mu 10 (mm) := by rw [hmu14w]; exact (mFl_n (fun q => absurd q.1 (by decide))).trans t10_mm
      replace t11_mm : mu14w 11 (mm) = mu 11 (mm) := by rw [hmu14w]; exact (mFl_n (fun q => absurd q.1 (by decide))).trans t11_mm
      replace t6_mm : mu14w 6 (mm) = mu 6 (mm) := by rw [hmu14w]; exact (mFl_n (fun q => absurd q.1 (by decide))).trans t6_mm
      replace t13_mm : mu14w 13 (mm) = mu 13 (mm) := by rw [hmu14w]; exact (mFl_n (fun q => absurd q.1 (by decide))).trans t13_mm
      replace t14_mm : mu14w 14 (mm) = mu 14 (mm) := by rw [hmu14w]; exact (mFl_n (fun q => absurd q.1 (by decide))).trans t14_mm
      replace t15_mm : mu14w 15 (mm) = mu 15 (mm) := by rw [hmu14w]; exact (mFl_n (fun q => absurd q.1 (by decide))).trans t15_mm
      refine lv_aload_n hx hb dX4_sendNext_86 rfl (lv_at hl 3 rfl) ?_
      refine g_get (C := RX4) (T := TX4) (N := 43) (ci := 6) (v := .ref (b 8)) hx hb hts hi6 hown hK hW fM rfl 8 (by decide) (hts (.fieldLink RX4 25 "LongTransferModel" "sent" "[I") (by decide +kernel)) (fun _ h9 => h9) rfl dX4_sendNext_87 ?_
      refine lv_iload_n hx hb dX4_sendNext_90 rfl (lv_at hl 4 rfl) ?_
      refine lv_aload_n hx hb dX4_sendNext_91 rfl (lv_at hl 3 rfl) ?_
      refine g_get (C := RX4) (T := TX4) (N := 43) (ci := 6) (v := .ref (b 8)) hx hb hts hi6 hown hK hW fM rfl 8 (by decide) (hts (.fieldLink RX4 25 "LongTransferModel" "sent" "[I") (by decide +kernel)) (fun _ h9 => h9) rfl dX4_sendNext_92 ?_
      refine lv_iload_n hx hb dX4_sendNext_95 rfl (lv_at hl 4 rfl) ?_
      refine g_iald hx hb hK hW f8_ (by omega) (by omega) (by omega) dX4_sendNext_96 ?_
      rw [t8_mm]
      refine lv_iload_n hx hb dX4_sendNext_97 rfl (lv_at hl 1 rfl) ?_
      refine z_iadd hx hb dX4_sendNext_98 ?_
      refine g_iast (x := (mu 8 (mm)) + 7) hx hb hK hW hS f8_ (by omega) (by omega) (by omega) dX4_sendNext_99 (fun H locs hW hS => ?_)
      obtain ⟨en15w, hen15w⟩ : ∃ x : en_T, x = e2 en14w 28 0 (some (b 8, aI dA (101) (uF (mu14w 8) (mm) ((mu 8 (mm)) + 7)))) := ⟨_, rfl⟩
      rw [← hen15w] at hW
      obtain ⟨mu15w, hmu15w⟩ : ∃ x : Mu, x = u2 mu14w 8 (mm) ((mu 8 (mm)) + 7) := ⟨_, rfl⟩
      have hE15w : EM dA b mu15w en15w := by rw [hen15w, hmu15w]; exact em_w hE14w (k0 := 8) (j := mm) (v := (mu 8 (mm)) + 7) (by decide)
      have hF15w : FM en14w en15w := fun k i q => by rw [hen15w]; exact e2_k (fun w => q (by rw [w]; decide))
      have hF15w := FM.tr hF14w hF15w
      replace t26_0 : mu15w 26 (0) = mu 26 (0) + 1 := by rw [hmu15w]; exact (u2_n (fun q => absurd q.1 (by decide))).trans t26_0
      replace t2_0 : mu15w 2 (0) = mu 2 (0) := by rw [hmu15w]; exact (u2_n (fun q => absurd q.1 (by decide))).trans t2_0
      replace t4_mm : mu15w 4 (mm) = mu 4 (mm) := by rw [hmu15w]; exact (u2_n (fun q => absurd q.1 (by decide))).trans t4_mm
      replace t7_mm : mu15w 7 (mm) = mu 7 (mm) := by rw [hmu15w]; exact (u2_n (fun q => absurd q.1 (by decide))).trans t7_mm
      replace t8_mm : mu15w 8 (mm) = (mu 8 (mm)) + 7 := by rw [hmu15w]; exact u2_s _ _ _ _
      replace t9_mm : mu15w 9 (mm) = ((mu 9 (mm)) + 1) % 16 := by rw [hmu15w]; exact (u2_n (fun q => absurd q.1 (by decide))).trans t9_mm
      replace t12_mm : mu15w 12 (mm) = mu 12 (mm) := by rw [hmu15w]; exact (u2_n (fun q => absurd q.1 (by decide))).trans t12_mm
      replace t10_mm : mu15w 10 (mm) = mu 10 (mm) := by rw [hmu15w]; exact (u2_n (fun q => absurd q.1 (by decide))).trans t10_mm
      replace t11_mm : mu15w 11 (mm) = mu 11 (mm) := by rw [hmu15w]; exact (u2_n (fun q => absurd q.1 (by decide))).trans t11_mm
      replace t6_mm : mu15w 6 (mm) = mu 6 (mm) := by rw [hmu15w]; exact (u2_n (fun q => absurd q.1 (by decide))).trans t6_mm
      replace t13_mm : mu15w 13 (mm) = mu 13 (mm) := by rw [hmu15w]; exact (u2_n (fun q => absurd q.1 (by decide))).trans t13_mm
      replace t14_mm : mu15w 14 (mm) = mu 14 (mm) := by rw [hmu15w]; exact (u2_n (fun q => absurd q.1 (by decide))).trans t14_mm
      replace t15_mm : mu15w 15 (mm) = mu 15 (mm) := by rw [hmu15w]; exact (u2_n (fun q => absurd q.1 (by decide))).trans t15_mm
      have fM : en15w 20 0 = some (b 0, .inr (6, [.int (iZ (mu15w 0 0)), .int (iZ (mu15w 1 0)), .long (lZ (mu15w 2 0)), .int (iZ (mu15w 3 0)), .ref (b 4), .ref (b 5), .ref (b 6), .ref (b 7), .ref (b 8), .ref (b 9), .ref (b 10), .ref (b 11), .ref (b 12), .ref (b 13), .ref (b 14), .ref (b 15), .ref (b 16), .ref (b 17), .ref (b 18), .ref (b 19), .ref (b 20), .ref (b 21), .ref (b 22), .ref (b 23), .ref (b 24), .ref (b 25), .int (iZ (mu15w 26 0)), .ref (b 27), .ref (b 28), .ref (b 29), .ref (b 30), .ref (b 31), .ref (b 32), .ref (b 33), .ref (b 34), .int (iZ (mu15w 35 0)), .int (iZ (mu15w 36 0)), .int (iZ (mu15w 37 0)), .int (iZ (mu15w 38 0)), .int (iZ (mu15w 39 0)), .int (iZ (mu15w 40 0)), .ref (b 41), .ref (b 42)])) := hE15w.1
      have f7_ : en15w 27 0 = some (b 7, aI dA (101) (mu15w 7)) := hE15w.2 7 (by decide)
      have f8_ : en15w 28 0 = some (b 8, aI dA (101) (mu15w 8)) := hE15w.2 8 (by decide)
      have f9_ : en15w 29 0 = some (b 9, aI dA (101) (mu15w 9)) := hE15w.2 9 (by decide)
      have f10_ : en15w 30 0 = some (b 10, aI dA (101) (mu15w 10)) := hE15w.2 10 (by decide)
      have f11_ : en15w 31 0 = some (b 11, aI dA (101) (mu15w 11)) := hE15w.2 11 (by decide)
      have f12_ : en15w 32 0 = some (b 12, aI dA (101) (mu15w 12)) := hE15w.2 12 (by decide)
      have f14_ : en15w 34 0 = some (b 14, aJ dA (101) (mu15w 14)) := hE15w.2 14 (by decide)
      have f15_ : en15w 35 0 = some (b 15, aJ dA (101) (mu15w 15)) := hE15w.2 15 (by decide)
      refine lv_aload_n hx hb dX4_sendNext_100 rfl (lv_at hl 3 rfl) ?_
      refine g_get (C := RX4) (T := TX4) (N := 43) (ci := 6) (v := .ref (b 15)) hx hb hts hi6 hown hK hW fM rfl 15 (by decide) (hts (.fieldLink RX4 47 "LongTransferModel" "due" "[J") (by decide +kernel)) (fun _ h9 => h9) rfl dX4_sendNext_101 ?_
      refine lv_iload_n hx hb dX4_sendNext_104 rfl (lv_at hl 4 rfl) ?_
      refine lv_aload_n hx hb dX4_sendNext_105 rfl (lv_at hl 3 rfl) ?_
      refine g_get (C := RX4) (T := TX4) (N := 43) (ci := 6) (v := .long (lZ (mu15w 2 0))) hx hb hts hi6 hown hK hW fM rfl 2 (by decide) (hts (.fieldLink RX4 137 "LongTransferModel" "now" "J") (by decide +kernel)) (fun _ h9 => h9) rfl dX4_sendNext_106 ?_
      rw [t2_0]
      refine lv_aload_n hx hb dX4_sendNext_109 rfl (lv_at hl 3 rfl) ?_
      refine g_get (C := RX4) (T := TX4) (N := 43) (ci := 6) (v := .ref (b 12)) hx hb hts hi6 hown hK hW fM rfl 12 (by decide) (hts (.fieldLink RX4 37 "LongTransferModel" "separation" "[I") (by decide +kernel)) (fun _ h9 => h9) rfl dX4_sendNext_110 ?_
      refine lv_iload_n hx hb dX4_sendNext_113 rfl (lv_at hl 4 rfl) ?_
      refine g_iald hx hb hK hW f12_ (by omega) (by omega) (by omega) dX4_sendNext_114 ?_
      rw [t12_mm]
      refine z_i2l hx hb (by omega) dX4_sendNext_115 ?_
      refine z_ladd hx hb dX4_sendNext_116 ?_
      refine g_last (x := (mu 2 (0)) + (mu 12 (mm))) hx hb hK hW hS f15_ (by omega) (by omega) (by omega) dX4_sendNext_117 (fun H locs hW hS => ?_)
      obtain ⟨en16w, hen16w⟩ : ∃ x : en_T, x = e2 en15w 35 0 (some (b 15, aJ dA (101) (uF (mu15w 15) (mm) ((mu 2 (0)) + (mu 12 (mm)))))) := ⟨_, rfl⟩
      rw [← hen16w] at hW
      obtain ⟨mu16w, hmu16w⟩ : ∃ x : Mu, x = u2 mu15w 15 (mm) ((mu 2 (0)) + (mu 12 (mm))) := ⟨_, rfl⟩
      have hE16w : EM dA b mu16w en16w := by rw [hen16w, hmu16w]; exact em_w hE15w (k0 := 15) (j := mm) (v := (mu 2 (0)) + (mu 12 (mm))) (by decide)
      have hF16w : FM en15w en16w := fun k i q => by rw [hen16w]; exact e2_k (fun w => q (by rw [w]; decide))
      have hF16w := FM.tr hF15w hF16w
      replace t26_0 : mu16w 26 (0) = mu 26 (0) + 1 := by rw [hmu16w]; exact (u2_n (fun q => absurd q.1 (by decide))).trans t26_0
      replace t2_0 : mu16w 2 (0) = mu 2 (0) := by rw [hmu16w]; exact (u2_n (fun q => absurd q.1 (by decide))).trans t2_0
      replace t4_mm : mu16w 4 (mm) = mu 4 (mm) := by rw [hmu16w]; exact (u2_n (fun q => absurd q.1 (by decide))).trans t4_mm
      replace t7_mm : mu16w 7 (mm) = mu 7 (mm) := by rw [hmu16w]; exact (u2_n (fun q => absurd q.1 (by decide))).trans t7_mm
      replace t8_mm : mu16w 8 (mm) = (mu 8 (mm)) + 7 := by rw [hmu16w]; exact (u2_n (fun q => absurd q.1 (by decide))).trans t8_mm
      replace t9_mm : mu16w 9 (mm) = ((mu 9 (mm)) + 1) % 16 := by rw [hmu16w]; exact (u2_n (fun q => absurd q.1 (by decide))).trans t9_mm
      replace t12_mm : mu16w 12 (mm) = mu 12 (mm) := by rw [hmu16w]; exact (u2_n (fun q => absurd q.1 (by decide))).trans t12_mm
      replace t10_mm : mu16w 10 (mm) = mu 10 (mm) := by rw [hmu16w]; exact (u2_n (fun q => absurd q.1 (by decide))).trans t10_mm
      replace t11_mm : mu16w 11 (mm) = mu 11 (mm) := by rw [hmu16w]; exact (u2_n (fun q => absurd q.1 (by decide))).trans t11_mm
      replace t6_mm : mu16w 6 (mm) = mu 6 (mm) := by rw [hmu16w]; exact (u2_n (fun q => absurd q.1 (by decide))).trans t6_mm
      replace t13_mm : mu16w 13 (mm) = mu 13 (mm) := by rw [hmu16w]; exact (u2_n (fun q => absurd q.1 (by decide))).trans t13_mm
      replace t14_mm : mu16w 14 (mm) = mu 14 (mm) := by rw [hmu16w]; exact (u2_n (fun q => absurd q.1 (by decide))).trans t14_mm
      replace t15_mm : mu16w 15 (mm) = (mu 2 (0)) + (mu 12 (mm)) := by rw [hmu16w]; exact u2_s _ _ _ _
      have fM : en16w 20 0 = some (b 0, .inr (6, [.int (iZ (mu16w 0 0)), .int (iZ (mu16w 1 0)), .long (lZ (mu16w 2 0)), .int (iZ (mu16w 3 0)), .ref (b 4), .ref (b 5), .ref (b 6), .ref (b 7), .ref (b 8), .ref (b 9), .ref (b 10), .ref (b 11), .ref (b 12), .ref (b 13), .ref (b 14), .ref (b 15), .ref (b 16), .ref (b 17), .ref (b 18), .ref (b 19), .ref (b 20), .ref (b 21), .ref (b 22), .ref (b 23), .ref (b 24), .ref (b 25), .int (iZ (mu16w 26 0)), .ref (b 27), .ref (b 28), .ref (b 29), .ref (b 30), .ref (b 31), .ref (b 32), .ref (b 33), .ref (b 34), .int (iZ (mu16w 35 0)), .int (iZ (mu16w 36 0)), .int (iZ (mu16w 37 0)), .int (iZ (mu16w 38 0)), .int (iZ (mu16w 39 0)), .int (iZ (mu16w 40 0)), .ref (b 41), .ref (b 42)])) := hE16w.1
      have f7_ : en16w 27 0 = some (b 7, aI dA (101) (mu16w 7)) := hE16w.2 7 (by decide)
      have f8_ : en16w 28 0 = some (b 8, aI dA (101) (mu16w 8)) := hE16w.2 8 (by decide)
      have f9_ : en16w 29 0 = some (b 9, aI dA (101) (mu16w 9)) := hE16w.2 9 (by decide)
      have f10_ : en16w 30 0 = some (b 10, aI dA (101) (mu16w 10)) := hE16w.2 10 (by decide)
      have f11_ : en16w 31 0 = some (b 11, aI dA (101) (mu16w 11)) := hE16w.2 11 (by decide)
      have f12_ : en16w 32 0 = some (b 12, aI dA (101) (mu16w 12)) := hE16w.2 12 (by decide)
      have f14_ : en16w 34 0 = some (b 14, aJ dA (101) (mu16w 14)) := hE16w.2 14 (by decide)
      have f15_ : en16w 35 0 = some (b 15, aJ dA (101) (mu16w 15)) := hE16w.2 15 (by decide)
      refine lv_iload_n hx hb dX4_sendNext_118 rfl (lv_at hl 1 rfl) ?_
      refine lv_iload_n hx hb dX4_sendNext_119 rfl (lv_at hl 2 rfl) ?_
      refine z_icmp_ne (tgt := 131) hx hb dX4_sendNext_120 (by decide) (by omega) (by omega) (fun c_120 => ?_) (fun c_120 => ?_)
      · refine lv_aload_n hx hb dX4_sendNext_131 rfl (lv_at hl 3 rfl) ?_
        refine g_get (C := RX4) (T := TX4) (N := 43) (ci := 6) (v := .ref (b 10)) hx hb hts hi6 hown hK hW fM rfl 10 (by decide) (hts (.fieldLink RX4 31 "LongTransferModel" "block" "[I") (by decide +kernel)) (fun _ h9 => h9) rfl dX4_sendNext_132 ?_
        refine lv_iload_n hx hb dX4_sendNext_135 rfl (lv_at hl 4 rfl) ?_
        refine g_iald hx hb hK hW f10_ (by omega) (by omega) (by omega) dX4_sendNext_136 ?_
        rw [t10_mm]
        refine z_if_ne (tgt := 141) hx hb dX4_sendNext_137 (by decide) (by omega) (fun c_137 => ?_) (fun c_137 => ?_)
        · have rb3 : mu 10 mm ≠ 0 ∧ 1 ≤ g 16 mm 0 ∧ mu 11 mm = g 16 mm 0 := (rbu ()).elim (fun q => absurd q.1 (by omega)) id
          refine lv_aload_n hx hb dX4_sendNext_141 rfl (lv_at hl 3 rfl) ?_
          refine g_get (C := RX4) (T := TX4) (N := 43) (ci := 6) (v := .ref (b 11)) hx hb hts hi6 hown hK hW fM rfl 11 (by decide) (hts (.fieldLink RX4 34 "LongTransferModel" "left" "[I") (by decide +kernel)) (fun _ h9 => h9) rfl dX4_sendNext_142 ?_
          refine lv_iload_n hx hb dX4_sendNext_145 rfl (lv_at hl 4 rfl) ?_
          refine lv_dup2_11 hx hb dX4_sendNext_146 rfl rfl ?_
          refine g_iald hx hb hK hW f11_ (by omega) (by omega) (by omega) dX4_sendNext_147 ?_
          rw [t11_mm]
          refine z_iconst hx hb dX4_sendNext_148 ?_
          refine z_isub hx hb dX4_sendNext_149 ?_
          refine g_iast (x := (mu 11 (mm)) - 1) hx hb hK hW hS f11_ (by omega) (by omega) (by omega) dX4_sendNext_150 (fun H locs hW hS => ?_)
          obtain ⟨en17w, hen17w⟩ : ∃ x : en_T, x = e2 en16w 31 0 (some (b 11, aI dA (101) (uF (mu16w 11) (mm) ((mu 11 (mm)) - 1)))) := ⟨_, rfl⟩
          rw [← hen17w] at hW
          obtain ⟨mu17w, hmu17w⟩ : ∃ x : Mu, x = u2 mu16w 11 (mm) ((mu 11 (mm)) - 1) := ⟨_, rfl⟩
          have hE17w : EM dA b mu17w en17w := by rw [hen17w, hmu17w]; exact em_w hE16w (k0 := 11) (j := mm) (v := (mu 11 (mm)) - 1) (by decide)
          have hF17w : FM en16w en17w := fun k i q => by rw [hen17w]; exact e2_k (fun w => q (by rw [w]; decide))
          have hF17w := FM.tr hF16w hF17w
          replace t26_0 : mu17w 26 (0) = mu 26 (0) + 1 := by rw [hmu17w]; exact (u2_n (fun q => absurd q.1 (by decide))).trans t26_0
          replace t2_0 : mu17w 2 (0) = mu 2 (0) := by rw [hmu17w]; exact (u2_n (fun q => absurd q.1 (by decide))).trans t2_0
          replace t4_mm : mu17w 4 (mm) = mu 4 (mm) := by rw [hmu17w]; exact (u2_n (fun q => absurd q.1 (by decide))).trans t4_mm
          replace t7_mm : mu17w 7 (mm) = mu 7 (mm) := by rw [hmu17w]; exact (u2_n (fun q => absurd q.1 (by decide))).trans t7_mm
          replace t8_mm : mu17w 8 (mm) = (mu 8 (mm)) + 7 := by rw [hmu17w]; exact (u2_n (fun q => absurd q.1 (by decide))).trans t8_mm
          replace t9_mm : mu17w 9 (mm) = ((mu 9 (mm)) + 1) % 16 := by rw [hmu17w]; exact (u2_n (fun q => absurd q.1 (by decide))).trans t9_mm
          replace t12_mm : mu17w 12 (mm) = mu 12 (mm) := by rw [hmu17w]; exact (u2_n (fun q => absurd q.1 (by decide))).trans t12_mm
          replace t10_mm : mu17w 10 (mm) = mu 10 (mm) := by rw [hmu17w]; exact (u2_n (fun q => absurd q.1 (by decide))).trans t10_mm
          replace t11_mm : mu17w 11 (mm) = (mu 11 (mm)) - 1 := by rw [hmu17w]; exact u2_s _ _ _ _
          replace t6_mm : mu17w 6 (mm) = mu 6 (mm) := by rw [hmu17w]; exact (u2_n (fun q => absurd q.1 (by decide))).trans t6_mm
          replace t13_mm : mu17w 13 (mm) = mu 13 (mm) := by rw [hmu17w]; exact (u2_n (fun q => absurd q.1 (by decide))).trans t13_mm
          replace t14_mm : mu17w 14 (mm) = mu 14 (mm) := by rw [hmu17w]; exact (u2_n (fun q => absurd q.1 (by decide))).trans t14_mm
          replace t15_mm : mu17w 15 (mm) = (mu 2 (0)) + (mu 12 (mm)) := by rw [hmu17w]; exact (u2_n (fun q => absurd q.1 (by decide))).trans t15_mm
          have fM : en17w 20 0 = some (b 0, .inr (6, [.int (iZ (mu17w 0 0)), .int (iZ (mu17w 1 0)), .long (lZ (mu17w 2 0)), .int (iZ (mu17w 3 0)), .ref (b 4), .ref (b 5), .ref (b 6), .ref (b 7), .ref (b 8), .ref (b 9), .ref (b 10), .ref (b 11), .ref (b 12), .ref (b 13), .ref (b 14), .ref (b 15), .ref (b 16), .ref (b 17), .ref (b 18), .ref (b 19), .ref (b 20), .ref (b 21), .ref (b 22), .ref (b 23), .ref (b 24), .ref (b 25), .int (iZ (mu17w 26 0)), .ref (b 27), .ref (b 28), .ref (b 29), .ref (b 30), .ref (b 31), .ref (b 32), .ref (b 33), .ref (b 34), .int (iZ (mu17w 35 0)), .int (iZ (mu17w 36 0)), .int (iZ (mu17w 37 0)), .int (iZ (mu17w 38 0)), .int (iZ (mu17w 39 0)), .int (iZ (mu17w 40 0)), .ref (b 41), .ref (b 42)])) := hE17w.1
          have f7_ : en17w 27 0 = some (b 7, aI dA (101) (mu17w 7)) := hE17w.2 7 (by decide)
          have f8_ : en17w 28 0 = some (b 8, aI dA (101) (mu17w 8)) := hE17w.2 8 (by decide)
          have f9_ : en17w 29 0 = some (b 9, aI dA (101) (mu17w 9)) := hE17w.2 9 (by decide)
          have f10_ : en17w 30 0 = some (b 10, aI dA (101) (mu17w 10)) := hE17w.2 10 (by decide)
          have f11_ : en17w 31 0 = some (b 11, aI dA (101) (mu17w 11)) := hE17w.2 11 (by decide)
          have f12_ : en17w 32 0 = some (b 12, aI dA (101) (mu17w 12)) := hE17w.2 12 (by decide)
          have f14_ : en17w 34 0 = some (b 14, aJ dA (101) (mu17w 14)) := hE17w.2 14 (by decide)
          have f15_ : en17w 35 0 = some (b 15, aJ dA (101) (mu17w 15)) := hE17w.2 15 (by decide)
          refine lv_aload_n hx hb dX4_sendNext_151 rfl (lv_at hl 3 rfl) ?_
          refine g_get (C := RX4) (T := TX4) (N := 43) (ci := 6) (v := .ref (b 11)) hx hb hts hi6 hown hK hW fM rfl 11 (by decide) (hts (.fieldLink RX4 34 "LongTransferModel" "left" "[I") (by decide +kernel)) (fun _ h9 => h9) rfl dX4_sendNext_152 ?_
          refine lv_iload_n hx hb dX4_sendNext_155 rfl (lv_at hl 4 rfl) ?_
          refine g_iald hx hb hK hW f11_ (by omega) (by omega) (by omega) dX4_sendNext_156 ?_
          rw [t11_mm]
          refine z_if_ne (tgt := 177) hx hb dX4_sendNext_157 (by decide) (by omega) (fun c_157 => ?_) (fun c_157 => ?_)
          · have v15 : sNext g mm 15 mm 0 = g 15 mm 0 := v_nx (by omega) (by omega)
            have v17 : sNext g mm 17 mm 0 = g 17 mm 0 := v_nx (by omega) (by omega)
            have v8 : sNext g mm 0 8 0 = g 0 8 0 := v_nx (by omega) (by omega)
            obtain ⟨s1, s2, s3, s5, s4⟩ := v_nxc (g := g) (m := mm) (by omega) (by omega) (by omega)
            have hN : RN (sNext g mm) mu17w mm := RN_2 (by rw [v8, t6_mm]; exact hN6 ()) (by omega) (by omega) (by omega) (by omega) (by omega) (by omega) (by omega) (by omega) (by omega) (Or.inr ⟨by omega, by omega, by omega⟩) (by omega)
            have hgd : ∀ (t : Nat) (i j : Int), ¬ (12 ≤ t ∧ t ≤ 18 ∧ i = mm) ∧ ¬ (t = 0 ∧ i = 8) → sNext g mm t i j = sData g mm 2 (g 14 mm 0) 7 t i j := fun t i j q => by unfold sNext sMkD; rw [if_neg (by omega), if_neg (by omega), v_n2 (by omega)]; unfold sSeq; exact wr_n (by omega)
            have hmd : ∀ (t : Nat) (j : Int), ¬ (6 ≤ t ∧ t ≤ 15 ∧ j = mm) → mu17w t j = mFl (mMk mu11w 2 mm (g 14 mm 0) (7) 0) (mu11w 26 0 + 1) mm (mu 8 (mm)) (7) t j := fun t j q => by rw [hmu17w, u2_n (by omega), hmu16w, u2_n (by omega), hmu15w, u2_n (by omega), hmu14w, hmk, show ((mu 9 (mm)) + 1) % 16 = g 14 mm 0 by omega]
            have hpst : Rl (sNext g mm) mu17w := rl_d hI hR (m := mm) (kd := 2) (nu := g 14 mm 0) (mo := 7) (by omega) (by omega) (by omega) (by omega) (by omega) hgd (fun j q => by rw [v8]) (fun t j q => by rw [hmu11w]; exact u2_n (by omega)) rfl (by omega) (by omega) hmd hN
            exact W.vret hx hb hr (fun t ht hw => ⟨⟨(en17w, mu17w), rfl, ⟨hE17w, hF17w, hpst⟩, by show Wd _ _ _ t.heap; rw [ht]; exact hW⟩, hS.F ht⟩) hS.2.2 dX4_sendNext_177
          · refine lv_aload_n hx hb dX4_sendNext_160 rfl (lv_at hl 3 rfl) ?_
            refine g_get (C := RX4) (T := TX4) (N := 43) (ci := 6) (v := .ref (b 7)) hx hb hts hi6 hown hK hW fM rfl 7 (by decide) (hts (.fieldLink RX4 22 "LongTransferModel" "state" "[I") (by decide +kernel)) (fun _ h9 => h9) rfl dX4_sendNext_161 ?_
            refine lv_iload_n hx hb dX4_sendNext_164 rfl (lv_at hl 4 rfl) ?_
            refine z_iconst hx hb dX4_sendNext_165 ?_
            refine g_iast (x := 1) hx hb hK hW hS f7_ (by omega) (by omega) (by omega) dX4_sendNext_166 (fun H locs hW hS => ?_)
            obtain ⟨en18w, hen18w⟩ : ∃ x : en_T, x = e2 en17w 27 0 (some (b 7, aI dA (101) (uF (mu17w 7) (mm) (1)))) := ⟨_, rfl⟩
            rw [← hen18w] at hW
            obtain ⟨mu18w, hmu18w⟩ : ∃ x : Mu, x = u2 mu17w 7 (mm) (1) := ⟨_, rfl⟩
            have hE18w : EM dA b mu18w en18w := by rw [hen18w, hmu18w]; exact em_w hE17w (k0 := 7) (j := mm) (v := 1) (by decide)
            have hF18w : FM en17w en18w := fun k i q => by rw [hen18w]; exact e2_k (fun w => q (by rw [w]; decide))
            have hF18w := FM.tr hF17w hF18w
            replace t26_0 : mu18w 26 (0) = mu 26 (0) + 1 := by rw [hmu18w]; exact (u2_n (fun q => absurd q.1 (by decide))).trans t26_0
            replace t2_0 : mu18w 2 (0) = mu 2 (0) := by rw [hmu18w]; exact (u2_n (fun q => absurd q.1 (by decide))).trans t2_0
            replace t4_mm : mu18w 4 (mm) = mu 4 (mm) := by rw [hmu18w]; exact (u2_n (fun q => absurd q.1 (by decide))).trans t4_mm
            replace t7_mm : mu18w 7 (mm) = 1 := by rw [hmu18w]; exact u2_s _ _ _ _
            replace t8_mm : mu18w 8 (mm) = (mu 8 (mm)) + 7 := by rw [hmu18w]; exact (u2_n (fun q => absurd q.1 (by decide))).trans t8_mm
            replace t9_mm : mu18w 9 (mm) = ((mu 9 (mm)) + 1) % 16 := by rw [hmu18w]; exact (u2_n (fun q => absurd q.1 (by decide))).trans t9_mm
            replace t12_mm : mu18w 12 (mm) = mu 12 (mm) := by rw [hmu18w]; exact (u2_n (fun q => absurd q.1 (by decide))).trans t12_mm
            replace t10_mm : mu18w 10 (mm) = mu 10 (mm) := by rw [hmu18w]; exact (u2_n (fun q => absurd q.1 (by decide))).trans t10_mm
            replace t11_mm : mu18w 11 (mm) = (mu 11 (mm)) - 1 := by rw [hmu18w]; exact (u2_n (fun q => absurd q.1 (by decide))).trans t11_mm
            replace t6_mm : mu18w 6 (mm) = mu 6 (mm) := by rw [hmu18w]; exact (u2_n (fun q => absurd q.1 (by decide))).trans t6_mm
            replace t13_mm : mu18w 13 (mm) = mu 13 (mm) := by rw [hmu18w]; exact (u2_n (fun q => absurd q.1 (by decide))).trans t13_mm
            replace t14_mm : mu18w 14 (mm) = mu 14 (mm) := by rw [hmu18w]; exact (u2_n (fun q => absurd q.1 (by decide))).trans t14_mm
            replace t15_mm : mu18w 15 (mm) = (mu 2 (0)) + (mu 12 (mm)) := by rw [hmu18w]; exact (u2_n (fun q => absurd q.1 (by decide))).trans t15_mm
            have fM : en18w 20 0 = some (b 0, .inr (6, [.int (iZ (mu18w 0 0)), .int (iZ (mu18w 1 0)), .long (lZ (mu18w 2 0)), .int (iZ (mu18w 3 0)), .ref (b 4), .ref (b 5), .ref (b 6), .ref (b 7), .ref (b 8), .ref (b 9), .ref (b 10), .ref (b 11), .ref (b 12), .ref (b 13), .ref (b 14), .ref (b 15), .ref (b 16), .ref (b 17), .ref (b 18), .ref (b 19), .ref (b 20), .ref (b 21), .ref (b 22), .ref (b 23), .ref (b 24), .ref (b 25), .int (iZ (mu18w 26 0)), .ref (b 27), .ref (b 28), .ref (b 29), .ref (b 30), .ref (b 31), .ref (b 32), .ref (b 33), .ref (b 34), .int (iZ (mu18w 35 0)), .int (iZ (mu18w 36 0)), .int (iZ (mu18w 37 0)), .int (iZ (mu18w 38 0)), .int (iZ (mu18w 39 0)), .int (iZ (mu18w 40 0)), .ref (b 41), .ref (b 42)])) := hE18w.1
            have f7_ : en18w 27 0 = some (b 7, aI dA (101) (mu18w 7)) := hE18w.2 7 (by decide)
            have f8_ : en18w 28 0 = some (b 8, aI dA (101) (mu18w 8)) := hE18w.2 8 (by decide)
            have f9_ : en18w 29 0 = some (b 9, aI dA (101) (mu18w 9)) := hE18w.2 9 (by decide)
            have f10_ : en18w 30 0 = some (b 10, aI dA (101) (mu18w 10)) := hE18w.2 10 (by decide)
            have f11_ : en18w 31 0 = some (b 11, aI dA (101) (mu18w 11)) := hE18w.2 11 (by decide)
            have f12_ : en18w 32 0 = some (b 12, aI dA (101) (mu18w 12)) := hE18w.2 12 (by decide)
            have f14_ : en18w 34 0 = some (b 14, aJ dA (101) (mu18w 14)) := hE18w.2 14 (by decide)
            have f15_ : en18w 35 0 = some (b 15, aJ dA (101) (mu18w 15)) := hE18w.2 15 (by decide)
            refine lv_aload_n hx hb dX4_sendNext_167 rfl (lv_at hl 3 rfl) ?_
            refine g_get (C := RX4) (T := TX4) (N := 43) (ci := 6) (v := .ref (b 14)) hx hb hts hi6 hown hK hW fM rfl 14 (by decide) (hts (.fieldLink RX4 43 "LongTransferModel" "since" "[J") (by decide +kernel)) (fun _ h9 => h9) rfl dX4_sendNext_168 ?_
            refine lv_iload_n hx hb dX4_sendNext_171 rfl (lv_at hl 4 rfl) ?_
            refine lv_aload_n hx hb dX4_sendNext_172 rfl (lv_at hl 3 rfl) ?_
            refine g_get (C := RX4) (T := TX4) (N := 43) (ci := 6) (v := .long (lZ (mu18w 2 0))) hx hb hts hi6 hown hK hW fM rfl 2 (by decide) (hts (.fieldLink RX4 137 "LongTransferModel" "now" "J") (by decide +kernel)) (fun _ h9 => h9) rfl dX4_sendNext_173 ?_
            rw [t2_0]
            refine g_last (x := mu 2 (0)) hx hb hK hW hS f14_ (by omega) (by omega) (by omega) dX4_sendNext_176 (fun H locs hW hS => ?_)
            obtain ⟨en19w, hen19w⟩ : ∃ x : en_T, x = e2 en18w 34 0 (some (b 14, aJ dA (101) (uF (mu18w 14) (mm) (mu 2 (0))))) := ⟨_, rfl⟩
            rw [← hen19w] at hW
            obtain ⟨mu19w, hmu19w⟩ : ∃ x : Mu, x = u2 mu18w 14 (mm) (mu 2 (0)) := ⟨_, rfl⟩
            have hE19w : EM dA b mu19w en19w := by rw [hen19w, hmu19w]; exact em_w hE18w (k0 := 14) (j := mm) (v := mu 2 (0)) (by decide)
            have hF19w : FM en18w en19w := fun k i q => by rw [hen19w]; exact e2_k (fun w => q (by rw [w]; decide))
            have hF19w := FM.tr hF18w hF19w
            replace t26_0 : mu19w 26 (0) = mu 26 (0) + 1 := by rw [hmu19w]; exact (u2_n (fun q => absurd q.1 (by decide))).trans t26_0
            replace t2_0 : mu19w 2 (0) = mu 2 (0) := by rw [hmu19w]; exact (u2_n (fun q => absurd q.1 (by decide))).trans t2_0
            replace t4_mm : mu19w 4 (mm) = mu 4 (mm) := by rw [hmu19w]; exact (u2_n (fun q => absurd q.1 (by decide))).trans t4_mm
            replace t7_mm : mu19w 7 (mm) = 1 := by rw [hmu19w]; exact (u2_n (fun q => absurd q.1 (by decide))).trans t7_mm
            replace t8_mm : mu19w 8 (mm) = (mu 8 (mm)) + 7 := by rw [hmu19w]; exact (u2_n (fun q => absurd q.1 (by decide))).trans t8_mm
            replace t9_mm : mu19w 9 (mm) = ((mu 9 (mm)) + 1) % 16 := by rw [hmu19w]; exact (u2_n (fun q => absurd q.1 (by decide))).trans t9_mm
            replace t12_mm : mu19w 12 (mm) = mu 12 (mm) := by rw [hmu19w]; exact (u2_n (fun q => absurd q.1 (by decide))).trans t12_mm
            replace t10_mm : mu19w 10 (mm) = mu 10 (mm) := by rw [hmu19w]; exact (u2_n (fun q => absurd q.1 (by decide))).trans t10_mm
            replace t11_mm : mu19w 11 (mm) = (mu 11 (mm)) - 1 := by rw [hmu19w]; exact (u2_n (fun q => absurd q.1 (by decide))).trans t11_mm
            replace t6_mm : mu19w 6 (mm) = mu 6 (mm) := by rw [hmu19w]; exact (u2_n (fun q => absurd q.1 (by decide))).trans t6_mm
            replace t13_mm : mu19w 13 (mm) = mu 13 (mm) := by rw [hmu19w]; exact (u2_n (fun q => absurd q.1 (by decide))).trans t13_mm
            replace t14_mm : mu19w 14 (mm) = mu 2 (0) := by rw [hmu19w]; exact u2_s _ _ _ _
            replace t15_mm : mu19w 15 (mm) = (mu 2 (0)) + (mu 12 (mm)) := by rw [hmu19w]; exact (u2_n (fun q => absurd q.1 (by decide))).trans t15_mm
            have fM : en19w 20 0 = some (b 0, .inr (6, [.int (iZ (mu19w 0 0)), .int (iZ (mu19w 1 0)), .long (lZ (mu19w 2 0)), .int (iZ (mu19w 3 0)), .ref (b 4), .ref (b 5), .ref (b 6), .ref (b 7), .ref (b 8), .ref (b 9), .ref (b 10), .ref (b 11), .ref (b 12), .ref (b 13), .ref (b 14), .ref (b 15), .ref (b 16), .ref (b 17), .ref (b 18), .ref (b 19), .ref (b 20), .ref (b 21), .ref (b 22), .ref (b 23), .ref (b 24), .ref (b 25), .int (iZ (mu19w 26 0)), .ref (b 27), .ref (b 28), .ref (b 29), .ref (b 30), .ref (b 31), .ref (b 32), .ref (b 33), .ref (b 34), .int (iZ (mu19w 35 0)), .int (iZ (mu19w 36 0)), .int (iZ (mu19w 37 0)), .int (iZ (mu19w 38 0)), .int (iZ (mu19w 39 0)), .int (iZ (mu19w 40 0)), .ref (b 41), .ref (b 42)])) := hE19w.1
            have f7_ : en19w 27 0 = some (b 7, aI dA (101) (mu19w 7)) := hE19w.2 7 (by decide)
            have f8_ : en19w 28 0 = some (b 8, aI dA (101) (mu19w 8)) := hE19w.2 8 (by decide)
            have f9_ : en19w 29 0 = some (b 9, aI dA (101) (mu19w 9)) := hE19w.2 9 (by decide)
            have f10_ : en19w 30 0 = some (b 10, aI dA (101) (mu19w 10)) := hE19w.2 10 (by decide)
            have f11_ : en19w 31 0 = some (b 11, aI dA (101) (mu19w 11)) := hE19w.2 11 (by decide)
            have f12_ : en19w 32 0 = some (b 12, aI dA (101) (mu19w 12)) := hE19w.2 12 (by decide)
            have f14_ : en19w 34 0 = some (b 14, aJ dA (101) (mu19w 14)) := hE19w.2 14 (by decide)
            have f15_ : en19w 35 0 = some (b 15, aJ dA (101) (mu19w 15)) := hE19w.2 15 (by decide)
            have v15 : sNext g mm 15 mm 0 = g 15 mm 0 := v_nx (by omega) (by omega)
            have v17 : sNext g mm 17 mm 0 = g 17 mm 0 := v_nx (by omega) (by omega)
            have v8 : sNext g mm 0 8 0 = g 0 8 0 := v_nx (by omega) (by omega)
            obtain ⟨s1, s2, s3, s4⟩ := v_nxb (g := g) (m := mm) (by omega) (by omega) (by omega)
            have hN : RN (sNext g mm) mu19w mm := RN_1 (by rw [v8, t6_mm]; exact hN6 ()) (by omega) s1 (by omega) (by omega) (by omega) (by omega) (by omega) (by omega)
            have hgd : ∀ (t : Nat) (i j : Int), ¬ (12 ≤ t ∧ t ≤ 18 ∧ i = mm) ∧ ¬ (t = 0 ∧ i = 8) → sNext g mm t i j = sData g mm 2 (g 14 mm 0) 7 t i j := fun t i j q => by unfold sNext sMkD; rw [if_neg (by omega), if_neg (by omega), v_n2 (by omega)]; unfold sSeq; exact wr_n (by omega)
            have hmd : ∀ (t : Nat) (j : Int), ¬ (6 ≤ t ∧ t ≤ 15 ∧ j = mm) → mu19w t j = mFl (mMk mu11w 2 mm (g 14 mm 0) (7) 0) (mu11w 26 0 + 1) mm (mu 8 (mm)) (7) t j := fun t j q => by rw [hmu19w, u2_n (by omega), hmu18w, u2_n (by omega), hmu17w, u2_n (by omega), hmu16w, u2_n (by omega), hmu15w, u2_n (by omega), hmu14w, hmk, show ((mu 9 (mm)) + 1) % 16 = g 14 mm 0 by omega]
            have hpst : Rl (sNext g mm) mu19w := rl_d hI hR (m := mm) (kd := 2) (nu := g 14 mm 0) (mo := 7) (by omega) (by omega) (by omega) (by omega) (by omega) hgd (fun j q => by rw [v8]) (fun t j q => by rw [hmu11w]; exact u2_n (by omega)) rfl (by omega) (by omega) hmd hN
            exact W.vret hx hb hr (fun t ht hw => ⟨⟨(en19w, mu19w), rfl, ⟨hE19w, hF19w, hpst⟩, by show Wd _ _ _ t.heap; rw [ht]; exact hW⟩, hS.F ht⟩) hS.2.2 dX4_sendNext_177
        · have v15 : sNext g mm 15 mm 0 = g 15 mm 0 := v_nx (by omega) (by omega)
          have v17 : sNext g mm 17 mm 0 = g 17 mm 0 := v_nx (by omega) (by omega)
          have v8 : sNext g mm 0 8 0 = g 0 8 0 := v_nx (by omega) (by omega)
          have rb3 : mu 10 mm = 0 ∧ g 16 mm 0 = 0 := (rbu ()).elim id (fun q => absurd (by omega) q.1)
          obtain ⟨s1, s2, s3, s5, s4⟩ := v_nxc (g := g) (m := mm) (by omega) (by omega) (by omega)
          have hN : RN (sNext g mm) mu16w mm := RN_2 (by rw [v8, t6_mm]; exact hN6 ()) (by omega) (by omega) (by omega) (by omega) (by omega) (by omega) (by omega) (by omega) (by omega) (Or.inl ⟨by omega, by omega⟩) (by omega)
          have hgd : ∀ (t : Nat) (i j : Int), ¬ (12 ≤ t ∧ t ≤ 18 ∧ i = mm) ∧ ¬ (t = 0 ∧ i = 8) → sNext g mm t i j = sData g mm 2 (g 14 mm 0) 7 t i j := fun t i j q => by unfold sNext sMkD; rw [if_neg (by omega), if_neg (by omega), v_n2 (by omega)]; unfold sSeq; exact wr_n (by omega)
          have hmd : ∀ (t : Nat) (j : Int), ¬ (6 ≤ t ∧ t ≤ 15 ∧ j = mm) → mu16w t j = mFl (mMk mu11w 2 mm (g 14 mm 0) (7) 0) (mu11w 26 0 + 1) mm (mu 8 (mm)) (7) t j := fun t j q => by rw [hmu16w, u2_n (by omega), hmu15w, u2_n (by omega), hmu14w, hmk, show ((mu 9 (mm)) + 1) % 16 = g 14 mm 0 by omega]
          have hpst : Rl (sNext g mm) mu16w := rl_d hI hR (m := mm) (kd := 2) (nu := g 14 mm 0) (mo := 7) (by omega) (by omega) (by omega) (by omega) (by omega) hgd (fun j q => by rw [v8]) (fun t j q => by rw [hmu11w]; exact u2_n (by omega)) rfl (by omega) (by omega) hmd hN
          exact W.vret hx hb hr (fun t ht hw => ⟨⟨(en16w, mu16w), rfl, ⟨hE16w, hF16w, hpst⟩, by show Wd _ _ _ t.heap; rw [ht]; exact hW⟩, hS.F ht⟩) hS.2.2 dX4_sendNext_140
      · refine lv_aload_n hx hb dX4_sendNext_123 rfl (lv_at hl 3 rfl) ?_
        refine g_get (C := RX4) (T := TX4) (N := 43) (ci := 6) (v := .ref (b 7)) hx hb hts hi6 hown hK hW fM rfl 7 (by decide) (hts (.fieldLink RX4 22 "LongTransferModel" "state" "[I") (by decide +kernel)) (fun _ h9 => h9) rfl dX4_sendNext_124 ?_
        refine lv_iload_n hx hb dX4_sendNext_127 rfl (lv_at hl 4 rfl) ?_
        refine z_iconst hx hb dX4_sendNext_128 ?_
        refine g_iast (x := 3) hx hb hK hW hS f7_ (by omega) (by omega) (by omega) dX4_sendNext_129 (fun H locs hW hS => ?_)
        obtain ⟨en20w, hen20w⟩ : ∃ x : en_T, x = e2 en16w 27 0 (some (b 7, aI dA (101) (uF (mu16w 7) (mm) (3)))) := ⟨_, rfl⟩
        rw [← hen20w] at hW
        obtain ⟨mu20w, hmu20w⟩ : ∃ x : Mu, x = u2 mu16w 7 (mm) (3) := ⟨_, rfl⟩
        have hE20w : EM dA b mu20w en20w := by rw [hen20w, hmu20w]; exact em_w hE16w (k0 := 7) (j := mm) (v := 3) (by decide)
        have hF20w : FM en16w en20w := fun k i q => by rw [hen20w]; exact e2_k (fun w => q (by rw [w]; decide))
        have hF20w := FM.tr hF16w hF20w
        replace t26_0 : mu20w 26 (0) = mu 26 (0) + 1 := by rw [hmu20w]; exact (u2_n (fun q => absurd q.1 (by decide))).trans t26_0
        replace t2_0 : mu20w 2 (0) = mu 2 (0) := by rw [hmu20w]; exact (u2_n (fun q => absurd q.1 (by decide))).trans t2_0
        replace t4_mm : mu20w 4 (mm) = mu 4 (mm) := by rw [hmu20w]; exact (u2_n (fun q => absurd q.1 (by decide))).trans t4_mm
        replace t7_mm : mu20w 7 (mm) = 3 := by rw [hmu20w]; exact u2_s _ _ _ _
        replace t8_mm : mu20w 8 (mm) = (mu 8 (mm)) + 7 := by rw [hmu20w]; exact (u2_n (fun q => absurd q.1 (by decide))).trans t8_mm
        replace t9_mm : mu20w 9 (mm) = ((mu 9 (mm)) + 1) % 16 := by rw [hmu20w]; exact (u2_n (fun q => absurd q.1 (by decide))).trans t9_mm
        replace t12_mm : mu20w 12 (mm) = mu 12 (mm) := by rw [hmu20w]; exact (u2_n (fun q => absurd q.1 (by decide))).trans t12_mm
        replace t10_mm : mu20w 10 (mm) = mu 10 (mm) := by rw [hmu20w]; exact (u2_n (fun q => absurd q.1 (by decide))).trans t10_mm
        replace t11_mm : mu20w 11 (mm) = mu 11 (mm) := by rw [hmu20w]; exact (u2_n (fun q => absurd q.1 (by decide))).trans t11_mm
        replace t6_mm : mu20w 6 (mm) = mu 6 (mm) := by rw [hmu20w]; exact (u2_n (fun q => absurd q.1 (by decide))).trans t6_mm
        replace t13_mm : mu20w 13 (mm) = mu 13 (mm) := by rw [hmu20w]; exact (u2_n (fun q => absurd q.1 (by decide))).trans t13_mm
        replace t14_mm : mu20w 14 (mm) = mu 14 (mm) := by rw [hmu20w]; exact (u2_n (fun q => absurd q.1 (by decide))).trans t14_mm
        replace t15_mm : mu20w 15 (mm) = (mu 2 (0)) + (mu 12 (mm)) := by rw [hmu20w]; exact (u2_n (fun q => absurd q.1 (by decide))).trans t15_mm
        have fM : en20w 20 0 = some (b 0, .inr (6, [.int (iZ (mu20w 0 0)), .int (iZ (mu20w 1 0)), .long (lZ (mu20w 2 0)), .int (iZ (mu20w 3 0)), .ref (b 4), .ref (b 5), .ref (b 6), .ref (b 7), .ref (b 8), .ref (b 9), .ref (b 10), .ref (b 11), .ref (b 12), .ref (b 13), .ref (b 14), .ref (b 15), .ref (b 16), .ref (b 17), .ref (b 18), .ref (b 19), .ref (b 20), .ref (b 21), .ref (b 22), .ref (b 23), .ref (b 24), .ref (b 25), .int (iZ (mu20w 26 0)), .ref (b 27), .ref (b 28), .ref (b 29), .ref (b 30), .ref (b 31), .ref (b 32), .ref (b 33), .ref (b 34), .int (iZ (mu20w 35 0)), .int (iZ (mu20w 36 0)), .int (iZ (mu20w 37 0)), .int (iZ (mu20w 38 0)), .int (iZ (mu20w 39 0)), .int (iZ (mu20w 40 0)), .ref (b 41), .ref (b 42)])) := hE20w.1
        have f7_ : en20w 27 0 = some (b 7, aI dA (101) (mu20w 7)) := hE20w.2 7 (by decide)
        have f8_ : en20w 28 0 = some (b 8, aI dA (101) (mu20w 8)) := hE20w.2 8 (by decide)
        have f9_ : en20w 29 0 = some (b 9, aI dA (101) (mu20w 9)) := hE20w.2 9 (by decide)
        have f10_ : en20w 30 0 = some (b 10, aI dA (101) (mu20w 10)) := hE20w.2 10 (by decide)
        have f11_ : en20w 31 0 = some (b 11, aI dA (101) (mu20w 11)) := hE20w.2 11 (by decide)
        have f12_ : en20w 32 0 = some (b 12, aI dA (101) (mu20w 12)) := hE20w.2 12 (by decide)
        have f14_ : en20w 34 0 = some (b 14, aJ dA (101) (mu20w 14)) := hE20w.2 14 (by decide)
        have f15_ : en20w 35 0 = some (b 15, aJ dA (101) (mu20w 15)) := hE20w.2 15 (by decide)
        have v15 : sNext g mm 15 mm 0 = g 15 mm 0 := v_nx (by omega) (by omega)
        have v17 : sNext g mm 17 mm 0 = g 17 mm 0 := v_nx (by omega) (by omega)
        have v8 : sNext g mm 0 8 0 = g 0 8 0 := v_nx (by omega) (by omega)
        have vs := v_nxa (g := g) (m := mm) (by omega) (by omega)
        have hN : RN (sNext g mm) mu20w mm := RN_3 (by rw [v8, t6_mm]; exact hN6 ()) (by omega) (by omega) vs.2
        have hgd : ∀ (t : Nat) (i j : Int), ¬ (12 ≤ t ∧ t ≤ 18 ∧ i = mm) ∧ ¬ (t = 0 ∧ i = 8) → sNext g mm t i j = sData g mm 2 (g 14 mm 0) 7 t i j := fun t i j q => by unfold sNext sMkD; rw [if_neg (by omega), if_neg (by omega), v_n2 (by omega)]; unfold sSeq; exact wr_n (by omega)
        have hmd : ∀ (t : Nat) (j : Int), ¬ (6 ≤ t ∧ t ≤ 15 ∧ j = mm) → mu20w t j = mFl (mMk mu11w 2 mm (g 14 mm 0) (7) 0) (mu11w 26 0 + 1) mm (mu 8 (mm)) (7) t j := fun t j q => by rw [hmu20w, u2_n (by omega), hmu16w, u2_n (by omega), hmu15w, u2_n (by omega), hmu14w, hmk, show ((mu 9 (mm)) + 1) % 16 = g 14 mm 0 by omega]
        have hpst : Rl (sNext g mm) mu20w := rl_d hI hR (m := mm) (kd := 2) (nu := g 14 mm 0) (mo := 7) (by omega) (by omega) (by omega) (by omega) (by omega) hgd (fun j q => by rw [v8]) (fun t j q => by rw [hmu11w]; exact u2_n (by omega)) rfl (by omega) (by omega) hmd hN
        exact W.vret hx hb hr (fun t ht hw => ⟨⟨(en20w, mu20w), rfl, ⟨hE20w, hF20w, hpst⟩, by show Wd _ _ _ t.heap; rw [ht]; exact hW⟩, hS.F ht⟩) hS.2.2 dX4_sendNext_130
