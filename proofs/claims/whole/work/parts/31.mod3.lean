theorem rl_st0 {g : St} {mu mu' : Mu} (hI : IB g) (h : Rl g mu) {m : Int} (h1 : 1 ≤ m) (h2 : m ≤ g 1 0 0) (h3 : m = g 0 8 0 + 1) (hm : ∀ (t : Nat) (j : Int), ¬ (6 ≤ t ∧ t ≤ 15 ∧ j = m) → mu' t j = mu t j) (h6 : mu' 6 m = 1) : Rl (wr (sEndS g m 7) 0 8 m) (mEndS mu' m 7) := by
  have k := rl_es hI h h1 h2 (w := 7) (by omega)
  have hm2 : ∀ (t : Nat) (j : Int), ¬ (6 ≤ t ∧ t ≤ 15 ∧ j = m) → mEndS mu' m 7 t j = mEndS mu m 7 t j := fun t j q => by
    by_cases z : t = 42 ∧ j = 7
    · obtain ⟨rfl, rfl⟩ := z
      unfold mEndS
      rw [u2_s, u2_s, hm 42 7 (by omega)]
    · rw [v_mes (by omega), v_mes (by omega)]
      exact hm t j q
  refine rl_2 (ib_es hI 7 h1 h2) k (m := m) (by rw [v_es (by omega)]; exact h2) (fun t i j q => wr_n (by omega)) (fun j q => ?_) hm2 ?_
  · rw [wr_s, v_es (by omega)]
    exact propext ⟨fun _ => by omega, fun _ => by omega⟩
  · unfold RN
    have e7 : mEndS mu' m 7 7 m = 4 := by unfold mEndS; rw [u2_n (by omega), u2_s]
    rw [wr_s, wr_n (t' := 12) (by omega), wr_n (t' := 18) (by omega), v_es12, v_es18, e7, v_mes (t := 6) (by omega), h6, if_pos (Int.le_refl m)]
    exact ⟨rfl, rfl, fun w => by omega, fun w => by omega, fun w => by omega, fun w => rfl⟩
theorem v_s1 {g : St} {m : Int} (h3 : m = g 0 8 0 + 1) (h : ¬ 6000 ≤ g 1 1 0) (h1 : g 11 m 0 ≤ 7) : (sSt1 g 12 m 0 = 3 ∧ sSt1 g 18 m 0 = 9223372036854775807 ∧ sSt1 g 0 8 0 = m) ∧ ∀ (t : Nat) (i j : Int), ¬ (12 ≤ t ∧ t ≤ 18 ∧ i = m) ∧ ¬ (t = 0 ∧ i = 8) → sSt1 g t i j = sData g m 0 0 7 t i j := by
  unfold sSt1
  rw [← h3, v_st1 h h1]
  refine ⟨⟨?_, ?_, wr_s _ _ _ _⟩, fun t i j q => ?_⟩
  · rw [wr_n (by omega)]; simp [sRest, wr]
  · rw [wr_n (by omega)]; simp [sRest, wr]
  · rw [wr_n (by omega), v_sr (by omega)]
theorem v_s2 {g : St} {m : Int} (h3 : m = g 0 8 0 + 1) (h : ¬ 6000 ≤ g 1 1 0) (h1 : ¬ g 11 m 0 ≤ 7) {mo : Int} (hmo : (g 11 m 0 ≤ 4095 ∧ mo = 6) ∨ (¬ g 11 m 0 ≤ 4095 ∧ mo = 2)) : (sSt1 g 12 m 0 = 1 ∧ sSt1 g 13 m 0 = min (g 13 m 0 + mo) (g 11 m 0) ∧ sSt1 g 14 m 0 = g 14 m 0 ∧ sSt1 g 15 m 0 = g 15 m 0 ∧ sSt1 g 18 m 0 = g 0 7 0 + 1000 ∧ sSt1 g 0 8 0 = m) ∧ ∀ (t : Nat) (i j : Int), ¬ (12 ≤ t ∧ t ≤ 18 ∧ i = m) ∧ ¬ (t = 0 ∧ i = 8) → sSt1 g t i j = sData g m 1 (g 11 m 0) mo t i j := by
  have e : sStart g m = sAwait (sData g m 1 (g 11 m 0) mo) m := by
    rcases hmo with ⟨a, rfl⟩ | ⟨a, rfl⟩
    · exact v_st2 h h1 a
    · exact v_st3 h h1 a
  unfold sSt1
  rw [← h3, e]
  refine ⟨⟨?_, ?_, ?_, ?_, ?_, wr_s _ _ _ _⟩, fun t i j q => ?_⟩
  · rw [wr_n (by omega)]; simp [sAwait, wr]
  · rw [wr_n (by omega), v_aw (by omega), v_da13]
  · rw [wr_n (by omega), v_aw (by omega), v_da (by omega)]
  · rw [wr_n (by omega), v_aw (by omega), v_da (by omega)]
  · rw [wr_n (by omega)]; simp [sAwait, wr]; exact v_da (by omega)
  · rw [wr_n (by omega), v_aw (by omega)]
set_option maxHeartbeats 4000000 in
set_option maxRecDepth 100000 in
theorem c_X4_start (l : Launch) (D : va_G) (dA : Nat → ClassId) (z : Nat → Nat) (en : en_T) (b : Nat → Nat) (mu : Mu) (g : St) (mm : Int) (hmm : mm = g 0 8 0 + 1) (h1 : mm ≤ g 1 0 0) (hI : IB g) (hj : JB g) (hR : Rl g mu) (hE : EM dA b mu en) : Met l yX4_start wsX4_start ({ frames := 2, cells := 0, slots := 0, locals := 60 }) (gP D dA z en [.ref (b 0), .int (iZ (mm))]) (va_Qv (fun u : en_T × Mu => EM dA b u.2 u.1 ∧ FM en u.1 ∧ Rl (sSt1 g) u.2) (fun u t9 => Wd D (z 0) u.1 t9.heap) (fun q => z 0 ≤ q)) (0) (0) (fun q => z 0 ≤ q) := by
  refine gMet (own := RX4) (cc := cX4_start) (maxL := 5) (ret := none) (by decide) rfl rfl (Nat.le_of_ble_eq_true rfl) ?_
  intro p e s m below meth c hx hb hml hown hts hr hlocks hnm hg hW ls hl
  have hK := hg.1
  have hS : va_S (fun q => z 0 ≤ q) s.heap s.heap [] := va_S.rf
  have hi6 : ∀ w ∈ u_ws RX4 TX4 43, w ∈ wsX4_start := by decide +kernel
  have hl : lv_has ls 5 [(0, .ref (b 0)), (1, .int (iZ (mm)))] := hl
  obtain ⟨rX, rC, rG, rD, rS, rF, rR, rB⟩ := id hR
  unfold RX at rX
  obtain ⟨hIX, hIL, hIS, hIF, hIR, hIG⟩ := id hI
  unfold IL at hIL
  unfold IX at hIX
  obtain ⟨n6, n7, n8, n2, n1, n0⟩ : RN g mu mm := rS.1 mm (by omega) (by omega)
  have hN6 : ∀ _ : Unit, mu 6 mm = if mm ≤ g 0 8 0 then 1 else 0 := fun _ => n6
  clear n6
  have hISm := hIS mm (by omega) (by omega)
  unfold IS at hISm
  have hJm := hj.1 mm (by omega) (by omega)
  unfold JS at hJm
  have rD2 := rD.2.1 mm (by omega) (by omega)
  have rD3 := rD.2.2.1 mm (by omega) (by omega)
  have hJm2 := hJm.2 (by omega)
  have rN2 := n8 (by omega)
  clear n8 n2 n1 n0 hJm
  have fM : en 20 0 = some (b 0, .inr (6, [.int (iZ (mu 0 0)), .int (iZ (mu 1 0)), .long (lZ (mu 2 0)), .int (iZ (mu 3 0)), .ref (b 4), .ref (b 5), .ref (b 6), .ref (b 7), .ref (b 8), .ref (b 9), .ref (b 10), .ref (b 11), .ref (b 12), .ref (b 13), .ref (b 14), .ref (b 15), .ref (b 16), .ref (b 17), .ref (b 18), .ref (b 19), .ref (b 20), .ref (b 21), .ref (b 22), .ref (b 23), .ref (b 24), .ref (b 25), .int (iZ (mu 26 0)), .ref (b 27), .ref (b 28), .ref (b 29), .ref (b 30), .ref (b 31), .ref (b 32), .ref (b 33), .ref (b 34), .int (iZ (mu 35 0)), .int (iZ (mu 36 0)), .int (iZ (mu 37 0)), .int (iZ (mu 38 0)), .int (iZ (mu 39 0)), .int (iZ (mu 40 0)), .ref (b 41), .ref (b 42)])) := hE.1
  have f6_ : en 26 0 = some (b 6, aZ dA (101) (mu 6)) := hE.2 6 (by decide)
  have f7_ : en 27 0 = some (b 7, aI dA (101) (mu 7)) := hE.2 7 (by decide)
  have f8_ : en 28 0 = some (b 8, aI dA (101) (mu 8)) := hE.2 8 (by decide)
  have f14_ : en 34 0 = some (b 14, aJ dA (101) (mu 14)) := hE.2 14 (by decide)
  have t26_0 : mu 26 (0) = mu 26 (0) := rfl
  have t2_0 : mu 2 (0) = mu 2 (0) := rfl
  have t4_mm : mu 4 (mm) = mu 4 (mm) := rfl
  have t4_mm___1 : mu 4 (mm + 1) = mu 4 (mm + 1) := rfl
  have t7_mm : mu 7 (mm) = mu 7 (mm) := rfl
  have t8_mm : mu 8 (mm) = mu 8 (mm) := rfl
  have t9_mm : mu 9 (mm) = mu 9 (mm) := rfl
  have t6_mm : mu 6 (mm) = mu 6 (mm) := rfl
  have t13_mm : mu 13 (mm) = mu 13 (mm) := rfl
  have t14_mm : mu 14 (mm) = mu 14 (mm) := rfl
  refine lv_aload_n hx hb dX4_start_0 rfl (lv_at hl 0 rfl) ?_
  refine lv_iload_n hx hb dX4_start_1 rfl (lv_at hl 1 rfl) ?_
  refine va_calli (va_runV (As := [.int (iZ (mm))]) (rest := []) ⟨hx, hb, hml, hown, hts⟩ (c_X4_size l D dA z en b mu mm (by omega) (by omega) hE) (cwV 1 hts gX4_start_X4_size rfl rfl rfl (by decide +kernel) ⟨Nat.le_of_ble_eq_true rfl, Nat.le_of_ble_eq_true rfl⟩) ⟨gBl, gRecv hK hW (ci := 6) rfl fM, gPre _ hg hS hW⟩ rfl rfl hl.1 rfl (lv_room (Nat.le_of_ble_eq_true rfl)) dX4_start_2 ⟨(show 0 + 0 ≤ 0 by omega), (show 0 + 0 ≤ 0 by omega)⟩) hS (fun _ _ h => h) (fun _ h => h) (fun r9 u9 t9 H locs ht9 hvm9 hw9 hB9 hz9 hk9 hS => ?_)
  have hW : Wd D (z 0) en H := by rw [← ht9]; exact hB9
  subst hw9
  refine z_bipush hx hb dX4_start_5 (by decide) ?_
  refine z_icmp_ge (tgt := 18) hx hb dX4_start_7 (by decide) (by omega) (by omega) (fun c_7 => ?_) (fun c_7 => ?_)
  · refine lv_aload_n hx hb dX4_start_18 rfl (lv_at hl 0 rfl) ?_
    refine lv_iload_n hx hb dX4_start_19 rfl (lv_at hl 1 rfl) ?_
    refine va_calli (va_runV (As := [.int (iZ (mm))]) (rest := []) ⟨hx, hb, hml, hown, hts⟩ (c_X4_size l D dA z en b mu mm (by omega) (by omega) hE) (cwV 1 hts gX4_start_X4_size rfl rfl rfl (by decide +kernel) ⟨Nat.le_of_ble_eq_true rfl, Nat.le_of_ble_eq_true rfl⟩) ⟨gBl, gRecv hK hW (ci := 6) rfl fM, gPre _ hg hS hW⟩ rfl rfl hl.1 rfl (lv_room (Nat.le_of_ble_eq_true rfl)) dX4_start_20 ⟨(show 0 + 0 + 0 ≤ 0 by omega), (show 0 + 0 + 0 ≤ 0 by omega)⟩) hS (fun _ _ h => h) (fun _ h => h) (fun r9 u9 t9 H locs ht9 hvm9 hw9 hB9 hz9 hk9 hS => ?_)
    have hW : Wd D (z 0) en H := by rw [← ht9]; exact hB9
    subst hw9
    refine z_sipush hx hb dX4_start_23 (by decide) ?_
    refine z_icmp_le (tgt := 33) hx hb dX4_start_26 (by decide) (by omega) (by omega) (fun c_26 => ?_) (fun c_26 => ?_)
    · refine z_bipush hx hb dX4_start_33 (by decide) ?_
      refine lv_istore_n (lv' := [(2, .int (iZ (6))), (0, .ref (b 0)), (1, .int (iZ (mm)))]) hx hb dX4_start_35 rfl hl (by decide) rfl (fun ls hl => ?_)
      refine lv_aload_n hx hb dX4_start_36 rfl (lv_at hl 1 rfl) ?_
      refine lv_iload_n hx hb dX4_start_37 rfl (lv_at hl 2 rfl) ?_
      refine va_calli (va_runV (As := [.int (iZ (mm))]) (rest := []) ⟨hx, hb, hml, hown, hts⟩ (c_X4_size l D dA z en b mu mm (by omega) (by omega) hE) (cwV 1 hts gX4_start_X4_size rfl rfl rfl (by decide +kernel) ⟨Nat.le_of_ble_eq_true rfl, Nat.le_of_ble_eq_true rfl⟩) ⟨gBl, gRecv hK hW (ci := 6) rfl fM, gPre _ hg hS hW⟩ rfl rfl hl.1 rfl (lv_room (Nat.le_of_ble_eq_true rfl)) dX4_start_38 ⟨(show 0 + 0 + 0 + 0 ≤ 0 by omega), (show 0 + 0 + 0 + 0 ≤ 0 by omega)⟩) hS (fun _ _ h => h) (fun _ h => h) (fun r9 u9 t9 H locs ht9 hvm9 hw9 hB9 hz9 hk9 hS => ?_)
      have hW : Wd D (z 0) en H := by rw [← ht9]; exact hB9
      subst hw9
      refine z_bipush hx hb dX4_start_41 (by decide) ?_
      refine z_icmp_ge (tgt := 50) hx hb dX4_start_43 (by decide) (by omega) (by omega) (fun _ => ?_) (fun c_q => absurd c_q (by omega))
      refine z_iconst hx hb dX4_start_50 ?_
      refine lv_istore_n (lv' := [(3, .int (iZ (0))), (2, .int (iZ (6))), (0, .ref (b 0)), (1, .int (iZ (mm)))]) hx hb dX4_start_51 rfl hl (by decide) rfl (fun ls hl => ?_)
      refine lv_aload_n hx hb dX4_start_52 rfl (lv_at hl 2 rfl) ?_
      refine lv_iload_n hx hb dX4_start_53 rfl (lv_at hl 0 rfl) ?_
      refine z_if_eq (tgt := 61) hx hb dX4_start_54 (by decide) (by omega) (fun _ => ?_) (fun c_q => absurd c_q (by omega))
      refine z_iconst hx hb dX4_start_61 ?_
      refine lv_iload_n hx hb dX4_start_62 rfl (lv_at hl 3 rfl) ?_
      refine lv_iload_n hx hb dX4_start_63 rfl (lv_at hl 0 rfl) ?_
      refine z_if_eq (tgt := 71) hx hb dX4_start_64 (by decide) (by omega) (fun _ => ?_) (fun c_q => absurd c_q (by omega))
      refine lv_aload_n hx hb dX4_start_71 rfl (lv_at hl 2 rfl) ?_
      refine lv_iload_n hx hb dX4_start_72 rfl (lv_at hl 3 rfl) ?_
      refine va_calli (va_runV (As := [.int (iZ (mm))]) (rest := [.int (iZ (mm)), .int (iZ (1)), .ref (b 0)]) ⟨hx, hb, hml, hown, hts⟩ (c_X4_size l D dA z en b mu mm (by omega) (by omega) hE) (cwV 1 hts gX4_start_X4_size rfl rfl rfl (by decide +kernel) ⟨Nat.le_of_ble_eq_true rfl, Nat.le_of_ble_eq_true rfl⟩) ⟨gBl, gRecv hK hW (ci := 6) rfl fM, gPre _ hg hS hW⟩ rfl rfl hl.1 rfl (lv_room (Nat.le_of_ble_eq_true rfl)) dX4_start_73 ⟨(show 0 + 0 + 0 + 0 + 0 ≤ 0 by omega), (show 0 + 0 + 0 + 0 + 0 ≤ 0 by omega)⟩) hS (fun _ _ h => h) (fun _ h => h) (fun r9 u9 t9 H locs ht9 hvm9 hw9 hB9 hz9 hk9 hS => ?_)
      have hW : Wd D (z 0) en H := by rw [← ht9]; exact hB9
      subst hw9
      refine lv_iload_n hx hb dX4_start_76 rfl (lv_at hl 1 rfl) ?_
      refine z_iconst hx hb dX4_start_77 ?_
      refine va_calli (va_runV (As := [.int (iZ (1)), .int (iZ (mm)), .int (iZ (mu 4 (mm + 1) - mu 4 mm)), .int (iZ (6)), .int (iZ (0))]) (rest := []) ⟨hx, hb, hml, hown, hts⟩ (c_X4_make l D dA z en b mu 1 mm (mu 4 (mm + 1) - mu 4 mm) 6 0 (by omega) (by omega) hE) (cwV 5 hts gX4_start_X4_make rfl rfl rfl (by decide +kernel) ⟨Nat.le_of_ble_eq_true rfl, Nat.le_of_ble_eq_true rfl⟩) ⟨gBl, gRecv hK hW (ci := 6) rfl fM, gPre _ hg hS hW⟩ rfl rfl hl.1 rfl (lv_room (Nat.le_of_ble_eq_true rfl)) dX4_start_78 ⟨(show 0 + 0 + 0 + 0 + 0 + 0 ≤ 0 by omega), (show 0 + 0 + 0 + 0 + 0 + 0 ≤ 0 by omega)⟩) hS (fun _ _ h => h) (fun _ h => h) (fun r9 u9 t9 H locs ht9 hvm9 hw9 hB9 hz9 hk9 hS => ?_)
      obtain ⟨en1w, mu1w⟩ := u9
      obtain ⟨hr9, hE1w, hF1w, hmu1w⟩ := hw9
      have hW : Wd D (z 0) en1w H := by rw [← ht9]; exact hB9
      dsimp only at hE1w hF1w hmu1w
      subst hr9
      have fM : en1w 20 0 = some (b 0, .inr (6, [.int (iZ (mu1w 0 0)), .int (iZ (mu1w 1 0)), .long (lZ (mu1w 2 0)), .int (iZ (mu1w 3 0)), .ref (b 4), .ref (b 5), .ref (b 6), .ref (b 7), .ref (b 8), .ref (b 9), .ref (b 10), .ref (b 11), .ref (b 12), .ref (b 13), .ref (b 14), .ref (b 15), .ref (b 16), .ref (b 17), .ref (b 18), .ref (b 19), .ref (b 20), .ref (b 21), .ref (b 22), .ref (b 23), .ref (b 24), .ref (b 25), .int (iZ (mu1w 26 0)), .ref (b 27), .ref (b 28), .ref (b 29), .ref (b 30), .ref (b 31), .ref (b 32), .ref (b 33), .ref (b 34), .int (iZ (mu1w 35 0)), .int (iZ (mu1w 36 0)), .int (iZ (mu1w 37 0)), .int (iZ (mu1w 38 0)), .int (iZ (mu1w 39 0)), .int (iZ (mu1w 40 0)), .ref (b 41), .ref (b 42)])) := hE1w.1
      have f6_ : en1w 26 0 = some (b 6, aZ dA (101) (mu1w 6)) := hE1w.2 6 (by decide)
      have f7_ : en1w 27 0 = some (b 7, aI dA (101) (mu1w 7)) := hE1w.2 7 (by decide)
      have f8_ : en1w 28 0 = some (b 8, aI dA (101) (mu1w 8)) := hE1w.2 8 (by decide)
      have f14_ : en1w 34 0 = some (b 14, aJ dA (101) (mu1w 14)) := hE1w.2 14 (by decide)
      have t26b : mu 26 0 = mu 26 (0) := by first | exact t26_0 | rfl
      by_cases hful : mu 26 0 = 6000
      · rw [if_pos hful]
        have hmk : mu1w = mu := by rw [hmu1w]; exact if_pos hful
        replace t26_0 : mu1w 26 (0) = mu 26 (0) := (congrFun (congrFun hmk 26) (0)).trans t26_0
        replace t2_0 : mu1w 2 (0) = mu 2 (0) := (congrFun (congrFun hmk 2) (0)).trans t2_0
        replace t4_mm : mu1w 4 (mm) = mu 4 (mm) := (congrFun (congrFun hmk 4) (mm)).trans t4_mm
        replace t4_mm___1 : mu1w 4 (mm + 1) = mu 4 (mm + 1) := (congrFun (congrFun hmk 4) (mm + 1)).trans t4_mm___1
        replace t7_mm : mu1w 7 (mm) = mu 7 (mm) := (congrFun (congrFun hmk 7) (mm)).trans t7_mm
        replace t8_mm : mu1w 8 (mm) = mu 8 (mm) := (congrFun (congrFun hmk 8) (mm)).trans t8_mm
        replace t9_mm : mu1w 9 (mm) = mu 9 (mm) := (congrFun (congrFun hmk 9) (mm)).trans t9_mm
        replace t6_mm : mu1w 6 (mm) = mu 6 (mm) := (congrFun (congrFun hmk 6) (mm)).trans t6_mm
        replace t13_mm : mu1w 13 (mm) = mu 13 (mm) := (congrFun (congrFun hmk 13) (mm)).trans t13_mm
        replace t14_mm : mu1w 14 (mm) = mu 14 (mm) := (congrFun (congrFun hmk 14) (mm)).trans t14_mm
        refine lv_istore (lv' := [(4, .int (iZ (0))), (3, .int (iZ (0))), (2, .int (iZ (6))), (0, .ref (b 0)), (1, .int (iZ (mm)))]) hx hb dX4_start_81 hl (by decide) rfl (fun ls hl => ?_)
        refine lv_aload_n hx hb dX4_start_83 rfl (lv_at hl 3 rfl) ?_
        refine lv_iload hx hb dX4_start_84 (lv_at hl 0 rfl) ?_
        refine lv_iload_n hx hb dX4_start_86 rfl (lv_at hl 4 rfl) ?_
        refine z_iconst hx hb dX4_start_87 ?_
        refine lv_iload_n hx hb dX4_start_88 rfl (lv_at hl 2 rfl) ?_
        refine va_callv (va_runV (As := [.int (iZ (0)), .int (iZ (mm)), .int (iZ (0)), .int (iZ (6))]) (rest := []) ⟨hx, hb, hml, hown, hts⟩ (c_X4_fill0 l D dA z en1w b mu1w mm 0 6 (by omega) (by omega) hE1w) (cwV 4 hts gX4_start_X4_fill rfl rfl rfl (by decide +kernel) ⟨Nat.le_of_ble_eq_true rfl, Nat.le_of_ble_eq_true rfl⟩) ⟨gBl, gRecv hK hW (ci := 6) rfl fM, gPre _ hg hS hW⟩ rfl rfl hl.1 rfl (lv_room (Nat.le_of_ble_eq_true rfl)) dX4_start_89 ⟨(show 0 + 0 + 0 + 0 + 0 + 0 + 0 ≤ 0 by omega), (show 0 + 0 + 0 + 0 + 0 + 0 + 0 ≤ 0 by omega)⟩) hS (fun _ _ h => h) (fun _ h => h) (fun u9 t9 H locs ht9 hvm9 hw9 hB9 hz9 hk9 hS => ?_)
        obtain ⟨en2w, mu2w⟩ := u9
        obtain ⟨hE2w, hF2w, hmu2w⟩ := hw9
        have hW : Wd D (z 0) en2w H := by rw [← ht9]; exact hB9
        dsimp only at hE2w hF2w hmu2w
        have hF2w := FM.tr hF1w hF2w
        have fM : en2w 20 0 = some (b 0, .inr (6, [.int (iZ (mu2w 0 0)), .int (iZ (mu2w 1 0)), .long (lZ (mu2w 2 0)), .int (iZ (mu2w 3 0)), .ref (b 4), .ref (b 5), .ref (b 6), .ref (b 7), .ref (b 8), .ref (b 9), .ref (b 10), .ref (b 11), .ref (b 12), .ref (b 13), .ref (b 14), .ref (b 15), .ref (b 16), .ref (b 17), .ref (b 18), .ref (b 19), .ref (b 20), .ref (b 21), .ref (b 22), .ref (b 23), .ref (b 24), .ref (b 25), .int (iZ (mu2w 26 0)), .ref (b 27), .ref (b 28), .ref (b 29), .ref (b 30), .ref (b 31), .ref (b 32), .ref (b 33), .ref (b 34), .int (iZ (mu2w 35 0)), .int (iZ (mu2w 36 0)), .int (iZ (mu2w 37 0)), .int (iZ (mu2w 38 0)), .int (iZ (mu2w 39 0)), .int (iZ (mu2w 40 0)), .ref (b 41), .ref (b 42)])) := hE2w.1
        have f6_ : en2w 26 0 = some (b 6, aZ dA (101) (mu2w 6)) := hE2w.2 6 (by decide)
        have f7_ : en2w 27 0 = some (b 7, aI dA (101) (mu2w 7)) := hE2w.2 7 (by decide)
        have f8_ : en2w 28 0 = some (b 8, aI dA (101) (mu2w 8)) := hE2w.2 8 (by decide)
        have f14_ : en2w 34 0 = some (b 14, aJ dA (101) (mu2w 14)) := hE2w.2 14 (by decide)
        replace t26_0 : mu2w 26 (0) = mu 26 (0) := (congrFun (congrFun hmu2w 26) (0)).trans t26_0
        replace t2_0 : mu2w 2 (0) = mu 2 (0) := (congrFun (congrFun hmu2w 2) (0)).trans t2_0
        replace t4_mm : mu2w 4 (mm) = mu 4 (mm) := (congrFun (congrFun hmu2w 4) (mm)).trans t4_mm
        replace t4_mm___1 : mu2w 4 (mm + 1) = mu 4 (mm + 1) := (congrFun (congrFun hmu2w 4) (mm + 1)).trans t4_mm___1
        replace t7_mm : mu2w 7 (mm) = mu 7 (mm) := (congrFun (congrFun hmu2w 7) (mm)).trans t7_mm
        replace t8_mm : mu2w 8 (mm) = mu 8 (mm) := (congrFun (congrFun hmu2w 8) (mm)).trans t8_mm
        replace t9_mm : mu2w 9 (mm) = mu 9 (mm) := (congrFun (congrFun hmu2w 9) (mm)).trans t9_mm
        replace t6_mm : mu2w 6 (mm) = mu 6 (mm) := (congrFun (congrFun hmu2w 6) (mm)).trans t6_mm
        replace t13_mm : mu2w 13 (mm) = mu 13 (mm) := (congrFun (congrFun hmu2w 13) (mm)).trans t13_mm
        replace t14_mm : mu2w 14 (mm) = mu 14 (mm) := (congrFun (congrFun hmu2w 14) (mm)).trans t14_mm
        refine lv_aload_n hx hb dX4_start_92 rfl (lv_at hl 3 rfl) ?_
        refine g_get (C := RX4) (T := TX4) (N := 43) (ci := 6) (v := .ref (b 6)) hx hb hts hi6 hown hK hW fM rfl 6 (by decide) (hts (.fieldLink RX4 18 "LongTransferModel" "begun" "[Z") (by decide +kernel)) (fun _ h9 => h9) rfl dX4_start_93 ?_
        refine lv_iload_n hx hb dX4_start_96 rfl (lv_at hl 4 rfl) ?_
        refine z_iconst hx hb dX4_start_97 ?_
        refine g_zast (x := 1) hx hb hK hW hS f6_ (by omega) (by omega) (by omega) (by decide) dX4_start_98 (fun H locs hW hS => ?_)
        obtain ⟨en3w, hen3w⟩ : ∃ x : en_T, x = e2 en2w 26 0 (some (b 6, aZ dA (101) (uF (mu2w 6) (mm) (1)))) := ⟨_, rfl⟩
        rw [← hen3w] at hW
        obtain ⟨mu3w, hmu3w⟩ : ∃ x : Mu, x = u2 mu2w 6 (mm) (1) := ⟨_, rfl⟩
        have hE3w : EM dA b mu3w en3w := by rw [hen3w, hmu3w]; exact em_w hE2w (k0 := 6) (j := mm) (v := 1) (by decide)
        have hF3w : FM en2w en3w := fun k i q => by rw [hen3w]; exact e2_k (fun w => q (by rw [w]; decide))
        have hF3w := FM.tr hF2w hF3w
        replace t26_0 : mu3w 26 (0) = mu 26 (0) := by rw [hmu3w]; exact (u2_n (fun q => absurd q.1 (by decide))).trans t26_0
        replace t2_0 : mu3w 2 (0) = mu 2 (0) := by rw [hmu3w]; exact (u2_n (fun q => absurd q.1 (by decide))).trans t2_0
        replace t4_mm : mu3w 4 (mm) = mu 4 (mm) := by rw [hmu3w]; exact (u2_n (fun q => absurd q.1 (by decide))).trans t4_mm
        replace t4_mm___1 : mu3w 4 (mm + 1) = mu 4 (mm + 1) := by rw [hmu3w]; exact (u2_n (fun q => absurd q.1 (by decide))).trans t4_mm___1
        replace t7_mm : mu3w 7 (mm) = mu 7 (mm) := by rw [hmu3w]; exact (u2_n (fun q => absurd q.1 (by decide))).trans t7_mm
        replace t8_mm : mu3w 8 (mm) = mu 8 (mm) := by rw [hmu3w]; exact (u2_n (fun q => absurd q.1 (by decide))).trans t8_mm
        replace t9_mm : mu3w 9 (mm) = mu 9 (mm) := by rw [hmu3w]; exact (u2_n (fun q => absurd q.1 (by decide))).trans t9_mm
        replace t6_mm : mu3w 6 (mm) = 1 := by rw [hmu3w]; exact u2_s _ _ _ _
        replace t13_mm : mu3w 13 (mm) = mu 13 (mm) := by rw [hmu3w]; exact (u2_n (fun q => absurd q.1 (by decide))).trans t13_mm
        replace t14_mm : mu3w 14 (mm) = mu 14 (mm) := by rw [hmu3w]; exact (u2_n (fun q => absurd q.1 (by decide))).trans t14_mm
        have fM : en3w 20 0 = some (b 0, .inr (6, [.int (iZ (mu3w 0 0)), .int (iZ (mu3w 1 0)), .long (lZ (mu3w 2 0)), .int (iZ (mu3w 3 0)), .ref (b 4), .ref (b 5), .ref (b 6), .ref (b 7), .ref (b 8), .ref (b 9), .ref (b 10), .ref (b 11), .ref (b 12), .ref (b 13), .ref (b 14), .ref (b 15), .ref (b 16), .ref (b 17), .ref (b 18), .ref (b 19), .ref (b 20), .ref (b 21), .ref (b 22), .ref (b 23), .ref (b 24), .ref (b 25), .int (iZ (mu3w 26 0)), .ref (b 27), .ref (b 28), .ref (b 29), .ref (b 30), .ref (b 31), .ref (b 32), .ref (b 33), .ref (b 34), .int (iZ (mu3w 35 0)), .int (iZ (mu3w 36 0)), .int (iZ (mu3w 37 0)), .int (iZ (mu3w 38 0)), .int (iZ (mu3w 39 0)), .int (iZ (mu3w 40 0)), .ref (b 41), .ref (b 42)])) := hE3w.1
        have f6_ : en3w 26 0 = some (b 6, aZ dA (101) (mu3w 6)) := hE3w.2 6 (by decide)
        have f7_ : en3w 27 0 = some (b 7, aI dA (101) (mu3w 7)) := hE3w.2 7 (by decide)
        have f8_ : en3w 28 0 = some (b 8, aI dA (101) (mu3w 8)) := hE3w.2 8 (by decide)
        have f14_ : en3w 34 0 = some (b 14, aJ dA (101) (mu3w 14)) := hE3w.2 14 (by decide)
        refine lv_aload_n hx hb dX4_start_99 rfl (lv_at hl 3 rfl) ?_
        refine g_get (C := RX4) (T := TX4) (N := 43) (ci := 6) (v := .ref (b 8)) hx hb hts hi6 hown hK hW fM rfl 8 (by decide) (hts (.fieldLink RX4 25 "LongTransferModel" "sent" "[I") (by decide +kernel)) (fun _ h9 => h9) rfl dX4_start_100 ?_
        refine lv_iload_n hx hb dX4_start_103 rfl (lv_at hl 4 rfl) ?_
        refine lv_iload_n hx hb dX4_start_104 rfl (lv_at hl 2 rfl) ?_
        refine g_iast (x := 6) hx hb hK hW hS f8_ (by omega) (by omega) (by omega) dX4_start_105 (fun H locs hW hS => ?_)
        obtain ⟨en4w, hen4w⟩ : ∃ x : en_T, x = e2 en3w 28 0 (some (b 8, aI dA (101) (uF (mu3w 8) (mm) (6)))) := ⟨_, rfl⟩
        rw [← hen4w] at hW
        obtain ⟨mu4w, hmu4w⟩ : ∃ x : Mu, x = u2 mu3w 8 (mm) (6) := ⟨_, rfl⟩
        have hE4w : EM dA b mu4w en4w := by rw [hen4w, hmu4w]; exact em_w hE3w (k0 := 8) (j := mm) (v := 6) (by decide)
        have hF4w : FM en3w en4w := fun k i q => by rw [hen4w]; exact e2_k (fun w => q (by rw [w]; decide))
        have hF4w := FM.tr hF3w hF4w
        replace t26_0 : mu4w 26 (0) = mu 26 (0) := by rw [hmu4w]; exact (u2_n (fun q => absurd q.1 (by decide))).trans t26_0
        replace t2_0 : mu4w 2 (0) = mu 2 (0) := by rw [hmu4w]; exact (u2_n (fun q => absurd q.1 (by decide))).trans t2_0
        replace t4_mm : mu4w 4 (mm) = mu 4 (mm) := by rw [hmu4w]; exact (u2_n (fun q => absurd q.1 (by decide))).trans t4_mm
        replace t4_mm___1 : mu4w 4 (mm + 1) = mu 4 (mm + 1) := by rw [hmu4w]; exact (u2_n (fun q => absurd q.1 (by decide))).trans t4_mm___1
        replace t7_mm : mu4w 7 (mm) = mu 7 (mm) := by rw [hmu4w]; exact (u2_n (fun q => absurd q.1 (by decide))).trans t7_mm
        replace t8_mm : mu4w 8 (mm) = 6 := by rw [hmu4w]; exact u2_s _ _ _ _
        replace t9_mm : mu4w 9 (mm) = mu 9 (mm) := by rw [hmu4w]; exact (u2_n (fun q => absurd q.1 (by decide))).trans t9_mm
        replace t6_mm : mu4w 6 (mm) = 1 := by rw [hmu4w]; exact (u2_n (fun q => absurd q.1 (by decide))).trans t6_mm
        replace t13_mm : mu4w 13 (mm) = mu 13 (mm) := by rw [hmu4w]; exact (u2_n (fun q => absurd q.1 (by decide))).trans t13_mm
        replace t14_mm : mu4w 14 (mm) = mu 14 (mm) := by rw [hmu4w]; exact (u2_n (fun q => absurd q.1 (by decide))).trans t14_mm
        have fM : en4w 20 0 = some (b 0, .inr (6, [.int (iZ (mu4w 0 0)), .int (iZ (mu4w 1 0)), .long (lZ (mu4w 2 0)), .int (iZ (mu4w 3 0)), .ref (b 4), .ref (b 5), .ref (b 6), .ref (b 7), .ref (b 8), .ref (b 9), .ref (b 10), .ref (b 11), .ref (b 12), .ref (b 13), .ref (b 14), .ref (b 15), .ref (b 16), .ref (b 17), .ref (b 18), .ref (b 19), .ref (b 20), .ref (b 21), .ref (b 22), .ref (b 23), .ref (b 24), .ref (b 25), .int (iZ (mu4w 26 0)), .ref (b 27), .ref (b 28), .ref (b 29), .ref (b 30), .ref (b 31), .ref (b 32), .ref (b 33), .ref (b 34), .int (iZ (mu4w 35 0)), .int (iZ (mu4w 36 0)), .int (iZ (mu4w 37 0)), .int (iZ (mu4w 38 0)), .int (iZ (mu4w 39 0)), .int (iZ (mu4w 40 0)), .ref (b 41), .ref (b 42)])) := hE4w.1
        have f6_ : en4w 26 0 = some (b 6, aZ dA (101) (mu4w 6)) := hE4w.2 6 (by decide)
        have f7_ : en4w 27 0 = some (b 7, aI dA (101) (mu4w 7)) := hE4w.2 7 (by decide)
        have f8_ : en4w 28 0 = some (b 8, aI dA (101) (mu4w 8)) := hE4w.2 8 (by decide)
        have f14_ : en4w 34 0 = some (b 14, aJ dA (101) (mu4w 14)) := hE4w.2 14 (by decide)
        refine lv_aload_n hx hb dX4_start_106 rfl (lv_at hl 3 rfl) ?_
        refine g_get (C := RX4) (T := TX4) (N := 43) (ci := 6) (v := .ref (b 14)) hx hb hts hi6 hown hK hW fM rfl 14 (by decide) (hts (.fieldLink RX4 43 "LongTransferModel" "since" "[J") (by decide +kernel)) (fun _ h9 => h9) rfl dX4_start_107 ?_
        refine lv_iload_n hx hb dX4_start_110 rfl (lv_at hl 4 rfl) ?_
        refine lv_aload_n hx hb dX4_start_111 rfl (lv_at hl 3 rfl) ?_
        refine g_get (C := RX4) (T := TX4) (N := 43) (ci := 6) (v := .long (lZ (mu4w 2 0))) hx hb hts hi6 hown hK hW fM rfl 2 (by decide) (hts (.fieldLink RX4 137 "LongTransferModel" "now" "J") (by decide +kernel)) (fun _ h9 => h9) rfl dX4_start_112 ?_
        rw [t2_0]
        refine g_last (x := mu 2 (0)) hx hb hK hW hS f14_ (by omega) (by omega) (by omega) dX4_start_115 (fun H locs hW hS => ?_)
        obtain ⟨en5w, hen5w⟩ : ∃ x : en_T, x = e2 en4w 34 0 (some (b 14, aJ dA (101) (uF (mu4w 14) (mm) (mu 2 (0))))) := ⟨_, rfl⟩
        rw [← hen5w] at hW
        obtain ⟨mu5w, hmu5w⟩ : ∃ x : Mu, x = u2 mu4w 14 (mm) (mu 2 (0)) := ⟨_, rfl⟩
        have hE5w : EM dA b mu5w en5w := by rw [hen5w, hmu5w]; exact em_w hE4w (k0 := 14) (j := mm) (v := mu 2 (0)) (by decide)
        have hF5w : FM en4w en5w := fun k i q => by rw [hen5w]; exact e2_k (fun w => q (by rw [w]; decide))
        have hF5w := FM.tr hF4w hF5w
        replace t26_0 : mu5w 26 (0) = mu 26 (0) := by rw [hmu5w]; exact (u2_n (fun q => absurd q.1 (by decide))).trans t26_0
        replace t2_0 : mu5w 2 (0) = mu 2 (0) := by rw [hmu5w]; exact (u2_n (fun q => absurd q.1 (by decide))).trans t2_0
        replace t4_mm : mu5w 4 (mm) = mu 4 (mm) := by rw [hmu5w]; exact (u2_n (fun q => absurd q.1 (by decide))).trans t4_mm
        replace t4_mm___1 : mu5w 4 (mm + 1) = mu 4 (mm + 1) := by rw [hmu5w]; exact (u2_n (fun q => absurd q.1 (by decide))).trans t4_mm___1
        replace t7_mm : mu5w 7 (mm) = mu 7 (mm) := by rw [hmu5w]; exact (u2_n (fun q => absurd q.1 (by decide))).trans t7_mm
        replace t8_mm : mu5w 8 (mm) = 6 := by rw [hmu5w]; exact (u2_n (fun q => absurd q.1 (by decide))).trans t8_mm
        replace t9_mm : mu5w 9 (mm) = mu 9 (mm) := by rw [hmu5w]; exact (u2_n (fun q => absurd q.1 (by decide))).trans t9_mm
        replace t6_mm : mu5w 6 (mm) = 1 := by rw [hmu5w]; exact (u2_n (fun q => absurd q.1 (by decide))).trans t6_mm
        replace t13_mm : mu5w 13 (mm) = mu 13 (mm) := by rw [hmu5w]; exact (u2_n (fun q => absurd q.1 (by decide))).trans t13_mm
        replace t14_mm : mu5w 14 (mm) = mu 2 (0) := by rw [hmu5w]; exact u2_s _ _ _ _
        have fM : en5w 20 0 = some (b 0, .inr (6, [.int (iZ (mu5w 0 0)), .int (iZ (mu5w 1 0)), .long (lZ (mu5w 2 0)), .int (iZ (mu5w 3 0)), .ref (b 4), .ref (b 5), .ref (b 6), .ref (b 7), .ref (b 8), .ref (b 9), .ref (b 10), .ref (b 11), .ref (b 12), .ref (b 13), .ref (b 14), .ref (b 15), .ref (b 16), .ref (b 17), .ref (b 18), .ref (b 19), .ref (b 20), .ref (b 21), .ref (b 22), .ref (b 23), .ref (b 24), .ref (b 25), .int (iZ (mu5w 26 0)), .ref (b 27), .ref (b 28), .ref (b 29), .ref (b 30), .ref (b 31), .ref (b 32), .ref (b 33), .ref (b 34), .int (iZ (mu5w 35 0)), .int (iZ (mu5w 36 0)), .int (iZ (mu5w 37 0)), .int (iZ (mu5w 38 0)), .int (iZ (mu5w 39 0)), .int (iZ (mu5w 40 0)), .ref (b 41), .ref (b 42)])) := hE5w.1
        have f6_ : en5w 26 0 = some (b 6, aZ dA (101) (mu5w 6)) := hE5w.2 6 (by decide)
        have f7_ : en5w 27 0 = some (b 7, aI dA (101) (mu5w 7)) := hE5w.2 7 (by decide)
        have f8_ : en5w 28 0 = some (b 8, aI dA (101) (mu5w 8)) := hE5w.2 8 (by decide)
        have f14_ : en5w 34 0 = some (b 14, aJ dA (101) (mu5w 14)) := hE5w.2 14 (by decide)
        refine lv_aload_n hx hb dX4_start_116 rfl (lv_at hl 3 rfl) ?_
        refine g_get (C := RX4) (T := TX4) (N := 43) (ci := 6) (v := .ref (b 7)) hx hb hts hi6 hown hK hW fM rfl 7 (by decide) (hts (.fieldLink RX4 22 "LongTransferModel" "state" "[I") (by decide +kernel)) (fun _ h9 => h9) rfl dX4_start_117 ?_
        refine lv_iload_n hx hb dX4_start_120 rfl (lv_at hl 4 rfl) ?_
        refine lv_iload_n hx hb dX4_start_121 rfl (lv_at hl 1 rfl) ?_
        refine z_if_eq (tgt := 129) hx hb dX4_start_122 (by decide) (by omega) (fun _ => ?_) (fun c_q => absurd c_q (by omega))
        refine z_iconst hx hb dX4_start_129 ?_
        refine g_iast (x := 1) hx hb hK hW hS f7_ (by omega) (by omega) (by omega) dX4_start_130 (fun H locs hW hS => ?_)
        obtain ⟨en6w, hen6w⟩ : ∃ x : en_T, x = e2 en5w 27 0 (some (b 7, aI dA (101) (uF (mu5w 7) (mm) (1)))) := ⟨_, rfl⟩
        rw [← hen6w] at hW
        obtain ⟨mu6w, hmu6w⟩ : ∃ x : Mu, x = u2 mu5w 7 (mm) (1) := ⟨_, rfl⟩
        have hE6w : EM dA b mu6w en6w := by rw [hen6w, hmu6w]; exact em_w hE5w (k0 := 7) (j := mm) (v := 1) (by decide)
        have hF6w : FM en5w en6w := fun k i q => by rw [hen6w]; exact e2_k (fun w => q (by rw [w]; decide))
        have hF6w := FM.tr hF5w hF6w
        replace t26_0 : mu6w 26 (0) = mu 26 (0) := by rw [hmu6w]; exact (u2_n (fun q => absurd q.1 (by decide))).trans t26_0
        replace t2_0 : mu6w 2 (0) = mu 2 (0) := by rw [hmu6w]; exact (u2_n (fun q => absurd q.1 (by decide))).trans t2_0
        replace t4_mm : mu6w 4 (mm) = mu 4 (mm) := by rw [hmu6w]; exact (u2_n (fun q => absurd q.1 (by decide))).trans t4_mm
        replace t4_mm___1 : mu6w 4 (mm + 1) = mu 4 (mm + 1) := by rw [hmu6w]; exact (u2_n (fun q => absurd q.1 (by decide))).trans t4_mm___1
        replace t7_mm : mu6w 7 (mm) = 1 := by rw [hmu6w]; exact u2_s _ _ _ _
        replace t8_mm : mu6w 8 (mm) = 6 := by rw [hmu6w]; exact (u2_n (fun q => absurd q.1 (by decide))).trans t8_mm
        replace t9_mm : mu6w 9 (mm) = mu 9 (mm) := by rw [hmu6w]; exact (u2_n (fun q => absurd q.1 (by decide))).trans t9_mm
        replace t6_mm : mu6w 6 (mm) = 1 := by rw [hmu6w]; exact (u2_n (fun q => absurd q.1 (by decide))).trans t6_mm
        replace t13_mm : mu6w 13 (mm) = mu 13 (mm) := by rw [hmu6w]; exact (u2_n (fun q => absurd q.1 (by decide))).trans t13_mm
        replace t14_mm : mu6w 14 (mm) = mu 2 (0) := by rw [hmu6w]; exact (u2_n (fun q => absurd q.1 (by decide))).trans t14_mm
        have fM : en6w 20 0 = some (b 0, .inr (6, [.int (iZ (mu6w 0 0)), .int (iZ (mu6w 1 0)), .long (lZ (mu6w 2 0)), .int (iZ (mu6w 3 0)), .ref (b 4), .ref (b 5), .ref (b 6), .ref (b 7), .ref (b 8), .ref (b 9), .ref (b 10), .ref (b 11), .ref (b 12), .ref (b 13), .ref (b 14), .ref (b 15), .ref (b 16), .ref (b 17), .ref (b 18), .ref (b 19), .ref (b 20), .ref (b 21), .ref (b 22), .ref (b 23), .ref (b 24), .ref (b 25), .int (iZ (mu6w 26 0)), .ref (b 27), .ref (b 28), .ref (b 29), .ref (b 30), .ref (b 31), .ref (b 32), .ref (b 33), .ref (b 34), .int (iZ (mu6w 35 0)), .int (iZ (mu6w 36 0)), .int (iZ (mu6w 37 0)), .int (iZ (mu6w 38 0)), .int (iZ (mu6w 39 0)), .int (iZ (mu6w 40 0)), .ref (b 41), .ref (b 42)])) := hE6w.1
        have f6_ : en6w 26 0 = some (b 6, aZ dA (101) (mu6w 6)) := hE6w.2 6 (by decide)
        have f7_ : en6w 27 0 = some (b 7, aI dA (101) (mu6w 7)) := hE6w.2 7 (by decide)
        have f8_ : en6w 28 0 = some (b 8, aI dA (101) (mu6w 8)) := hE6w.2 8 (by decide)
        have f14_ : en6w 34 0 = some (b 14, aJ dA (101) (mu6w 14)) := hE6w.2 14 (by decide)
        refine lv_iload hx hb dX4_start_131 (lv_at hl 0 rfl) ?_
        refine z_if_ne (tgt := 143) hx hb dX4_start_133 (by decide) (by omega) (fun c_q => absurd c_q (by omega)) (fun _ => ?_)
        refine lv_aload_n hx hb dX4_start_136 rfl (lv_at hl 3 rfl) ?_
        refine lv_iload_n hx hb dX4_start_137 rfl (lv_at hl 4 rfl) ?_
        refine z_bipush hx hb dX4_start_138 (by decide) ?_
        refine va_callv (va_runV (As := [.int (iZ (mm)), .int (iZ (7))]) (rest := []) ⟨hx, hb, hml, hown, hts⟩ (c_X4_endSender l D dA z en6w b mu6w mm 7 (by omega) (by omega) (by omega) (by omega) hE6w) (cwV 2 hts gX4_start_X4_endSender rfl rfl rfl (by decide +kernel) ⟨Nat.le_of_ble_eq_true rfl, Nat.le_of_ble_eq_true rfl⟩) ⟨gBl, gRecv hK hW (ci := 6) rfl fM, gPre _ hg hS hW⟩ rfl rfl hl.1 rfl (lv_room (Nat.le_of_ble_eq_true rfl)) dX4_start_140 ⟨(show 0 + 0 + 0 + 0 + 0 + 0 + 0 + 0 ≤ 0 by omega), (show 0 + 0 + 0 + 0 + 0 + 0 + 0 + 0 ≤ 0 by omega)⟩) hS (fun _ _ h => h) (fun _ h => h) (fun u9 t9 H locs ht9 hvm9 hw9 hB9 hz9 hk9 hS => ?_)
        obtain ⟨en7w, mu7w⟩ := u9
        obtain ⟨hE7w, hF7w, hmu7w⟩ := hw9
        have hW : Wd D (z 0) en7w H := by rw [← ht9]; exact hB9
        dsimp only at hE7w hF7w hmu7w
        have hF7w := FM.tr hF6w hF7w
        have fM : en7w 20 0 = some (b 0, .inr (6, [.int (iZ (mu7w 0 0)), .int (iZ (mu7w 1 0)), .long (lZ (mu7w 2 0)), .int (iZ (mu7w 3 0)), .ref (b 4), .ref (b 5), .ref (b 6), .ref (b 7), .ref (b 8), .ref (b 9), .ref (b 10), .ref (b 11), .ref (b 12), .ref (b 13), .ref (b 14), .ref (b 15), .ref (b 16), .ref (b 17), .ref (b 18), .ref (b 19), .ref (b 20), .ref (b 21), .ref (b 22), .ref (b 23), .ref (b 24), .ref (b 25), .int (iZ (mu7w 26 0)), .ref (b 27), .ref (b 28), .ref (b 29), .ref (b 30), .ref (b 31), .ref (b 32), .ref (b 33), .ref (b 34), .int (iZ (mu7w 35 0)), .int (iZ (mu7w 36 0)), .int (iZ (mu7w 37 0)), .int (iZ (mu7w 38 0)), .int (iZ (mu7w 39 0)), .int (iZ (mu7w 40 0)), .ref (b 41), .ref (b 42)])) := hE7w.1
        have f6_ : en7w 26 0 = some (b 6, aZ dA (101) (mu7w 6)) := hE7w.2 6 (by decide)
        have f7_ : en7w 27 0 = some (b 7, aI dA (101) (mu7w 7)) := hE7w.2 7 (by decide)
        have f8_ : en7w 28 0 = some (b 8, aI dA (101) (mu7w 8)) := hE7w.2 8 (by decide)
        have f14_ : en7w 34 0 = some (b 14, aJ dA (101) (mu7w 14)) := hE7w.2 14 (by decide)
        have hz0 : ∀ (t : Nat) (j : Int), ¬ (6 ≤ t ∧ t ≤ 15 ∧ j = mm) → mu6w t j = mu t j := fun t j q => by rw [hmu6w, u2_n (by omega), hmu5w, u2_n (by omega), hmu4w, u2_n (by omega), hmu3w, u2_n (by omega), hmu2w, hmk]
        have hz6 : mu6w 6 mm = 1 := by rw [hmu6w, u2_n (by omega), hmu5w, u2_n (by omega), hmu4w, u2_n (by omega), hmu3w, u2_s]
        have hpst : Rl (sSt1 g) mu7w := by unfold sSt1; rw [← hmm, v_st0 (by omega), hmu7w]; exact rl_st0 hI hR (by omega) (by omega) hmm hz0 hz6
        exact W.vret hx hb hr (fun t ht hw => ⟨⟨(en7w, mu7w), rfl, ⟨hE7w, hF7w, hpst⟩, by show Wd _ _ _ t.heap; rw [ht]; exact hW⟩, hS.F ht⟩) hS.2.2 dX4_start_143
      · rw [if_neg hful]
        have hmk : mu1w = mMk mu 1 mm (mu 4 (mm + 1) - mu 4 mm) 6 0 := by rw [hmu1w]; exact if_neg hful
        replace t26_0 : mu1w 26 (0) = mu 26 (0) + 1 := by rw [hmk, (mMk_v _ _ _ _ _ _).1, t26_0]
        replace t2_0 : mu1w 2 (0) = mu 2 (0) := by rw [hmk]; exact (mMk_n ⟨fun q => absurd q.1 (by decide), fun q => absurd q.1 (by decide)⟩).trans t2_0
        replace t4_mm : mu1w 4 (mm) = mu 4 (mm) := by rw [hmk]; exact (mMk_n ⟨fun q => absurd q.1 (by decide), fun q => absurd q.1 (by decide)⟩).trans t4_mm
        replace t4_mm___1 : mu1w 4 (mm + 1) = mu 4 (mm + 1) := by rw [hmk]; exact (mMk_n ⟨fun q => absurd q.1 (by decide), fun q => absurd q.1 (by decide)⟩).trans t4_mm___1
        replace t7_mm : mu1w 7 (mm) = mu 7 (mm) := by rw [hmk]; exact (mMk_n ⟨fun q => absurd q.1 (by decide), fun q => absurd q.1 (by decide)⟩).trans t7_mm
        replace t8_mm : mu1w 8 (mm) = mu 8 (mm) := by rw [hmk]; exact (mMk_n ⟨fun q => absurd q.1 (by decide), fun q => absurd q.1 (by decide)⟩).trans t8_mm
        replace t9_mm : mu1w 9 (mm) = mu 9 (mm) := by rw [hmk]; exact (mMk_n ⟨fun q => absurd q.1 (by decide), fun q => absurd q.1 (by decide)⟩).trans t9_mm
        replace t6_mm : mu1w 6 (mm) = mu 6 (mm) := by rw [hmk]; exact (mMk_n ⟨fun q => absurd q.1 (by decide), fun q => absurd q.1 (by decide)⟩).trans t6_mm
        replace t13_mm : mu1w 13 (mm) = mu 13 (mm) := by rw [hmk]; exact (mMk_n ⟨fun q => absurd q.1 (by decide), fun q => absurd q.1 (by decide)⟩).trans t13_mm
        replace t14_mm : mu1w 14 (mm) = mu 14 (mm) := by rw [hmk]; exact (mMk_n ⟨fun q => absurd q.1 (by decide), fun q => absurd q.1 (by decide)⟩).trans t14_mm
        have hB5 : ∀ j : Int, -128 ≤ mu1w 5 j ∧ mu1w 5 j ≤ 127 := fun j => by rw [hmk, mMk_n (by omega)]; exact rB 5 j (by omega)
        refine lv_istore (lv' := [(4, .int (iZ (mu 26 0 + 1))), (3, .int (iZ (0))), (2, .int (iZ (6))), (0, .ref (b 0)), (1, .int (iZ (mm)))]) hx hb dX4_start_81 hl (by decide) rfl (fun ls hl => ?_)
        refine lv_aload_n hx hb dX4_start_83 rfl (lv_at hl 3 rfl) ?_
        refine lv_iload hx hb dX4_start_84 (lv_at hl 0 rfl) ?_
        refine lv_iload_n hx hb dX4_start_86 rfl (lv_at hl 4 rfl) ?_
        refine z_iconst hx hb dX4_start_87 ?_
        refine lv_iload_n hx hb dX4_start_88 rfl (lv_at hl 2 rfl) ?_
        have hq4 : mu1w 4 mm = mu 4 mm := by omega
        refine va_callv (va_runV (As := [.int (iZ (mu 26 0 + 1)), .int (iZ (mm)), .int (iZ (0)), .int (iZ (6))]) (rest := []) ⟨hx, hb, hml, hown, hts⟩ (c_X4_fill l D dA z en1w b mu1w (mu 26 0 + 1) mm 0 6 (by omega) (by omega) (by omega) (by omega) (by omega) (by omega) (by omega) (by omega) hB5 hE1w) (cwV 4 hts gX4_start_X4_fill rfl rfl rfl (by decide +kernel) ⟨Nat.le_of_ble_eq_true rfl, Nat.le_of_ble_eq_true rfl⟩) ⟨gBl, gRecv hK hW (ci := 6) rfl fM, gPre _ hg hS hW⟩ rfl rfl hl.1 rfl (lv_room (Nat.le_of_ble_eq_true rfl)) dX4_start_89 ⟨(show 0 + 0 + 0 + 0 + 0 + 0 + 0 ≤ 0 by omega), (show 0 + 0 + 0 + 0 + 0 + 0 + 0 ≤ 0 by omega)⟩) hS (fun _ _ h => h) (fun _ h => h) (fun u9 t9 H locs ht9 hvm9 hw9 hB9 hz9 hk9 hS => ?_)
        obtain ⟨en8w, mu8w⟩ := u9
        obtain ⟨hE8w, hF8w, hmu8w⟩ := hw9
        have hW : Wd D (z 0) en8w H := by rw [← ht9]; exact hB9
        dsimp only at hE8w hF8w hmu8w
        have hF8w := FM.tr hF1w hF8w
        have fM : en8w 20 0 = some (b 0, .inr (6, [.int (iZ (mu8w 0 0)), .int (iZ (mu8w 1 0)), .long (lZ (mu8w 2 0)), .int (iZ (mu8w 3 0)), .ref (b 4), .ref (b 5), .ref (b 6), .ref (b 7), .ref (b 8), .ref (b 9), .ref (b 10), .ref (b 11), .ref (b 12), .ref (b 13), .ref (b 14), .ref (b 15), .ref (b 16), .ref (b 17), .ref (b 18), .ref (b 19), .ref (b 20), .ref (b 21), .ref (b 22), .ref (b 23), .ref (b 24), .ref (b 25), .int (iZ (mu8w 26 0)), .ref (b 27), .ref (b 28), .ref (b 29), .ref (b 30), .ref (b 31), .ref (b 32), .ref (b 33), .ref (b 34), .int (iZ (mu8w 35 0)), .int (iZ (mu8w 36 0)), .int (iZ (mu8w 37 0)), .int (iZ (mu8w 38 0)), .int (iZ (mu8w 39 0)), .int (iZ (mu8w 40 0)), .ref (b 41), .ref (b 42)])) := hE8w.1
        have f6_ : en8w 26 0 = some (b 6, aZ dA (101) (mu8w 6)) := hE8w.2 6 (by decide)
        have f7_ : en8w 27 0 = some (b 7, aI dA (101) (mu8w 7)) := hE8w.2 7 (by decide)
        have f8_ : en8w 28 0 = some (b 8, aI dA (101) (mu8w 8)) := hE8w.2 8 (by decide)
        have f14_ : en8w 34 0 = some (b 14, aJ dA (101) (mu8w 14)) := hE8w.2 14 (by decide)
        replace t26_0 : mu8w 26 (0) = mu 26 (0) + 1 := by rw [hmu8w]; exact (mFl_n (fun q => absurd q.1 (by decide))).trans t26_0
        replace t2_0 : mu8w 2 (0) = mu 2 (0) := by rw [hmu8w]; exact (mFl_n (fun q => absurd q.1 (by decide))).trans t2_0
        replace t4_mm : mu8w 4 (mm) = mu 4 (mm) := by rw [hmu8w]; exact (mFl_n (fun q => absurd q.1 (by decide))).trans t4_mm
        replace t4_mm___1 : mu8w 4 (mm + 1) = mu 4 (mm + 1) := by rw [hmu8w]; exact (mFl_n (fun q => absurd q.1 (by decide))).trans t4_mm___1
        replace t7_mm : mu8w 7 (mm) = mu 7 (mm) := by rw [hmu8w]; exact (mFl_n (fun q => absurd q.1 (by decide))).trans t7_mm
        replace t8_mm : mu8w 8 (mm) = mu 8 (mm) := by rw [hmu8w]; exact (mFl_n (fun q => absurd q.1 (by decide))).trans t8_mm
        replace t9_mm : mu8w 9 (mm) = mu 9 (mm) := by rw [hmu8w]; exact (mFl_n (fun q => absurd q.1 (by decide))).trans t9_mm
        replace t6_mm : mu8w 6 (mm) = mu 6 (mm) := by rw [hmu8w]; exact (mFl_n (fun q => absurd q.1 (by decide))).trans t6_mm
        replace t13_mm : mu8w 13 (mm) = mu 13 (mm) := by rw [hmu8w]; exact (mFl_n (fun q => absurd q.1 (by decide))).trans t13_mm
        replace t14_mm : mu8w 14 (mm) = mu 14 (mm) := by rw [hmu8w]; exact (mFl_n (fun q => absurd q.1 (by decide))).trans t14_mm
        refine lv_aload_n hx hb dX4_start_92 rfl (lv_at hl 3 rfl) ?_
        refine g_get (C := RX4) (T := TX4) (N := 43) (ci := 6) (v := .ref (b 6)) hx hb hts hi6 hown hK hW fM rfl 6 (by decide) (hts (.fieldLink RX4 18 "LongTransferModel" "begun" "[Z") (by decide +kernel)) (fun _ h9 => h9) rfl dX4_start_93 ?_
        refine lv_iload_n hx hb dX4_start_96 rfl (lv_at hl 4 rfl) ?_
        refine z_iconst hx hb dX4_start_97 ?_
        refine g_zast (x := 1) hx hb hK hW hS f6_ (by omega) (by omega) (by omega) (by decide) dX4_start_98 (fun H locs hW hS => ?_)
        obtain ⟨en9w, hen9w⟩ : ∃ x : en_T, x = e2 en8w 26 0 (some (b 6, aZ dA (101) (uF (mu8w 6) (mm) (1)))) := ⟨_, rfl⟩
        rw [← hen9w] at hW
        obtain ⟨mu9w, hmu9w⟩ : ∃ x : Mu, x = u2 mu8w 6 (mm) (1) := ⟨_, rfl⟩
        have hE9w : EM dA b mu9w en9w := by rw [hen9w, hmu9w]; exact em_w hE8w (k0 := 6) (j := mm) (v := 1) (by decide)
        have hF9w : FM en8w en9w := fun k i q => by rw [hen9w]; exact e2_k (fun w => q (by rw [w]; decide))
        have hF9w := FM.tr hF8w hF9w
        replace t26_0 : mu9w 26 (0) = mu 26 (0) + 1 := by rw [hmu9w]; exact (u2_n (fun q => absurd q.1 (by decide))).trans t26_0
        replace t2_0 : mu9w 2 (0) = mu 2 (0) := by rw [hmu9w]; exact (u2_n (fun q => absurd q.1 (by decide))).trans t2_0
        replace t4_mm : mu9w 4 (mm) = mu 4 (mm) := by rw [hmu9w]; exact (u2_n (fun q => absurd q.1 (by decide))).trans t4_mm
        replace t4_mm___1 : mu9w 4 (mm + 1) = mu 4 (mm + 1) := by rw [hmu9w]; exact (u2_n (fun q => absurd q.1 (by decide))).trans t4_mm___1
        replace t7_mm : mu9w 7 (mm) = mu 7 (mm) := by rw [hmu9w]; exact (u2_n (fun q => absurd q.1 (by decide))).trans t7_mm
        replace t8_mm : mu9w 8 (mm) = mu 8 (mm) := by rw [hmu9w]; exact (u2_n (fun q => absurd q.1 (by decide))).trans t8_mm
        replace t9_mm : mu9w 9 (mm) = mu 9 (mm) := by rw [hmu9w]; exact (u2_n (fun q => absurd q.1 (by decide))).trans t9_mm
        replace t6_mm : mu9w 6 (mm) = 1 := by rw [hmu9w]; exact u2_s _ _ _ _
        replace t13_mm : mu9w 13 (mm) = mu 13 (mm) := by rw [hmu9w]; exact (u2_n (fun q => absurd q.1 (by decide))).trans t13_mm
        replace t14_mm : mu9w 14 (mm) = mu 14 (mm) := by rw [hmu9w]; exact (u2_n (fun q => absurd q.1 (by decide))).trans t14_mm
        have fM : en9w 20 0 = some (b 0, .inr (6, [.int (iZ (mu9w 0 0)), .int (iZ (mu9w 1 0)), .long (lZ (mu9w 2 0)), .int (iZ (mu9w 3 0)), .ref (b 4), .ref (b 5), .ref (b 6), .ref (b 7), .ref (b 8), .ref (b 9), .ref (b 10), .ref (b 11), .ref (b 12), .ref (b 13), .ref (b 14), .ref (b 15), .ref (b 16), .ref (b 17), .ref (b 18), .ref (b 19), .ref (b 20), .ref (b 21), .ref (b 22), .ref (b 23), .ref (b 24), .ref (b 25), .int (iZ (mu9w 26 0)), .ref (b 27), .ref (b 28), .ref (b 29), .ref (b 30), .ref (b 31), .ref (b 32), .ref (b 33), .ref (b 34), .int (iZ (mu9w 35 0)), .int (iZ (mu9w 36 0)), .int (iZ (mu9w 37 0)), .int (iZ (mu9w 38 0)), .int (iZ (mu9w 39 0)), .int (iZ (mu9w 40 0)), .ref (b 41), .ref (b 42)])) := hE9w.1
        have f6_ : en9w 26 0 = some (b 6, aZ dA (101) (mu9w 6)) := hE9w.2 6 (by decide)
        have f7_ : en9w 27 0 = some (b 7, aI dA (101) (mu9w 7)) := hE9w.2 7 (by decide)
        have f8_ : en9w 28 0 = some (b 8, aI dA (101) (mu9w 8)) := hE9w.2 8 (by decide)
        have f14_ : en9w 34 0 = some (b 14, aJ dA (101) (mu9w 14)) := hE9w.2 14 (by decide)
        refine lv_aload_n hx hb dX4_start_99 rfl (lv_at hl 3 rfl) ?_
        refine g_get (C := RX4) (T := TX4) (N := 43) (ci := 6) (v := .ref (b 8)) hx hb hts hi6 hown hK hW fM rfl 8 (by decide) (hts (.fieldLink RX4 25 "LongTransferModel" "sent" "[I") (by decide +kernel)) (fun _ h9 => h9) rfl dX4_start_100 ?_
        refine lv_iload_n hx hb dX4_start_103 rfl (lv_at hl 4 rfl) ?_
        refine lv_iload_n hx hb dX4_start_104 rfl (lv_at hl 2 rfl) ?_
        refine g_iast (x := 6) hx hb hK hW hS f8_ (by omega) (by omega) (by omega) dX4_start_105 (fun H locs hW hS => ?_)
        obtain ⟨en10w, hen10w⟩ : ∃ x : en_T, x = e2 en9w 28 0 (some (b 8, aI dA (101) (uF (mu9w 8) (mm) (6)))) := ⟨_, rfl⟩
        rw [← hen10w] at hW
        obtain ⟨mu10w, hmu10w⟩ : ∃ x : Mu, x = u2 mu9w 8 (mm) (6) := ⟨_, rfl⟩
        have hE10w : EM dA b mu10w en10w := by rw [hen10w, hmu10w]; exact em_w hE9w (k0 := 8) (j := mm) (v := 6) (by decide)
        have hF10w : FM en9w en10w := fun k i q => by rw [hen10w]; exact e2_k (fun w => q (by rw [w]; decide))
        have hF10w := FM.tr hF9w hF10w
        replace t26_0 : mu10w 26 (0) = mu 26 (0) + 1 := by rw [hmu10w]; exact (u2_n (fun q => absurd q.1 (by decide))).trans t26_0
        replace t2_0 : mu10w 2 (0) = mu 2 (0) := by rw [hmu10w]; exact (u2_n (fun q => absurd q.1 (by decide))).trans t2_0
        replace t4_mm : mu10w 4 (mm) = mu 4 (mm) := by rw [hmu10w]; exact (u2_n (fun q => absurd q.1 (by decide))).trans t4_mm
        replace t4_mm___1 : mu10w 4 (mm + 1) = mu 4 (mm + 1) := by rw [hmu10w]; exact (u2_n (fun q => absurd q.1 (by decide))).trans t4_mm___1
        replace t7_mm : mu10w 7 (mm) = mu 7 (mm) := by rw [hmu10w]; exact (u2_n (fun q => absurd q.1 (by decide))).trans t7_mm
        replace t8_mm : mu10w 8 (mm) = 6 := by rw [hmu10w]; exact u2_s _ _ _ _
        replace t9_mm : mu10w 9 (mm) = mu 9 (mm) := by rw [hmu10w]; exact (u2_n (fun q => absurd q.1 (by decide))).trans t9_mm
        replace t6_mm : mu10w 6 (mm) = 1 := by rw [hmu10w]; exact (u2_n (fun q => absurd q.1 (by decide))).trans t6_mm
        replace t13_mm : mu10w 13 (mm) = mu 13 (mm) := by rw [hmu10w]; exact (u2_n (fun q => absurd q.1 (by decide))).trans t13_mm
        replace t14_mm : mu10w 14 (mm) = mu 14 (mm) := by rw [hmu10w]; exact (u2_n (fun q => absurd q.1 (by decide))).trans t14_mm
        have fM : en10w 20 0 = some (b 0, .inr (6, [.int (iZ (mu10w 0 0)), .int (iZ (mu10w 1 0)), .long (lZ (mu10w 2 0)), .int (iZ (mu10w 3 0)), .ref (b 4), .ref (b 5), .ref (b 6), .ref (b 7), .ref (b 8), .ref (b 9), .ref (b 10), .ref (b 11), .ref (b 12), .ref (b 13), .ref (b 14), .ref (b 15), .ref (b 16), .ref (b 17), .ref (b 18), .ref (b 19), .ref (b 20), .ref (b 21), .ref (b 22), .ref (b 23), .ref (b 24), .ref (b 25), .int (iZ (mu10w 26 0)), .ref (b 27), .ref (b 28), .ref (b 29), .ref (b 30), .ref (b 31), .ref (b 32), .ref (b 33), .ref (b 34), .int (iZ (mu10w 35 0)), .int (iZ (mu10w 36 0)), .int (iZ (mu10w 37 0)), .int (iZ (mu10w 38 0)), .int (iZ (mu10w 39 0)), .int (iZ (mu10w 40 0)), .ref (b 41), .ref (b 42)])) := hE10w.1
        have f6_ : en10w 26 0 = some (b 6, aZ dA (101) (mu10w 6)) := hE10w.2 6 (by decide)
        have f7_ : en10w 27 0 = some (b 7, aI dA (101) (mu10w 7)) := hE10w.2 7 (by decide)
        have f8_ : en10w 28 0 = some (b 8, aI dA (101) (mu10w 8)) := hE10w.2 8 (by decide)
        have f14_ : en10w 34 0 = some (b 14, aJ dA (101) (mu10w 14)) := hE10w.2 14 (by decide)
        refine lv_aload_n hx hb dX4_start_106 rfl (lv_at hl 3 rfl) ?_
        refine g_get (C := RX4) (T := TX4) (N := 43) (ci := 6) (v := .ref (b 14)) hx hb hts hi6 hown hK hW fM rfl 14 (by decide) (hts (.fieldLink RX4 43 "LongTransferModel" "since" "[J") (by decide +kernel)) (fun _ h9 => h9) rfl dX4_start_107 ?_
        refine lv_iload_n hx hb dX4_start_110 rfl (lv_at hl 4 rfl) ?_
        refine lv_aload_n hx hb dX4_start_111 rfl (lv_at hl 3 rfl) ?_
        refine g_get (C := RX4) (T := TX4) (N := 43) (ci := 6) (v := .long (lZ (mu10w 2 0))) hx hb hts hi6 hown hK hW fM rfl 2 (by decide) (hts (.fieldLink RX4 137 "LongTransferModel" "now" "J") (by decide +kernel)) (fun _ h9 => h9) rfl dX4_start_112 ?_
        rw [t2_0]
        refine g_last (x := mu 2 (0)) hx hb hK hW hS f14_ (by omega) (by omega) (by omega) dX4_start_115 (fun H locs hW hS => ?_)
        obtain ⟨en11w, hen11w⟩ : ∃ x : en_T, x = e2 en10w 34 0 (some (b 14, aJ dA (101) (uF (mu10w 14) (mm) (mu 2 (0))))) := ⟨_, rfl⟩
        rw [← hen11w] at hW
        obtain ⟨mu11w, hmu11w⟩ : ∃ x : Mu, x = u2 mu10w 14 (mm) (mu 2 (0)) := ⟨_, rfl⟩
        have hE11w : EM dA b mu11w en11w := by rw [hen11w, hmu11w]; exact em_w hE10w (k0 := 14) (j := mm) (v := mu 2 (0)) (by decide)
        have hF11w : FM en10w en11w := fun k i q => by rw [hen11w]; exact e2_k (fun w => q (by rw [w]; decide))
        have hF11w := FM.tr hF10w hF11w
        replace t26_0 : mu11w 26 (0) = mu 26 (0) + 1 := by rw [hmu11w]; exact (u2_n (fun q => absurd q.1 (by decide))).trans t26_0
        replace t2_0 : mu11w 2 (0) = mu 2 (0) := by rw [hmu11w]; exact (u2_n (fun q => absurd q.1 (by decide))).trans t2_0
        replace t4_mm : mu11w 4 (mm) = mu 4 (mm) := by rw [hmu11w]; exact (u2_n (fun q => absurd q.1 (by decide))).trans t4_mm
        replace t4_mm___1 : mu11w 4 (mm + 1) = mu 4 (mm + 1) := by rw [hmu11w]; exact (u2_n (fun q => absurd q.1 (by decide))).trans t4_mm___1
        replace t7_mm : mu11w 7 (mm) = mu 7 (mm) := by rw [hmu11w]; exact (u2_n (fun q => absurd q.1 (by decide))).trans t7_mm
        replace t8_mm : mu11w 8 (mm) = 6 := by rw [hmu11w]; exact (u2_n (fun q => absurd q.1 (by decide))).trans t8_mm
        replace t9_mm : mu11w 9 (mm) = mu 9 (mm) := by rw [hmu11w]; exact (u2_n (fun q => absurd q.1 (by decide))).trans t9_mm
        replace t6_mm : mu11w 6 (mm) = 1 := by rw [hmu11w]; exact (u2_n (fun q => absurd q.1 (by decide))).trans t6_mm
        replace t13_mm : mu11w 13 (mm) = mu 13 (mm) := by rw [hmu11w]; exact (u2_n (fun q => absurd q.1 (by decide))).trans t13_mm
        replace t14_mm : mu11w 14 (mm) = mu 2 (0) := by rw [hmu11w]; exact u2_s _ _ _ _
        have fM : en11w 20 0 = some (b 0, .inr (6, [.int (iZ (mu11w 0 0)), .int (iZ (mu11w 1 0)), .long (lZ (mu11w 2 0)), .int (iZ (mu11w 3 0)), .ref (b 4), .ref (b 5), .ref (b 6), .ref (b 7), .ref (b 8), .ref (b 9), .ref (b 10), .ref (b 11), .ref (b 12), .ref (b 13), .ref (b 14), .ref (b 15), .ref (b 16), .ref (b 17), .ref (b 18), .ref (b 19), .ref (b 20), .ref (b 21), .ref (b 22), .ref (b 23), .ref (b 24), .ref (b 25), .int (iZ (mu11w 26 0)), .ref (b 27), .ref (b 28), .ref (b 29), .ref (b 30), .ref (b 31), .ref (b 32), .ref (b 33), .ref (b 34), .int (iZ (mu11w 35 0)), .int (iZ (mu11w 36 0)), .int (iZ (mu11w 37 0)), .int (iZ (mu11w 38 0)), .int (iZ (mu11w 39 0)), .int (iZ (mu11w 40 0)), .ref (b 41), .ref (b 42)])) := hE11w.1
        have f6_ : en11w 26 0 = some (b 6, aZ dA (101) (mu11w 6)) := hE11w.2 6 (by decide)
        have f7_ : en11w 27 0 = some (b 7, aI dA (101) (mu11w 7)) := hE11w.2 7 (by decide)
        have f8_ : en11w 28 0 = some (b 8, aI dA (101) (mu11w 8)) := hE11w.2 8 (by decide)
        have f14_ : en11w 34 0 = some (b 14, aJ dA (101) (mu11w 14)) := hE11w.2 14 (by decide)
        refine lv_aload_n hx hb dX4_start_116 rfl (lv_at hl 3 rfl) ?_
        refine g_get (C := RX4) (T := TX4) (N := 43) (ci := 6) (v := .ref (b 7)) hx hb hts hi6 hown hK hW fM rfl 7 (by decide) (hts (.fieldLink RX4 22 "LongTransferModel" "state" "[I") (by decide +kernel)) (fun _ h9 => h9) rfl dX4_start_117 ?_
        refine lv_iload_n hx hb dX4_start_120 rfl (lv_at hl 4 rfl) ?_
        refine lv_iload_n hx hb dX4_start_121 rfl (lv_at hl 1 rfl) ?_
        refine z_if_eq (tgt := 129) hx hb dX4_start_122 (by decide) (by omega) (fun _ => ?_) (fun c_q => absurd c_q (by omega))
        refine z_iconst hx hb dX4_start_129 ?_
        refine g_iast (x := 1) hx hb hK hW hS f7_ (by omega) (by omega) (by omega) dX4_start_130 (fun H locs hW hS => ?_)
        obtain ⟨en12w, hen12w⟩ : ∃ x : en_T, x = e2 en11w 27 0 (some (b 7, aI dA (101) (uF (mu11w 7) (mm) (1)))) := ⟨_, rfl⟩
        rw [← hen12w] at hW
        obtain ⟨mu12w, hmu12w⟩ : ∃ x : Mu, x = u2 mu11w 7 (mm) (1) := ⟨_, rfl⟩
        have hE12w : EM dA b mu12w en12w := by rw [hen12w, hmu12w]; exact em_w hE11w (k0 := 7) (j := mm) (v := 1) (by decide)
        have hF12w : FM en11w en12w := fun k i q => by rw [hen12w]; exact e2_k (fun w => q (by rw [w]; decide))
        have hF12w := FM.tr hF11w hF12w
        replace t26_0 : mu12w 26 (0) = mu 26 (0) + 1 := by rw [hmu12w]; exact (u2_n (fun q => absurd q.1 (by decide))).trans t26_0
        replace t2_0 : mu12w 2 (0) = mu 2 (0) := by rw [hmu12w]; exact (u2_n (fun q => absurd q.1 (by decide))).trans t2_0
        replace t4_mm : mu12w 4 (mm) = mu 4 (mm) := by rw [hmu12w]; exact (u2_n (fun q => absurd q.1 (by decide))).trans t4_mm
        replace t4_mm___1 : mu12w 4 (mm + 1) = mu 4 (mm + 1) := by rw [hmu12w]; exact (u2_n (fun q => absurd q.1 (by decide))).trans t4_mm___1
        replace t7_mm : mu12w 7 (mm) = 1 := by rw [hmu12w]; exact u2_s _ _ _ _
        replace t8_mm : mu12w 8 (mm) = 6 := by rw [hmu12w]; exact (u2_n (fun q => absurd q.1 (by decide))).trans t8_mm
        replace t9_mm : mu12w 9 (mm) = mu 9 (mm) := by rw [hmu12w]; exact (u2_n (fun q => absurd q.1 (by decide))).trans t9_mm
        replace t6_mm : mu12w 6 (mm) = 1 := by rw [hmu12w]; exact (u2_n (fun q => absurd q.1 (by decide))).trans t6_mm
        replace t13_mm : mu12w 13 (mm) = mu 13 (mm) := by rw [hmu12w]; exact (u2_n (fun q => absurd q.1 (by decide))).trans t13_mm
        replace t14_mm : mu12w 14 (mm) = mu 2 (0) := by rw [hmu12w]; exact (u2_n (fun q => absurd q.1 (by decide))).trans t14_mm
        have fM : en12w 20 0 = some (b 0, .inr (6, [.int (iZ (mu12w 0 0)), .int (iZ (mu12w 1 0)), .long (lZ (mu12w 2 0)), .int (iZ (mu12w 3 0)), .ref (b 4), .ref (b 5), .ref (b 6), .ref (b 7), .ref (b 8), .ref (b 9), .ref (b 10), .ref (b 11), .ref (b 12), .ref (b 13), .ref (b 14), .ref (b 15), .ref (b 16), .ref (b 17), .ref (b 18), .ref (b 19), .ref (b 20), .ref (b 21), .ref (b 22), .ref (b 23), .ref (b 24), .ref (b 25), .int (iZ (mu12w 26 0)), .ref (b 27), .ref (b 28), .ref (b 29), .ref (b 30), .ref (b 31), .ref (b 32), .ref (b 33), .ref (b 34), .int (iZ (mu12w 35 0)), .int (iZ (mu12w 36 0)), .int (iZ (mu12w 37 0)), .int (iZ (mu12w 38 0)), .int (iZ (mu12w 39 0)), .int (iZ (mu12w 40 0)), .ref (b 41), .ref (b 42)])) := hE12w.1
        have f6_ : en12w 26 0 = some (b 6, aZ dA (101) (mu12w 6)) := hE12w.2 6 (by decide)
        have f7_ : en12w 27 0 = some (b 7, aI dA (101) (mu12w 7)) := hE12w.2 7 (by decide)
        have f8_ : en12w 28 0 = some (b 8, aI dA (101) (mu12w 8)) := hE12w.2 8 (by decide)
        have f14_ : en12w 34 0 = some (b 14, aJ dA (101) (mu12w 14)) := hE12w.2 14 (by decide)
        refine lv_iload hx hb dX4_start_131 (lv_at hl 0 rfl) ?_
        refine z_if_ne (tgt := 143) hx hb dX4_start_133 (by decide) (by omega) (fun _ => ?_) (fun c_q => absurd c_q (by omega))
        obtain ⟨vs, vg⟩ := v_s2 (g := g) (m := mm) hmm (by omega) (by omega) (mo := 6) (by omega)
        have hN : RN (sSt1 g) mu12w mm := RN_1 (by rw [vs.2.2.2.2.2, t6_mm, if_pos (Int.le_refl mm)]) (by omega) vs.1 (by omega) (by omega) (by omega) (by omega) (by omega) (by omega)
        have hmd : ∀ (t : Nat) (j : Int), ¬ (6 ≤ t ∧ t ≤ 15 ∧ j = mm) → mu12w t j = mFl (mMk mu 1 mm (g 11 mm 0) (6) 0) (mu 26 0 + 1) mm 0 (6) t j := fun t j q => by rw [hmu12w, u2_n (by omega), hmu11w, u2_n (by omega), hmu10w, u2_n (by omega), hmu9w, u2_n (by omega), hmu8w, hmk, show mu 4 (mm + 1) - mu 4 mm = g 11 mm 0 by omega]
        have hpst : Rl (sSt1 g) mu12w := rl_d hI hR (m := mm) (kd := 1) (nu := g 11 mm 0) (mo := 6) (by omega) (by omega) (by omega) (by omega) (by omega) vg (fun j q => by rw [vs.2.2.2.2.2]; exact propext ⟨fun _ => by omega, fun _ => by omega⟩) (fun t j q => rfl) rfl (by omega) (by omega) hmd hN
        exact W.vret hx hb hr (fun t ht hw => ⟨⟨(en12w, mu12w), rfl, ⟨hE12w, hF12w, hpst⟩, by show Wd _ _ _ t.heap; rw [ht]; exact hW⟩, hS.F ht⟩) hS.2.2 dX4_start_143
    · refine z_iconst hx hb dX4_start_29 ?_
      refine lv_goto (tgt := 35) hx hb dX4_start_30 (by decide) ?_
      refine lv_istore_n (lv' := [(2, .int (iZ (2))), (0, .ref (b 0)), (1, .int (iZ (mm)))]) hx hb dX4_start_35 rfl hl (by decide) rfl (fun ls hl => ?_)
      refine lv_aload_n hx hb dX4_start_36 rfl (lv_at hl 1 rfl) ?_
      refine lv_iload_n hx hb dX4_start_37 rfl (lv_at hl 2 rfl) ?_
      refine va_calli (va_runV (As := [.int (iZ (mm))]) (rest := []) ⟨hx, hb, hml, hown, hts⟩ (c_X4_size l D dA z en b mu mm (by omega) (by omega) hE) (cwV 1 hts gX4_start_X4_size rfl rfl rfl (by decide +kernel) ⟨Nat.le_of_ble_eq_true rfl, Nat.le_of_ble_eq_true rfl⟩) ⟨gBl, gRecv hK hW (ci := 6) rfl fM, gPre _ hg hS hW⟩ rfl rfl hl.1 rfl (lv_room (Nat.le_of_ble_eq_true rfl)) dX4_start_38 ⟨(show 0 + 0 + 0 + 0 ≤ 0 by omega), (show 0 + 0 + 0 + 0 ≤ 0 by omega)⟩) hS (fun _ _ h => h) (fun _ h => h) (fun r9 u9 t9 H locs ht9 hvm9 hw9 hB9 hz9 hk9 hS => ?_)
      have hW : Wd D (z 0) en H := by rw [← ht9]; exact hB9
      subst hw9
      refine z_bipush hx hb dX4_start_41 (by decide) ?_
      refine z_icmp_ge (tgt := 50) hx hb dX4_start_43 (by decide) (by omega) (by omega) (fun _ => ?_) (fun c_q => absurd c_q (by omega))
      refine z_iconst hx hb dX4_start_50 ?_
      refine lv_istore_n (lv' := [(3, .int (iZ (0))), (2, .int (iZ (2))), (0, .ref (b 0)), (1, .int (iZ (mm)))]) hx hb dX4_start_51 rfl hl (by decide) rfl (fun ls hl => ?_)
      refine lv_aload_n hx hb dX4_start_52 rfl (lv_at hl 2 rfl) ?_
      refine lv_iload_n hx hb dX4_start_53 rfl (lv_at hl 0 rfl) ?_
      refine z_if_eq (tgt := 61) hx hb dX4_start_54 (by decide) (by omega) (fun _ => ?_) (fun c_q => absurd c_q (by omega))
      refine z_iconst hx hb dX4_start_61 ?_
      refine lv_iload_n hx hb dX4_start_62 rfl (lv_at hl 3 rfl) ?_
      refine lv_iload_n hx hb dX4_start_63 rfl (lv_at hl 0 rfl) ?_
      refine z_if_eq (tgt := 71) hx hb dX4_start_64 (by decide) (by omega) (fun _ => ?_) (fun c_q => absurd c_q (by omega))
      refine lv_aload_n hx hb dX4_start_71 rfl (lv_at hl 2 rfl) ?_
      refine lv_iload_n hx hb dX4_start_72 rfl (lv_at hl 3 rfl) ?_
      refine va_calli (va_runV (As := [.int (iZ (mm))]) (rest := [.int (iZ (mm)), .int (iZ (1)), .ref (b 0)]) ⟨hx, hb, hml, hown, hts⟩ (c_X4_size l D dA z en b mu mm (by omega) (by omega) hE) (cwV 1 hts gX4_start_X4_size rfl rfl rfl (by decide +kernel) ⟨Nat.le_of_ble_eq_true rfl, Nat.le_of_ble_eq_true rfl⟩) ⟨gBl, gRecv hK hW (ci := 6) rfl fM, gPre _ hg hS hW⟩ rfl rfl hl.1 rfl (lv_room (Nat.le_of_ble_eq_true rfl)) dX4_start_73 ⟨(show 0 + 0 + 0 + 0 + 0 ≤ 0 by omega), (show 0 + 0 + 0 + 0 + 0 ≤ 0 by omega)⟩) hS (fun _ _ h => h) (fun _ h => h) (fun r9 u9 t9 H locs ht9 hvm9 hw9 hB9 hz9 hk9 hS => ?_)
      have hW : Wd D (z 0) en H := by rw [← ht9]; exact hB9
      subst hw9
      refine lv_iload_n hx hb dX4_start_76 rfl (lv_at hl 1 rfl) ?_
      refine z_iconst hx hb dX4_start_77 ?_
      refine va_calli (va_runV (As := [.int (iZ (1)), .int (iZ (mm)), .int (iZ (mu 4 (mm + 1) - mu 4 mm)), .int (iZ (2)), .int (iZ (0))]) (rest := []) ⟨hx, hb, hml, hown, hts⟩ (c_X4_make l D dA z en b mu 1 mm (mu 4 (mm + 1) - mu 4 mm) 2 0 (by omega) (by omega) hE) (cwV 5 hts gX4_start_X4_make rfl rfl rfl (by decide +kernel) ⟨Nat.le_of_ble_eq_true rfl, Nat.le_of_ble_eq_true rfl⟩) ⟨gBl, gRecv hK hW (ci := 6) rfl fM, gPre _ hg hS hW⟩ rfl rfl hl.1 rfl (lv_room (Nat.le_of_ble_eq_true rfl)) dX4_start_78 ⟨(show 0 + 0 + 0 + 0 + 0 + 0 ≤ 0 by omega), (show 0 + 0 + 0 + 0 + 0 + 0 ≤ 0 by omega)⟩) hS (fun _ _ h => h) (fun _ h => h) (fun r9 u9 t9 H locs ht9 hvm9 hw9 hB9 hz9 hk9 hS => ?_)
      obtain ⟨en13w, mu13w⟩ := u9
      obtain ⟨hr9, hE13w, hF13w, hmu13w⟩ := hw9
      have hW : Wd D (z 0) en13w H := by rw [← ht9]; exact hB9
      dsimp only at hE13w hF13w hmu13w
      subst hr9
      have fM : en13w 20 0 = some (b 0, .inr (6, [.int (iZ (mu13w 0 0)), .int (iZ (mu13w 1 0)), .long (lZ (mu13w 2 0)), .int (iZ (mu13w 3 0)), .ref (b 4), .ref (b 5), .ref (b 6), .ref (b 7), .ref (b 8), .ref (b 9), .ref (b 10), .ref (b 11), .ref (b 12), .ref (b 13), .ref (b 14), .ref (b 15), .ref (b 16), .ref (b 17), .ref (b 18), .ref (b 19), .ref (b 20), .ref (b 21), .ref (b 22), .ref (b 23), .ref (b 24), .ref (b 25), .int (iZ (mu13w 26 0)), .ref (b 27), .ref (b 28), .ref (b 29), .ref (b 30), .ref (b 31), .ref (b 32), .ref (b 33), .ref (b 34), .int (iZ (mu13w 35 0)), .int (iZ (mu13w 36 0)), .int (iZ (mu13w 37 0)), .int (iZ (mu13w 38 0)), .int (iZ (mu13w 39 0)), .int (iZ (mu13w 40 0)), .ref (b 41), .ref (b 42)])) := hE13w.1
      have f6_ : en13w 26 0 = some (b 6, aZ dA (101) (mu13w 6)) := hE13w.2 6 (by decide)
      have f7_ : en13w 27 0 = some (b 7, aI dA (101) (mu13w 7)) := hE13w.2 7 (by decide)
      have f8_ : en13w 28 0 = some (b 8, aI dA (101) (mu13w 8)) := hE13w.2 8 (by decide)
      have f14_ : en13w 34 0 = some (b 14, aJ dA (101) (mu13w 14)) := hE13w.2 14 (by decide)
      have t26b : mu 26 0 = mu 26 (0) := by first | exact t26_0 | rfl
      by_cases hful : mu 26 0 = 6000
      · rw [if_pos hful]
        have hmk : mu13w = mu := by rw [hmu13w]; exact if_pos hful
        replace t26_0 : mu13w 26 (0) = mu 26 (0) := (congrFun (congrFun hmk 26) (0)).trans t26_0
        replace t2_0 : mu13w 2 (0) = mu 2 (0) := (congrFun (congrFun hmk 2) (0)).trans t2_0
        replace t4_mm : mu13w 4 (mm) = mu 4 (mm) := (congrFun (congrFun hmk 4) (mm)).trans t4_mm
        replace t4_mm___1 : mu13w 4 (mm + 1) = mu 4 (mm + 1) := (congrFun (congrFun hmk 4) (mm + 1)).trans t4_mm___1
        replace t7_mm : mu13w 7 (mm) = mu 7 (mm) := (congrFun (congrFun hmk 7) (mm)).trans t7_mm
        replace t8_mm : mu13w 8 (mm) = mu 8 (mm) := (congrFun (congrFun hmk 8) (mm)).trans t8_mm
        replace t9_mm : mu13w 9 (mm) = mu 9 (mm) := (congrFun (congrFun hmk 9) (mm)).trans t9_mm
        replace t6_mm : mu13w 6 (mm) = mu 6 (mm) := (congrFun (congrFun hmk 6) (mm)).trans t6_mm
        replace t13_mm : mu13w 13 (mm) = mu 13 (mm) := (congrFun (congrFun hmk 13) (mm)).trans t13_mm
        replace t14_mm : mu13w 14 (mm) = mu 14 (mm) := (congrFun (congrFun hmk 14) (mm)).trans t14_mm
        refine lv_istore (lv' := [(4, .int (iZ (0))), (3, .int (iZ (0))), (2, .int (iZ (2))), (0, .ref (b 0)), (1, .int (iZ (mm)))]) hx hb dX4_start_81 hl (by decide) rfl (fun ls hl => ?_)
        refine lv_aload_n hx hb dX4_start_83 rfl (lv_at hl 3 rfl) ?_
        refine lv_iload hx hb dX4_start_84 (lv_at hl 0 rfl) ?_
        refine lv_iload_n hx hb dX4_start_86 rfl (lv_at hl 4 rfl) ?_
        refine z_iconst hx hb dX4_start_87 ?_
        refine lv_iload_n hx hb dX4_start_88 rfl (lv_at hl 2 rfl) ?_
        refine va_callv (va_runV (As := [.int (iZ (0)), .int (iZ (mm)), .int (iZ (0)), .int (iZ (2))]) (rest := []) ⟨hx, hb, hml, hown, hts⟩ (c_X4_fill0 l D dA z en13w b mu13w mm 0 2 (by omega) (by omega) hE13w) (cwV 4 hts gX4_start_X4_fill rfl rfl rfl (by decide +kernel) ⟨Nat.le_of_ble_eq_true rfl, Nat.le_of_ble_eq_true rfl⟩) ⟨gBl, gRecv hK hW (ci := 6) rfl fM, gPre _ hg hS hW⟩ rfl rfl hl.1 rfl (lv_room (Nat.le_of_ble_eq_true rfl)) dX4_start_89 ⟨(show 0 + 0 + 0 + 0 + 0 + 0 + 0 ≤ 0 by omega), (show 0 + 0 + 0 + 0 + 0 + 0 + 0 ≤ 0 by omega)⟩) hS (fun _ _ h => h) (fun _ h => h) (fun u9 t9 H locs ht9 hvm9 hw9 hB9 hz9 hk9 hS => ?_)
        obtain ⟨en14w, mu14w⟩ := u9
        obtain ⟨hE14w, hF14w, hmu14w⟩ := hw9
        have hW : Wd D (z 0) en14w H := by rw [← ht9]; exact hB9
        dsimp only at hE14w hF14w hmu14w
        have hF14w := FM.tr hF13w hF14w
        have fM : en14w 20 0 = some (b 0, .inr (6, [.int (iZ (mu14w 0 0)), .int (iZ (mu14w 1 0)), .long (lZ (mu14w 2 0)), .int (iZ (mu14w 3 0)), .ref (b 4), .ref (b 5), .ref (b 6), .ref (b 7), .ref (b 8), .ref (b 9), .ref (b 10), .ref (b 11), .ref (b 12), .ref (b 13), .ref (b 14), .ref (b 15), .ref (b 16), .ref (b 17), .ref (b 18), .ref (b 19), .ref (b 20), .ref (b 21), .ref (b 22), .ref (b 23), .ref (b 24), .ref (b 25), .int (iZ (mu14w 26 0)), .ref (b 27), .ref (b 28), .ref (b 29), .ref (b 30), .ref (b 31), .ref (b 32), .ref (b 33), .ref (b 34), .int (iZ (mu14w 35 0)), .int (iZ (mu14w 36 0)), .int (iZ (mu14w 37 0)), .int (iZ (mu14w 38 0)), .int (iZ (mu14w 39 0)), .int (iZ (mu14w 40 0)), .ref (b 41), .ref (b 42)])) := hE14w.1
        have f6_ : en14w 26 0 = some (b 6, aZ dA (101) (mu14w 6)) := hE14w.2 6 (by decide)
        have f7_ : en14w 27 0 = some (b 7, aI dA (101) (mu14w 7)) := hE14w.2 7 (by decide)
        have f8_ : en14w 28 0 = some (b 8, aI dA (101) (mu14w 8)) := hE14w.2 8 (by decide)
        have f14_ : en14w 34 0 = some (b 14, aJ dA (101) (mu14w 14)) := hE14w.2 14 (by decide)
        replace t26_0 : mu14w 26 (0) = mu 26 (0) := (congrFun (congrFun hmu14w 26) (0)).trans t26_0
        replace t2_0 : mu14w 2 (0) = mu 2 (0) := (congrFun (congrFun hmu14w 2) (0)).trans t2_0
        replace t4_mm : mu14w 4 (mm) = mu 4 (mm) := (congrFun (congrFun hmu14w 4) (mm)).trans t4_mm
        replace t4_mm___1 : mu14w 4 (mm + 1) = mu 4 (mm + 1) := (congrFun (congrFun hmu14w 4) (mm + 1)).trans t4_mm___1
        replace t7_mm : mu14w 7 (mm) = mu 7 (mm) := (congrFun (congrFun hmu14w 7) (mm)).trans t7_mm
        replace t8_mm : mu14w 8 (mm) = mu 8 (mm) := (congrFun (congrFun hmu14w 8) (mm)).trans t8_mm
        replace t9_mm : mu14w 9 (mm) = mu 9 (mm) := (congrFun (congrFun hmu14w 9) (mm)).trans t9_mm
        replace t6_mm : mu14w 6 (mm) = mu 6 (mm) := (congrFun (congrFun hmu14w 6) (mm)).trans t6_mm
        replace t13_mm : mu14w 13 (mm) = mu 13 (mm) := (congrFun (congrFun hmu14w 13) (mm)).trans t13_mm
        replace t14_mm : mu14w 14 (mm) = mu 14 (mm) := (congrFun (congrFun hmu14w 14) (mm)).trans t14_mm
        refine lv_aload_n hx hb dX4_start_92 rfl (lv_at hl 3 rfl) ?_
        refine g_get (C := RX4) (T := TX4) (N := 43) (ci := 6) (v := .ref (b 6)) hx hb hts hi6 hown hK hW fM rfl 6 (by decide) (hts (.fieldLink RX4 18 "LongTransferModel" "begun" "[Z") (by decide +kernel)) (fun _ h9 => h9) rfl dX4_start_93 ?_
        refine lv_iload_n hx hb dX4_start_96 rfl (lv_at hl 4 rfl) ?_
        refine z_iconst hx hb dX4_start_97 ?_
        refine g_zast (x := 1) hx hb hK hW hS f6_ (by omega) (by omega) (by omega) (by decide) dX4_start_98 (fun H locs hW hS => ?_)
        obtain ⟨en15w, hen15w⟩ : ∃ x : en_T, x = e2 en14w 26 0 (some (b 6, aZ dA (101) (uF (mu14w 6) (mm) (1)))) := ⟨_, rfl⟩
        rw [← hen15w] at hW
        obtain ⟨mu15w, hmu15w⟩ : ∃ x : Mu, x = u2 mu14w 6 (mm) (1) := ⟨_, rfl⟩
        have hE15w : EM dA b mu15w en15w := by rw [hen15w, hmu15w]; exact em_w hE14w (k0 := 6) (j := mm) (v := 1) (by decide)
        have hF15w : FM en14w en15w := fun k i q => by rw [hen15w]; exact e2_k (fun w => q (by rw [w]; decide))
        have hF15w := FM.tr hF14w hF15w
        replace t26_0 : mu15w 26 (0) = mu 26 (0) := by rw [hmu15w]; exact (u2_n (fun q => absurd q.1 (by decide))).trans t26_0
        replace t2_0 : mu15w 2 (0) = mu 2 (0) := by rw [hmu15w]; exact (u2_n (fun q => absurd q.1 (by decide))).trans t2_0
        replace t4_mm : mu15w 4 (mm) = mu 4 (mm) := by rw [hmu15w]; exact (u2_n (fun q => absurd q.1 (by decide))).trans t4_mm
        replace t4_mm___1 : mu15w 4 (mm + 1) = mu 4 (mm + 1) := by rw [hmu15w]; exact (u2_n (fun q => absurd q.1 (by decide))).trans t4_mm___1
        replace t7_mm : mu15w 7 (mm) = mu 7 (mm) := by rw [hmu15w]; exact (u2_n (fun q => absurd q.1 (by decide))).trans t7_mm
        replace t8_mm : mu15w 8 (mm) = mu 8 (mm) := by rw [hmu15w]; exact (u2_n (fun q => absurd q.1 (by decide))).trans t8_mm
        replace t9_mm : mu15w 9 (mm) = mu 9 (mm) := by rw [hmu15w]; exact (u2_n (fun q => absurd q.1 (by decide))).trans t9_mm
        replace t6_mm : mu15w 6 (mm) = 1 := by rw [hmu15w]; exact u2_s _ _ _ _
        replace t13_mm : mu15w 13 (mm) = mu 13 (mm) := by rw [hmu15w]; exact (u2_n (fun q => absurd q.1 (by decide))).trans t13_mm
        replace t14_mm : mu15w 14 (mm) = mu 14 (mm) := by rw [hmu15w]; exact (u2_n (fun q => absurd q.1 (by decide))).trans t14_mm
        have fM : en15w 20 0 = some (b 0, .inr (6, [.int (iZ (mu15w 0 0)), .int (iZ (mu15w 1 0)), .long (lZ (mu15w 2 0)), .int (iZ (mu15w 3 0)), .ref (b 4), .ref (b 5), .ref (b 6), .ref (b 7), .ref (b 8), .ref (b 9), .ref (b 10), .ref (b 11), .ref (b 12), .ref (b 13), .ref (b 14), .ref (b 15), .ref (b 16), .ref (b 17), .ref (b 18), .ref (b 19), .ref (b 20), .ref (b 21), .ref (b 22), .ref (b 23), .ref (b 24), .ref (b 25), .int (iZ (mu15w 26 0)), .ref (b 27), .ref (b 28), .ref (b 29), .ref (b 30), .ref (b 31), .ref (b 32), .ref (b 33), .ref (b 34), .int (iZ (mu15w 35 0)), .int (iZ (mu15w 36 0)), .int (iZ (mu15w 37 0)), .int (iZ (mu15w 38 0)), .int (iZ (mu15w 39 0)), .int (iZ (mu15w 40 0)), .ref (b 41), .ref (b 42)])) := hE15w.1
        have f6_ : en15w 26 0 = some (b 6, aZ dA (101) (mu15w 6)) := hE15w.2 6 (by decide)
        have f7_ : en15w 27 0 = some (b 7, aI dA (101) (mu15w 7)) := hE15w.2 7 (by decide)
        have f8_ : en15w 28 0 = some (b 8, aI dA (101) (mu15w 8)) := hE15w.2 8 (by decide)
        have f14_ : en15w 34 0 = some (b 14, aJ dA (101) (mu15w 14)) := hE15w.2 14 (by decide)
        refine lv_aload_n hx hb dX4_start_99 rfl (lv_at hl 3 rfl) ?_
        refine g_get (C := RX4) (T := TX4) (N := 43) (ci := 6) (v := .ref (b 8)) hx hb hts hi6 hown hK hW fM rfl 8 (by decide) (hts (.fieldLink RX4 25 "LongTransferModel" "sent" "[I") (by decide +kernel)) (fun _ h9 => h9) rfl dX4_start_100 ?_
        refine lv_iload_n hx hb dX4_start_103 rfl (lv_at hl 4 rfl) ?_
        refine lv_iload_n hx hb dX4_start_104 rfl (lv_at hl 2 rfl) ?_
        refine g_iast (x := 2) hx hb hK hW hS f8_ (by omega) (by omega) (by omega) dX4_start_105 (fun H locs hW hS => ?_)
        obtain ⟨en16w, hen16w⟩ : ∃ x : en_T, x = e2 en15w 28 0 (some (b 8, aI dA (101) (uF (mu15w 8) (mm) (2)))) := ⟨_, rfl⟩
        rw [← hen16w] at hW
        obtain ⟨mu16w, hmu16w⟩ : ∃ x : Mu, x = u2 mu15w 8 (mm) (2) := ⟨_, rfl⟩
        have hE16w : EM dA b mu16w en16w := by rw [hen16w, hmu16w]; exact em_w hE15w (k0 := 8) (j := mm) (v := 2) (by decide)
        have hF16w : FM en15w en16w := fun k i q => by rw [hen16w]; exact e2_k (fun w => q (by rw [w]; decide))
        have hF16w := FM.tr hF15w hF16w
        replace t26_0 : mu16w 26 (0) = mu 26 (0) := by rw [hmu16w]; exact (u2_n (fun q => absurd q.1 (by decide))).trans t26_0
        replace t2_0 : mu16w 2 (0) = mu 2 (0) := by rw [hmu16w]; exact (u2_n (fun q => absurd q.1 (by decide))).trans t2_0
        replace t4_mm : mu16w 4 (mm) = mu 4 (mm) := by rw [hmu16w]; exact (u2_n (fun q => absurd q.1 (by decide))).trans t4_mm
        replace t4_mm___1 : mu16w 4 (mm + 1) = mu 4 (mm + 1) := by rw [hmu16w]; exact (u2_n (fun q => absurd q.1 (by decide))).trans t4_mm___1
        replace t7_mm : mu16w 7 (mm) = mu 7 (mm) := by rw [hmu16w]; exact (u2_n (fun q => absurd q.1 (by decide))).trans t7_mm
        replace t8_mm : mu16w 8 (mm) = 2 := by rw [hmu16w]; exact u2_s _ _ _ _
        replace t9_mm : mu16w 9 (mm) = mu 9 (mm) := by rw [hmu16w]; exact (u2_n (fun q => absurd q.1 (by decide))).trans t9_mm
        replace t6_mm : mu16w 6 (mm) = 1 := by rw [hmu16w]; exact (u2_n (fun q => absurd q.1 (by decide))).trans t6_mm
        replace t13_mm : mu16w 13 (mm) = mu 13 (mm) := by rw [hmu16w]; exact (u2_n (fun q => absurd q.1 (by decide))).trans t13_mm
        replace t14_mm : mu16w 14 (mm) = mu 14 (mm) := by rw [hmu16w]; exact (u2_n (fun q => absurd q.1 (by decide))).trans t14_mm
        have fM : en16w 20 0 = some (b 0, .inr (6, [.int (iZ (mu16w 0 0)), .int (iZ (mu16w 1 0)), .long (lZ (mu16w 2 0)), .int (iZ (mu16w 3 0)), .ref (b 4), .ref (b 5), .ref (b 6), .ref (b 7), .ref (b 8), .ref (b 9), .ref (b 10), .ref (b 11), .ref (b 12), .ref (b 13), .ref (b 14), .ref (b 15), .ref (b 16), .ref (b 17), .ref (b 18), .ref (b 19), .ref (b 20), .ref (b 21), .ref (b 22), .ref (b 23), .ref (b 24), .ref (b 25), .int (iZ (mu16w 26 0)), .ref (b 27), .ref (b 28), .ref (b 29), .ref (b 30), .ref (b 31), .ref (b 32), .ref (b 33), .ref (b 34), .int (iZ (mu16w 35 0)), .int (iZ (mu16w 36 0)), .int (iZ (mu16w 37 0)), .int (iZ (mu16w 38 0)), .int (iZ (mu16w 39 0)), .int (iZ (mu16w 40 0)), .ref (b 41), .ref (b 42)])) := hE16w.1
        have f6_ : en16w 26 0 = some (b 6, aZ dA (101) (mu16w 6)) := hE16w.2 6 (by decide)
        have f7_ : en16w 27 0 = some (b 7, aI dA (101) (mu16w 7)) := hE16w.2 7 (by decide)
        have f8_ : en16w 28 0 = some (b 8, aI dA (101) (mu16w 8)) := hE16w.2 8 (by decide)
        have f14_ : en16w 34 0 = some (b 14, aJ dA (101) (mu16w 14)) := hE16w.2 14 (by decide)
        refine lv_aload_n hx hb dX4_start_106 rfl (lv_at hl 3 rfl) ?_
        refine g_get (C := RX4) (T := TX4) (N := 43) (ci := 6) (v := .ref (b 14)) hx hb hts hi6 hown hK hW fM rfl 14 (by decide) (hts (.fieldLink RX4 43 "LongTransferModel" "since" "[J") (by decide +kernel)) (fun _ h9 => h9) rfl dX4_start_107 ?_
        refine lv_iload_n hx hb dX4_start_110 rfl (lv_at hl 4 rfl) ?_
        refine lv_aload_n hx hb dX4_start_111 rfl (lv_at hl 3 rfl) ?_
        refine g_get (C := RX4) (T := TX4) (N := 43) (ci := 6) (v := .long (lZ (mu16w 2 0))) hx hb hts hi6 hown hK hW fM rfl 2 (by decide) (hts (.fieldLink RX4 137 "LongTransferModel" "now" "J") (by decide +kernel)) (fun _ h9 => h9) rfl dX4_start_112 ?_
        rw [t2_0]
        refine g_last (x := mu 2 (0)) hx hb hK hW hS f14_ (by omega) (by omega) (by omega) dX4_start_115 (fun H locs hW hS => ?_)
        obtain ⟨en17w, hen17w⟩ : ∃ x : en_T, x = e2 en16w 34 0 (some (b 14, aJ dA (101) (uF (mu16w 14) (mm) (mu 2 (0))))) := ⟨_, rfl⟩
        rw [← hen17w] at hW
        obtain ⟨mu17w, hmu17w⟩ : ∃ x : Mu, x = u2 mu16w 14 (mm) (mu 2 (0)) := ⟨_, rfl⟩
        have hE17w : EM dA b mu17w en17w := by rw [hen17w, hmu17w]; exact em_w hE16w (k0 := 14) (j := mm) (v := mu 2 (0)) (by decide)
        have hF17w : FM en16w en17w := fun k i q => by rw [hen17w]; exact e2_k (fun w => q (by rw [w]; decide))
        have hF17w := FM.tr hF16w hF17w
        replace t26_0 : mu17w 26 (0) = mu 26 (0) := by rw [hmu17w]; exact (u2_n (fun q => absurd q.1 (by decide))).trans t26_0
        replace t2_0 : mu17w 2 (0) = mu 2 (0) := by rw [hmu17w]; exact (u2_n (fun q => absurd q.1 (by decide))).trans t2_0
        replace t4_mm : mu17w 4 (mm) = mu 4 (mm) := by rw [hmu17w]; exact (u2_n (fun q => absurd q.1 (by decide))).trans t4_mm
        replace t4_mm___1 : mu17w 4 (mm + 1) = mu 4 (mm + 1) := by rw [hmu17w]; exact (u2_n (fun q => absurd q.1 (by decide))).trans t4_mm___1
        replace t7_mm : mu17w 7 (mm) = mu 7 (mm) := by rw [hmu17w]; exact (u2_n (fun q => absurd q.1 (by decide))).trans t7_mm
        replace t8_mm : mu17w 8 (mm) = 2 := by rw [hmu17w]; exact (u2_n (fun q => absurd q.1 (by decide))).trans t8_mm
        replace t9_mm : mu17w 9 (mm) = mu 9 (mm) := by rw [hmu17w]; exact (u2_n (fun q => absurd q.1 (by decide))).trans t9_mm
        replace t6_mm : mu17w 6 (mm) = 1 := by rw [hmu17w]; exact (u2_n (fun q => absurd q.1 (by decide))).trans t6_mm
        replace t13_mm : mu17w 13 (mm) = mu 13 (mm) := by rw [hmu17w]; exact (u2_n (fun q => absurd q.1 (by decide))).trans t13_mm
        replace t14_mm : mu17w 14 (mm) = mu 2 (0) := by rw [hmu17w]; exact u2_s _ _ _ _
        have fM : en17w 20 0 = some (b 0, .inr (6, [.int (iZ (mu17w 0 0)), .int (iZ (mu17w 1 0)), .long (lZ (mu17w 2 0)), .int (iZ (mu17w 3 0)), .ref (b 4), .ref (b 5), .ref (b 6), .ref (b 7), .ref (b 8), .ref (b 9), .ref (b 10), .ref (b 11), .ref (b 12), .ref (b 13), .ref (b 14), .ref (b 15), .ref (b 16), .ref (b 17), .ref (b 18), .ref (b 19), .ref (b 20), .ref (b 21), .ref (b 22), .ref (b 23), .ref (b 24), .ref (b 25), .int (iZ (mu17w 26 0)), .ref (b 27), .ref (b 28), .ref (b 29), .ref (b 30), .ref (b 31), .ref (b 32), .ref (b 33), .ref (b 34), .int (iZ (mu17w 35 0)), .int (iZ (mu17w 36 0)), .int (iZ (mu17w 37 0)), .int (iZ (mu17w 38 0)), .int (iZ (mu17w 39 0)), .int (iZ (mu17w 40 0)), .ref (b 41), .ref (b 42)])) := hE17w.1
        have f6_ : en17w 26 0 = some (b 6, aZ dA (101) (mu17w 6)) := hE17w.2 6 (by decide)
        have f7_ : en17w 27 0 = some (b 7, aI dA (101) (mu17w 7)) := hE17w.2 7 (by decide)
        have f8_ : en17w 28 0 = some (b 8, aI dA (101) (mu17w 8)) := hE17w.2 8 (by decide)
        have f14_ : en17w 34 0 = some (b 14, aJ dA (101) (mu17w 14)) := hE17w.2 14 (by decide)
        refine lv_aload_n hx hb dX4_start_116 rfl (lv_at hl 3 rfl) ?_
        refine g_get (C := RX4) (T := TX4) (N := 43) (ci := 6) (v := .ref (b 7)) hx hb hts hi6 hown hK hW fM rfl 7 (by decide) (hts (.fieldLink RX4 22 "LongTransferModel" "state" "[I") (by decide +kernel)) (fun _ h9 => h9) rfl dX4_start_117 ?_
        refine lv_iload_n hx hb dX4_start_120 rfl (lv_at hl 4 rfl) ?_
        refine lv_iload_n hx hb dX4_start_121 rfl (lv_at hl 1 rfl) ?_
        refine z_if_eq (tgt := 129) hx hb dX4_start_122 (by decide) (by omega) (fun _ => ?_) (fun c_q => absurd c_q (by omega))
        refine z_iconst hx hb dX4_start_129 ?_
        refine g_iast (x := 1) hx hb hK hW hS f7_ (by omega) (by omega) (by omega) dX4_start_130 (fun H locs hW hS => ?_)
        obtain ⟨en18w, hen18w⟩ : ∃ x : en_T, x = e2 en17w 27 0 (some (b 7, aI dA (101) (uF (mu17w 7) (mm) (1)))) := ⟨_, rfl⟩
        rw [← hen18w] at hW
        obtain ⟨mu18w, hmu18w⟩ : ∃ x : Mu, x = u2 mu17w 7 (mm) (1) := ⟨_, rfl⟩
        have hE18w : EM dA b mu18w en18w := by rw [hen18w, hmu18w]; exact em_w hE17w (k0 := 7) (j := mm) (v := 1) (by decide)
        have hF18w : FM en17w en18w := fun k i q => by rw [hen18w]; exact e2_k (fun w => q (by rw [w]; decide))
        have hF18w := FM.tr hF17w hF18w
        replace t26_0 : mu18w 26 (0) = mu 26 (0) := by rw [hmu18w]; exact (u2_n (fun q => absurd q.1 (by decide))).trans t26_0
        replace t2_0 : mu18w 2 (0) = mu 2 (0) := by rw [hmu18w]; exact (u2_n (fun q => absurd q.1 (by decide))).trans t2_0
        replace t4_mm : mu18w 4 (mm) = mu 4 (mm) := by rw [hmu18w]; exact (u2_n (fun q => absurd q.1 (by decide))).trans t4_mm
        replace t4_mm___1 : mu18w 4 (mm + 1) = mu 4 (mm + 1) := by rw [hmu18w]; exact (u2_n (fun q => absurd q.1 (by decide))).trans t4_mm___1
        replace t7_mm : mu18w 7 (mm) = 1 := by rw [hmu18w]; exact u2_s _ _ _ _
        replace t8_mm : mu18w 8 (mm) = 2 := by rw [hmu18w]; exact (u2_n (fun q => absurd q.1 (by decide))).trans t8_mm
        replace t9_mm : mu18w 9 (mm) = mu 9 (mm) := by rw [hmu18w]; exact (u2_n (fun q => absurd q.1 (by decide))).trans t9_mm
        replace t6_mm : mu18w 6 (mm) = 1 := by rw [hmu18w]; exact (u2_n (fun q => absurd q.1 (by decide))).trans t6_mm
        replace t13_mm : mu18w 13 (mm) = mu 13 (mm) := by rw [hmu18w]; exact (u2_n (fun q => absurd q.1 (by decide))).trans t13_mm
        replace t14_mm : mu18w 14 (mm) = mu 2 (0) := by rw [hmu18w]; exact (u2_n (fun q => absurd q.1 (by decide))).trans t14_mm
        have fM : en18w 20 0 = some (b 0, .inr (6, [.int (iZ (mu18w 0 0)), .int (iZ (mu18w 1 0)), .long (lZ (mu18w 2 0)), .int (iZ (mu18w 3 0)), .ref (b 4), .ref (b 5), .ref (b 6), .ref (b 7), .ref (b 8), .ref (b 9), .ref (b 10), .ref (b 11), .ref (b 12), .ref (b 13), .ref (b 14), .ref (b 15), .ref (b 16), .ref (b 17), .ref (b 18), .ref (b 19), .ref (b 20), .ref (b 21), .ref (b 22), .ref (b 23), .ref (b 24), .ref (b 25), .int (iZ (mu18w 26 0)), .ref (b 27), .ref (b 28), .ref (b 29), .ref (b 30), .ref (b 31), .ref (b 32), .ref (b 33), .ref (b 34), .int (iZ (mu18w 35 0)), .int (iZ (mu18w 36 0)), .int (iZ (mu18w 37 0)), .int (iZ (mu18w 38 0)), .int (iZ (mu18w 39 0)), .int (iZ (mu18w 40 0)), .ref (b 41), .ref (b 42)])) := hE18w.1
        have f6_ : en18w 26 0 = some (b 6, aZ dA (101) (mu18w 6)) := hE18w.2 6 (by decide)
        have f7_ : en18w 27 0 = some (b 7, aI dA (101) (mu18w 7)) := hE18w.2 7 (by decide)
        have f8_ : en18w 28 0 = some (b 8, aI dA (101) (mu18w 8)) := hE18w.2 8 (by decide)
        have f14_ : en18w 34 0 = some (b 14, aJ dA (101) (mu18w 14)) := hE18w.2 14 (by decide)
        refine lv_iload hx hb dX4_start_131 (lv_at hl 0 rfl) ?_
        refine z_if_ne (tgt := 143) hx hb dX4_start_133 (by decide) (by omega) (fun c_q => absurd c_q (by omega)) (fun _ => ?_)
        refine lv_aload_n hx hb dX4_start_136 rfl (lv_at hl 3 rfl) ?_
        refine lv_iload_n hx hb dX4_start_137 rfl (lv_at hl 4 rfl) ?_
        refine z_bipush hx hb dX4_start_138 (by decide) ?_
        refine va_callv (va_runV (As := [.int (iZ (mm)), .int (iZ (7))]) (rest := []) ⟨hx, hb, hml, hown, hts⟩ (c_X4_endSender l D dA z en18w b mu18w mm 7 (by omega) (by omega) (by omega) (by omega) hE18w) (cwV 2 hts gX4_start_X4_endSender rfl rfl rfl (by decide +kernel) ⟨Nat.le_of_ble_eq_true rfl, Nat.le_of_ble_eq_true rfl⟩) ⟨gBl, gRecv hK hW (ci := 6) rfl fM, gPre _ hg hS hW⟩ rfl rfl hl.1 rfl (lv_room (Nat.le_of_ble_eq_true rfl)) dX4_start_140 ⟨(show 0 + 0 + 0 + 0 + 0 + 0 + 0 + 0 ≤ 0 by omega), (show 0 + 0 + 0 + 0 + 0 + 0 + 0 + 0 ≤ 0 by omega)⟩) hS (fun _ _ h => h) (fun _ h => h) (fun u9 t9 H locs ht9 hvm9 hw9 hB9 hz9 hk9 hS => ?_)
        obtain ⟨en19w, mu19w⟩ := u9
        obtain ⟨hE19w, hF19w, hmu19w⟩ := hw9
        have hW : Wd D (z 0) en19w H := by rw [← ht9]; exact hB9
        dsimp only at hE19w hF19w hmu19w
        have hF19w := FM.tr hF18w hF19w
        have fM : en19w 20 0 = some (b 0, .inr (6, [.int (iZ (mu19w 0 0)), .int (iZ (mu19w 1 0)), .long (lZ (mu19w 2 0)), .int (iZ (mu19w 3 0)), .ref (b 4), .ref (b 5), .ref (b 6), .ref (b 7), .ref (b 8), .ref (b 9), .ref (b 10), .ref (b 11), .ref (b 12), .ref (b 13), .ref (b 14), .ref (b 15), .ref (b 16), .ref (b 17), .ref (b 18), .ref (b 19), .ref (b 20), .ref (b 21), .ref (b 22), .ref (b 23), .ref (b 24), .ref (b 25), .int (iZ (mu19w 26 0)), .ref (b 27), .ref (b 28), .ref (b 29), .ref (b 30), .ref (b 31), .ref (b 32), .ref (b 33), .ref (b 34), .int (iZ (mu19w 35 0)), .int (iZ (mu19w 36 0)), .int (iZ (mu19w 37 0)), .int (iZ (mu19w 38 0)), .int (iZ (mu19w 39 0)), .int (iZ (mu19w 40 0)), .ref (b 41), .ref (b 42)])) := hE19w.1
        have f6_ : en19w 26 0 = some (b 6, aZ dA (101) (mu19w 6)) := hE19w.2 6 (by decide)
        have f7_ : en19w 27 0 = some (b 7, aI dA (101) (mu19w 7)) := hE19w.2 7 (by decide)
        have f8_ : en19w 28 0 = some (b 8, aI dA (101) (mu19w 8)) := hE19w.2 8 (by decide)
        have f14_ : en19w 34 0 = some (b 14, aJ dA (101) (mu19w 14)) := hE19w.2 14 (by decide)
        have hz0 : ∀ (t : Nat) (j : Int), ¬ (6 ≤ t ∧ t ≤ 15 ∧ j = mm) → mu18w t j = mu t j := fun t j q => by rw [hmu18w, u2_n (by omega), hmu17w, u2_n (by omega), hmu16w, u2_n (by omega), hmu15w, u2_n (by omega), hmu14w, hmk]
        have hz6 : mu18w 6 mm = 1 := by rw [hmu18w, u2_n (by omega), hmu17w, u2_n (by omega), hmu16w, u2_n (by omega), hmu15w, u2_s]
        have hpst : Rl (sSt1 g) mu19w := by unfold sSt1; rw [← hmm, v_st0 (by omega), hmu19w]; exact rl_st0 hI hR (by omega) (by omega) hmm hz0 hz6
        exact W.vret hx hb hr (fun t ht hw => ⟨⟨(en19w, mu19w), rfl, ⟨hE19w, hF19w, hpst⟩, by show Wd _ _ _ t.heap; rw [ht]; exact hW⟩, hS.F ht⟩) hS.2.2 dX4_start_143
      · rw [if_neg hful]
        have hmk : mu13w = mMk mu 1 mm (mu 4 (mm + 1) - mu 4 mm) 2 0 := by rw [hmu13w]; exact if_neg hful
        replace t26_0 : mu13w 26 (0) = mu 26 (0) + 1 := by rw [hmk, (mMk_v _ _ _ _ _ _).1, t26_0]
        replace t2_0 : mu13w 2 (0) = mu 2 (0) := by rw [hmk]; exact (mMk_n ⟨fun q => absurd q.1 (by decide), fun q => absurd q.1 (by decide)⟩).trans t2_0
        replace t4_mm : mu13w 4 (mm) = mu 4 (mm) := by rw [hmk]; exact (mMk_n ⟨fun q => absurd q.1 (by decide), fun q => absurd q.1 (by decide)⟩).trans t4_mm
        replace t4_mm___1 : mu13w 4 (mm + 1) = mu 4 (mm + 1) := by rw [hmk]; exact (mMk_n ⟨fun q => absurd q.1 (by decide), fun q => absurd q.1 (by decide)⟩).trans t4_mm___1
        replace t7_mm : mu13w 7 (mm) = mu 7 (mm) := by rw [hmk]; exact (mMk_n ⟨fun q => absurd q.1 (by decide), fun q => absurd q.1 (by decide)⟩).trans t7_mm
        replace t8_mm : mu13w 8 (mm) = mu 8 (mm) := by rw [hmk]; exact (mMk_n ⟨fun q => absurd q.1 (by decide), fun q => absurd q.1 (by decide)⟩).trans t8_mm
        replace t9_mm : mu13w 9 (mm) = mu 9 (mm) := by rw [hmk]; exact (mMk_n ⟨fun q => absurd q.1 (by decide), fun q => absurd q.1 (by decide)⟩).trans t9_mm
        replace t6_mm : mu13w 6 (mm) = mu 6 (mm) := by rw [hmk]; exact (mMk_n ⟨fun q => absurd q.1 (by decide), fun q => absurd q.1 (by decide)⟩).trans t6_mm
        replace t13_mm : mu13w 13 (mm) = mu 13 (mm) := by rw [hmk]; exact (mMk_n ⟨fun q => absurd q.1 (by decide), fun q => absurd q.1 (by decide)⟩).trans t13_mm
        replace t14_mm : mu13w 14 (mm) = mu 14 (mm) := by rw [hmk]; exact (mMk_n ⟨fun q => absurd q.1 (by decide), fun q => absurd q.1 (by decide)⟩).trans t14_mm
        have hB5 : ∀ j : Int, -128 ≤ mu13w 5 j ∧ mu13w 5 j ≤ 127 := fun j => by rw [hmk, mMk_n (by omega)]; exact rB 5 j (by omega)
        refine lv_istore (lv' := [(4, .int (iZ (mu 26 0 + 1))), (3, .int (iZ (0))), (2, .int (iZ (2))), (0, .ref (b 0)), (1, .int (iZ (mm)))]) hx hb dX4_start_81 hl (by decide) rfl (fun ls hl => ?_)
        refine lv_aload_n hx hb dX4_start_83 rfl (lv_at hl 3 rfl) ?_
        refine lv_iload hx hb dX4_start_84 (lv_at hl 0 rfl) ?_
        refine lv_iload_n hx hb dX4_start_86 rfl (lv_at hl 4 rfl) ?_
        refine z_iconst hx hb dX4_start_87 ?_
        refine lv_iload_n hx hb dX4_start_88 rfl (lv_at hl 2 rfl) ?_
        have hq4 : mu13w 4 mm = mu 4 mm := by omega
        refine va_callv (va_runV (As := [.int (iZ (mu 26 0 + 1)), .int (iZ (mm)), .int (iZ (0)), .int (iZ (2))]) (rest := []) ⟨hx, hb, hml, hown, hts⟩ (c_X4_fill l D dA z en13w b mu13w (mu 26 0 + 1) mm 0 2 (by omega) (by omega) (by omega) (by omega) (by omega) (by omega) (by omega) (by omega) hB5 hE13w) (cwV 4 hts gX4_start_X4_fill rfl rfl rfl (by decide +kernel) ⟨Nat.le_of_ble_eq_true rfl, Nat.le_of_ble_eq_true rfl⟩) ⟨gBl, gRecv hK hW (ci := 6) rfl fM, gPre _ hg hS hW⟩ rfl rfl hl.1 rfl (lv_room (Nat.le_of_ble_eq_true rfl)) dX4_start_89 ⟨(show 0 + 0 + 0 + 0 + 0 + 0 + 0 ≤ 0 by omega), (show 0 + 0 + 0 + 0 + 0 + 0 + 0 ≤ 0 by omega)⟩) hS (fun _ _ h => h) (fun _ h => h) (fun u9 t9 H locs ht9 hvm9 hw9 hB9 hz9 hk9 hS => ?_)
        obtain ⟨en20w, mu20w⟩ := u9
        obtain ⟨hE20w, hF20w, hmu20w⟩ := hw9
        have hW : Wd D (z 0) en20w H := by rw [← ht9]; exact hB9
        dsimp only at hE20w hF20w hmu20w
        have hF20w := FM.tr hF13w hF20w
        have fM : en20w 20 0 = some (b 0, .inr (6, [.int (iZ (mu20w 0 0)), .int (iZ (mu20w 1 0)), .long (lZ (mu20w 2 0)), .int (iZ (mu20w 3 0)), .ref (b 4), .ref (b 5), .ref (b 6), .ref (b 7), .ref (b 8), .ref (b 9), .ref (b 10), .ref (b 11), .ref (b 12), .ref (b 13), .ref (b 14), .ref (b 15), .ref (b 16), .ref (b 17), .ref (b 18), .ref (b 19), .ref (b 20), .ref (b 21), .ref (b 22), .ref (b 23), .ref (b 24), .ref (b 25), .int (iZ (mu20w 26 0)), .ref (b 27), .ref (b 28), .ref (b 29), .ref (b 30), .ref (b 31), .ref (b 32), .ref (b 33), .ref (b 34), .int (iZ (mu20w 35 0)), .int (iZ (mu20w 36 0)), .int (iZ (mu20w 37 0)), .int (iZ (mu20w 38 0)), .int (iZ (mu20w 39 0)), .int (iZ (mu20w 40 0)), .ref (b 41), .ref (b 42)])) := hE20w.1
        have f6_ : en20w 26 0 = some (b 6, aZ dA (101) (mu20w 6)) := hE20w.2 6 (by decide)
        have f7_ : en20w 27 0 = some (b 7, aI dA (101) (mu20w 7)) := hE20w.2 7 (by decide)
        have f8_ : en20w 28 0 = some (b 8, aI dA (101) (mu20w 8)) := hE20w.2 8 (by decide)
        have f14_ : en20w 34 0 = some (b 14, aJ dA (101) (mu20w 14)) := hE20w.2 14 (by decide)
        replace t26_0 : mu20w 26 (0) = mu 26 (0) + 1 := by rw [hmu20w]; exact (mFl_n (fun q => absurd q.1 (by decide))).trans t26_0
        replace t2_0 : mu20w 2 (0) = mu 2 (0) := by rw [hmu20w]; exact (mFl_n (fun q => absurd q.1 (by decide))).trans t2_0
        replace t4_mm : mu20w 4 (mm) = mu 4 (mm) := by rw [hmu20w]; exact (mFl_n (fun q => absurd q.1 (by decide))).trans t4_mm
        replace t4_mm___1 : mu20w 4 (mm + 1) = mu 4 (mm + 1) := by rw [hmu20w]; exact (mFl_n (fun q => absurd q.1 (by decide))).trans t4_mm___1
        replace t7_mm : mu20w 7 (mm) = mu 7 (mm) := by rw [hmu20w]; exact (mFl_n (fun q => absurd q.1 (by decide))).trans t7_mm
        replace t8_mm : mu20w 8 (mm) = mu 8 (mm) := by rw [hmu20w]; exact (mFl_n (fun q => absurd q.1 (by decide))).trans t8_mm
        replace t9_mm : mu20w 9 (mm) = mu 9 (mm) := by rw [hmu20w]; exact (mFl_n (fun q => absurd q.1 (by decide))).trans t9_mm
        replace t6_mm : mu20w 6 (mm) = mu 6 (mm) := by rw [hmu20w]; exact (mFl_n (fun q => absurd q.1 (by decide))).trans t6_mm
        replace t13_mm : mu20w 13 (mm) = mu 13 (mm) := by rw [hmu20w]; exact (mFl_n (fun q => absurd q.1 (by decide))).trans t13_mm
        replace t14_mm : mu20w 14 (mm) = mu 14 (mm) := by rw [hmu20w]; exact (mFl_n (fun q => absurd q.1 (by decide))).trans t14_mm
        refine lv_aload_n hx hb dX4_start_92 rfl (lv_at hl 3 rfl) ?_
        refine g_get (C := RX4) (T := TX4) (N := 43) (ci := 6) (v := .ref (b 6)) hx hb hts hi6 hown hK hW fM rfl 6 (by decide) (hts (.fieldLink RX4 18 "LongTransferModel" "begun" "[Z") (by decide +kernel)) (fun _ h9 => h9) rfl dX4_start_93 ?_
        refine lv_iload_n hx hb dX4_start_96 rfl (lv_at hl 4 rfl) ?_
        refine z_iconst hx hb dX4_start_97 ?_
        refine g_zast (x := 1) hx hb hK hW hS f6_ (by omega) (by omega) (by omega) (by decide) dX4_start_98 (fun H locs hW hS => ?_)
        obtain ⟨en21w, hen21w⟩ : ∃ x : en_T, x = e2 en20w 26 0 (some (b 6, aZ dA (101) (uF (mu20w 6) (mm) (1)))) := ⟨_, rfl⟩
        rw [← hen21w] at hW
        obtain ⟨mu21w, hmu21w⟩ : ∃ x : Mu, x = u2 mu20w 6 (mm) (1) := ⟨_, rfl⟩
        have hE21w : EM dA b mu21w en21w := by rw [hen21w, hmu21w]; exact em_w hE20w (k0 := 6) (j := mm) (v := 1) (by decide)
        have hF21w : FM en20w en21w := fun k i q => by rw [hen21w]; exact e2_k (fun w => q (by rw [w]; decide))
        have hF21w := FM.tr hF20w hF21w
        replace t26_0 : mu21w 26 (0) = mu 26 (0) + 1 := by rw [hmu21w]; exact (u2_n (fun q => absurd q.1 (by decide))).trans t26_0
        replace t2_0 : mu21w 2 (0) = mu 2 (0) := by rw [hmu21w]; exact (u2_n (fun q => absurd q.1 (by decide))).trans t2_0
        replace t4_mm : mu21w 4 (mm) = mu 4 (mm) := by rw [hmu21w]; exact (u2_n (fun q => absurd q.1 (by decide))).trans t4_mm
        replace t4_mm___1 : mu21w 4 (mm + 1) = mu 4 (mm + 1) := by rw [hmu21w]; exact (u2_n (fun q => absurd q.1 (by decide))).trans t4_mm___1
        replace t7_mm : mu21w 7 (mm) = mu 7 (mm) := by rw [hmu21w]; exact (u2_n (fun q => absurd q.1 (by decide))).trans t7_mm
        replace t8_mm : mu21w 8 (mm) = mu 8 (mm) := by rw [hmu21w]; exact (u2_n (fun q => absurd q.1 (by decide))).trans t8_mm
        replace t9_mm : mu21w 9 (mm) = mu 9 (mm) := by rw [hmu21w]; exact (u2_n (fun q => absurd q.1 (by decide))).trans t9_mm
        replace t6_mm : mu21w 6 (mm) = 1 := by rw [hmu21w]; exact u2_s _ _ _ _
        replace t13_mm : mu21w 13 (mm) = mu 13 (mm) := by rw [hmu21w]; exact (u2_n (fun q => absurd q.1 (by decide))).trans t13_mm
        replace t14_mm : mu21w 14 (mm) = mu 14 (mm) := by rw [hmu21w]; exact (u2_n (fun q => absurd q.1 (by decide))).trans t14_mm
        have fM : en21w 20 0 = some (b 0, .inr (6, [.int (iZ (mu21w 0 0)), .int (iZ (mu21w 1 0)), .long (lZ (mu21w 2 0)), .int (iZ (mu21w 3 0)), .ref (b 4), .ref (b 5), .ref (b 6), .ref (b 7), .ref (b 8), .ref (b 9), .ref (b 10), .ref (b 11), .ref (b 12), .ref (b 13), .ref (b 14), .ref (b 15), .ref (b 16), .ref (b 17), .ref (b 18), .ref (b 19), .ref (b 20), .ref (b 21), .ref (b 22), .ref (b 23), .ref (b 24), .ref (b 25), .int (iZ (mu21w 26 0)), .ref (b 27), .ref (b 28), .ref (b 29), .ref (b 30), .ref (b 31), .ref (b 32), .ref (b 33), .ref (b 34), .int (iZ (mu21w 35 0)), .int (iZ (mu21w 36 0)), .int (iZ (mu21w 37 0)), .int (iZ (mu21w 38 0)), .int (iZ (mu21w 39 0)), .int (iZ (mu21w 40 0)), .ref (b 41), .ref (b 42)])) := hE21w.1
        have f6_ : en21w 26 0 = some (b 6, aZ dA (101) (mu21w 6)) := hE21w.2 6 (by decide)
        have f7_ : en21w 27 0 = some (b 7, aI dA (101) (mu21w 7)) := hE21w.2 7 (by decide)
        have f8_ : en21w 28 0 = some (b 8, aI dA (101) (mu21w 8)) := hE21w.2 8 (by decide)
        have f14_ : en21w 34 0 = some (b 14, aJ dA (101) (mu21w 14)) := hE21w.2 14 (by decide)
        refine lv_aload_n hx hb dX4_start_99 rfl (lv_at hl 3 rfl) ?_
        refine g_get (C := RX4) (T := TX4) (N := 43) (ci := 6) (v := .ref (b 8)) hx hb hts hi6 hown hK hW fM rfl 8 (by decide) (hts (.fieldLink RX4 25 "LongTransferModel" "sent" "[I") (by decide +kernel)) (fun _ h9 => h9) rfl dX4_start_100 ?_
        refine lv_iload_n hx hb dX4_start_103 rfl (lv_at hl 4 rfl) ?_
        refine lv_iload_n hx hb dX4_start_104 rfl (lv_at hl 2 rfl) ?_
        refine g_iast (x := 2) hx hb hK hW hS f8_ (by omega) (by omega) (by omega) dX4_start_105 (fun H locs hW hS => ?_)
        obtain ⟨en22w, hen22w⟩ : ∃ x : en_T, x = e2 en21w 28 0 (some (b 8, aI dA (101) (uF (mu21w 8) (mm) (2)))) := ⟨_, rfl⟩
        rw [← hen22w] at hW
        obtain ⟨mu22w, hmu22w⟩ : ∃ x : Mu, x = u2 mu21w 8 (mm) (2) := ⟨_, rfl⟩
        have hE22w : EM dA b mu22w en22w := by rw [hen22w, hmu22w]; exact em_w hE21w (k0 := 8) (j := mm) (v := 2) (by decide)
        have hF22w : FM en21w en22w := fun k i q => by rw [hen22w]; exact e2_k (fun w => q (by rw [w]; decide))
        have hF22w := FM.tr hF21w hF22w
        replace t26_0 : mu22w 26 (0) = mu 26 (0) + 1 := by rw [hmu22w]; exact (u2_n (fun q => absurd q.1 (by decide))).trans t26_0
        replace t2_0 : mu22w 2 (0) = mu 2 (0) := by rw [hmu22w]; exact (u2_n (fun q => absurd q.1 (by decide))).trans t2_0
        replace t4_mm : mu22w 4 (mm) = mu 4 (mm) := by rw [hmu22w]; exact (u2_n (fun q => absurd q.1 (by decide))).trans t4_mm
        replace t4_mm___1 : mu22w 4 (mm + 1) = mu 4 (mm + 1) := by rw [hmu22w]; exact (u2_n (fun q => absurd q.1 (by decide))).trans t4_mm___1
        replace t7_mm : mu22w 7 (mm) = mu 7 (mm) := by rw [hmu22w]; exact (u2_n (fun q => absurd q.1 (by decide))).trans t7_mm
        replace t8_mm : mu22w 8 (mm) = 2 := by rw [hmu22w]; exact u2_s _ _ _ _
        replace t9_mm : mu22w 9 (mm) = mu 9 (mm) := by rw [hmu22w]; exact (u2_n (fun q => absurd q.1 (by decide))).trans t9_mm
        replace t6_mm : mu22w 6 (mm) = 1 := by rw [hmu22w]; exact (u2_n (fun q => absurd q.1 (by decide))).trans t6_mm
        replace t13_mm : mu22w 13 (mm) = mu 13 (mm) := by rw [hmu22w]; exact (u2_n (fun q => absurd q.1 (by decide))).trans t13_mm
        replace t14_mm : mu22w 14 (mm) = mu 14 (mm) := by rw [hmu22w]; exact (u2_n (fun q => absurd q.1 (by decide))).trans t14_mm
        have fM : en22w 20 0 = some (b 0, .inr (6, [.int (iZ (mu22w 0 0)), .int (iZ (mu22w 1 0)), .long (lZ (mu22w 2 0)), .int (iZ (mu22w 3 0)), .ref (b 4), .ref (b 5), .ref (b 6), .ref (b 7), .ref (b 8), .ref (b 9), .ref (b 10), .ref (b 11), .ref (b 12), .ref (b 13), .ref (b 14), .ref (b 15), .ref (b 16), .ref (b 17), .ref (b 18), .ref (b 19), .ref (b 20), .ref (b 21), .ref (b 22), .ref (b 23), .ref (b 24), .ref (b 25), .int (iZ (mu22w 26 0)), .ref (b 27), .ref (b 28), .ref (b 29), .ref (b 30), .ref (b 31), .ref (b 32), .ref (b 33), .ref (b 34), .int (iZ (mu22w 35 0)), .int (iZ (mu22w 36 0)), .int (iZ (mu22w 37 0)), .int (iZ (mu22w 38 0)), .int (iZ (mu22w 39 0)), .int (iZ (mu22w 40 0)), .ref (b 41), .ref (b 42)])) := hE22w.1
        have f6_ : en22w 26 0 = some (b 6, aZ dA (101) (mu22w 6)) := hE22w.2 6 (by decide)
        have f7_ : en22w 27 0 = some (b 7, aI dA (101) (mu22w 7)) := hE22w.2 7 (by decide)
        have f8_ : en22w 28 0 = some (b 8, aI dA (101) (mu22w 8)) := hE22w.2 8 (by decide)
        have f14_ : en22w 34 0 = some (b 14, aJ dA (101) (mu22w 14)) := hE22w.2 14 (by decide)
        refine lv_aload_n hx hb dX4_start_106 rfl (lv_at hl 3 rfl) ?_
        refine g_get (C := RX4) (T := TX4) (N := 43) (ci := 6) (v := .ref (b 14)) hx hb hts hi6 hown hK hW fM rfl 14 (by decide) (hts (.fieldLink RX4 43 "LongTransferModel" "since" "[J") (by decide +kernel)) (fun _ h9 => h9) rfl dX4_start_107 ?_
        refine lv_iload_n hx hb dX4_start_110 rfl (lv_at hl 4 rfl) ?_
        refine lv_aload_n hx hb dX4_start_111 rfl (lv_at hl 3 rfl) ?_
        refine g_get (C := RX4) (T := TX4) (N := 43) (ci := 6) (v := .long (lZ (mu22w 2 0))) hx hb hts hi6 hown hK hW fM rfl 2 (by decide) (hts (.fieldLink RX4 137 "LongTransferModel" "now" "J") (by decide +kernel)) (fun _ h9 => h9) rfl dX4_start_112 ?_
        rw [t2_0]
        refine g_last (x := mu 2 (0)) hx hb hK hW hS f14_ (by omega) (by omega) (by omega) dX4_start_115 (fun H locs hW hS => ?_)
        obtain ⟨en23w, hen23w⟩ : ∃ x : en_T, x = e2 en22w 34 0 (some (b 14, aJ dA (101) (uF (mu22w 14) (mm) (mu 2 (0))))) := ⟨_, rfl⟩
        rw [← hen23w] at hW
        obtain ⟨mu23w, hmu23w⟩ : ∃ x : Mu, x = u2 mu22w 14 (mm) (mu 2 (0)) := ⟨_, rfl⟩
        have hE23w : EM dA b mu23w en23w := by rw [hen23w, hmu23w]; exact em_w hE22w (k0 := 14) (j := mm) (v := mu 2 (0)) (by decide)
        have hF23w : FM en22w en23w := fun k i q => by rw [hen23w]; exact e2_k (fun w => q (by rw [w]; decide))
        have hF23w := FM.tr hF22w hF23w
        replace t26_0 : mu23w 26 (0) = mu 26 (0) + 1 := by rw [hmu23w]; exact (u2_n (fun q => absurd q.1 (by decide))).trans t26_0
        replace t2_0 : mu23w 2 (0) = mu 2 (0) := by rw [hmu23w]; exact (u2_n (fun q => absurd q.1 (by decide))).trans t2_0
        replace t4_mm : mu23w 4 (mm) = mu 4 (mm) := by rw [hmu23w]; exact (u2_n (fun q => absurd q.1 (by decide))).trans t4_mm
        replace t4_mm___1 : mu23w 4 (mm + 1) = mu 4 (mm + 1) := by rw [hmu23w]; exact (u2_n (fun q => absurd q.1 (by decide))).trans t4_mm___1
        replace t7_mm : mu23w 7 (mm) = mu 7 (mm) := by rw [hmu23w]; exact (u2_n (fun q => absurd q.1 (by decide))).trans t7_mm
        replace t8_mm : mu23w 8 (mm) = 2 := by rw [hmu23w]; exact (u2_n (fun q => absurd q.1 (by decide))).trans t8_mm
        replace t9_mm : mu23w 9 (mm) = mu 9 (mm) := by rw [hmu23w]; exact (u2_n (fun q => absurd q.1 (by decide))).trans t9_mm
        replace t6_mm : mu23w 6 (mm) = 1 := by rw [hmu23w]; exact (u2_n (fun q => absurd q.1 (by decide))).trans t6_mm
        replace t13_mm : mu23w 13 (mm) = mu 13 (mm) := by rw [hmu23w]; exact (u2_n (fun q => absurd q.1 (by decide))).trans t13_mm
        replace t14_mm : mu23w 14 (mm) = mu 2 (0) := by rw [hmu23w]; exact u2_s _ _ _ _
        have fM : en23w 20 0 = some (b 0, .inr (6, [.int (iZ (mu23w 0 0)), .int (iZ (mu23w 1 0)), .long (lZ (mu23w 2 0)), .int (iZ (mu23w 3 0)), .ref (b 4), .ref (b 5), .ref (b 6), .ref (b 7), .ref (b 8), .ref (b 9), .ref (b 10), .ref (b 11), .ref (b 12), .ref (b 13), .ref (b 14), .ref (b 15), .ref (b 16), .ref (b 17), .ref (b 18), .ref (b 19), .ref (b 20), .ref (b 21), .ref (b 22), .ref (b 23), .ref (b 24), .ref (b 25), .int (iZ (mu23w 26 0)), .ref (b 27), .ref (b 28), .ref (b 29), .ref (b 30), .ref (b 31), .ref (b 32), .ref (b 33), .ref (b 34), .int (iZ (mu23w 35 0)), .int (iZ (mu23w 36 0)), .int (iZ (mu23w 37 0)), .int (iZ (mu23w 38 0)), .int (iZ (mu23w 39 0)), .int (iZ (mu23w 40 0)), .ref (b 41), .ref (b 42)])) := hE23w.1
        have f6_ : en23w 26 0 = some (b 6, aZ dA (101) (mu23w 6)) := hE23w.2 6 (by decide)
        have f7_ : en23w 27 0 = some (b 7, aI dA (101) (mu23w 7)) := hE23w.2 7 (by decide)
        have f8_ : en23w 28 0 = some (b 8, aI dA (101) (mu23w 8)) := hE23w.2 8 (by decide)
        have f14_ : en23w 34 0 = some (b 14, aJ dA (101) (mu23w 14)) := hE23w.2 14 (by decide)
        refine lv_aload_n hx hb dX4_start_116 rfl (lv_at hl 3 rfl) ?_
        refine g_get (C := RX4) (T := TX4) (N := 43) (ci := 6) (v := .ref (b 7)) hx hb hts hi6 hown hK hW fM rfl 7 (by decide) (hts (.fieldLink RX4 22 "LongTransferModel" "state" "[I") (by decide +kernel)) (fun _ h9 => h9) rfl dX4_start_117 ?_
        refine lv_iload_n hx hb dX4_start_120 rfl (lv_at hl 4 rfl) ?_
        refine lv_iload_n hx hb dX4_start_121 rfl (lv_at hl 1 rfl) ?_
        refine z_if_eq (tgt := 129) hx hb dX4_start_122 (by decide) (by omega) (fun _ => ?_) (fun c_q => absurd c_q (by omega))
        refine z_iconst hx hb dX4_start_129 ?_
        refine g_iast (x := 1) hx hb hK hW hS f7_ (by omega) (by omega) (by omega) dX4_start_130 (fun H locs hW hS => ?_)
        obtain ⟨en24w, hen24w⟩ : ∃ x : en_T, x = e2 en23w 27 0 (some (b 7, aI dA (101) (uF (mu23w 7) (mm) (1)))) := ⟨_, rfl⟩
        rw [← hen24w] at hW
        obtain ⟨mu24w, hmu24w⟩ : ∃ x : Mu, x = u2 mu23w 7 (mm) (1) := ⟨_, rfl⟩
        have hE24w : EM dA b mu24w en24w := by rw [hen24w, hmu24w]; exact em_w hE23w (k0 := 7) (j := mm) (v := 1) (by decide)
        have hF24w : FM en23w en24w := fun k i q => by rw [hen24w]; exact e2_k (fun w => q (by rw [w]; decide))
        have hF24w := FM.tr hF23w hF24w
        replace t26_0 : mu24w 26 (0) = mu 26 (0) + 1 := by rw [hmu24w]; exact (u2_n (fun q => absurd q.1 (by decide))).trans t26_0
        replace t2_0 : mu24w 2 (0) = mu 2 (0) := by rw [hmu24w]; exact (u2_n (fun q => absurd q.1 (by decide))).trans t2_0
        replace t4_mm : mu24w 4 (mm) = mu 4 (mm) := by rw [hmu24w]; exact (u2_n (fun q => absurd q.1 (by decide))).trans t4_mm
        replace t4_mm___1 : mu24w 4 (mm + 1) = mu 4 (mm + 1) := by rw [hmu24w]; exact (u2_n (fun q => absurd q.1 (by decide))).trans t4_mm___1
        replace t7_mm : mu24w 7 (mm) = 1 := by rw [hmu24w]; exact u2_s _ _ _ _
        replace t8_mm : mu24w 8 (mm) = 2 := by rw [hmu24w]; exact (u2_n (fun q => absurd q.1 (by decide))).trans t8_mm
        replace t9_mm : mu24w 9 (mm) = mu 9 (mm) := by rw [hmu24w]; exact (u2_n (fun q => absurd q.1 (by decide))).trans t9_mm
        replace t6_mm : mu24w 6 (mm) = 1 := by rw [hmu24w]; exact (u2_n (fun q => absurd q.1 (by decide))).trans t6_mm
        replace t13_mm : mu24w 13 (mm) = mu 13 (mm) := by rw [hmu24w]; exact (u2_n (fun q => absurd q.1 (by decide))).trans t13_mm
        replace t14_mm : mu24w 14 (mm) = mu 2 (0) := by rw [hmu24w]; exact (u2_n (fun q => absurd q.1 (by decide))).trans t14_mm
        have fM : en24w 20 0 = some (b 0, .inr (6, [.int (iZ (mu24w 0 0)), .int (iZ (mu24w 1 0)), .long (lZ (mu24w 2 0)), .int (iZ (mu24w 3 0)), .ref (b 4), .ref (b 5), .ref (b 6), .ref (b 7), .ref (b 8), .ref (b 9), .ref (b 10), .ref (b 11), .ref (b 12), .ref (b 13), .ref (b 14), .ref (b 15), .ref (b 16), .ref (b 17), .ref (b 18), .ref (b 19), .ref (b 20), .ref (b 21), .ref (b 22), .ref (b 23), .ref (b 24), .ref (b 25), .int (iZ (mu24w 26 0)), .ref (b 27), .ref (b 28), .ref (b 29), .ref (b 30), .ref (b 31), .ref (b 32), .ref (b 33), .ref (b 34), .int (iZ (mu24w 35 0)), .int (iZ (mu24w 36 0)), .int (iZ (mu24w 37 0)), .int (iZ (mu24w 38 0)), .int (iZ (mu24w 39 0)), .int (iZ (mu24w 40 0)), .ref (b 41), .ref (b 42)])) := hE24w.1
        have f6_ : en24w 26 0 = some (b 6, aZ dA (101) (mu24w 6)) := hE24w.2 6 (by decide)
        have f7_ : en24w 27 0 = some (b 7, aI dA (101) (mu24w 7)) := hE24w.2 7 (by decide)
        have f8_ : en24w 28 0 = some (b 8, aI dA (101) (mu24w 8)) := hE24w.2 8 (by decide)
        have f14_ : en24w 34 0 = some (b 14, aJ dA (101) (mu24w 14)) := hE24w.2 14 (by decide)
        refine lv_iload hx hb dX4_start_131 (lv_at hl 0 rfl) ?_
        refine z_if_ne (tgt := 143) hx hb dX4_start_133 (by decide) (by omega) (fun _ => ?_) (fun c_q => absurd c_q (by omega))
        obtain ⟨vs, vg⟩ := v_s2 (g := g) (m := mm) hmm (by omega) (by omega) (mo := 2) (by omega)
        have hN : RN (sSt1 g) mu24w mm := RN_1 (by rw [vs.2.2.2.2.2, t6_mm, if_pos (Int.le_refl mm)]) (by omega) vs.1 (by omega) (by omega) (by omega) (by omega) (by omega) (by omega)
        have hmd : ∀ (t : Nat) (j : Int), ¬ (6 ≤ t ∧ t ≤ 15 ∧ j = mm) → mu24w t j = mFl (mMk mu 1 mm (g 11 mm 0) (2) 0) (mu 26 0 + 1) mm 0 (2) t j := fun t j q => by rw [hmu24w, u2_n (by omega), hmu23w, u2_n (by omega), hmu22w, u2_n (by omega), hmu21w, u2_n (by omega), hmu20w, hmk, show mu 4 (mm + 1) - mu 4 mm = g 11 mm 0 by omega]
        have hpst : Rl (sSt1 g) mu24w := rl_d hI hR (m := mm) (kd := 1) (nu := g 11 mm 0) (mo := 2) (by omega) (by omega) (by omega) (by omega) (by omega) vg (fun j q => by rw [vs.2.2.2.2.2]; exact propext ⟨fun _ => by omega, fun _ => by omega⟩) (fun t j q => rfl) rfl (by omega) (by omega) hmd hN
        exact W.vret hx hb hr (fun t ht hw => ⟨⟨(en24w, mu24w), rfl, ⟨hE24w, hF24w, hpst⟩, by show Wd _ _ _ t.heap; rw [ht]; exact hW⟩, hS.F ht⟩) hS.2.2 dX4_start_143
  · refine lv_aload_n hx hb dX4_start_10 rfl (lv_at hl 0 rfl) ?_
    refine lv_iload_n hx hb dX4_start_11 rfl (lv_at hl 1 rfl) ?_
    refine va_calli (va_runV (As := [.int (iZ (mm))]) (rest := []) ⟨hx, hb, hml, hown, hts⟩ (c_X4_size l D dA z en b mu mm (by omega) (by omega) hE) (cwV 1 hts gX4_start_X4_size rfl rfl rfl (by decide +kernel) ⟨Nat.le_of_ble_eq_true rfl, Nat.le_of_ble_eq_true rfl⟩) ⟨gBl, gRecv hK hW (ci := 6) rfl fM, gPre _ hg hS hW⟩ rfl rfl hl.1 rfl (lv_room (Nat.le_of_ble_eq_true rfl)) dX4_start_12 ⟨(show 0 + 0 + 0 ≤ 0 by omega), (show 0 + 0 + 0 ≤ 0 by omega)⟩) hS (fun _ _ h => h) (fun _ h => h) (fun r9 u9 t9 H locs ht9 hvm9 hw9 hB9 hz9 hk9 hS => ?_)
    have hW : Wd D (z 0) en H := by rw [← ht9]; exact hB9
    subst hw9
    refine lv_goto (tgt := 35) hx hb dX4_start_15 (by decide) ?_
    refine lv_istore_n (lv' := [(2, .int (iZ (mu 4 (mm + 1) - mu 4 mm))), (0, .ref (b 0)), (1, .int (iZ (mm)))]) hx hb dX4_start_35 rfl hl (by decide) rfl (fun ls hl => ?_)
    refine lv_aload_n hx hb dX4_start_36 rfl (lv_at hl 1 rfl) ?_
    refine lv_iload_n hx hb dX4_start_37 rfl (lv_at hl 2 rfl) ?_
    refine va_calli (va_runV (As := [.int (iZ (mm))]) (rest := []) ⟨hx, hb, hml, hown, hts⟩ (c_X4_size l D dA z en b mu mm (by omega) (by omega) hE) (cwV 1 hts gX4_start_X4_size rfl rfl rfl (by decide +kernel) ⟨Nat.le_of_ble_eq_true rfl, Nat.le_of_ble_eq_true rfl⟩) ⟨gBl, gRecv hK hW (ci := 6) rfl fM, gPre _ hg hS hW⟩ rfl rfl hl.1 rfl (lv_room (Nat.le_of_ble_eq_true rfl)) dX4_start_38 ⟨(show 0 + 0 + 0 + 0 ≤ 0 by omega), (show 0 + 0 + 0 + 0 ≤ 0 by omega)⟩) hS (fun _ _ h => h) (fun _ h => h) (fun r9 u9 t9 H locs ht9 hvm9 hw9 hB9 hz9 hk9 hS => ?_)
    have hW : Wd D (z 0) en H := by rw [← ht9]; exact hB9
    subst hw9
    refine z_bipush hx hb dX4_start_41 (by decide) ?_
    refine z_icmp_ge (tgt := 50) hx hb dX4_start_43 (by decide) (by omega) (by omega) (fun c_q => absurd c_q (by omega)) (fun _ => ?_)
    refine z_iconst hx hb dX4_start_46 ?_
    refine lv_goto (tgt := 51) hx hb dX4_start_47 (by decide) ?_
    refine lv_istore_n (lv' := [(3, .int (iZ (1))), (2, .int (iZ (mu 4 (mm + 1) - mu 4 mm))), (0, .ref (b 0)), (1, .int (iZ (mm)))]) hx hb dX4_start_51 rfl hl (by decide) rfl (fun ls hl => ?_)
    refine lv_aload_n hx hb dX4_start_52 rfl (lv_at hl 2 rfl) ?_
    refine lv_iload_n hx hb dX4_start_53 rfl (lv_at hl 0 rfl) ?_
    refine z_if_eq (tgt := 61) hx hb dX4_start_54 (by decide) (by omega) (fun c_q => absurd c_q (by omega)) (fun _ => ?_)
    refine z_iconst hx hb dX4_start_57 ?_
    refine lv_goto (tgt := 62) hx hb dX4_start_58 (by decide) ?_
    refine lv_iload_n hx hb dX4_start_62 rfl (lv_at hl 3 rfl) ?_
    refine lv_iload_n hx hb dX4_start_63 rfl (lv_at hl 0 rfl) ?_
    refine z_if_eq (tgt := 71) hx hb dX4_start_64 (by decide) (by omega) (fun c_q => absurd c_q (by omega)) (fun _ => ?_)
    refine z_iconst hx hb dX4_start_67 ?_
    refine lv_goto (tgt := 76) hx hb dX4_start_68 (by decide) ?_
    refine lv_iload_n hx hb dX4_start_76 rfl (lv_at hl 1 rfl) ?_
    refine z_iconst hx hb dX4_start_77 ?_
    refine va_calli (va_runV (As := [.int (iZ (0)), .int (iZ (mm)), .int (iZ (0)), .int (iZ (mu 4 (mm + 1) - mu 4 mm)), .int (iZ (0))]) (rest := []) ⟨hx, hb, hml, hown, hts⟩ (c_X4_make l D dA z en b mu 0 mm 0 (mu 4 (mm + 1) - mu 4 mm) 0 (by omega) (by omega) hE) (cwV 5 hts gX4_start_X4_make rfl rfl rfl (by decide +kernel) ⟨Nat.le_of_ble_eq_true rfl, Nat.le_of_ble_eq_true rfl⟩) ⟨gBl, gRecv hK hW (ci := 6) rfl fM, gPre _ hg hS hW⟩ rfl rfl hl.1 rfl (lv_room (Nat.le_of_ble_eq_true rfl)) dX4_start_78 ⟨(show 0 + 0 + 0 + 0 + 0 ≤ 0 by omega), (show 0 + 0 + 0 + 0 + 0 ≤ 0 by omega)⟩) hS (fun _ _ h => h) (fun _ h => h) (fun r9 u9 t9 H locs ht9 hvm9 hw9 hB9 hz9 hk9 hS => ?_)
    obtain ⟨en25w, mu25w⟩ := u9
    obtain ⟨hr9, hE25w, hF25w, hmu25w⟩ := hw9
    have hW : Wd D (z 0) en25w H := by rw [← ht9]; exact hB9
    dsimp only at hE25w hF25w hmu25w
    subst hr9
    have fM : en25w 20 0 = some (b 0, .inr (6, [.int (iZ (mu25w 0 0)), .int (iZ (mu25w 1 0)), .long (lZ (mu25w 2 0)), .int (iZ (mu25w 3 0)), .ref (b 4), .ref (b 5), .ref (b 6), .ref (b 7), .ref (b 8), .ref (b 9), .ref (b 10), .ref (b 11), .ref (b 12), .ref (b 13), .ref (b 14), .ref (b 15), .ref (b 16), .ref (b 17), .ref (b 18), .ref (b 19), .ref (b 20), .ref (b 21), .ref (b 22), .ref (b 23), .ref (b 24), .ref (b 25), .int (iZ (mu25w 26 0)), .ref (b 27), .ref (b 28), .ref (b 29), .ref (b 30), .ref (b 31), .ref (b 32), .ref (b 33), .ref (b 34), .int (iZ (mu25w 35 0)), .int (iZ (mu25w 36 0)), .int (iZ (mu25w 37 0)), .int (iZ (mu25w 38 0)), .int (iZ (mu25w 39 0)), .int (iZ (mu25w 40 0)), .ref (b 41), .ref (b 42)])) := hE25w.1
    have f6_ : en25w 26 0 = some (b 6, aZ dA (101) (mu25w 6)) := hE25w.2 6 (by decide)
    have f7_ : en25w 27 0 = some (b 7, aI dA (101) (mu25w 7)) := hE25w.2 7 (by decide)
    have f8_ : en25w 28 0 = some (b 8, aI dA (101) (mu25w 8)) := hE25w.2 8 (by decide)
    have f14_ : en25w 34 0 = some (b 14, aJ dA (101) (mu25w 14)) := hE25w.2 14 (by decide)
    have t26b : mu 26 0 = mu 26 (0) := by first | exact t26_0 | rfl
    by_cases hful : mu 26 0 = 6000
    · rw [if_pos hful]
      have hmk : mu25w = mu := by rw [hmu25w]; exact if_pos hful
      replace t26_0 : mu25w 26 (0) = mu 26 (0) := (congrFun (congrFun hmk 26) (0)).trans t26_0
      replace t2_0 : mu25w 2 (0) = mu 2 (0) := (congrFun (congrFun hmk 2) (0)).trans t2_0
      replace t4_mm : mu25w 4 (mm) = mu 4 (mm) := (congrFun (congrFun hmk 4) (mm)).trans t4_mm
      replace t4_mm___1 : mu25w 4 (mm + 1) = mu 4 (mm + 1) := (congrFun (congrFun hmk 4) (mm + 1)).trans t4_mm___1
      replace t7_mm : mu25w 7 (mm) = mu 7 (mm) := (congrFun (congrFun hmk 7) (mm)).trans t7_mm
      replace t8_mm : mu25w 8 (mm) = mu 8 (mm) := (congrFun (congrFun hmk 8) (mm)).trans t8_mm
      replace t9_mm : mu25w 9 (mm) = mu 9 (mm) := (congrFun (congrFun hmk 9) (mm)).trans t9_mm
      replace t6_mm : mu25w 6 (mm) = mu 6 (mm) := (congrFun (congrFun hmk 6) (mm)).trans t6_mm
      replace t13_mm : mu25w 13 (mm) = mu 13 (mm) := (congrFun (congrFun hmk 13) (mm)).trans t13_mm
      replace t14_mm : mu25w 14 (mm) = mu 14 (mm) := (congrFun (congrFun hmk 14) (mm)).trans t14_mm
      refine lv_istore (lv' := [(4, .int (iZ (0))), (3, .int (iZ (1))), (2, .int (iZ (mu 4 (mm + 1) - mu 4 mm))), (0, .ref (b 0)), (1, .int (iZ (mm)))]) hx hb dX4_start_81 hl (by decide) rfl (fun ls hl => ?_)
      refine lv_aload_n hx hb dX4_start_83 rfl (lv_at hl 3 rfl) ?_
      refine lv_iload hx hb dX4_start_84 (lv_at hl 0 rfl) ?_
      refine lv_iload_n hx hb dX4_start_86 rfl (lv_at hl 4 rfl) ?_
      refine z_iconst hx hb dX4_start_87 ?_
      refine lv_iload_n hx hb dX4_start_88 rfl (lv_at hl 2 rfl) ?_
      refine va_callv (va_runV (As := [.int (iZ (0)), .int (iZ (mm)), .int (iZ (0)), .int (iZ (mu 4 (mm + 1) - mu 4 mm))]) (rest := []) ⟨hx, hb, hml, hown, hts⟩ (c_X4_fill0 l D dA z en25w b mu25w mm 0 (mu 4 (mm + 1) - mu 4 mm) (by omega) (by omega) hE25w) (cwV 4 hts gX4_start_X4_fill rfl rfl rfl (by decide +kernel) ⟨Nat.le_of_ble_eq_true rfl, Nat.le_of_ble_eq_true rfl⟩) ⟨gBl, gRecv hK hW (ci := 6) rfl fM, gPre _ hg hS hW⟩ rfl rfl hl.1 rfl (lv_room (Nat.le_of_ble_eq_true rfl)) dX4_start_89 ⟨(show 0 + 0 + 0 + 0 + 0 + 0 ≤ 0 by omega), (show 0 + 0 + 0 + 0 + 0 + 0 ≤ 0 by omega)⟩) hS (fun _ _ h => h) (fun _ h => h) (fun u9 t9 H locs ht9 hvm9 hw9 hB9 hz9 hk9 hS => ?_)
      obtain ⟨en26w, mu26w⟩ := u9
      obtain ⟨hE26w, hF26w, hmu26w⟩ := hw9
      have hW : Wd D (z 0) en26w H := by rw [← ht9]; exact hB9
      dsimp only at hE26w hF26w hmu26w
      have hF26w := FM.tr hF25w hF26w
      have fM : en26w 20 0 = some (b 0, .inr (6, [.int (iZ (mu26w 0 0)), .int (iZ (mu26w 1 0)), .long (lZ (mu26w 2 0)), .int (iZ (mu26w 3 0)), .ref (b 4), .ref (b 5), .ref (b 6), .ref (b 7), .ref (b 8), .ref (b 9), .ref (b 10), .ref (b 11), .ref (b 12), .ref (b 13), .ref (b 14), .ref (b 15), .ref (b 16), .ref (b 17), .ref (b 18), .ref (b 19), .ref (b 20), .ref (b 21), .ref (b 22), .ref (b 23), .ref (b 24), .ref (b 25), .int (iZ (mu26w 26 0)), .ref (b 27), .ref (b 28), .ref (b 29), .ref (b 30), .ref (b 31), .ref (b 32), .ref (b 33), .ref (b 34), .int (iZ (mu26w 35 0)), .int (iZ (mu26w 36 0)), .int (iZ (mu26w 37 0)), .int (iZ (mu26w 38 0)), .int (iZ (mu26w 39 0)), .int (iZ (mu26w 40 0)), .ref (b 41), .ref (b 42)])) := hE26w.1
      have f6_ : en26w 26 0 = some (b 6, aZ dA (101) (mu26w 6)) := hE26w.2 6 (by decide)
      have f7_ : en26w 27 0 = some (b 7, aI dA (101) (mu26w 7)) := hE26w.2 7 (by decide)
      have f8_ : en26w 28 0 = some (b 8, aI dA (101) (mu26w 8)) := hE26w.2 8 (by decide)
      have f14_ : en26w 34 0 = some (b 14, aJ dA (101) (mu26w 14)) := hE26w.2 14 (by decide)
      replace t26_0 : mu26w 26 (0) = mu 26 (0) := (congrFun (congrFun hmu26w 26) (0)).trans t26_0
      replace t2_0 : mu26w 2 (0) = mu 2 (0) := (congrFun (congrFun hmu26w 2) (0)).trans t2_0
      replace t4_mm : mu26w 4 (mm) = mu 4 (mm) := (congrFun (congrFun hmu26w 4) (mm)).trans t4_mm
      replace t4_mm___1 : mu26w 4 (mm + 1) = mu 4 (mm + 1) := (congrFun (congrFun hmu26w 4) (mm + 1)).trans t4_mm___1
      replace t7_mm : mu26w 7 (mm) = mu 7 (mm) := (congrFun (congrFun hmu26w 7) (mm)).trans t7_mm
      replace t8_mm : mu26w 8 (mm) = mu 8 (mm) := (congrFun (congrFun hmu26w 8) (mm)).trans t8_mm
      replace t9_mm : mu26w 9 (mm) = mu 9 (mm) := (congrFun (congrFun hmu26w 9) (mm)).trans t9_mm
      replace t6_mm : mu26w 6 (mm) = mu 6 (mm) := (congrFun (congrFun hmu26w 6) (mm)).trans t6_mm
      replace t13_mm : mu26w 13 (mm) = mu 13 (mm) := (congrFun (congrFun hmu26w 13) (mm)).trans t13_mm
      replace t14_mm : mu26w 14 (mm) = mu 14 (mm) := (congrFun (congrFun hmu26w 14) (mm)).trans t14_mm
      refine lv_aload_n hx hb dX4_start_92 rfl (lv_at hl 3 rfl) ?_
      refine g_get (C := RX4) (T := TX4) (N := 43) (ci := 6) (v := .ref (b 6)) hx hb hts hi6 hown hK hW fM rfl 6 (by decide) (hts (.fieldLink RX4 18 "LongTransferModel" "begun" "[Z") (by decide +kernel)) (fun _ h9 => h9) rfl dX4_start_93 ?_
      refine lv_iload_n hx hb dX4_start_96 rfl (lv_at hl 4 rfl) ?_
      refine z_iconst hx hb dX4_start_97 ?_
      refine g_zast (x := 1) hx hb hK hW hS f6_ (by omega) (by omega) (by omega) (by decide) dX4_start_98 (fun H locs hW hS => ?_)
      obtain ⟨en27w, hen27w⟩ : ∃ x : en_T, x = e2 en26w 26 0 (some (b 6, aZ dA (101) (uF (mu26w 6) (mm) (1)))) := ⟨_, rfl⟩
      rw [← hen27w] at hW
      obtain ⟨mu27w, hmu27w⟩ : ∃ x : Mu, x = u2 mu26w 6 (mm) (1) := ⟨_, rfl⟩
      have hE27w : EM dA b mu27w en27w := by rw [hen27w, hmu27w]; exact em_w hE26w (k0 := 6) (j := mm) (v := 1) (by decide)
      have hF27w : FM en26w en27w := fun k i q => by rw [hen27w]; exact e2_k (fun w => q (by rw [w]; decide))
      have hF27w := FM.tr hF26w hF27w
      replace t26_0 : mu27w 26 (0) = mu 26 (0) := by rw [hmu27w]; exact (u2_n (fun q => absurd q.1 (by decide))).trans t26_0
      replace t2_0 : mu27w 2 (0) = mu 2 (0) := by rw [hmu27w]; exact (u2_n (fun q => absurd q.1 (by decide))).trans t2_0
      replace t4_mm : mu27w 4 (mm) = mu 4 (mm) := by rw [hmu27w]; exact (u2_n (fun q => absurd q.1 (by decide))).trans t4_mm
      replace t4_mm___1 : mu27w 4 (mm + 1) = mu 4 (mm + 1) := by rw [hmu27w]; exact (u2_n (fun q => absurd q.1 (by decide))).trans t4_mm___1
      replace t7_mm : mu27w 7 (mm) = mu 7 (mm) := by rw [hmu27w]; exact (u2_n (fun q => absurd q.1 (by decide))).trans t7_mm
      replace t8_mm : mu27w 8 (mm) = mu 8 (mm) := by rw [hmu27w]; exact (u2_n (fun q => absurd q.1 (by decide))).trans t8_mm
      replace t9_mm : mu27w 9 (mm) = mu 9 (mm) := by rw [hmu27w]; exact (u2_n (fun q => absurd q.1 (by decide))).trans t9_mm
      replace t6_mm : mu27w 6 (mm) = 1 := by rw [hmu27w]; exact u2_s _ _ _ _
      replace t13_mm : mu27w 13 (mm) = mu 13 (mm) := by rw [hmu27w]; exact (u2_n (fun q => absurd q.1 (by decide))).trans t13_mm
      replace t14_mm : mu27w 14 (mm) = mu 14 (mm) := by rw [hmu27w]; exact (u2_n (fun q => absurd q.1 (by decide))).trans t14_mm
      have fM : en27w 20 0 = some (b 0, .inr (6, [.int (iZ (mu27w 0 0)), .int (iZ (mu27w 1 0)), .long (lZ (mu27w 2 0)), .int (iZ (mu27w 3 0)), .ref (b 4), .ref (b 5), .ref (b 6), .ref (b 7), .ref (b 8), .ref (b 9), .ref (b 10), .ref (b 11), .ref (b 12), .ref (b 13), .ref (b 14), .ref (b 15), .ref (b 16), .ref (b 17), .ref (b 18), .ref (b 19), .ref (b 20), .ref (b 21), .ref (b 22), .ref (b 23), .ref (b 24), .ref (b 25), .int (iZ (mu27w 26 0)), .ref (b 27), .ref (b 28), .ref (b 29), .ref (b 30), .ref (b 31), .ref (b 32), .ref (b 33), .ref (b 34), .int (iZ (mu27w 35 0)), .int (iZ (mu27w 36 0)), .int (iZ (mu27w 37 0)), .int (iZ (mu27w 38 0)), .int (iZ (mu27w 39 0)), .int (iZ (mu27w 40 0)), .ref (b 41), .ref (b 42)])) := hE27w.1
      have f6_ : en27w 26 0 = some (b 6, aZ dA (101) (mu27w 6)) := hE27w.2 6 (by decide)
      have f7_ : en27w 27 0 = some (b 7, aI dA (101) (mu27w 7)) := hE27w.2 7 (by decide)
      have f8_ : en27w 28 0 = some (b 8, aI dA (101) (mu27w 8)) := hE27w.2 8 (by decide)
      have f14_ : en27w 34 0 = some (b 14, aJ dA (101) (mu27w 14)) := hE27w.2 14 (by decide)
      refine lv_aload_n hx hb dX4_start_99 rfl (lv_at hl 3 rfl) ?_
      refine g_get (C := RX4) (T := TX4) (N := 43) (ci := 6) (v := .ref (b 8)) hx hb hts hi6 hown hK hW fM rfl 8 (by decide) (hts (.fieldLink RX4 25 "LongTransferModel" "sent" "[I") (by decide +kernel)) (fun _ h9 => h9) rfl dX4_start_100 ?_
      refine lv_iload_n hx hb dX4_start_103 rfl (lv_at hl 4 rfl) ?_
      refine lv_iload_n hx hb dX4_start_104 rfl (lv_at hl 2 rfl) ?_
      refine g_iast (x := mu 4 (mm + 1) - mu 4 mm) hx hb hK hW hS f8_ (by omega) (by omega) (by omega) dX4_start_105 (fun H locs hW hS => ?_)
      obtain ⟨en28w, hen28w⟩ : ∃ x : en_T, x = e2 en27w 28 0 (some (b 8, aI dA (101) (uF (mu27w 8) (mm) (mu 4 (mm + 1) - mu 4 mm)))) := ⟨_, rfl⟩
      rw [← hen28w] at hW
      obtain ⟨mu28w, hmu28w⟩ : ∃ x : Mu, x = u2 mu27w 8 (mm) (mu 4 (mm + 1) - mu 4 mm) := ⟨_, rfl⟩
      have hE28w : EM dA b mu28w en28w := by rw [hen28w, hmu28w]; exact em_w hE27w (k0 := 8) (j := mm) (v := mu 4 (mm + 1) - mu 4 mm) (by decide)
      have hF28w : FM en27w en28w := fun k i q => by rw [hen28w]; exact e2_k (fun w => q (by rw [w]; decide))
      have hF28w := FM.tr hF27w hF28w
      replace t26_0 : mu28w 26 (0) = mu 26 (0) := by rw [hmu28w]; exact (u2_n (fun q => absurd q.1 (by decide))).trans t26_0
      replace t2_0 : mu28w 2 (0) = mu 2 (0) := by rw [hmu28w]; exact (u2_n (fun q => absurd q.1 (by decide))).trans t2_0
      replace t4_mm : mu28w 4 (mm) = mu 4 (mm) := by rw [hmu28w]; exact (u2_n (fun q => absurd q.1 (by decide))).trans t4_mm
      replace t4_mm___1 : mu28w 4 (mm + 1) = mu 4 (mm + 1) := by rw [hmu28w]; exact (u2_n (fun q => absurd q.1 (by decide))).trans t4_mm___1
      replace t7_mm : mu28w 7 (mm) = mu 7 (mm) := by rw [hmu28w]; exact (u2_n (fun q => absurd q.1 (by decide))).trans t7_mm
      replace t8_mm : mu28w 8 (mm) = mu 4 (mm + 1) - mu 4 mm := by rw [hmu28w]; exact u2_s _ _ _ _
      replace t9_mm : mu28w 9 (mm) = mu 9 (mm) := by rw [hmu28w]; exact (u2_n (fun q => absurd q.1 (by decide))).trans t9_mm
      replace t6_mm : mu28w 6 (mm) = 1 := by rw [hmu28w]; exact (u2_n (fun q => absurd q.1 (by decide))).trans t6_mm
      replace t13_mm : mu28w 13 (mm) = mu 13 (mm) := by rw [hmu28w]; exact (u2_n (fun q => absurd q.1 (by decide))).trans t13_mm
      replace t14_mm : mu28w 14 (mm) = mu 14 (mm) := by rw [hmu28w]; exact (u2_n (fun q => absurd q.1 (by decide))).trans t14_mm
      have fM : en28w 20 0 = some (b 0, .inr (6, [.int (iZ (mu28w 0 0)), .int (iZ (mu28w 1 0)), .long (lZ (mu28w 2 0)), .int (iZ (mu28w 3 0)), .ref (b 4), .ref (b 5), .ref (b 6), .ref (b 7), .ref (b 8), .ref (b 9), .ref (b 10), .ref (b 11), .ref (b 12), .ref (b 13), .ref (b 14), .ref (b 15), .ref (b 16), .ref (b 17), .ref (b 18), .ref (b 19), .ref (b 20), .ref (b 21), .ref (b 22), .ref (b 23), .ref (b 24), .ref (b 25), .int (iZ (mu28w 26 0)), .ref (b 27), .ref (b 28), .ref (b 29), .ref (b 30), .ref (b 31), .ref (b 32), .ref (b 33), .ref (b 34), .int (iZ (mu28w 35 0)), .int (iZ (mu28w 36 0)), .int (iZ (mu28w 37 0)), .int (iZ (mu28w 38 0)), .int (iZ (mu28w 39 0)), .int (iZ (mu28w 40 0)), .ref (b 41), .ref (b 42)])) := hE28w.1
      have f6_ : en28w 26 0 = some (b 6, aZ dA (101) (mu28w 6)) := hE28w.2 6 (by decide)
      have f7_ : en28w 27 0 = some (b 7, aI dA (101) (mu28w 7)) := hE28w.2 7 (by decide)
      have f8_ : en28w 28 0 = some (b 8, aI dA (101) (mu28w 8)) := hE28w.2 8 (by decide)
      have f14_ : en28w 34 0 = some (b 14, aJ dA (101) (mu28w 14)) := hE28w.2 14 (by decide)
      refine lv_aload_n hx hb dX4_start_106 rfl (lv_at hl 3 rfl) ?_
      refine g_get (C := RX4) (T := TX4) (N := 43) (ci := 6) (v := .ref (b 14)) hx hb hts hi6 hown hK hW fM rfl 14 (by decide) (hts (.fieldLink RX4 43 "LongTransferModel" "since" "[J") (by decide +kernel)) (fun _ h9 => h9) rfl dX4_start_107 ?_
      refine lv_iload_n hx hb dX4_start_110 rfl (lv_at hl 4 rfl) ?_
      refine lv_aload_n hx hb dX4_start_111 rfl (lv_at hl 3 rfl) ?_
      refine g_get (C := RX4) (T := TX4) (N := 43) (ci := 6) (v := .long (lZ (mu28w 2 0))) hx hb hts hi6 hown hK hW fM rfl 2 (by decide) (hts (.fieldLink RX4 137 "LongTransferModel" "now" "J") (by decide +kernel)) (fun _ h9 => h9) rfl dX4_start_112 ?_
      rw [t2_0]
      refine g_last (x := mu 2 (0)) hx hb hK hW hS f14_ (by omega) (by omega) (by omega) dX4_start_115 (fun H locs hW hS => ?_)
      obtain ⟨en29w, hen29w⟩ : ∃ x : en_T, x = e2 en28w 34 0 (some (b 14, aJ dA (101) (uF (mu28w 14) (mm) (mu 2 (0))))) := ⟨_, rfl⟩
      rw [← hen29w] at hW
      obtain ⟨mu29w, hmu29w⟩ : ∃ x : Mu, x = u2 mu28w 14 (mm) (mu 2 (0)) := ⟨_, rfl⟩
      have hE29w : EM dA b mu29w en29w := by rw [hen29w, hmu29w]; exact em_w hE28w (k0 := 14) (j := mm) (v := mu 2 (0)) (by decide)
      have hF29w : FM en28w en29w := fun k i q => by rw [hen29w]; exact e2_k (fun w => q (by rw [w]; decide))
      have hF29w := FM.tr hF28w hF29w
      replace t26_0 : mu29w 26 (0) = mu 26 (0) := by rw [hmu29w]; exact (u2_n (fun q => absurd q.1 (by decide))).trans t26_0
      replace t2_0 : mu29w 2 (0) = mu 2 (0) := by rw [hmu29w]; exact (u2_n (fun q => absurd q.1 (by decide))).trans t2_0
      replace t4_mm : mu29w 4 (mm) = mu 4 (mm) := by rw [hmu29w]; exact (u2_n (fun q => absurd q.1 (by decide))).trans t4_mm
      replace t4_mm___1 : mu29w 4 (mm + 1) = mu 4 (mm + 1) := by rw [hmu29w]; exact (u2_n (fun q => absurd q.1 (by decide))).trans t4_mm___1
      replace t7_mm : mu29w 7 (mm) = mu 7 (mm) := by rw [hmu29w]; exact (u2_n (fun q => absurd q.1 (by decide))).trans t7_mm
      replace t8_mm : mu29w 8 (mm) = mu 4 (mm + 1) - mu 4 mm := by rw [hmu29w]; exact (u2_n (fun q => absurd q.1 (by decide))).trans t8_mm
      replace t9_mm : mu29w 9 (mm) = mu 9 (mm) := by rw [hmu29w]; exact (u2_n (fun q => absurd q.1 (by decide))).trans t9_mm
      replace t6_mm : mu29w 6 (mm) = 1 := by rw [hmu29w]; exact (u2_n (fun q => absurd q.1 (by decide))).trans t6_mm
      replace t13_mm : mu29w 13 (mm) = mu 13 (mm) := by rw [hmu29w]; exact (u2_n (fun q => absurd q.1 (by decide))).trans t13_mm
      replace t14_mm : mu29w 14 (mm) = mu 2 (0) := by rw [hmu29w]; exact u2_s _ _ _ _
      have fM : en29w 20 0 = some (b 0, .inr (6, [.int (iZ (mu29w 0 0)), .int (iZ (mu29w 1 0)), .long (lZ (mu29w 2 0)), .int (iZ (mu29w 3 0)), .ref (b 4), .ref (b 5), .ref (b 6), .ref (b 7), .ref (b 8), .ref (b 9), .ref (b 10), .ref (b 11), .ref (b 12), .ref (b 13), .ref (b 14), .ref (b 15), .ref (b 16), .ref (b 17), .ref (b 18), .ref (b 19), .ref (b 20), .ref (b 21), .ref (b 22), .ref (b 23), .ref (b 24), .ref (b 25), .int (iZ (mu29w 26 0)), .ref (b 27), .ref (b 28), .ref (b 29), .ref (b 30), .ref (b 31), .ref (b 32), .ref (b 33), .ref (b 34), .int (iZ (mu29w 35 0)), .int (iZ (mu29w 36 0)), .int (iZ (mu29w 37 0)), .int (iZ (mu29w 38 0)), .int (iZ (mu29w 39 0)), .int (iZ (mu29w 40 0)), .ref (b 41), .ref (b 42)])) := hE29w.1
      have f6_ : en29w 26 0 = some (b 6, aZ dA (101) (mu29w 6)) := hE29w.2 6 (by decide)
      have f7_ : en29w 27 0 = some (b 7, aI dA (101) (mu29w 7)) := hE29w.2 7 (by decide)
      have f8_ : en29w 28 0 = some (b 8, aI dA (101) (mu29w 8)) := hE29w.2 8 (by decide)
      have f14_ : en29w 34 0 = some (b 14, aJ dA (101) (mu29w 14)) := hE29w.2 14 (by decide)
      refine lv_aload_n hx hb dX4_start_116 rfl (lv_at hl 3 rfl) ?_
      refine g_get (C := RX4) (T := TX4) (N := 43) (ci := 6) (v := .ref (b 7)) hx hb hts hi6 hown hK hW fM rfl 7 (by decide) (hts (.fieldLink RX4 22 "LongTransferModel" "state" "[I") (by decide +kernel)) (fun _ h9 => h9) rfl dX4_start_117 ?_
      refine lv_iload_n hx hb dX4_start_120 rfl (lv_at hl 4 rfl) ?_
      refine lv_iload_n hx hb dX4_start_121 rfl (lv_at hl 1 rfl) ?_
      refine z_if_eq (tgt := 129) hx hb dX4_start_122 (by decide) (by omega) (fun c_q => absurd c_q (by omega)) (fun _ => ?_)
      refine z_iconst hx hb dX4_start_125 ?_
      refine lv_goto (tgt := 130) hx hb dX4_start_126 (by decide) ?_
      refine g_iast (x := 3) hx hb hK hW hS f7_ (by omega) (by omega) (by omega) dX4_start_130 (fun H locs hW hS => ?_)
      obtain ⟨en30w, hen30w⟩ : ∃ x : en_T, x = e2 en29w 27 0 (some (b 7, aI dA (101) (uF (mu29w 7) (mm) (3)))) := ⟨_, rfl⟩
      rw [← hen30w] at hW
      obtain ⟨mu30w, hmu30w⟩ : ∃ x : Mu, x = u2 mu29w 7 (mm) (3) := ⟨_, rfl⟩
      have hE30w : EM dA b mu30w en30w := by rw [hen30w, hmu30w]; exact em_w hE29w (k0 := 7) (j := mm) (v := 3) (by decide)
      have hF30w : FM en29w en30w := fun k i q => by rw [hen30w]; exact e2_k (fun w => q (by rw [w]; decide))
      have hF30w := FM.tr hF29w hF30w
      replace t26_0 : mu30w 26 (0) = mu 26 (0) := by rw [hmu30w]; exact (u2_n (fun q => absurd q.1 (by decide))).trans t26_0
      replace t2_0 : mu30w 2 (0) = mu 2 (0) := by rw [hmu30w]; exact (u2_n (fun q => absurd q.1 (by decide))).trans t2_0
      replace t4_mm : mu30w 4 (mm) = mu 4 (mm) := by rw [hmu30w]; exact (u2_n (fun q => absurd q.1 (by decide))).trans t4_mm
      replace t4_mm___1 : mu30w 4 (mm + 1) = mu 4 (mm + 1) := by rw [hmu30w]; exact (u2_n (fun q => absurd q.1 (by decide))).trans t4_mm___1
      replace t7_mm : mu30w 7 (mm) = 3 := by rw [hmu30w]; exact u2_s _ _ _ _
      replace t8_mm : mu30w 8 (mm) = mu 4 (mm + 1) - mu 4 mm := by rw [hmu30w]; exact (u2_n (fun q => absurd q.1 (by decide))).trans t8_mm
      replace t9_mm : mu30w 9 (mm) = mu 9 (mm) := by rw [hmu30w]; exact (u2_n (fun q => absurd q.1 (by decide))).trans t9_mm
      replace t6_mm : mu30w 6 (mm) = 1 := by rw [hmu30w]; exact (u2_n (fun q => absurd q.1 (by decide))).trans t6_mm
      replace t13_mm : mu30w 13 (mm) = mu 13 (mm) := by rw [hmu30w]; exact (u2_n (fun q => absurd q.1 (by decide))).trans t13_mm
      replace t14_mm : mu30w 14 (mm) = mu 2 (0) := by rw [hmu30w]; exact (u2_n (fun q => absurd q.1 (by decide))).trans t14_mm
      have fM : en30w 20 0 = some (b 0, .inr (6, [.int (iZ (mu30w 0 0)), .int (iZ (mu30w 1 0)), .long (lZ (mu30w 2 0)), .int (iZ (mu30w 3 0)), .ref (b 4), .ref (b 5), .ref (b 6), .ref (b 7), .ref (b 8), .ref (b 9), .ref (b 10), .ref (b 11), .ref (b 12), .ref (b 13), .ref (b 14), .ref (b 15), .ref (b 16), .ref (b 17), .ref (b 18), .ref (b 19), .ref (b 20), .ref (b 21), .ref (b 22), .ref (b 23), .ref (b 24), .ref (b 25), .int (iZ (mu30w 26 0)), .ref (b 27), .ref (b 28), .ref (b 29), .ref (b 30), .ref (b 31), .ref (b 32), .ref (b 33), .ref (b 34), .int (iZ (mu30w 35 0)), .int (iZ (mu30w 36 0)), .int (iZ (mu30w 37 0)), .int (iZ (mu30w 38 0)), .int (iZ (mu30w 39 0)), .int (iZ (mu30w 40 0)), .ref (b 41), .ref (b 42)])) := hE30w.1
      have f6_ : en30w 26 0 = some (b 6, aZ dA (101) (mu30w 6)) := hE30w.2 6 (by decide)
      have f7_ : en30w 27 0 = some (b 7, aI dA (101) (mu30w 7)) := hE30w.2 7 (by decide)
      have f8_ : en30w 28 0 = some (b 8, aI dA (101) (mu30w 8)) := hE30w.2 8 (by decide)
      have f14_ : en30w 34 0 = some (b 14, aJ dA (101) (mu30w 14)) := hE30w.2 14 (by decide)
      refine lv_iload hx hb dX4_start_131 (lv_at hl 0 rfl) ?_
      refine z_if_ne (tgt := 143) hx hb dX4_start_133 (by decide) (by omega) (fun c_q => absurd c_q (by omega)) (fun _ => ?_)
      refine lv_aload_n hx hb dX4_start_136 rfl (lv_at hl 3 rfl) ?_
      refine lv_iload_n hx hb dX4_start_137 rfl (lv_at hl 4 rfl) ?_
      refine z_bipush hx hb dX4_start_138 (by decide) ?_
      refine va_callv (va_runV (As := [.int (iZ (mm)), .int (iZ (7))]) (rest := []) ⟨hx, hb, hml, hown, hts⟩ (c_X4_endSender l D dA z en30w b mu30w mm 7 (by omega) (by omega) (by omega) (by omega) hE30w) (cwV 2 hts gX4_start_X4_endSender rfl rfl rfl (by decide +kernel) ⟨Nat.le_of_ble_eq_true rfl, Nat.le_of_ble_eq_true rfl⟩) ⟨gBl, gRecv hK hW (ci := 6) rfl fM, gPre _ hg hS hW⟩ rfl rfl hl.1 rfl (lv_room (Nat.le_of_ble_eq_true rfl)) dX4_start_140 ⟨(show 0 + 0 + 0 + 0 + 0 + 0 + 0 ≤ 0 by omega), (show 0 + 0 + 0 + 0 + 0 + 0 + 0 ≤ 0 by omega)⟩) hS (fun _ _ h => h) (fun _ h => h) (fun u9 t9 H locs ht9 hvm9 hw9 hB9 hz9 hk9 hS => ?_)
      obtain ⟨en31w, mu31w⟩ := u9
      obtain ⟨hE31w, hF31w, hmu31w⟩ := hw9
      have hW : Wd D (z 0) en31w H := by rw [← ht9]; exact hB9
      dsimp only at hE31w hF31w hmu31w
      have hF31w := FM.tr hF30w hF31w
      have fM : en31w 20 0 = some (b 0, .inr (6, [.int (iZ (mu31w 0 0)), .int (iZ (mu31w 1 0)), .long (lZ (mu31w 2 0)), .int (iZ (mu31w 3 0)), .ref (b 4), .ref (b 5), .ref (b 6), .ref (b 7), .ref (b 8), .ref (b 9), .ref (b 10), .ref (b 11), .ref (b 12), .ref (b 13), .ref (b 14), .ref (b 15), .ref (b 16), .ref (b 17), .ref (b 18), .ref (b 19), .ref (b 20), .ref (b 21), .ref (b 22), .ref (b 23), .ref (b 24), .ref (b 25), .int (iZ (mu31w 26 0)), .ref (b 27), .ref (b 28), .ref (b 29), .ref (b 30), .ref (b 31), .ref (b 32), .ref (b 33), .ref (b 34), .int (iZ (mu31w 35 0)), .int (iZ (mu31w 36 0)), .int (iZ (mu31w 37 0)), .int (iZ (mu31w 38 0)), .int (iZ (mu31w 39 0)), .int (iZ (mu31w 40 0)), .ref (b 41), .ref (b 42)])) := hE31w.1
      have f6_ : en31w 26 0 = some (b 6, aZ dA (101) (mu31w 6)) := hE31w.2 6 (by decide)
      have f7_ : en31w 27 0 = some (b 7, aI dA (101) (mu31w 7)) := hE31w.2 7 (by decide)
      have f8_ : en31w 28 0 = some (b 8, aI dA (101) (mu31w 8)) := hE31w.2 8 (by decide)
      have f14_ : en31w 34 0 = some (b 14, aJ dA (101) (mu31w 14)) := hE31w.2 14 (by decide)
      have hz0 : ∀ (t : Nat) (j : Int), ¬ (6 ≤ t ∧ t ≤ 15 ∧ j = mm) → mu30w t j = mu t j := fun t j q => by rw [hmu30w, u2_n (by omega), hmu29w, u2_n (by omega), hmu28w, u2_n (by omega), hmu27w, u2_n (by omega), hmu26w, hmk]
      have hz6 : mu30w 6 mm = 1 := by rw [hmu30w, u2_n (by omega), hmu29w, u2_n (by omega), hmu28w, u2_n (by omega), hmu27w, u2_s]
      have hpst : Rl (sSt1 g) mu31w := by unfold sSt1; rw [← hmm, v_st0 (by omega), hmu31w]; exact rl_st0 hI hR (by omega) (by omega) hmm hz0 hz6
      exact W.vret hx hb hr (fun t ht hw => ⟨⟨(en31w, mu31w), rfl, ⟨hE31w, hF31w, hpst⟩, by show Wd _ _ _ t.heap; rw [ht]; exact hW⟩, hS.F ht⟩) hS.2.2 dX4_start_143
    · rw [if_neg hful]
      have hmk : mu25w = mMk mu 0 mm 0 (mu 4 (mm + 1) - mu 4 mm) 0 := by rw [hmu25w]; exact if_neg hful
      replace t26_0 : mu25w 26 (0) = mu 26 (0) + 1 := by rw [hmk, (mMk_v _ _ _ _ _ _).1, t26_0]
      replace t2_0 : mu25w 2 (0) = mu 2 (0) := by rw [hmk]; exact (mMk_n ⟨fun q => absurd q.1 (by decide), fun q => absurd q.1 (by decide)⟩).trans t2_0
      replace t4_mm : mu25w 4 (mm) = mu 4 (mm) := by rw [hmk]; exact (mMk_n ⟨fun q => absurd q.1 (by decide), fun q => absurd q.1 (by decide)⟩).trans t4_mm
      replace t4_mm___1 : mu25w 4 (mm + 1) = mu 4 (mm + 1) := by rw [hmk]; exact (mMk_n ⟨fun q => absurd q.1 (by decide), fun q => absurd q.1 (by decide)⟩).trans t4_mm___1
      replace t7_mm : mu25w 7 (mm) = mu 7 (mm) := by rw [hmk]; exact (mMk_n ⟨fun q => absurd q.1 (by decide), fun q => absurd q.1 (by decide)⟩).trans t7_mm
      replace t8_mm : mu25w 8 (mm) = mu 8 (mm) := by rw [hmk]; exact (mMk_n ⟨fun q => absurd q.1 (by decide), fun q => absurd q.1 (by decide)⟩).trans t8_mm
      replace t9_mm : mu25w 9 (mm) = mu 9 (mm) := by rw [hmk]; exact (mMk_n ⟨fun q => absurd q.1 (by decide), fun q => absurd q.1 (by decide)⟩).trans t9_mm
      replace t6_mm : mu25w 6 (mm) = mu 6 (mm) := by rw [hmk]; exact (mMk_n ⟨fun q => absurd q.1 (by decide), fun q => absurd q.1 (by decide)⟩).trans t6_mm
      replace t13_mm : mu25w 13 (mm) = mu 13 (mm) := by rw [hmk]; exact (mMk_n ⟨fun q => absurd q.1 (by decide), fun q => absurd q.1 (by decide)⟩).trans t13_mm
      replace t14_mm : mu25w 14 (mm) = mu 14 (mm) := by rw [hmk]; exact (mMk_n ⟨fun q => absurd q.1 (by decide), fun q => absurd q.1 (by decide)⟩).trans t14_mm
      have hB5 : ∀ j : Int, -128 ≤ mu25w 5 j ∧ mu25w 5 j ≤ 127 := fun j => by rw [hmk, mMk_n (by omega)]; exact rB 5 j (by omega)
      refine lv_istore (lv' := [(4, .int (iZ (mu 26 0 + 1))), (3, .int (iZ (1))), (2, .int (iZ (mu 4 (mm + 1) - mu 4 mm))), (0, .ref (b 0)), (1, .int (iZ (mm)))]) hx hb dX4_start_81 hl (by decide) rfl (fun ls hl => ?_)
      refine lv_aload_n hx hb dX4_start_83 rfl (lv_at hl 3 rfl) ?_
      refine lv_iload hx hb dX4_start_84 (lv_at hl 0 rfl) ?_
      refine lv_iload_n hx hb dX4_start_86 rfl (lv_at hl 4 rfl) ?_
      refine z_iconst hx hb dX4_start_87 ?_
      refine lv_iload_n hx hb dX4_start_88 rfl (lv_at hl 2 rfl) ?_
      have hq4 : mu25w 4 mm = mu 4 mm := by omega
      refine va_callv (va_runV (As := [.int (iZ (mu 26 0 + 1)), .int (iZ (mm)), .int (iZ (0)), .int (iZ (mu 4 (mm + 1) - mu 4 mm))]) (rest := []) ⟨hx, hb, hml, hown, hts⟩ (c_X4_fill l D dA z en25w b mu25w (mu 26 0 + 1) mm 0 (mu 4 (mm + 1) - mu 4 mm) (by omega) (by omega) (by omega) (by omega) (by omega) (by omega) (by omega) (by omega) hB5 hE25w) (cwV 4 hts gX4_start_X4_fill rfl rfl rfl (by decide +kernel) ⟨Nat.le_of_ble_eq_true rfl, Nat.le_of_ble_eq_true rfl⟩) ⟨gBl, gRecv hK hW (ci := 6) rfl fM, gPre _ hg hS hW⟩ rfl rfl hl.1 rfl (lv_room (Nat.le_of_ble_eq_true rfl)) dX4_start_89 ⟨(show 0 + 0 + 0 + 0 + 0 + 0 ≤ 0 by omega), (show 0 + 0 + 0 + 0 + 0 + 0 ≤ 0 by omega)⟩) hS (fun _ _ h => h) (fun _ h => h) (fun u9 t9 H locs ht9 hvm9 hw9 hB9 hz9 hk9 hS => ?_)
      obtain ⟨en32w, mu32w⟩ := u9
      obtain ⟨hE32w, hF32w, hmu32w⟩ := hw9
      have hW : Wd D (z 0) en32w H := by rw [← ht9]; exact hB9
      dsimp only at hE32w hF32w hmu32w
      have hF32w := FM.tr hF25w hF32w
      have fM : en32w 20 0 = some (b 0, .inr (6, [.int (iZ (mu32w 0 0)), .int (iZ (mu32w 1 0)), .long (lZ (mu32w 2 0)), .int (iZ (mu32w 3 0)), .ref (b 4), .ref (b 5), .ref (b 6), .ref (b 7), .ref (b 8), .ref (b 9), .ref (b 10), .ref (b 11), .ref (b 12), .ref (b 13), .ref (b 14), .ref (b 15), .ref (b 16), .ref (b 17), .ref (b 18), .ref (b 19), .ref (b 20), .ref (b 21), .ref (b 22), .ref (b 23), .ref (b 24), .ref (b 25), .int (iZ (mu32w 26 0)), .ref (b 27), .ref (b 28), .ref (b 29), .ref (b 30), .ref (b 31), .ref (b 32), .ref (b 33), .ref (b 34), .int (iZ (mu32w 35 0)), .int (iZ (mu32w 36 0)), .int (iZ (mu32w 37 0)), .int (iZ (mu32w 38 0)), .int (iZ (mu32w 39 0)), .int (iZ (mu32w 40 0)), .ref (b 41), .ref (b 42)])) := hE32w.1
      have f6_ : en32w 26 0 = some (b 6, aZ dA (101) (mu32w 6)) := hE32w.2 6 (by decide)
      have f7_ : en32w 27 0 = some (b 7, aI dA (101) (mu32w 7)) := hE32w.2 7 (by decide)
      have f8_ : en32w 28 0 = some (b 8, aI dA (101) (mu32w 8)) := hE32w.2 8 (by decide)
      have f14_ : en32w 34 0 = some (b 14, aJ dA (101) (mu32w 14)) := hE32w.2 14 (by decide)
      replace t26_0 : mu32w 26 (0) = mu 26 (0) + 1 := by rw [hmu32w]; exact (mFl_n (fun q => absurd q.1 (by decide))).trans t26_0
      replace t2_0 : mu32w 2 (0) = mu 2 (0) := by rw [hmu32w]; exact (mFl_n (fun q => absurd q.1 (by decide))).trans t2_0
      replace t4_mm : mu32w 4 (mm) = mu 4 (mm) := by rw [hmu32w]; exact (mFl_n (fun q => absurd q.1 (by decide))).trans t4_mm
      replace t4_mm___1 : mu32w 4 (mm + 1) = mu 4 (mm + 1) := by rw [hmu32w]; exact (mFl_n (fun q => absurd q.1 (by decide))).trans t4_mm___1
      replace t7_mm : mu32w 7 (mm) = mu 7 (mm) := by rw [hmu32w]; exact (mFl_n (fun q => absurd q.1 (by decide))).trans t7_mm
      replace t8_mm : mu32w 8 (mm) = mu 8 (mm) := by rw [hmu32w]; exact (mFl_n (fun q => absurd q.1 (by decide))).trans t8_mm
      replace t9_mm : mu32w 9 (mm) = mu 9 (mm) := by rw [hmu32w]; exact (mFl_n (fun q => absurd q.1 (by decide))).trans t9_mm
      replace t6_mm : mu32w 6 (mm) = mu 6 (mm) := by rw [hmu32w]; exact (mFl_n (fun q => absurd q.1 (by decide))).trans t6_mm
      replace t13_mm : mu32w 13 (mm) = mu 13 (mm) := by rw [hmu32w]; exact (mFl_n (fun q => absurd q.1 (by decide))).trans t13_mm
      replace t14_mm : mu32w 14 (mm) = mu 14 (mm) := by rw [hmu32w]; exact (mFl_n (fun q => absurd q.1 (by decide))).trans t14_mm
      refine lv_aload_n hx hb dX4_start_92 rfl (lv_at hl 3 rfl) ?_
      refine g_get (C := RX4) (T := TX4) (N := 43) (ci := 6) (v := .ref (b 6)) hx hb hts hi6 hown hK hW fM rfl 6 (by decide) (hts (.fieldLink RX4 18 "LongTransferModel" "begun" "[Z") (by decide +kernel)) (fun _ h9 => h9) rfl dX4_start_93 ?_
      refine lv_iload_n hx hb dX4_start_96 rfl (lv_at hl 4 rfl) ?_
      refine z_iconst hx hb dX4_start_97 ?_
      refine g_zast (x := 1) hx hb hK hW hS f6_ (by omega) (by omega) (by omega) (by decide) dX4_start_98 (fun H locs hW hS => ?_)
      obtain ⟨en33w, hen33w⟩ : ∃ x : en_T, x = e2 en32w 26 0 (some (b 6, aZ dA (101) (uF (mu32w 6) (mm) (1)))) := ⟨_, rfl⟩
      rw [← hen33w] at hW
      obtain ⟨mu33w, hmu33w⟩ : ∃ x : Mu, x = u2 mu32w 6 (mm) (1) := ⟨_, rfl⟩
      have hE33w : EM dA b mu33w en33w := by rw [hen33w, hmu33w]; exact em_w hE32w (k0 := 6) (j := mm) (v := 1) (by decide)
      have hF33w : FM en32w en33w := fun k i q => by rw [hen33w]; exact e2_k (fun w => q (by rw [w]; decide))
      have hF33w := FM.tr hF32w hF33w
      replace t26_0 : mu33w 26 (0) = mu 26 (0) + 1 := by rw [hmu33w]; exact (u2_n (fun q => absurd q.1 (by decide))).trans t26_0
      replace t2_0 : mu33w 2 (0) = mu 2 (0) := by rw [hmu33w]; exact (u2_n (fun q => absurd q.1 (by decide))).trans t2_0
      replace t4_mm : mu33w 4 (mm) = mu 4 (mm) := by rw [hmu33w]; exact (u2_n (fun q => absurd q.1 (by decide))).trans t4_mm
      replace t4_mm___1 : mu33w 4 (mm + 1) = mu 4 (mm + 1) := by rw [hmu33w]; exact (u2_n (fun q => absurd q.1 (by decide))).trans t4_mm___1
      replace t7_mm : mu33w 7 (mm) = mu 7 (mm) := by rw [hmu33w]; exact (u2_n (fun q => absurd q.1 (by decide))).trans t7_mm
      replace t8_mm : mu33w 8 (mm) = mu 8 (mm) := by rw [hmu33w]; exact (u2_n (fun q => absurd q.1 (by decide))).trans t8_mm
      replace t9_mm : mu33w 9 (mm) = mu 9 (mm) := by rw [hmu33w]; exact (u2_n (fun q => absurd q.1 (by decide))).trans t9_mm
      replace t6_mm : mu33w 6 (mm) = 1 := by rw [hmu33w]; exact u2_s _ _ _ _
      replace t13_mm : mu33w 13 (mm) = mu 13 (mm) := by rw [hmu33w]; exact (u2_n (fun q => absurd q.1 (by decide))).trans t13_mm
      replace t14_mm : mu33w 14 (mm) = mu 14 (mm) := by rw [hmu33w]; exact (u2_n (fun q => absurd q.1 (by decide))).trans t14_mm
      have fM : en33w 20 0 = some (b 0, .inr (6, [.int (iZ (mu33w 0 0)), .int (iZ (mu33w 1 0)), .long (lZ (mu33w 2 0)), .int (iZ (mu33w 3 0)), .ref (b 4), .ref (b 5), .ref (b 6), .ref (b 7), .ref (b 8), .ref (b 9), .ref (b 10), .ref (b 11), .ref (b 12), .ref (b 13), .ref (b 14), .ref (b 15), .ref (b 16), .ref (b 17), .ref (b 18), .ref (b 19), .ref (b 20), .ref (b 21), .ref (b 22), .ref (b 23), .ref (b 24), .ref (b 25), .int (iZ (mu33w 26 0)), .ref (b 27), .ref (b 28), .ref (b 29), .ref (b 30), .ref (b 31), .ref (b 32), .ref (b 33), .ref (b 34), .int (iZ (mu33w 35 0)), .int (iZ (mu33w 36 0)), .int (iZ (mu33w 37 0)), .int (iZ (mu33w 38 0)), .int (iZ (mu33w 39 0)), .int (iZ (mu33w 40 0)), .ref (b 41), .ref (b 42)])) := hE33w.1
      have f6_ : en33w 26 0 = some (b 6, aZ dA (101) (mu33w 6)) := hE33w.2 6 (by decide)
      have f7_ : en33w 27 0 = some (b 7, aI dA (101) (mu33w 7)) := hE33w.2 7 (by decide)
      have f8_ : en33w 28 0 = some (b 8, aI dA (101) (mu33w 8)) := hE33w.2 8 (by decide)
      have f14_ : en33w 34 0 = some (b 14, aJ dA (101) (mu33w 14)) := hE33w.2 14 (by decide)
      refine lv_aload_n hx hb dX4_start_99 rfl (lv_at hl 3 rfl) ?_
      refine g_get (C := RX4) (T := TX4) (N := 43) (ci := 6) (v := .ref (b 8)) hx hb hts hi6 hown hK hW fM rfl 8 (by decide) (hts (.fieldLink RX4 25 "LongTransferModel" "sent" "[I") (by decide +kernel)) (fun _ h9 => h9) rfl dX4_start_100 ?_
      refine lv_iload_n hx hb dX4_start_103 rfl (lv_at hl 4 rfl) ?_
      refine lv_iload_n hx hb dX4_start_104 rfl (lv_at hl 2 rfl) ?_
      refine g_iast (x := mu 4 (mm + 1) - mu 4 mm) hx hb hK hW hS f8_ (by omega) (by omega) (by omega) dX4_start_105 (fun H locs hW hS => ?_)
      obtain ⟨en34w, hen34w⟩ : ∃ x : en_T, x = e2 en33w 28 0 (some (b 8, aI dA (101) (uF (mu33w 8) (mm) (mu 4 (mm + 1) - mu 4 mm)))) := ⟨_, rfl⟩
      rw [← hen34w] at hW
      obtain ⟨mu34w, hmu34w⟩ : ∃ x : Mu, x = u2 mu33w 8 (mm) (mu 4 (mm + 1) - mu 4 mm) := ⟨_, rfl⟩
      have hE34w : EM dA b mu34w en34w := by rw [hen34w, hmu34w]; exact em_w hE33w (k0 := 8) (j := mm) (v := mu 4 (mm + 1) - mu 4 mm) (by decide)
      have hF34w : FM en33w en34w := fun k i q => by rw [hen34w]; exact e2_k (fun w => q (by rw [w]; decide))
      have hF34w := FM.tr hF33w hF34w
      replace t26_0 : mu34w 26 (0) = mu 26 (0) + 1 := by rw [hmu34w]; exact (u2_n (fun q => absurd q.1 (by decide))).trans t26_0
      replace t2_0 : mu34w 2 (0) = mu 2 (0) := by rw [hmu34w]; exact (u2_n (fun q => absurd q.1 (by decide))).trans t2_0
      replace t4_mm : mu34w 4 (mm) = mu 4 (mm) := by rw [hmu34w]; exact (u2_n (fun q => absurd q.1 (by decide))).trans t4_mm
      replace t4_mm___1 : mu34w 4 (mm + 1) = mu 4 (mm + 1) := by rw [hmu34w]; exact (u2_n (fun q => absurd q.1 (by decide))).trans t4_mm___1
      replace t7_mm : mu34w 7 (mm) = mu 7 (mm) := by rw [hmu34w]; exact (u2_n (fun q => absurd q.1 (by decide))).trans t7_mm
      replace t8_mm : mu34w 8 (mm) = mu 4 (mm + 1) - mu 4 mm := by rw [hmu34w]; exact u2_s _ _ _ _
      replace t9_mm : mu34w 9 (mm) = mu 9 (mm) := by rw [hmu34w]; exact (u2_n (fun q => absurd q.1 (by decide))).trans t9_mm
      replace t6_mm : mu34w 6 (mm) = 1 := by rw [hmu34w]; exact (u2_n (fun q => absurd q.1 (by decide))).trans t6_mm
      replace t13_mm : mu34w 13 (mm) = mu 13 (mm) := by rw [hmu34w]; exact (u2_n (fun q => absurd q.1 (by decide))).trans t13_mm
      replace t14_mm : mu34w 14 (mm) = mu 14 (mm) := by rw [hmu34w]; exact (u2_n (fun q => absurd q.1 (by decide))).trans t14_mm
      have fM : en34w 20 0 = some (b 0, .inr (6, [.int (iZ (mu34w 0 0)), .int (iZ (mu34w 1 0)), .long (lZ (mu34w 2 0)), .int (iZ (mu34w 3 0)), .ref (b 4), .ref (b 5), .ref (b 6), .ref (b 7), .ref (b 8), .ref (b 9), .ref (b 10), .ref (b 11), .ref (b 12), .ref (b 13), .ref (b 14), .ref (b 15), .ref (b 16), .ref (b 17), .ref (b 18), .ref (b 19), .ref (b 20), .ref (b 21), .ref (b 22), .ref (b 23), .ref (b 24), .ref (b 25), .int (iZ (mu34w 26 0)), .ref (b 27), .ref (b 28), .ref (b 29), .ref (b 30), .ref (b 31), .ref (b 32), .ref (b 33), .ref (b 34), .int (iZ (mu34w 35 0)), .int (iZ (mu34w 36 0)), .int (iZ (mu34w 37 0)), .int (iZ (mu34w 38 0)), .int (iZ (mu34w 39 0)), .int (iZ (mu34w 40 0)), .ref (b 41), .ref (b 42)])) := hE34w.1
      have f6_ : en34w 26 0 = some (b 6, aZ dA (101) (mu34w 6)) := hE34w.2 6 (by decide)
      have f7_ : en34w 27 0 = some (b 7, aI dA (101) (mu34w 7)) := hE34w.2 7 (by decide)
      have f8_ : en34w 28 0 = some (b 8, aI dA (101) (mu34w 8)) := hE34w.2 8 (by decide)
      have f14_ : en34w 34 0 = some (b 14, aJ dA (101) (mu34w 14)) := hE34w.2 14 (by decide)
      refine lv_aload_n hx hb dX4_start_106 rfl (lv_at hl 3 rfl) ?_
      refine g_get (C := RX4) (T := TX4) (N := 43) (ci := 6) (v := .ref (b 14)) hx hb hts hi6 hown hK hW fM rfl 14 (by decide) (hts (.fieldLink RX4 43 "LongTransferModel" "since" "[J") (by decide +kernel)) (fun _ h9 => h9) rfl dX4_start_107 ?_
      refine lv_iload_n hx hb dX4_start_110 rfl (lv_at hl 4 rfl) ?_
      refine lv_aload_n hx hb dX4_start_111 rfl (lv_at hl 3 rfl) ?_
      refine g_get (C := RX4) (T := TX4) (N := 43) (ci := 6) (v := .long (lZ (mu34w 2 0))) hx hb hts hi6 hown hK hW fM rfl 2 (by decide) (hts (.fieldLink RX4 137 "LongTransferModel" "now" "J") (by decide +kernel)) (fun _ h9 => h9) rfl dX4_start_112 ?_
      rw [t2_0]
      refine g_last (x := mu 2 (0)) hx hb hK hW hS f14_ (by omega) (by omega) (by omega) dX4_start_115 (fun H locs hW hS => ?_)
      obtain ⟨en35w, hen35w⟩ : ∃ x : en_T, x = e2 en34w 34 0 (some (b 14, aJ dA (101) (uF (mu34w 14) (mm) (mu 2 (0))))) := ⟨_, rfl⟩
      rw [← hen35w] at hW
      obtain ⟨mu35w, hmu35w⟩ : ∃ x : Mu, x = u2 mu34w 14 (mm) (mu 2 (0)) := ⟨_, rfl⟩
      have hE35w : EM dA b mu35w en35w := by rw [hen35w, hmu35w]; exact em_w hE34w (k0 := 14) (j := mm) (v := mu 2 (0)) (by decide)
      have hF35w : FM en34w en35w := fun k i q => by rw [hen35w]; exact e2_k (fun w => q (by rw [w]; decide))
      have hF35w := FM.tr hF34w hF35w
      replace t26_0 : mu35w 26 (0) = mu 26 (0) + 1 := by rw [hmu35w]; exact (u2_n (fun q => absurd q.1 (by decide))).trans t26_0
      replace t2_0 : mu35w 2 (0) = mu 2 (0) := by rw [hmu35w]; exact (u2_n (fun q => absurd q.1 (by decide))).trans t2_0
      replace t4_mm : mu35w 4 (mm) = mu 4 (mm) := by rw [hmu35w]; exact (u2_n (fun q => absurd q.1 (by decide))).trans t4_mm
      replace t4_mm___1 : mu35w 4 (mm + 1) = mu 4 (mm + 1) := by rw [hmu35w]; exact (u2_n (fun q => absurd q.1 (by decide))).trans t4_mm___1
      replace t7_mm : mu35w 7 (mm) = mu 7 (mm) := by rw [hmu35w]; exact (u2_n (fun q => absurd q.1 (by decide))).trans t7_mm
      replace t8_mm : mu35w 8 (mm) = mu 4 (mm + 1) - mu 4 mm := by rw [hmu35w]; exact (u2_n (fun q => absurd q.1 (by decide))).trans t8_mm
      replace t9_mm : mu35w 9 (mm) = mu 9 (mm) := by rw [hmu35w]; exact (u2_n (fun q => absurd q.1 (by decide))).trans t9_mm
      replace t6_mm : mu35w 6 (mm) = 1 := by rw [hmu35w]; exact (u2_n (fun q => absurd q.1 (by decide))).trans t6_mm
      replace t13_mm : mu35w 13 (mm) = mu 13 (mm) := by rw [hmu35w]; exact (u2_n (fun q => absurd q.1 (by decide))).trans t13_mm
      replace t14_mm : mu35w 14 (mm) = mu 2 (0) := by rw [hmu35w]; exact u2_s _ _ _ _
      have fM : en35w 20 0 = some (b 0, .inr (6, [.int (iZ (mu35w 0 0)), .int (iZ (mu35w 1 0)), .long (lZ (mu35w 2 0)), .int (iZ (mu35w 3 0)), .ref (b 4), .ref (b 5), .ref (b 6), .ref (b 7), .ref (b 8), .ref (b 9), .ref (b 10), .ref (b 11), .ref (b 12), .ref (b 13), .ref (b 14), .ref (b 15), .ref (b 16), .ref (b 17), .ref (b 18), .ref (b 19), .ref (b 20), .ref (b 21), .ref (b 22), .ref (b 23), .ref (b 24), .ref (b 25), .int (iZ (mu35w 26 0)), .ref (b 27), .ref (b 28), .ref (b 29), .ref (b 30), .ref (b 31), .ref (b 32), .ref (b 33), .ref (b 34), .int (iZ (mu35w 35 0)), .int (iZ (mu35w 36 0)), .int (iZ (mu35w 37 0)), .int (iZ (mu35w 38 0)), .int (iZ (mu35w 39 0)), .int (iZ (mu35w 40 0)), .ref (b 41), .ref (b 42)])) := hE35w.1
      have f6_ : en35w 26 0 = some (b 6, aZ dA (101) (mu35w 6)) := hE35w.2 6 (by decide)
      have f7_ : en35w 27 0 = some (b 7, aI dA (101) (mu35w 7)) := hE35w.2 7 (by decide)
      have f8_ : en35w 28 0 = some (b 8, aI dA (101) (mu35w 8)) := hE35w.2 8 (by decide)
      have f14_ : en35w 34 0 = some (b 14, aJ dA (101) (mu35w 14)) := hE35w.2 14 (by decide)
      refine lv_aload_n hx hb dX4_start_116 rfl (lv_at hl 3 rfl) ?_
      refine g_get (C := RX4) (T := TX4) (N := 43) (ci := 6) (v := .ref (b 7)) hx hb hts hi6 hown hK hW fM rfl 7 (by decide) (hts (.fieldLink RX4 22 "LongTransferModel" "state" "[I") (by decide +kernel)) (fun _ h9 => h9) rfl dX4_start_117 ?_
      refine lv_iload_n hx hb dX4_start_120 rfl (lv_at hl 4 rfl) ?_
      refine lv_iload_n hx hb dX4_start_121 rfl (lv_at hl 1 rfl) ?_
      refine z_if_eq (tgt := 129) hx hb dX4_start_122 (by decide) (by omega) (fun c_q => absurd c_q (by omega)) (fun _ => ?_)
      refine z_iconst hx hb dX4_start_125 ?_
      refine lv_goto (tgt := 130) hx hb dX4_start_126 (by decide) ?_
      refine g_iast (x := 3) hx hb hK hW hS f7_ (by omega) (by omega) (by omega) dX4_start_130 (fun H locs hW hS => ?_)
      obtain ⟨en36w, hen36w⟩ : ∃ x : en_T, x = e2 en35w 27 0 (some (b 7, aI dA (101) (uF (mu35w 7) (mm) (3)))) := ⟨_, rfl⟩
      rw [← hen36w] at hW
      obtain ⟨mu36w, hmu36w⟩ : ∃ x : Mu, x = u2 mu35w 7 (mm) (3) := ⟨_, rfl⟩
      have hE36w : EM dA b mu36w en36w := by rw [hen36w, hmu36w]; exact em_w hE35w (k0 := 7) (j := mm) (v := 3) (by decide)
      have hF36w : FM en35w en36w := fun k i q => by rw [hen36w]; exact e2_k (fun w => q (by rw [w]; decide))
      have hF36w := FM.tr hF35w hF36w
      replace t26_0 : mu36w 26 (0) = mu 26 (0) + 1 := by rw [hmu36w]; exact (u2_n (fun q => absurd q.1 (by decide))).trans t26_0
      replace t2_0 : mu36w 2 (0) = mu 2 (0) := by rw [hmu36w]; exact (u2_n (fun q => absurd q.1 (by decide))).trans t2_0
      replace t4_mm : mu36w 4 (mm) = mu 4 (mm) := by rw [hmu36w]; exact (u2_n (fun q => absurd q.1 (by decide))).trans t4_mm
      replace t4_mm___1 : mu36w 4 (mm + 1) = mu 4 (mm + 1) := by rw [hmu36w]; exact (u2_n (fun q => absurd q.1 (by decide))).trans t4_mm___1
      replace t7_mm : mu36w 7 (mm) = 3 := by rw [hmu36w]; exact u2_s _ _ _ _
      replace t8_mm : mu36w 8 (mm) = mu 4 (mm + 1) - mu 4 mm := by rw [hmu36w]; exact (u2_n (fun q => absurd q.1 (by decide))).trans t8_mm
      replace t9_mm : mu36w 9 (mm) = mu 9 (mm) := by rw [hmu36w]; exact (u2_n (fun q => absurd q.1 (by decide))).trans t9_mm
      replace t6_mm : mu36w 6 (mm) = 1 := by rw [hmu36w]; exact (u2_n (fun q => absurd q.1 (by decide))).trans t6_mm
      replace t13_mm : mu36w 13 (mm) = mu 13 (mm) := by rw [hmu36w]; exact (u2_n (fun q => absurd q.1 (by decide))).trans t13_mm
      replace t14_mm : mu36w 14 (mm) = mu 2 (0) := by rw [hmu36w]; exact (u2_n (fun q => absurd q.1 (by decide))).trans t14_mm
      have fM : en36w 20 0 = some (b 0, .inr (6, [.int (iZ (mu36w 0 0)), .int (iZ (mu36w 1 0)), .long (lZ (mu36w 2 0)), .int (iZ (mu36w 3 0)), .ref (b 4), .ref (b 5), .ref (b 6), .ref (b 7), .ref (b 8), .ref (b 9), .ref (b 10), .ref (b 11), .ref (b 12), .ref (b 13), .ref (b 14), .ref (b 15), .ref (b 16), .ref (b 17), .ref (b 18), .ref (b 19), .ref (b 20), .ref (b 21), .ref (b 22), .ref (b 23), .ref (b 24), .ref (b 25), .int (iZ (mu36w 26 0)), .ref (b 27), .ref (b 28), .ref (b 29), .ref (b 30), .ref (b 31), .ref (b 32), .ref (b 33), .ref (b 34), .int (iZ (mu36w 35 0)), .int (iZ (mu36w 36 0)), .int (iZ (mu36w 37 0)), .int (iZ (mu36w 38 0)), .int (iZ (mu36w 39 0)), .int (iZ (mu36w 40 0)), .ref (b 41), .ref (b 42)])) := hE36w.1
      have f6_ : en36w 26 0 = some (b 6, aZ dA (101) (mu36w 6)) := hE36w.2 6 (by decide)
      have f7_ : en36w 27 0 = some (b 7, aI dA (101) (mu36w 7)) := hE36w.2 7 (by decide)
      have f8_ : en36w 28 0 = some (b 8, aI dA (101) (mu36w 8)) := hE36w.2 8 (by decide)
      have f14_ : en36w 34 0 = some (b 14, aJ dA (101) (mu36w 14)) := hE36w.2 14 (by decide)
      refine lv_iload hx hb dX4_start_131 (lv_at hl 0 rfl) ?_
      refine z_if_ne (tgt := 143) hx hb dX4_start_133 (by decide) (by omega) (fun _ => ?_) (fun c_q => absurd c_q (by omega))
      obtain ⟨vs, vg⟩ := v_s1 (g := g) (m := mm) hmm (by omega) (by omega)
      have hN : RN (sSt1 g) mu36w mm := RN_3 (by rw [vs.2.2, t6_mm, if_pos (Int.le_refl mm)]) (by omega) (by omega) vs.2.1
      have hmd : ∀ (t : Nat) (j : Int), ¬ (6 ≤ t ∧ t ≤ 15 ∧ j = mm) → mu36w t j = mFl (mMk mu 0 mm (0) (mu 4 (mm + 1) - mu 4 mm) 0) (mu 26 0 + 1) mm 0 (mu 4 (mm + 1) - mu 4 mm) t j := fun t j q => by rw [hmu36w, u2_n (by omega), hmu35w, u2_n (by omega), hmu34w, u2_n (by omega), hmu33w, u2_n (by omega), hmu32w, hmk]
      have hpst : Rl (sSt1 g) mu36w := rl_d hI hR (m := mm) (kd := 0) (nu := 0) (mo := 7) (by omega) (by omega) (by omega) (by omega) (by omega) vg (fun j q => by rw [vs.2.2]; exact propext ⟨fun _ => by omega, fun _ => by omega⟩) (fun t j q => rfl) rfl (by omega) (by omega) hmd hN
      exact W.vret hx hb hr (fun t ht hw => ⟨⟨(en36w, mu36w), rfl, ⟨hE36w, hF36w, hpst⟩, by show Wd _ _ _ t.heap; rw [ht]; exact hW⟩, hS.F ht⟩) hS.2.2 dX4_start_143
