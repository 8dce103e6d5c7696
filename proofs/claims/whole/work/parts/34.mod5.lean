theorem v_a0f {g : St} {r : Int} (h : ¬ 6000 ≤ g 1 1 0) : sAns0 g r = sFlow g (g 31 r 0) (g 0 9 0) (g 0 10 0) (g 0 11 0) := by
  unfold sAns0 sMkF
  rw [if_neg h]
theorem v_flw {g : St} {mg fk bk sp : Int} {t : Nat} {i j : Int} (h : 30 ≤ t) : sFlow g mg fk bk sp t i j = g t i j := v_fr (by omega)
set_option maxHeartbeats 4000000 in
set_option maxRecDepth 100000 in
theorem c_X4_answer (l : Launch) (D : va_G) (dA : Nat → ClassId) (z : Nat → Nat) (en : en_T) (b : Nat → Nat) (mu : Mu) (g : St) (r : Int) (h0 : 0 ≤ r) (h1 : r < 4) (h31 : 1 ≤ g 31 r 0) (hI : IB g) (hR : RlR g mu r) (hw : Rw g mu r) (hE : EM dA b mu en) : Met l yX4_answer wsX4_answer ({ frames := 1, cells := 0, slots := 0, locals := 30 }) (gP D dA z en [.ref (b 0), .int (iZ (r))]) (va_Qv (fun u : en_T × Mu => EM dA b u.2 u.1 ∧ FM en u.1 ∧ Rl (sAns g r) u.2) (fun u t9 => Wd D (z 0) u.1 t9.heap) (fun q => z 0 ≤ q)) (0) (0) (fun q => z 0 ≤ q) := by
  refine gMet (own := RX4) (cc := cX4_answer) (maxL := 2) (ret := none) (by decide) rfl rfl (Nat.le_of_ble_eq_true rfl) ?_
  intro p e s m below meth c hx hb hml hown hts hr hlocks hnm hg hW ls hl
  have hK := hg.1
  have hS : va_S (fun q => z 0 ≤ q) s.heap s.heap [] := va_S.rf
  have hi6 : ∀ w ∈ u_ws RX4 TX4 43, w ∈ wsX4_answer := by decide +kernel
  have hl : lv_has ls 2 [(0, .ref (b 0)), (1, .int (iZ (r)))] := hl
  obtain ⟨rX, rC, rG, rD, rS, rF, rR, rB⟩ := id hR
  unfold RX at rX
  obtain ⟨hIX, hIL, hIS, hIF, hIR, hIG⟩ := id hI
  unfold IL at hIL
  unfold IX at hIX
  have hIRr := hIR r (by omega) (by omega)
  unfold IR at hIRr
  obtain ⟨i30, i31, i32, i33, i34, i35, i36, -, -, -⟩ := hIRr
  obtain ⟨w30, w16, ⟨w17, w18, w19, w20, w21⟩, w22, w25⟩ := id hw
  have fM : en 20 0 = some (b 0, .inr (6, [.int (iZ (mu 0 0)), .int (iZ (mu 1 0)), .long (lZ (mu 2 0)), .int (iZ (mu 3 0)), .ref (b 4), .ref (b 5), .ref (b 6), .ref (b 7), .ref (b 8), .ref (b 9), .ref (b 10), .ref (b 11), .ref (b 12), .ref (b 13), .ref (b 14), .ref (b 15), .ref (b 16), .ref (b 17), .ref (b 18), .ref (b 19), .ref (b 20), .ref (b 21), .ref (b 22), .ref (b 23), .ref (b 24), .ref (b 25), .int (iZ (mu 26 0)), .ref (b 27), .ref (b 28), .ref (b 29), .ref (b 30), .ref (b 31), .ref (b 32), .ref (b 33), .ref (b 34), .int (iZ (mu 35 0)), .int (iZ (mu 36 0)), .int (iZ (mu 37 0)), .int (iZ (mu 38 0)), .int (iZ (mu 39 0)), .int (iZ (mu 40 0)), .ref (b 41), .ref (b 42)])) := hE.1
  have f17_ : en 37 0 = some (b 17, aI dA (4) (mu 17)) := hE.2 17 (by decide)
  have f21_ : en 41 0 = some (b 21, aI dA (4) (mu 21)) := hE.2 21 (by decide)
  have f22_ : en 42 0 = some (b 22, aI dA (4) (mu 22)) := hE.2 22 (by decide)
  have f23_ : en 43 0 = some (b 23, aJ dA (4) (mu 23)) := hE.2 23 (by decide)
  have f24_ : en 44 0 = some (b 24, aZ dA (4) (mu 24)) := hE.2 24 (by decide)
  have t26_0 : mu 26 (0) = mu 26 (0) := rfl
  have t2_0 : mu 2 (0) = mu 2 (0) := rfl
  have t17_r : mu 17 (r) = mu 17 (r) := rfl
  have t35_0 : mu 35 (0) = mu 35 (0) := rfl
  have t36_0 : mu 36 (0) = mu 36 (0) := rfl
  have t37_0 : mu 37 (0) = mu 37 (0) := rfl
  have t16_r : mu 16 (r) = mu 16 (r) := rfl
  have t18_r : mu 18 (r) = mu 18 (r) := rfl
  have t19_r : mu 19 (r) = mu 19 (r) := rfl
  have t20_r : mu 20 (r) = mu 20 (r) := rfl
  have t21_r : mu 21 (r) = mu 21 (r) := rfl
  have t22_r : mu 22 (r) = mu 22 (r) := rfl
  have t23_r : mu 23 (r) = mu 23 (r) := rfl
  have t24_r : mu 24 (r) = mu 24 (r) := rfl
  refine lv_aload_n hx hb dX4_answer_0 rfl (lv_at hl 0 rfl) ?_
  refine z_iconst hx hb dX4_answer_1 ?_
  refine lv_aload_n hx hb dX4_answer_2 rfl (lv_at hl 0 rfl) ?_
  refine g_get (C := RX4) (T := TX4) (N := 43) (ci := 6) (v := .ref (b 17)) hx hb hts hi6 hown hK hW fM rfl 17 (by decide) (hts (.fieldLink RX4 53 "LongTransferModel" "message" "[I") (by decide +kernel)) (fun _ h9 => h9) rfl dX4_answer_3 ?_
  refine lv_iload_n hx hb dX4_answer_6 rfl (lv_at hl 1 rfl) ?_
  refine g_iald hx hb hK hW f17_ (by omega) (by omega) (by omega) dX4_answer_7 ?_
  refine lv_aload_n hx hb dX4_answer_8 rfl (lv_at hl 0 rfl) ?_
  refine g_get (C := RX4) (T := TX4) (N := 43) (ci := 6) (v := .int (iZ (mu 37 0))) hx hb hts hi6 hown hK hW fM rfl 37 (by decide) (hts (.fieldLink RX4 153 "LongTransferModel" "flowKind" "I") (by decide +kernel)) (fun _ h9 => h9) rfl dX4_answer_9 ?_
  refine lv_aload_n hx hb dX4_answer_12 rfl (lv_at hl 0 rfl) ?_
  refine g_get (C := RX4) (T := TX4) (N := 43) (ci := 6) (v := .int (iZ (mu 35 0))) hx hb hts hi6 hown hK hW fM rfl 35 (by decide) (hts (.fieldLink RX4 156 "LongTransferModel" "flowBlock" "I") (by decide +kernel)) (fun _ h9 => h9) rfl dX4_answer_13 ?_
  refine lv_aload_n hx hb dX4_answer_16 rfl (lv_at hl 0 rfl) ?_
  refine g_get (C := RX4) (T := TX4) (N := 43) (ci := 6) (v := .int (iZ (mu 36 0))) hx hb hts hi6 hown hK hW fM rfl 36 (by decide) (hts (.fieldLink RX4 159 "LongTransferModel" "flowApart" "I") (by decide +kernel)) (fun _ h9 => h9) rfl dX4_answer_17 ?_
  refine va_calli (va_runV (As := [.int (iZ (3)), .int (iZ (mu 17 (r))), .int (iZ (mu 37 (0))), .int (iZ (mu 35 (0))), .int (iZ (mu 36 (0)))]) (rest := []) ⟨hx, hb, hml, hown, hts⟩ (c_X4_make l D dA z en b mu 3 (mu 17 (r)) (mu 37 (0)) (mu 35 (0)) (mu 36 (0)) (by omega) (by omega) hE) (cwV 5 hts gX4_answer_X4_make rfl rfl rfl (by decide +kernel) ⟨Nat.le_of_ble_eq_true rfl, Nat.le_of_ble_eq_true rfl⟩) ⟨gBl, gRecv hK hW (ci := 6) rfl fM, gPre _ hg hS hW⟩ rfl rfl hl.1 rfl (lv_room (Nat.le_of_ble_eq_true rfl)) dX4_answer_20 ⟨(show 0 + 0 ≤ 0 by omega), (show 0 + 0 ≤ 0 by omega)⟩) hS (fun _ _ h => h) (fun _ h => h) (fun r9 u9 t9 H locs ht9 hvm9 hw9 hB9 hz9 hk9 hS => ?_)
  obtain ⟨en1w, mu1w⟩ := u9
  obtain ⟨hr9, hE1w, hF1w, hmu1w⟩ := hw9
  have hW : Wd D (z 0) en1w H := by rw [← ht9]; exact hB9
  dsimp only at hE1w hF1w hmu1w
  subst hr9
  have fM : en1w 20 0 = some (b 0, .inr (6, [.int (iZ (mu1w 0 0)), .int (iZ (mu1w 1 0)), .long (lZ (mu1w 2 0)), .int (iZ (mu1w 3 0)), .ref (b 4), .ref (b 5), .ref (b 6), .ref (b 7), .ref (b 8), .ref (b 9), .ref (b 10), .ref (b 11), .ref (b 12), .ref (b 13), .ref (b 14), .ref (b 15), .ref (b 16), .ref (b 17), .ref (b 18), .ref (b 19), .ref (b 20), .ref (b 21), .ref (b 22), .ref (b 23), .ref (b 24), .ref (b 25), .int (iZ (mu1w 26 0)), .ref (b 27), .ref (b 28), .ref (b 29), .ref (b 30), .ref (b 31), .ref (b 32), .ref (b 33), .ref (b 34), .int (iZ (mu1w 35 0)), .int (iZ (mu1w 36 0)), .int (iZ (mu1w 37 0)), .int (iZ (mu1w 38 0)), .int (iZ (mu1w 39 0)), .int (iZ (mu1w 40 0)), .ref (b 41), .ref (b 42)])) := hE1w.1
  have f17_ : en1w 37 0 = some (b 17, aI dA (4) (mu1w 17)) := hE1w.2 17 (by decide)
  have f21_ : en1w 41 0 = some (b 21, aI dA (4) (mu1w 21)) := hE1w.2 21 (by decide)
  have f22_ : en1w 42 0 = some (b 22, aI dA (4) (mu1w 22)) := hE1w.2 22 (by decide)
  have f23_ : en1w 43 0 = some (b 23, aJ dA (4) (mu1w 23)) := hE1w.2 23 (by decide)
  have f24_ : en1w 44 0 = some (b 24, aZ dA (4) (mu1w 24)) := hE1w.2 24 (by decide)
  have t26b : mu 26 0 = mu 26 (0) := by first | exact t26_0 | rfl
  by_cases hful : mu 26 0 = 6000
  · rw [if_pos hful]
    have hmk : mu1w = mu := by rw [hmu1w]; exact if_pos hful
    replace t26_0 : mu1w 26 (0) = mu 26 (0) := (congrFun (congrFun hmk 26) (0)).trans t26_0
    replace t2_0 : mu1w 2 (0) = mu 2 (0) := (congrFun (congrFun hmk 2) (0)).trans t2_0
    replace t17_r : mu1w 17 (r) = mu 17 (r) := (congrFun (congrFun hmk 17) (r)).trans t17_r
    replace t35_0 : mu1w 35 (0) = mu 35 (0) := (congrFun (congrFun hmk 35) (0)).trans t35_0
    replace t36_0 : mu1w 36 (0) = mu 36 (0) := (congrFun (congrFun hmk 36) (0)).trans t36_0
    replace t37_0 : mu1w 37 (0) = mu 37 (0) := (congrFun (congrFun hmk 37) (0)).trans t37_0
    replace t16_r : mu1w 16 (r) = mu 16 (r) := (congrFun (congrFun hmk 16) (r)).trans t16_r
    replace t18_r : mu1w 18 (r) = mu 18 (r) := (congrFun (congrFun hmk 18) (r)).trans t18_r
    replace t19_r : mu1w 19 (r) = mu 19 (r) := (congrFun (congrFun hmk 19) (r)).trans t19_r
    replace t20_r : mu1w 20 (r) = mu 20 (r) := (congrFun (congrFun hmk 20) (r)).trans t20_r
    replace t21_r : mu1w 21 (r) = mu 21 (r) := (congrFun (congrFun hmk 21) (r)).trans t21_r
    replace t22_r : mu1w 22 (r) = mu 22 (r) := (congrFun (congrFun hmk 22) (r)).trans t22_r
    replace t23_r : mu1w 23 (r) = mu 23 (r) := (congrFun (congrFun hmk 23) (r)).trans t23_r
    replace t24_r : mu1w 24 (r) = mu 24 (r) := (congrFun (congrFun hmk 24) (r)).trans t24_r
    refine z_if_ne (tgt := 34) hx hb dX4_answer_23 (by decide) (by omega) (fun c_q => absurd c_q (by omega)) (fun _ => ?_)
    refine lv_aload_n hx hb dX4_answer_26 rfl (lv_at hl 0 rfl) ?_
    refine lv_iload_n hx hb dX4_answer_27 rfl (lv_at hl 1 rfl) ?_
    refine z_bipush hx hb dX4_answer_28 (by decide) ?_
    refine va_callv (va_runV (As := [.int (iZ (r)), .int (iZ (7))]) (rest := []) ⟨hx, hb, hml, hown, hts⟩ (c_X4_endReceiver l D dA z en1w b mu1w r 7 (by omega) (by omega) (by omega) (by omega) hE1w) (cwV 2 hts gX4_answer_X4_endReceiver rfl rfl rfl (by decide +kernel) ⟨Nat.le_of_ble_eq_true rfl, Nat.le_of_ble_eq_true rfl⟩) ⟨gBl, gRecv hK hW (ci := 6) rfl fM, gPre _ hg hS hW⟩ rfl rfl hl.1 rfl (lv_room (Nat.le_of_ble_eq_true rfl)) dX4_answer_30 ⟨(show 0 + 0 + 0 ≤ 0 by omega), (show 0 + 0 + 0 ≤ 0 by omega)⟩) hS (fun _ _ h => h) (fun _ h => h) (fun u9 t9 H locs ht9 hvm9 hw9 hB9 hz9 hk9 hS => ?_)
    obtain ⟨en2w, mu2w⟩ := u9
    obtain ⟨hE2w, hF2w, hmu2w⟩ := hw9
    have hW : Wd D (z 0) en2w H := by rw [← ht9]; exact hB9
    dsimp only at hE2w hF2w hmu2w
    have hF2w := FM.tr hF1w hF2w
    have fM : en2w 20 0 = some (b 0, .inr (6, [.int (iZ (mu2w 0 0)), .int (iZ (mu2w 1 0)), .long (lZ (mu2w 2 0)), .int (iZ (mu2w 3 0)), .ref (b 4), .ref (b 5), .ref (b 6), .ref (b 7), .ref (b 8), .ref (b 9), .ref (b 10), .ref (b 11), .ref (b 12), .ref (b 13), .ref (b 14), .ref (b 15), .ref (b 16), .ref (b 17), .ref (b 18), .ref (b 19), .ref (b 20), .ref (b 21), .ref (b 22), .ref (b 23), .ref (b 24), .ref (b 25), .int (iZ (mu2w 26 0)), .ref (b 27), .ref (b 28), .ref (b 29), .ref (b 30), .ref (b 31), .ref (b 32), .ref (b 33), .ref (b 34), .int (iZ (mu2w 35 0)), .int (iZ (mu2w 36 0)), .int (iZ (mu2w 37 0)), .int (iZ (mu2w 38 0)), .int (iZ (mu2w 39 0)), .int (iZ (mu2w 40 0)), .ref (b 41), .ref (b 42)])) := hE2w.1
    have f17_ : en2w 37 0 = some (b 17, aI dA (4) (mu2w 17)) := hE2w.2 17 (by decide)
    have f21_ : en2w 41 0 = some (b 21, aI dA (4) (mu2w 21)) := hE2w.2 21 (by decide)
    have f22_ : en2w 42 0 = some (b 22, aI dA (4) (mu2w 22)) := hE2w.2 22 (by decide)
    have f23_ : en2w 43 0 = some (b 23, aJ dA (4) (mu2w 23)) := hE2w.2 23 (by decide)
    have f24_ : en2w 44 0 = some (b 24, aZ dA (4) (mu2w 24)) := hE2w.2 24 (by decide)
    have hpst : Rl (sAns g r) mu2w := by rw [v_an0 (by omega), hmu2w, hmk]; exact rlr_e hI hR (by omega) (by omega) (by omega) (fun t j q => rfl)
    exact W.vret hx hb hr (fun t ht hw => ⟨⟨(en2w, mu2w), rfl, ⟨hE2w, hF2w, hpst⟩, by show Wd _ _ _ t.heap; rw [ht]; exact hW⟩, hS.F ht⟩) hS.2.2 dX4_answer_33
  · rw [if_neg hful]
    have hmk : mu1w = mMk mu 3 (mu 17 (r)) (mu 37 (0)) (mu 35 (0)) (mu 36 (0)) := by rw [hmu1w]; exact if_neg hful
    replace t26_0 : mu1w 26 (0) = mu 26 (0) + 1 := by rw [hmk, (mMk_v _ _ _ _ _ _).1, t26_0]
    replace t2_0 : mu1w 2 (0) = mu 2 (0) := by rw [hmk]; exact (mMk_n ⟨fun q => absurd q.1 (by decide), fun q => absurd q.1 (by decide)⟩).trans t2_0
    replace t17_r : mu1w 17 (r) = mu 17 (r) := by rw [hmk]; exact (mMk_n ⟨fun q => absurd q.1 (by decide), fun q => absurd q.1 (by decide)⟩).trans t17_r
    replace t35_0 : mu1w 35 (0) = mu 35 (0) := by rw [hmk]; exact (mMk_n ⟨fun q => absurd q.1 (by decide), fun q => absurd q.2.1 (by decide)⟩).trans t35_0
    replace t36_0 : mu1w 36 (0) = mu 36 (0) := by rw [hmk]; exact (mMk_n ⟨fun q => absurd q.1 (by decide), fun q => absurd q.2.1 (by decide)⟩).trans t36_0
    replace t37_0 : mu1w 37 (0) = mu 37 (0) := by rw [hmk]; exact (mMk_n ⟨fun q => absurd q.1 (by decide), fun q => absurd q.2.1 (by decide)⟩).trans t37_0
    replace t16_r : mu1w 16 (r) = mu 16 (r) := by rw [hmk]; exact (mMk_n ⟨fun q => absurd q.1 (by decide), fun q => absurd q.1 (by decide)⟩).trans t16_r
    replace t18_r : mu1w 18 (r) = mu 18 (r) := by rw [hmk]; exact (mMk_n ⟨fun q => absurd q.1 (by decide), fun q => absurd q.1 (by decide)⟩).trans t18_r
    replace t19_r : mu1w 19 (r) = mu 19 (r) := by rw [hmk]; exact (mMk_n ⟨fun q => absurd q.1 (by decide), fun q => absurd q.1 (by decide)⟩).trans t19_r
    replace t20_r : mu1w 20 (r) = mu 20 (r) := by rw [hmk]; exact (mMk_n ⟨fun q => absurd q.1 (by decide), fun q => absurd q.1 (by decide)⟩).trans t20_r
    replace t21_r : mu1w 21 (r) = mu 21 (r) := by rw [hmk]; exact (mMk_n ⟨fun q => absurd q.1 (by decide), fun q => absurd q.1 (by decide)⟩).trans t21_r
    replace t22_r : mu1w 22 (r) = mu 22 (r) := by rw [hmk]; exact (mMk_n ⟨fun q => absurd q.1 (by decide), fun q => absurd q.1 (by decide)⟩).trans t22_r
    replace t23_r : mu1w 23 (r) = mu 23 (r) := by rw [hmk]; exact (mMk_n ⟨fun q => absurd q.1 (by decide), fun q => absurd q.1 (by decide)⟩).trans t23_r
    replace t24_r : mu1w 24 (r) = mu 24 (r) := by rw [hmk]; exact (mMk_n ⟨fun q => absurd q.1 (by decide), fun q => absurd q.1 (by decide)⟩).trans t24_r
    have hmk2 : mu1w = mMk mu 3 (g 31 r 0) (g 0 9 0) (g 0 10 0) (g 0 11 0) := by rw [hmk, show mu 17 (r) = g 31 r 0 by omega, show mu 37 (0) = g 0 9 0 by omega, show mu 35 (0) = g 0 10 0 by omega, show mu 36 (0) = g 0 11 0 by omega]
    refine z_if_ne (tgt := 34) hx hb dX4_answer_23 (by decide) (by omega) (fun _ => ?_) (fun c_q => absurd c_q (by omega))
    refine lv_aload_n hx hb dX4_answer_34 rfl (lv_at hl 0 rfl) ?_
    refine g_get (C := RX4) (T := TX4) (N := 43) (ci := 6) (v := .ref (b 23)) hx hb hts hi6 hown hK hW fM rfl 23 (by decide) (hts (.fieldLink RX4 71 "LongTransferModel" "heard" "[J") (by decide +kernel)) (fun _ h9 => h9) rfl dX4_answer_35 ?_
    refine lv_iload_n hx hb dX4_answer_38 rfl (lv_at hl 1 rfl) ?_
    refine lv_aload_n hx hb dX4_answer_39 rfl (lv_at hl 0 rfl) ?_
    refine g_get (C := RX4) (T := TX4) (N := 43) (ci := 6) (v := .long (lZ (mu1w 2 0))) hx hb hts hi6 hown hK hW fM rfl 2 (by decide) (hts (.fieldLink RX4 137 "LongTransferModel" "now" "J") (by decide +kernel)) (fun _ h9 => h9) rfl dX4_answer_40 ?_
    rw [t2_0]
    refine g_last (x := mu 2 (0)) hx hb hK hW hS f23_ (by omega) (by omega) (by omega) dX4_answer_43 (fun H locs hW hS => ?_)
    obtain ⟨en3w, hen3w⟩ : ∃ x : en_T, x = e2 en1w 43 0 (some (b 23, aJ dA (4) (uF (mu1w 23) (r) (mu 2 (0))))) := ⟨_, rfl⟩
    rw [← hen3w] at hW
    obtain ⟨mu3w, hmu3w⟩ : ∃ x : Mu, x = u2 mu1w 23 (r) (mu 2 (0)) := ⟨_, rfl⟩
    have hE3w : EM dA b mu3w en3w := by rw [hen3w, hmu3w]; exact em_w hE1w (k0 := 23) (j := r) (v := mu 2 (0)) (by decide)
    have hF3w : FM en1w en3w := fun k i q => by rw [hen3w]; exact e2_k (fun w => q (by rw [w]; decide))
    have hF3w := FM.tr hF1w hF3w
    replace t26_0 : mu3w 26 (0) = mu 26 (0) + 1 := by rw [hmu3w]; exact (u2_n (fun q => absurd q.1 (by decide))).trans t26_0
    replace t2_0 : mu3w 2 (0) = mu 2 (0) := by rw [hmu3w]; exact (u2_n (fun q => absurd q.1 (by decide))).trans t2_0
    replace t17_r : mu3w 17 (r) = mu 17 (r) := by rw [hmu3w]; exact (u2_n (fun q => absurd q.1 (by decide))).trans t17_r
    replace t35_0 : mu3w 35 (0) = mu 35 (0) := by rw [hmu3w]; exact (u2_n (fun q => absurd q.1 (by decide))).trans t35_0
    replace t36_0 : mu3w 36 (0) = mu 36 (0) := by rw [hmu3w]; exact (u2_n (fun q => absurd q.1 (by decide))).trans t36_0
    replace t37_0 : mu3w 37 (0) = mu 37 (0) := by rw [hmu3w]; exact (u2_n (fun q => absurd q.1 (by decide))).trans t37_0
    replace t16_r : mu3w 16 (r) = mu 16 (r) := by rw [hmu3w]; exact (u2_n (fun q => absurd q.1 (by decide))).trans t16_r
    replace t18_r : mu3w 18 (r) = mu 18 (r) := by rw [hmu3w]; exact (u2_n (fun q => absurd q.1 (by decide))).trans t18_r
    replace t19_r : mu3w 19 (r) = mu 19 (r) := by rw [hmu3w]; exact (u2_n (fun q => absurd q.1 (by decide))).trans t19_r
    replace t20_r : mu3w 20 (r) = mu 20 (r) := by rw [hmu3w]; exact (u2_n (fun q => absurd q.1 (by decide))).trans t20_r
    replace t21_r : mu3w 21 (r) = mu 21 (r) := by rw [hmu3w]; exact (u2_n (fun q => absurd q.1 (by decide))).trans t21_r
    replace t22_r : mu3w 22 (r) = mu 22 (r) := by rw [hmu3w]; exact (u2_n (fun q => absurd q.1 (by decide))).trans t22_r
    replace t23_r : mu3w 23 (r) = mu 2 (0) := by rw [hmu3w]; exact u2_s _ _ _ _
    replace t24_r : mu3w 24 (r) = mu 24 (r) := by rw [hmu3w]; exact (u2_n (fun q => absurd q.1 (by decide))).trans t24_r
    have fM : en3w 20 0 = some (b 0, .inr (6, [.int (iZ (mu3w 0 0)), .int (iZ (mu3w 1 0)), .long (lZ (mu3w 2 0)), .int (iZ (mu3w 3 0)), .ref (b 4), .ref (b 5), .ref (b 6), .ref (b 7), .ref (b 8), .ref (b 9), .ref (b 10), .ref (b 11), .ref (b 12), .ref (b 13), .ref (b 14), .ref (b 15), .ref (b 16), .ref (b 17), .ref (b 18), .ref (b 19), .ref (b 20), .ref (b 21), .ref (b 22), .ref (b 23), .ref (b 24), .ref (b 25), .int (iZ (mu3w 26 0)), .ref (b 27), .ref (b 28), .ref (b 29), .ref (b 30), .ref (b 31), .ref (b 32), .ref (b 33), .ref (b 34), .int (iZ (mu3w 35 0)), .int (iZ (mu3w 36 0)), .int (iZ (mu3w 37 0)), .int (iZ (mu3w 38 0)), .int (iZ (mu3w 39 0)), .int (iZ (mu3w 40 0)), .ref (b 41), .ref (b 42)])) := hE3w.1
    have f17_ : en3w 37 0 = some (b 17, aI dA (4) (mu3w 17)) := hE3w.2 17 (by decide)
    have f21_ : en3w 41 0 = some (b 21, aI dA (4) (mu3w 21)) := hE3w.2 21 (by decide)
    have f22_ : en3w 42 0 = some (b 22, aI dA (4) (mu3w 22)) := hE3w.2 22 (by decide)
    have f23_ : en3w 43 0 = some (b 23, aJ dA (4) (mu3w 23)) := hE3w.2 23 (by decide)
    have f24_ : en3w 44 0 = some (b 24, aZ dA (4) (mu3w 24)) := hE3w.2 24 (by decide)
    refine lv_aload_n hx hb dX4_answer_44 rfl (lv_at hl 0 rfl) ?_
    refine g_get (C := RX4) (T := TX4) (N := 43) (ci := 6) (v := .ref (b 24)) hx hb hts hi6 hown hK hW fM rfl 24 (by decide) (hts (.fieldLink RX4 74 "LongTransferModel" "asks" "[Z") (by decide +kernel)) (fun _ h9 => h9) rfl dX4_answer_45 ?_
    refine lv_iload_n hx hb dX4_answer_48 rfl (lv_at hl 1 rfl) ?_
    refine lv_aload_n hx hb dX4_answer_49 rfl (lv_at hl 0 rfl) ?_
    refine g_get (C := RX4) (T := TX4) (N := 43) (ci := 6) (v := .int (iZ (mu3w 37 0))) hx hb hts hi6 hown hK hW fM rfl 37 (by decide) (hts (.fieldLink RX4 153 "LongTransferModel" "flowKind" "I") (by decide +kernel)) (fun _ h9 => h9) rfl dX4_answer_50 ?_
    rw [t37_0]
    refine z_iconst hx hb dX4_answer_53 ?_
    refine z_icmp_ne (tgt := 61) hx hb dX4_answer_54 (by decide) (by omega) (by omega) (fun c_54 => ?_) (fun c_54 => ?_)
    · refine z_iconst hx hb dX4_answer_61 ?_
      refine g_zast (x := 0) hx hb hK hW hS f24_ (by omega) (by omega) (by omega) (by decide) dX4_answer_62 (fun H locs hW hS => ?_)
      obtain ⟨en4w, hen4w⟩ : ∃ x : en_T, x = e2 en3w 44 0 (some (b 24, aZ dA (4) (uF (mu3w 24) (r) (0)))) := ⟨_, rfl⟩
      rw [← hen4w] at hW
      obtain ⟨mu4w, hmu4w⟩ : ∃ x : Mu, x = u2 mu3w 24 (r) (0) := ⟨_, rfl⟩
      have hE4w : EM dA b mu4w en4w := by rw [hen4w, hmu4w]; exact em_w hE3w (k0 := 24) (j := r) (v := 0) (by decide)
      have hF4w : FM en3w en4w := fun k i q => by rw [hen4w]; exact e2_k (fun w => q (by rw [w]; decide))
      have hF4w := FM.tr hF3w hF4w
      replace t26_0 : mu4w 26 (0) = mu 26 (0) + 1 := by rw [hmu4w]; exact (u2_n (fun q => absurd q.1 (by decide))).trans t26_0
      replace t2_0 : mu4w 2 (0) = mu 2 (0) := by rw [hmu4w]; exact (u2_n (fun q => absurd q.1 (by decide))).trans t2_0
      replace t17_r : mu4w 17 (r) = mu 17 (r) := by rw [hmu4w]; exact (u2_n (fun q => absurd q.1 (by decide))).trans t17_r
      replace t35_0 : mu4w 35 (0) = mu 35 (0) := by rw [hmu4w]; exact (u2_n (fun q => absurd q.1 (by decide))).trans t35_0
      replace t36_0 : mu4w 36 (0) = mu 36 (0) := by rw [hmu4w]; exact (u2_n (fun q => absurd q.1 (by decide))).trans t36_0
      replace t37_0 : mu4w 37 (0) = mu 37 (0) := by rw [hmu4w]; exact (u2_n (fun q => absurd q.1 (by decide))).trans t37_0
      replace t16_r : mu4w 16 (r) = mu 16 (r) := by rw [hmu4w]; exact (u2_n (fun q => absurd q.1 (by decide))).trans t16_r
      replace t18_r : mu4w 18 (r) = mu 18 (r) := by rw [hmu4w]; exact (u2_n (fun q => absurd q.1 (by decide))).trans t18_r
      replace t19_r : mu4w 19 (r) = mu 19 (r) := by rw [hmu4w]; exact (u2_n (fun q => absurd q.1 (by decide))).trans t19_r
      replace t20_r : mu4w 20 (r) = mu 20 (r) := by rw [hmu4w]; exact (u2_n (fun q => absurd q.1 (by decide))).trans t20_r
      replace t21_r : mu4w 21 (r) = mu 21 (r) := by rw [hmu4w]; exact (u2_n (fun q => absurd q.1 (by decide))).trans t21_r
      replace t22_r : mu4w 22 (r) = mu 22 (r) := by rw [hmu4w]; exact (u2_n (fun q => absurd q.1 (by decide))).trans t22_r
      replace t23_r : mu4w 23 (r) = mu 2 (0) := by rw [hmu4w]; exact (u2_n (fun q => absurd q.1 (by decide))).trans t23_r
      replace t24_r : mu4w 24 (r) = 0 := by rw [hmu4w]; exact u2_s _ _ _ _
      have fM : en4w 20 0 = some (b 0, .inr (6, [.int (iZ (mu4w 0 0)), .int (iZ (mu4w 1 0)), .long (lZ (mu4w 2 0)), .int (iZ (mu4w 3 0)), .ref (b 4), .ref (b 5), .ref (b 6), .ref (b 7), .ref (b 8), .ref (b 9), .ref (b 10), .ref (b 11), .ref (b 12), .ref (b 13), .ref (b 14), .ref (b 15), .ref (b 16), .ref (b 17), .ref (b 18), .ref (b 19), .ref (b 20), .ref (b 21), .ref (b 22), .ref (b 23), .ref (b 24), .ref (b 25), .int (iZ (mu4w 26 0)), .ref (b 27), .ref (b 28), .ref (b 29), .ref (b 30), .ref (b 31), .ref (b 32), .ref (b 33), .ref (b 34), .int (iZ (mu4w 35 0)), .int (iZ (mu4w 36 0)), .int (iZ (mu4w 37 0)), .int (iZ (mu4w 38 0)), .int (iZ (mu4w 39 0)), .int (iZ (mu4w 40 0)), .ref (b 41), .ref (b 42)])) := hE4w.1
      have f17_ : en4w 37 0 = some (b 17, aI dA (4) (mu4w 17)) := hE4w.2 17 (by decide)
      have f21_ : en4w 41 0 = some (b 21, aI dA (4) (mu4w 21)) := hE4w.2 21 (by decide)
      have f22_ : en4w 42 0 = some (b 22, aI dA (4) (mu4w 22)) := hE4w.2 22 (by decide)
      have f23_ : en4w 43 0 = some (b 23, aJ dA (4) (mu4w 23)) := hE4w.2 23 (by decide)
      have f24_ : en4w 44 0 = some (b 24, aZ dA (4) (mu4w 24)) := hE4w.2 24 (by decide)
      refine lv_aload_n hx hb dX4_answer_63 rfl (lv_at hl 0 rfl) ?_
      refine g_get (C := RX4) (T := TX4) (N := 43) (ci := 6) (v := .int (iZ (mu4w 37 0))) hx hb hts hi6 hown hK hW fM rfl 37 (by decide) (hts (.fieldLink RX4 153 "LongTransferModel" "flowKind" "I") (by decide +kernel)) (fun _ h9 => h9) rfl dX4_answer_64 ?_
      rw [t37_0]
      refine z_if_ne (tgt := 90) hx hb dX4_answer_67 (by decide) (by omega) (fun c_67 => ?_) (fun c_67 => ?_)
      · refine lv_aload_n hx hb dX4_answer_90 rfl (lv_at hl 0 rfl) ?_
        refine g_get (C := RX4) (T := TX4) (N := 43) (ci := 6) (v := .int (iZ (mu4w 37 0))) hx hb hts hi6 hown hK hW fM rfl 37 (by decide) (hts (.fieldLink RX4 153 "LongTransferModel" "flowKind" "I") (by decide +kernel)) (fun _ h9 => h9) rfl dX4_answer_91 ?_
        rw [t37_0]
        refine z_iconst hx hb dX4_answer_94 ?_
        refine z_icmp_ne (tgt := 104) hx hb dX4_answer_95 (by decide) (by omega) (by omega) (fun c_95 => ?_) (fun c_95 => ?_)
        · have hmx : ∀ (t : Nat) (j : Int), ¬ (16 ≤ t ∧ t ≤ 24 ∧ j = r) → mu4w t j = mMk mu 3 (g 31 r 0) (g 0 9 0) (g 0 10 0) (g 0 11 0) t j := fun t j q => by rw [hmu4w, u2_n (by omega), hmu3w, u2_n (by omega), hmk2]
          have hF0 : sAns0 g r = sFlow g (g 31 r 0) (g 0 9 0) (g 0 10 0) (g 0 11 0) := v_a0f (by omega)
          obtain ⟨gq, hgq⟩ : ∃ x : St, x = wr (wr (sAns0 g r) 38 r (g 0 7 0 + 1000)) 37 r (g 0 7 0 + 500) := ⟨_, rfl⟩
          have v30 : gq 30 r 0 = g 30 r 0 := by rw [hgq, wr_n (by omega), wr_n (by omega), hF0]; exact v_flw (by decide)
          have v31 : gq 31 r 0 = g 31 r 0 := by rw [hgq, wr_n (by omega), wr_n (by omega), hF0]; exact v_flw (by decide)
          have v32 : gq 32 r 0 = g 32 r 0 := by rw [hgq, wr_n (by omega), wr_n (by omega), hF0]; exact v_flw (by decide)
          have v33 : gq 33 r 0 = g 33 r 0 := by rw [hgq, wr_n (by omega), wr_n (by omega), hF0]; exact v_flw (by decide)
          have v34 : gq 34 r 0 = g 34 r 0 := by rw [hgq, wr_n (by omega), wr_n (by omega), hF0]; exact v_flw (by decide)
          have v35 : gq 35 r 0 = g 35 r 0 := by rw [hgq, wr_n (by omega), wr_n (by omega), hF0]; exact v_flw (by decide)
          have v36 : gq 36 r 0 = g 36 r 0 := by rw [hgq, wr_n (by omega), wr_n (by omega), hF0]; exact v_flw (by decide)
          have v39 : ∀ j : Int, gq 39 r j = g 39 r j := fun j => by rw [hgq, wr_n (by omega), wr_n (by omega), hF0]; exact v_flw (by decide)
          have v38 : gq 38 r 0 = g 0 7 0 + 1000 := by rw [hgq]; simp [wr]
          have v37 : gq 37 r 0 = g 0 7 0 + 500 := by rw [hgq]; simp [wr]
          have v25 : ∀ j : Int, mu4w 25 j = mu 25 j := fun j => by rw [hmx 25 j (by omega)]; exact mMk_n (by omega)
          have hRx : RlR gq mu4w r := rlr_f hI hR (fun t i j q => by rw [hgq, wr_n (by omega), wr_n (by omega), hF0]) hmx
          have hwx : Rw gq mu4w r := ⟨by omega, by omega, ⟨by omega, by omega, by omega, by omega, by omega⟩, fun q => by rw [v35] at q; have := w22 q; omega, fun j q1 q2 => by rw [v25, v39]; exact w25 j q1 (by omega)⟩
          have hpst : Rl (sAns g r) mu4w := by rw [v_an1 (by omega) (by omega), ← hgq]; exact hRx.l (hwx.q (by omega) (Or.inl ⟨by omega, by omega⟩))
          exact W.vret hx hb hr (fun t ht hw => ⟨⟨(en4w, mu4w), rfl, ⟨hE4w, hF4w, hpst⟩, by show Wd _ _ _ t.heap; rw [ht]; exact hW⟩, hS.F ht⟩) hS.2.2 dX4_answer_104
        · refine lv_aload_n hx hb dX4_answer_98 rfl (lv_at hl 0 rfl) ?_
          refine lv_iload_n hx hb dX4_answer_99 rfl (lv_at hl 1 rfl) ?_
          refine z_iconst hx hb dX4_answer_100 ?_
          refine va_callv (va_runV (As := [.int (iZ (r)), .int (iZ (4))]) (rest := []) ⟨hx, hb, hml, hown, hts⟩ (c_X4_endReceiver l D dA z en4w b mu4w r 4 (by omega) (by omega) (by omega) (by omega) hE4w) (cwV 2 hts gX4_answer_X4_endReceiver rfl rfl rfl (by decide +kernel) ⟨Nat.le_of_ble_eq_true rfl, Nat.le_of_ble_eq_true rfl⟩) ⟨gBl, gRecv hK hW (ci := 6) rfl fM, gPre _ hg hS hW⟩ rfl rfl hl.1 rfl (lv_room (Nat.le_of_ble_eq_true rfl)) dX4_answer_101 ⟨(show 0 + 0 + 0 ≤ 0 by omega), (show 0 + 0 + 0 ≤ 0 by omega)⟩) hS (fun _ _ h => h) (fun _ h => h) (fun u9 t9 H locs ht9 hvm9 hw9 hB9 hz9 hk9 hS => ?_)
          obtain ⟨en5w, mu5w⟩ := u9
          obtain ⟨hE5w, hF5w, hmu5w⟩ := hw9
          have hW : Wd D (z 0) en5w H := by rw [← ht9]; exact hB9
          dsimp only at hE5w hF5w hmu5w
          have hF5w := FM.tr hF4w hF5w
          have fM : en5w 20 0 = some (b 0, .inr (6, [.int (iZ (mu5w 0 0)), .int (iZ (mu5w 1 0)), .long (lZ (mu5w 2 0)), .int (iZ (mu5w 3 0)), .ref (b 4), .ref (b 5), .ref (b 6), .ref (b 7), .ref (b 8), .ref (b 9), .ref (b 10), .ref (b 11), .ref (b 12), .ref (b 13), .ref (b 14), .ref (b 15), .ref (b 16), .ref (b 17), .ref (b 18), .ref (b 19), .ref (b 20), .ref (b 21), .ref (b 22), .ref (b 23), .ref (b 24), .ref (b 25), .int (iZ (mu5w 26 0)), .ref (b 27), .ref (b 28), .ref (b 29), .ref (b 30), .ref (b 31), .ref (b 32), .ref (b 33), .ref (b 34), .int (iZ (mu5w 35 0)), .int (iZ (mu5w 36 0)), .int (iZ (mu5w 37 0)), .int (iZ (mu5w 38 0)), .int (iZ (mu5w 39 0)), .int (iZ (mu5w 40 0)), .ref (b 41), .ref (b 42)])) := hE5w.1
          have f17_ : en5w 37 0 = some (b 17, aI dA (4) (mu5w 17)) := hE5w.2 17 (by decide)
          have f21_ : en5w 41 0 = some (b 21, aI dA (4) (mu5w 21)) := hE5w.2 21 (by decide)
          have f22_ : en5w 42 0 = some (b 22, aI dA (4) (mu5w 22)) := hE5w.2 22 (by decide)
          have f23_ : en5w 43 0 = some (b 23, aJ dA (4) (mu5w 23)) := hE5w.2 23 (by decide)
          have f24_ : en5w 44 0 = some (b 24, aZ dA (4) (mu5w 24)) := hE5w.2 24 (by decide)
          have hmx : ∀ (t : Nat) (j : Int), ¬ (16 ≤ t ∧ t ≤ 24 ∧ j = r) → mu4w t j = mMk mu 3 (g 31 r 0) (g 0 9 0) (g 0 10 0) (g 0 11 0) t j := fun t j q => by rw [hmu4w, u2_n (by omega), hmu3w, u2_n (by omega), hmk2]
          have hF0 : sAns0 g r = sFlow g (g 31 r 0) (g 0 9 0) (g 0 10 0) (g 0 11 0) := v_a0f (by omega)
          have hRx : RlR (sAns0 g r) mu4w r := rlr_f hI hR (fun t i j q => by rw [hF0]) hmx
          have hIx : IB (sAns0 g r) := ib_mf hI (by omega) (by omega) (by omega) (by omega) (by omega) (by omega)
          have hpst : Rl (sAns g r) mu5w := by rw [v_an2 (by omega) (by omega), hmu5w]; exact rlr_e hIx hRx (by omega) (by omega) (by omega) (fun t j q => rfl)
          exact W.vret hx hb hr (fun t ht hw => ⟨⟨(en5w, mu5w), rfl, ⟨hE5w, hF5w, hpst⟩, by show Wd _ _ _ t.heap; rw [ht]; exact hW⟩, hS.F ht⟩) hS.2.2 dX4_answer_104
      · refine lv_aload_n hx hb dX4_answer_70 rfl (lv_at hl 0 rfl) ?_
        refine g_get (C := RX4) (T := TX4) (N := 43) (ci := 6) (v := .ref (b 21)) hx hb hts hi6 hown hK hW fM rfl 21 (by decide) (hts (.fieldLink RX4 65 "LongTransferModel" "said" "[I") (by decide +kernel)) (fun _ h9 => h9) rfl dX4_answer_71 ?_
        refine lv_iload_n hx hb dX4_answer_74 rfl (lv_at hl 1 rfl) ?_
        refine lv_aload_n hx hb dX4_answer_75 rfl (lv_at hl 0 rfl) ?_
        refine g_get (C := RX4) (T := TX4) (N := 43) (ci := 6) (v := .int (iZ (mu4w 35 0))) hx hb hts hi6 hown hK hW fM rfl 35 (by decide) (hts (.fieldLink RX4 156 "LongTransferModel" "flowBlock" "I") (by decide +kernel)) (fun _ h9 => h9) rfl dX4_answer_76 ?_
        rw [t35_0]
        refine g_iast (x := mu 35 (0)) hx hb hK hW hS f21_ (by omega) (by omega) (by omega) dX4_answer_79 (fun H locs hW hS => ?_)
        obtain ⟨en6w, hen6w⟩ : ∃ x : en_T, x = e2 en4w 41 0 (some (b 21, aI dA (4) (uF (mu4w 21) (r) (mu 35 (0))))) := ⟨_, rfl⟩
        rw [← hen6w] at hW
        obtain ⟨mu6w, hmu6w⟩ : ∃ x : Mu, x = u2 mu4w 21 (r) (mu 35 (0)) := ⟨_, rfl⟩
        have hE6w : EM dA b mu6w en6w := by rw [hen6w, hmu6w]; exact em_w hE4w (k0 := 21) (j := r) (v := mu 35 (0)) (by decide)
        have hF6w : FM en4w en6w := fun k i q => by rw [hen6w]; exact e2_k (fun w => q (by rw [w]; decide))
        have hF6w := FM.tr hF4w hF6w
        replace t26_0 : mu6w 26 (0) = mu 26 (0) + 1 := by rw [hmu6w]; exact (u2_n (fun q => absurd q.1 (by decide))).trans t26_0
        replace t2_0 : mu6w 2 (0) = mu 2 (0) := by rw [hmu6w]; exact (u2_n (fun q => absurd q.1 (by decide))).trans t2_0
        replace t17_r : mu6w 17 (r) = mu 17 (r) := by rw [hmu6w]; exact (u2_n (fun q => absurd q.1 (by decide))).trans t17_r
        replace t35_0 : mu6w 35 (0) = mu 35 (0) := by rw [hmu6w]; exact (u2_n (fun q => absurd q.1 (by decide))).trans t35_0
        replace t36_0 : mu6w 36 (0) = mu 36 (0) := by rw [hmu6w]; exact (u2_n (fun q => absurd q.1 (by decide))).trans t36_0
        replace t37_0 : mu6w 37 (0) = mu 37 (0) := by rw [hmu6w]; exact (u2_n (fun q => absurd q.1 (by decide))).trans t37_0
        replace t16_r : mu6w 16 (r) = mu 16 (r) := by rw [hmu6w]; exact (u2_n (fun q => absurd q.1 (by decide))).trans t16_r
        replace t18_r : mu6w 18 (r) = mu 18 (r) := by rw [hmu6w]; exact (u2_n (fun q => absurd q.1 (by decide))).trans t18_r
        replace t19_r : mu6w 19 (r) = mu 19 (r) := by rw [hmu6w]; exact (u2_n (fun q => absurd q.1 (by decide))).trans t19_r
        replace t20_r : mu6w 20 (r) = mu 20 (r) := by rw [hmu6w]; exact (u2_n (fun q => absurd q.1 (by decide))).trans t20_r
        replace t21_r : mu6w 21 (r) = mu 35 (0) := by rw [hmu6w]; exact u2_s _ _ _ _
        replace t22_r : mu6w 22 (r) = mu 22 (r) := by rw [hmu6w]; exact (u2_n (fun q => absurd q.1 (by decide))).trans t22_r
        replace t23_r : mu6w 23 (r) = mu 2 (0) := by rw [hmu6w]; exact (u2_n (fun q => absurd q.1 (by decide))).trans t23_r
        replace t24_r : mu6w 24 (r) = 0 := by rw [hmu6w]; exact (u2_n (fun q => absurd q.1 (by decide))).trans t24_r
        have fM : en6w 20 0 = some (b 0, .inr (6, [.int (iZ (mu6w 0 0)), .int (iZ (mu6w 1 0)), .long (lZ (mu6w 2 0)), .int (iZ (mu6w 3 0)), .ref (b 4), .ref (b 5), .ref (b 6), .ref (b 7), .ref (b 8), .ref (b 9), .ref (b 10), .ref (b 11), .ref (b 12), .ref (b 13), .ref (b 14), .ref (b 15), .ref (b 16), .ref (b 17), .ref (b 18), .ref (b 19), .ref (b 20), .ref (b 21), .ref (b 22), .ref (b 23), .ref (b 24), .ref (b 25), .int (iZ (mu6w 26 0)), .ref (b 27), .ref (b 28), .ref (b 29), .ref (b 30), .ref (b 31), .ref (b 32), .ref (b 33), .ref (b 34), .int (iZ (mu6w 35 0)), .int (iZ (mu6w 36 0)), .int (iZ (mu6w 37 0)), .int (iZ (mu6w 38 0)), .int (iZ (mu6w 39 0)), .int (iZ (mu6w 40 0)), .ref (b 41), .ref (b 42)])) := hE6w.1
        have f17_ : en6w 37 0 = some (b 17, aI dA (4) (mu6w 17)) := hE6w.2 17 (by decide)
        have f21_ : en6w 41 0 = some (b 21, aI dA (4) (mu6w 21)) := hE6w.2 21 (by decide)
        have f22_ : en6w 42 0 = some (b 22, aI dA (4) (mu6w 22)) := hE6w.2 22 (by decide)
        have f23_ : en6w 43 0 = some (b 23, aJ dA (4) (mu6w 23)) := hE6w.2 23 (by decide)
        have f24_ : en6w 44 0 = some (b 24, aZ dA (4) (mu6w 24)) := hE6w.2 24 (by decide)
        refine lv_aload_n hx hb dX4_answer_80 rfl (lv_at hl 0 rfl) ?_
        refine g_get (C := RX4) (T := TX4) (N := 43) (ci := 6) (v := .ref (b 22)) hx hb hts hi6 hown hK hW fM rfl 22 (by decide) (hts (.fieldLink RX4 68 "LongTransferModel" "more" "[I") (by decide +kernel)) (fun _ h9 => h9) rfl dX4_answer_81 ?_
        refine lv_iload_n hx hb dX4_answer_84 rfl (lv_at hl 1 rfl) ?_
        refine lv_aload_n hx hb dX4_answer_85 rfl (lv_at hl 0 rfl) ?_
        refine g_get (C := RX4) (T := TX4) (N := 43) (ci := 6) (v := .int (iZ (mu6w 35 0))) hx hb hts hi6 hown hK hW fM rfl 35 (by decide) (hts (.fieldLink RX4 156 "LongTransferModel" "flowBlock" "I") (by decide +kernel)) (fun _ h9 => h9) rfl dX4_answer_86 ?_
        rw [t35_0]
        refine g_iast (x := mu 35 (0)) hx hb hK hW hS f22_ (by omega) (by omega) (by omega) dX4_answer_89 (fun H locs hW hS => ?_)
        obtain ⟨en7w, hen7w⟩ : ∃ x : en_T, x = e2 en6w 42 0 (some (b 22, aI dA (4) (uF (mu6w 22) (r) (mu 35 (0))))) := ⟨_, rfl⟩
        rw [← hen7w] at hW
        obtain ⟨mu7w, hmu7w⟩ : ∃ x : Mu, x = u2 mu6w 22 (r) (mu 35 (0)) := ⟨_, rfl⟩
        have hE7w : EM dA b mu7w en7w := by rw [hen7w, hmu7w]; exact em_w hE6w (k0 := 22) (j := r) (v := mu 35 (0)) (by decide)
        have hF7w : FM en6w en7w := fun k i q => by rw [hen7w]; exact e2_k (fun w => q (by rw [w]; decide))
        have hF7w := FM.tr hF6w hF7w
        replace t26_0 : mu7w 26 (0) = mu 26 (0) + 1 := by rw [hmu7w]; exact (u2_n (fun q => absurd q.1 (by decide))).trans t26_0
        replace t2_0 : mu7w 2 (0) = mu 2 (0) := by rw [hmu7w]; exact (u2_n (fun q => absurd q.1 (by decide))).trans t2_0
        replace t17_r : mu7w 17 (r) = mu 17 (r) := by rw [hmu7w]; exact (u2_n (fun q => absurd q.1 (by decide))).trans t17_r
        replace t35_0 : mu7w 35 (0) = mu 35 (0) := by rw [hmu7w]; exact (u2_n (fun q => absurd q.1 (by decide))).trans t35_0
        replace t36_0 : mu7w 36 (0) = mu 36 (0) := by rw [hmu7w]; exact (u2_n (fun q => absurd q.1 (by decide))).trans t36_0
        replace t37_0 : mu7w 37 (0) = mu 37 (0) := by rw [hmu7w]; exact (u2_n (fun q => absurd q.1 (by decide))).trans t37_0
        replace t16_r : mu7w 16 (r) = mu 16 (r) := by rw [hmu7w]; exact (u2_n (fun q => absurd q.1 (by decide))).trans t16_r
        replace t18_r : mu7w 18 (r) = mu 18 (r) := by rw [hmu7w]; exact (u2_n (fun q => absurd q.1 (by decide))).trans t18_r
        replace t19_r : mu7w 19 (r) = mu 19 (r) := by rw [hmu7w]; exact (u2_n (fun q => absurd q.1 (by decide))).trans t19_r
        replace t20_r : mu7w 20 (r) = mu 20 (r) := by rw [hmu7w]; exact (u2_n (fun q => absurd q.1 (by decide))).trans t20_r
        replace t21_r : mu7w 21 (r) = mu 35 (0) := by rw [hmu7w]; exact (u2_n (fun q => absurd q.1 (by decide))).trans t21_r
        replace t22_r : mu7w 22 (r) = mu 35 (0) := by rw [hmu7w]; exact u2_s _ _ _ _
        replace t23_r : mu7w 23 (r) = mu 2 (0) := by rw [hmu7w]; exact (u2_n (fun q => absurd q.1 (by decide))).trans t23_r
        replace t24_r : mu7w 24 (r) = 0 := by rw [hmu7w]; exact (u2_n (fun q => absurd q.1 (by decide))).trans t24_r
        have fM : en7w 20 0 = some (b 0, .inr (6, [.int (iZ (mu7w 0 0)), .int (iZ (mu7w 1 0)), .long (lZ (mu7w 2 0)), .int (iZ (mu7w 3 0)), .ref (b 4), .ref (b 5), .ref (b 6), .ref (b 7), .ref (b 8), .ref (b 9), .ref (b 10), .ref (b 11), .ref (b 12), .ref (b 13), .ref (b 14), .ref (b 15), .ref (b 16), .ref (b 17), .ref (b 18), .ref (b 19), .ref (b 20), .ref (b 21), .ref (b 22), .ref (b 23), .ref (b 24), .ref (b 25), .int (iZ (mu7w 26 0)), .ref (b 27), .ref (b 28), .ref (b 29), .ref (b 30), .ref (b 31), .ref (b 32), .ref (b 33), .ref (b 34), .int (iZ (mu7w 35 0)), .int (iZ (mu7w 36 0)), .int (iZ (mu7w 37 0)), .int (iZ (mu7w 38 0)), .int (iZ (mu7w 39 0)), .int (iZ (mu7w 40 0)), .ref (b 41), .ref (b 42)])) := hE7w.1
        have f17_ : en7w 37 0 = some (b 17, aI dA (4) (mu7w 17)) := hE7w.2 17 (by decide)
        have f21_ : en7w 41 0 = some (b 21, aI dA (4) (mu7w 21)) := hE7w.2 21 (by decide)
        have f22_ : en7w 42 0 = some (b 22, aI dA (4) (mu7w 22)) := hE7w.2 22 (by decide)
        have f23_ : en7w 43 0 = some (b 23, aJ dA (4) (mu7w 23)) := hE7w.2 23 (by decide)
        have f24_ : en7w 44 0 = some (b 24, aZ dA (4) (mu7w 24)) := hE7w.2 24 (by decide)
        refine lv_aload_n hx hb dX4_answer_90 rfl (lv_at hl 0 rfl) ?_
        refine g_get (C := RX4) (T := TX4) (N := 43) (ci := 6) (v := .int (iZ (mu7w 37 0))) hx hb hts hi6 hown hK hW fM rfl 37 (by decide) (hts (.fieldLink RX4 153 "LongTransferModel" "flowKind" "I") (by decide +kernel)) (fun _ h9 => h9) rfl dX4_answer_91 ?_
        rw [t37_0]
        refine z_iconst hx hb dX4_answer_94 ?_
        refine z_icmp_ne (tgt := 104) hx hb dX4_answer_95 (by decide) (by omega) (by omega) (fun c_95 => ?_) (fun c_95 => ?_)
        · have hmx : ∀ (t : Nat) (j : Int), ¬ (16 ≤ t ∧ t ≤ 24 ∧ j = r) → mu7w t j = mMk mu 3 (g 31 r 0) (g 0 9 0) (g 0 10 0) (g 0 11 0) t j := fun t j q => by rw [hmu7w, u2_n (by omega), hmu6w, u2_n (by omega), hmu4w, u2_n (by omega), hmu3w, u2_n (by omega), hmk2]
          have hF0 : sAns0 g r = sFlow g (g 31 r 0) (g 0 9 0) (g 0 10 0) (g 0 11 0) := v_a0f (by omega)
          obtain ⟨gq, hgq⟩ : ∃ x : St, x = wr (wr (wr (wr (sAns0 g r) 38 r (g 0 7 0 + 1000)) 37 r 9223372036854775807) 35 r (g 0 10 0)) 36 r 0 := ⟨_, rfl⟩
          have v30 : gq 30 r 0 = g 30 r 0 := by rw [hgq, wr_n (by omega), wr_n (by omega), wr_n (by omega), wr_n (by omega), hF0]; exact v_flw (by decide)
          have v31 : gq 31 r 0 = g 31 r 0 := by rw [hgq, wr_n (by omega), wr_n (by omega), wr_n (by omega), wr_n (by omega), hF0]; exact v_flw (by decide)
          have v32 : gq 32 r 0 = g 32 r 0 := by rw [hgq, wr_n (by omega), wr_n (by omega), wr_n (by omega), wr_n (by omega), hF0]; exact v_flw (by decide)
          have v33 : gq 33 r 0 = g 33 r 0 := by rw [hgq, wr_n (by omega), wr_n (by omega), wr_n (by omega), wr_n (by omega), hF0]; exact v_flw (by decide)
          have v34 : gq 34 r 0 = g 34 r 0 := by rw [hgq, wr_n (by omega), wr_n (by omega), wr_n (by omega), wr_n (by omega), hF0]; exact v_flw (by decide)
          have v35 : gq 35 r 0 = g 0 10 0 := by rw [hgq]; simp [wr]
          have v36 : gq 36 r 0 = 0 := by rw [hgq]; simp [wr]
          have v39 : ∀ j : Int, gq 39 r j = g 39 r j := fun j => by rw [hgq, wr_n (by omega), wr_n (by omega), wr_n (by omega), wr_n (by omega), hF0]; exact v_flw (by decide)
          have v38 : gq 38 r 0 = g 0 7 0 + 1000 := by rw [hgq]; simp [wr]
          have v37 : gq 37 r 0 = 9223372036854775807 := by rw [hgq]; simp [wr]
          have v25 : ∀ j : Int, mu7w 25 j = mu 25 j := fun j => by rw [hmx 25 j (by omega)]; exact mMk_n (by omega)
          have hRx : RlR gq mu7w r := rlr_f hI hR (fun t i j q => by rw [hgq, wr_n (by omega), wr_n (by omega), wr_n (by omega), wr_n (by omega), hF0]) hmx
          have hwx : Rw gq mu7w r := ⟨by omega, by omega, ⟨by omega, by omega, by omega, by omega, by omega⟩, fun q => by omega, fun j q1 q2 => by rw [v25, v39]; exact w25 j q1 (by omega)⟩
          have hpst : Rl (sAns g r) mu7w := by rw [v_anz (by omega) (by omega) (by omega), ← hgq]; exact hRx.l (hwx.q (by omega) (Or.inr ⟨by omega, v37⟩))
          exact W.vret hx hb hr (fun t ht hw => ⟨⟨(en7w, mu7w), rfl, ⟨hE7w, hF7w, hpst⟩, by show Wd _ _ _ t.heap; rw [ht]; exact hW⟩, hS.F ht⟩) hS.2.2 dX4_answer_104
        · refine lv_aload_n hx hb dX4_answer_98 rfl (lv_at hl 0 rfl) ?_
          refine lv_iload_n hx hb dX4_answer_99 rfl (lv_at hl 1 rfl) ?_
          refine z_iconst hx hb dX4_answer_100 ?_
          refine va_callv (va_runV (As := [.int (iZ (r)), .int (iZ (4))]) (rest := []) ⟨hx, hb, hml, hown, hts⟩ (c_X4_endReceiver l D dA z en7w b mu7w r 4 (by omega) (by omega) (by omega) (by omega) hE7w) (cwV 2 hts gX4_answer_X4_endReceiver rfl rfl rfl (by decide +kernel) ⟨Nat.le_of_ble_eq_true rfl, Nat.le_of_ble_eq_true rfl⟩) ⟨gBl, gRecv hK hW (ci := 6) rfl fM, gPre _ hg hS hW⟩ rfl rfl hl.1 rfl (lv_room (Nat.le_of_ble_eq_true rfl)) dX4_answer_101 ⟨(show 0 + 0 + 0 ≤ 0 by omega), (show 0 + 0 + 0 ≤ 0 by omega)⟩) hS (fun _ _ h => h) (fun _ h => h) (fun u9 t9 H locs ht9 hvm9 hw9 hB9 hz9 hk9 hS => ?_)
          obtain ⟨en8w, mu8w⟩ := u9
          obtain ⟨hE8w, hF8w, hmu8w⟩ := hw9
          have hW : Wd D (z 0) en8w H := by rw [← ht9]; exact hB9
          dsimp only at hE8w hF8w hmu8w
          have hF8w := FM.tr hF7w hF8w
          have fM : en8w 20 0 = some (b 0, .inr (6, [.int (iZ (mu8w 0 0)), .int (iZ (mu8w 1 0)), .long (lZ (mu8w 2 0)), .int (iZ (mu8w 3 0)), .ref (b 4), .ref (b 5), .ref (b 6), .ref (b 7), .ref (b 8), .ref (b 9), .ref (b 10), .ref (b 11), .ref (b 12), .ref (b 13), .ref (b 14), .ref (b 15), .ref (b 16), .ref (b 17), .ref (b 18), .ref (b 19), .ref (b 20), .ref (b 21), .ref (b 22), .ref (b 23), .ref (b 24), .ref (b 25), .int (iZ (mu8w 26 0)), .ref (b 27), .ref (b 28), .ref (b 29), .ref (b 30), .ref (b 31), .ref (b 32), .ref (b 33), .ref (b 34), .int (iZ (mu8w 35 0)), .int (iZ (mu8w 36 0)), .int (iZ (mu8w 37 0)), .int (iZ (mu8w 38 0)), .int (iZ (mu8w 39 0)), .int (iZ (mu8w 40 0)), .ref (b 41), .ref (b 42)])) := hE8w.1
          have f17_ : en8w 37 0 = some (b 17, aI dA (4) (mu8w 17)) := hE8w.2 17 (by decide)
          have f21_ : en8w 41 0 = some (b 21, aI dA (4) (mu8w 21)) := hE8w.2 21 (by decide)
          have f22_ : en8w 42 0 = some (b 22, aI dA (4) (mu8w 22)) := hE8w.2 22 (by decide)
          have f23_ : en8w 43 0 = some (b 23, aJ dA (4) (mu8w 23)) := hE8w.2 23 (by decide)
          have f24_ : en8w 44 0 = some (b 24, aZ dA (4) (mu8w 24)) := hE8w.2 24 (by decide)
          have hmx : ∀ (t : Nat) (j : Int), ¬ (16 ≤ t ∧ t ≤ 24 ∧ j = r) → mu7w t j = mMk mu 3 (g 31 r 0) (g 0 9 0) (g 0 10 0) (g 0 11 0) t j := fun t j q => by rw [hmu7w, u2_n (by omega), hmu6w, u2_n (by omega), hmu4w, u2_n (by omega), hmu3w, u2_n (by omega), hmk2]
          have hF0 : sAns0 g r = sFlow g (g 31 r 0) (g 0 9 0) (g 0 10 0) (g 0 11 0) := v_a0f (by omega)
          have hRx : RlR (sAns0 g r) mu7w r := rlr_f hI hR (fun t i j q => by rw [hF0]) hmx
          have hIx : IB (sAns0 g r) := ib_mf hI (by omega) (by omega) (by omega) (by omega) (by omega) (by omega)
          have hpst : Rl (sAns g r) mu8w := by rw [v_an2 (by omega) (by omega), hmu8w]; exact rlr_e hIx hRx (by omega) (by omega) (by omega) (fun t j q => rfl)
          exact W.vret hx hb hr (fun t ht hw => ⟨⟨(en8w, mu8w), rfl, ⟨hE8w, hF8w, hpst⟩, by show Wd _ _ _ t.heap; rw [ht]; exact hW⟩, hS.F ht⟩) hS.2.2 dX4_answer_104
    · refine z_iconst hx hb dX4_answer_57 ?_
      refine lv_goto (tgt := 62) hx hb dX4_answer_58 (by decide) ?_
      refine g_zast (x := 1) hx hb hK hW hS f24_ (by omega) (by omega) (by omega) (by decide) dX4_answer_62 (fun H locs hW hS => ?_)
      obtain ⟨en9w, hen9w⟩ : ∃ x : en_T, x = e2 en3w 44 0 (some (b 24, aZ dA (4) (uF (mu3w 24) (r) (1)))) := ⟨_, rfl⟩
      rw [← hen9w] at hW
      obtain ⟨mu9w, hmu9w⟩ : ∃ x : Mu, x = u2 mu3w 24 (r) (1) := ⟨_, rfl⟩
      have hE9w : EM dA b mu9w en9w := by rw [hen9w, hmu9w]; exact em_w hE3w (k0 := 24) (j := r) (v := 1) (by decide)
      have hF9w : FM en3w en9w := fun k i q => by rw [hen9w]; exact e2_k (fun w => q (by rw [w]; decide))
      have hF9w := FM.tr hF3w hF9w
      replace t26_0 : mu9w 26 (0) = mu 26 (0) + 1 := by rw [hmu9w]; exact (u2_n (fun q => absurd q.1 (by decide))).trans t26_0
      replace t2_0 : mu9w 2 (0) = mu 2 (0) := by rw [hmu9w]; exact (u2_n (fun q => absurd q.1 (by decide))).trans t2_0
      replace t17_r : mu9w 17 (r) = mu 17 (r) := by rw [hmu9w]; exact (u2_n (fun q => absurd q.1 (by decide))).trans t17_r
      replace t35_0 : mu9w 35 (0) = mu 35 (0) := by rw [hmu9w]; exact (u2_n (fun q => absurd q.1 (by decide))).trans t35_0
      replace t36_0 : mu9w 36 (0) = mu 36 (0) := by rw [hmu9w]; exact (u2_n (fun q => absurd q.1 (by decide))).trans t36_0
      replace t37_0 : mu9w 37 (0) = mu 37 (0) := by rw [hmu9w]; exact (u2_n (fun q => absurd q.1 (by decide))).trans t37_0
      replace t16_r : mu9w 16 (r) = mu 16 (r) := by rw [hmu9w]; exact (u2_n (fun q => absurd q.1 (by decide))).trans t16_r
      replace t18_r : mu9w 18 (r) = mu 18 (r) := by rw [hmu9w]; exact (u2_n (fun q => absurd q.1 (by decide))).trans t18_r
      replace t19_r : mu9w 19 (r) = mu 19 (r) := by rw [hmu9w]; exact (u2_n (fun q => absurd q.1 (by decide))).trans t19_r
      replace t20_r : mu9w 20 (r) = mu 20 (r) := by rw [hmu9w]; exact (u2_n (fun q => absurd q.1 (by decide))).trans t20_r
      replace t21_r : mu9w 21 (r) = mu 21 (r) := by rw [hmu9w]; exact (u2_n (fun q => absurd q.1 (by decide))).trans t21_r
      replace t22_r : mu9w 22 (r) = mu 22 (r) := by rw [hmu9w]; exact (u2_n (fun q => absurd q.1 (by decide))).trans t22_r
      replace t23_r : mu9w 23 (r) = mu 2 (0) := by rw [hmu9w]; exact (u2_n (fun q => absurd q.1 (by decide))).trans t23_r
      replace t24_r : mu9w 24 (r) = 1 := by rw [hmu9w]; exact u2_s _ _ _ _
      have fM : en9w 20 0 = some (b 0, .inr (6, [.int (iZ (mu9w 0 0)), .int (iZ (mu9w 1 0)), .long (lZ (mu9w 2 0)), .int (iZ (mu9w 3 0)), .ref (b 4), .ref (b 5), .ref (b 6), .ref (b 7), .ref (b 8), .ref (b 9), .ref (b 10), .ref (b 11), .ref (b 12), .ref (b 13), .ref (b 14), .ref (b 15), .ref (b 16), .ref (b 17), .ref (b 18), .ref (b 19), .ref (b 20), .ref (b 21), .ref (b 22), .ref (b 23), .ref (b 24), .ref (b 25), .int (iZ (mu9w 26 0)), .ref (b 27), .ref (b 28), .ref (b 29), .ref (b 30), .ref (b 31), .ref (b 32), .ref (b 33), .ref (b 34), .int (iZ (mu9w 35 0)), .int (iZ (mu9w 36 0)), .int (iZ (mu9w 37 0)), .int (iZ (mu9w 38 0)), .int (iZ (mu9w 39 0)), .int (iZ (mu9w 40 0)), .ref (b 41), .ref (b 42)])) := hE9w.1
      have f17_ : en9w 37 0 = some (b 17, aI dA (4) (mu9w 17)) := hE9w.2 17 (by decide)
      have f21_ : en9w 41 0 = some (b 21, aI dA (4) (mu9w 21)) := hE9w.2 21 (by decide)
      have f22_ : en9w 42 0 = some (b 22, aI dA (4) (mu9w 22)) := hE9w.2 22 (by decide)
      have f23_ : en9w 43 0 = some (b 23, aJ dA (4) (mu9w 23)) := hE9w.2 23 (by decide)
      have f24_ : en9w 44 0 = some (b 24, aZ dA (4) (mu9w 24)) := hE9w.2 24 (by decide)
      refine lv_aload_n hx hb dX4_answer_63 rfl (lv_at hl 0 rfl) ?_
      refine g_get (C := RX4) (T := TX4) (N := 43) (ci := 6) (v := .int (iZ (mu9w 37 0))) hx hb hts hi6 hown hK hW fM rfl 37 (by decide) (hts (.fieldLink RX4 153 "LongTransferModel" "flowKind" "I") (by decide +kernel)) (fun _ h9 => h9) rfl dX4_answer_64 ?_
      rw [t37_0]
      refine z_if_ne (tgt := 90) hx hb dX4_answer_67 (by decide) (by omega) (fun c_67 => ?_) (fun c_67 => ?_)
      · refine lv_aload_n hx hb dX4_answer_90 rfl (lv_at hl 0 rfl) ?_
        refine g_get (C := RX4) (T := TX4) (N := 43) (ci := 6) (v := .int (iZ (mu9w 37 0))) hx hb hts hi6 hown hK hW fM rfl 37 (by decide) (hts (.fieldLink RX4 153 "LongTransferModel" "flowKind" "I") (by decide +kernel)) (fun _ h9 => h9) rfl dX4_answer_91 ?_
        rw [t37_0]
        refine z_iconst hx hb dX4_answer_94 ?_
        refine z_icmp_ne (tgt := 104) hx hb dX4_answer_95 (by decide) (by omega) (by omega) (fun c_95 => ?_) (fun c_95 => ?_)
        · have hmx : ∀ (t : Nat) (j : Int), ¬ (16 ≤ t ∧ t ≤ 24 ∧ j = r) → mu9w t j = mMk mu 3 (g 31 r 0) (g 0 9 0) (g 0 10 0) (g 0 11 0) t j := fun t j q => by rw [hmu9w, u2_n (by omega), hmu3w, u2_n (by omega), hmk2]
          have hF0 : sAns0 g r = sFlow g (g 31 r 0) (g 0 9 0) (g 0 10 0) (g 0 11 0) := v_a0f (by omega)
          obtain ⟨gq, hgq⟩ : ∃ x : St, x = wr (wr (sAns0 g r) 38 r (g 0 7 0 + 1000)) 37 r (g 0 7 0 + 500) := ⟨_, rfl⟩
          have v30 : gq 30 r 0 = g 30 r 0 := by rw [hgq, wr_n (by omega), wr_n (by omega), hF0]; exact v_flw (by decide)
          have v31 : gq 31 r 0 = g 31 r 0 := by rw [hgq, wr_n (by omega), wr_n (by omega), hF0]; exact v_flw (by decide)
          have v32 : gq 32 r 0 = g 32 r 0 := by rw [hgq, wr_n (by omega), wr_n (by omega), hF0]; exact v_flw (by decide)
          have v33 : gq 33 r 0 = g 33 r 0 := by rw [hgq, wr_n (by omega), wr_n (by omega), hF0]; exact v_flw (by decide)
          have v34 : gq 34 r 0 = g 34 r 0 := by rw [hgq, wr_n (by omega), wr_n (by omega), hF0]; exact v_flw (by decide)
          have v35 : gq 35 r 0 = g 35 r 0 := by rw [hgq, wr_n (by omega), wr_n (by omega), hF0]; exact v_flw (by decide)
          have v36 : gq 36 r 0 = g 36 r 0 := by rw [hgq, wr_n (by omega), wr_n (by omega), hF0]; exact v_flw (by decide)
          have v39 : ∀ j : Int, gq 39 r j = g 39 r j := fun j => by rw [hgq, wr_n (by omega), wr_n (by omega), hF0]; exact v_flw (by decide)
          have v38 : gq 38 r 0 = g 0 7 0 + 1000 := by rw [hgq]; simp [wr]
          have v37 : gq 37 r 0 = g 0 7 0 + 500 := by rw [hgq]; simp [wr]
          have v25 : ∀ j : Int, mu9w 25 j = mu 25 j := fun j => by rw [hmx 25 j (by omega)]; exact mMk_n (by omega)
          have hRx : RlR gq mu9w r := rlr_f hI hR (fun t i j q => by rw [hgq, wr_n (by omega), wr_n (by omega), hF0]) hmx
          have hwx : Rw gq mu9w r := ⟨by omega, by omega, ⟨by omega, by omega, by omega, by omega, by omega⟩, fun q => by rw [v35] at q; have := w22 q; omega, fun j q1 q2 => by rw [v25, v39]; exact w25 j q1 (by omega)⟩
          have hpst : Rl (sAns g r) mu9w := by rw [v_an1 (by omega) (by omega), ← hgq]; exact hRx.l (hwx.q (by omega) (Or.inl ⟨by omega, by omega⟩))
          exact W.vret hx hb hr (fun t ht hw => ⟨⟨(en9w, mu9w), rfl, ⟨hE9w, hF9w, hpst⟩, by show Wd _ _ _ t.heap; rw [ht]; exact hW⟩, hS.F ht⟩) hS.2.2 dX4_answer_104
        · refine lv_aload_n hx hb dX4_answer_98 rfl (lv_at hl 0 rfl) ?_
          refine lv_iload_n hx hb dX4_answer_99 rfl (lv_at hl 1 rfl) ?_
          refine z_iconst hx hb dX4_answer_100 ?_
          refine va_callv (va_runV (As := [.int (iZ (r)), .int (iZ (4))]) (rest := []) ⟨hx, hb, hml, hown, hts⟩ (c_X4_endReceiver l D dA z en9w b mu9w r 4 (by omega) (by omega) (by omega) (by omega) hE9w) (cwV 2 hts gX4_answer_X4_endReceiver rfl rfl rfl (by decide +kernel) ⟨Nat.le_of_ble_eq_true rfl, Nat.le_of_ble_eq_true rfl⟩) ⟨gBl, gRecv hK hW (ci := 6) rfl fM, gPre _ hg hS hW⟩ rfl rfl hl.1 rfl (lv_room (Nat.le_of_ble_eq_true rfl)) dX4_answer_101 ⟨(show 0 + 0 + 0 ≤ 0 by omega), (show 0 + 0 + 0 ≤ 0 by omega)⟩) hS (fun _ _ h => h) (fun _ h => h) (fun u9 t9 H locs ht9 hvm9 hw9 hB9 hz9 hk9 hS => ?_)
          obtain ⟨en10w, mu10w⟩ := u9
          obtain ⟨hE10w, hF10w, hmu10w⟩ := hw9
          have hW : Wd D (z 0) en10w H := by rw [← ht9]; exact hB9
          dsimp only at hE10w hF10w hmu10w
          have hF10w := FM.tr hF9w hF10w
          have fM : en10w 20 0 = some (b 0, .inr (6, [.int (iZ (mu10w 0 0)), .int (iZ (mu10w 1 0)), .long (lZ (mu10w 2 0)), .int (iZ (mu10w 3 0)), .ref (b 4), .ref (b 5), .ref (b 6), .ref (b 7), .ref (b 8), .ref (b 9), .ref (b 10), .ref (b 11), .ref (b 12), .ref (b 13), .ref (b 14), .ref (b 15), .ref (b 16), .ref (b 17), .ref (b 18), .ref (b 19), .ref (b 20), .ref (b 21), .ref (b 22), .ref (b 23), .ref (b 24), .ref (b 25), .int (iZ (mu10w 26 0)), .ref (b 27), .ref (b 28), .ref (b 29), .ref (b 30), .ref (b 31), .ref (b 32), .ref (b 33), .ref (b 34), .int (iZ (mu10w 35 0)), .int (iZ (mu10w 36 0)), .int (iZ (mu10w 37 0)), .int (iZ (mu10w 38 0)), .int (iZ (mu10w 39 0)), .int (iZ (mu10w 40 0)), .ref (b 41), .ref (b 42)])) := hE10w.1
          have f17_ : en10w 37 0 = some (b 17, aI dA (4) (mu10w 17)) := hE10w.2 17 (by decide)
          have f21_ : en10w 41 0 = some (b 21, aI dA (4) (mu10w 21)) := hE10w.2 21 (by decide)
          have f22_ : en10w 42 0 = some (b 22, aI dA (4) (mu10w 22)) := hE10w.2 22 (by decide)
          have f23_ : en10w 43 0 = some (b 23, aJ dA (4) (mu10w 23)) := hE10w.2 23 (by decide)
          have f24_ : en10w 44 0 = some (b 24, aZ dA (4) (mu10w 24)) := hE10w.2 24 (by decide)
          have hmx : ∀ (t : Nat) (j : Int), ¬ (16 ≤ t ∧ t ≤ 24 ∧ j = r) → mu9w t j = mMk mu 3 (g 31 r 0) (g 0 9 0) (g 0 10 0) (g 0 11 0) t j := fun t j q => by rw [hmu9w, u2_n (by omega), hmu3w, u2_n (by omega), hmk2]
          have hF0 : sAns0 g r = sFlow g (g 31 r 0) (g 0 9 0) (g 0 10 0) (g 0 11 0) := v_a0f (by omega)
          have hRx : RlR (sAns0 g r) mu9w r := rlr_f hI hR (fun t i j q => by rw [hF0]) hmx
          have hIx : IB (sAns0 g r) := ib_mf hI (by omega) (by omega) (by omega) (by omega) (by omega) (by omega)
          have hpst : Rl (sAns g r) mu10w := by rw [v_an2 (by omega) (by omega), hmu10w]; exact rlr_e hIx hRx (by omega) (by omega) (by omega) (fun t j q => rfl)
          exact W.vret hx hb hr (fun t ht hw => ⟨⟨(en10w, mu10w), rfl, ⟨hE10w, hF10w, hpst⟩, by show Wd _ _ _ t.heap; rw [ht]; exact hW⟩, hS.F ht⟩) hS.2.2 dX4_answer_104
      · refine lv_aload_n hx hb dX4_answer_70 rfl (lv_at hl 0 rfl) ?_
        refine g_get (C := RX4) (T := TX4) (N := 43) (ci := 6) (v := .ref (b 21)) hx hb hts hi6 hown hK hW fM rfl 21 (by decide) (hts (.fieldLink RX4 65 "LongTransferModel" "said" "[I") (by decide +kernel)) (fun _ h9 => h9) rfl dX4_answer_71 ?_
        refine lv_iload_n hx hb dX4_answer_74 rfl (lv_at hl 1 rfl) ?_
        refine lv_aload_n hx hb dX4_answer_75 rfl (lv_at hl 0 rfl) ?_
        refine g_get (C := RX4) (T := TX4) (N := 43) (ci := 6) (v := .int (iZ (mu9w 35 0))) hx hb hts hi6 hown hK hW fM rfl 35 (by decide) (hts (.fieldLink RX4 156 "LongTransferModel" "flowBlock" "I") (by decide +kernel)) (fun _ h9 => h9) rfl dX4_answer_76 ?_
        rw [t35_0]
        refine g_iast (x := mu 35 (0)) hx hb hK hW hS f21_ (by omega) (by omega) (by omega) dX4_answer_79 (fun H locs hW hS => ?_)
        obtain ⟨en11w, hen11w⟩ : ∃ x : en_T, x = e2 en9w 41 0 (some (b 21, aI dA (4) (uF (mu9w 21) (r) (mu 35 (0))))) := ⟨_, rfl⟩
        rw [← hen11w] at hW
        obtain ⟨mu11w, hmu11w⟩ : ∃ x : Mu, x = u2 mu9w 21 (r) (mu 35 (0)) := ⟨_, rfl⟩
        have hE11w : EM dA b mu11w en11w := by rw [hen11w, hmu11w]; exact em_w hE9w (k0 := 21) (j := r) (v := mu 35 (0)) (by decide)
        have hF11w : FM en9w en11w := fun k i q => by rw [hen11w]; exact e2_k (fun w => q (by rw [w]; decide))
        have hF11w := FM.tr hF9w hF11w
        replace t26_0 : mu11w 26 (0) = mu 26 (0) + 1 := by rw [hmu11w]; exact (u2_n (fun q => absurd q.1 (by decide))).trans t26_0
        replace t2_0 : mu11w 2 (0) = mu 2 (0) := by rw [hmu11w]; exact (u2_n (fun q => absurd q.1 (by decide))).trans t2_0
        replace t17_r : mu11w 17 (r) = mu 17 (r) := by rw [hmu11w]; exact (u2_n (fun q => absurd q.1 (by decide))).trans t17_r
        replace t35_0 : mu11w 35 (0) = mu 35 (0) := by rw [hmu11w]; exact (u2_n (fun q => absurd q.1 (by decide))).trans t35_0
        replace t36_0 : mu11w 36 (0) = mu 36 (0) := by rw [hmu11w]; exact (u2_n (fun q => absurd q.1 (by decide))).trans t36_0
        replace t37_0 : mu11w 37 (0) = mu 37 (0) := by rw [hmu11w]; exact (u2_n (fun q => absurd q.1 (by decide))).trans t37_0
        replace t16_r : mu11w 16 (r) = mu 16 (r) := by rw [hmu11w]; exact (u2_n (fun q => absurd q.1 (by decide))).trans t16_r
        replace t18_r : mu11w 18 (r) = mu 18 (r) := by rw [hmu11w]; exact (u2_n (fun q => absurd q.1 (by decide))).trans t18_r
        replace t19_r : mu11w 19 (r) = mu 19 (r) := by rw [hmu11w]; exact (u2_n (fun q => absurd q.1 (by decide))).trans t19_r
        replace t20_r : mu11w 20 (r) = mu 20 (r) := by rw [hmu11w]; exact (u2_n (fun q => absurd q.1 (by decide))).trans t20_r
        replace t21_r : mu11w 21 (r) = mu 35 (0) := by rw [hmu11w]; exact u2_s _ _ _ _
        replace t22_r : mu11w 22 (r) = mu 22 (r) := by rw [hmu11w]; exact (u2_n (fun q => absurd q.1 (by decide))).trans t22_r
        replace t23_r : mu11w 23 (r) = mu 2 (0) := by rw [hmu11w]; exact (u2_n (fun q => absurd q.1 (by decide))).trans t23_r
        replace t24_r : mu11w 24 (r) = 1 := by rw [hmu11w]; exact (u2_n (fun q => absurd q.1 (by decide))).trans t24_r
        have fM : en11w 20 0 = some (b 0, .inr (6, [.int (iZ (mu11w 0 0)), .int (iZ (mu11w 1 0)), .long (lZ (mu11w 2 0)), .int (iZ (mu11w 3 0)), .ref (b 4), .ref (b 5), .ref (b 6), .ref (b 7), .ref (b 8), .ref (b 9), .ref (b 10), .ref (b 11), .ref (b 12), .ref (b 13), .ref (b 14), .ref (b 15), .ref (b 16), .ref (b 17), .ref (b 18), .ref (b 19), .ref (b 20), .ref (b 21), .ref (b 22), .ref (b 23), .ref (b 24), .ref (b 25), .int (iZ (mu11w 26 0)), .ref (b 27), .ref (b 28), .ref (b 29), .ref (b 30), .ref (b 31), .ref (b 32), .ref (b 33), .ref (b 34), .int (iZ (mu11w 35 0)), .int (iZ (mu11w 36 0)), .int (iZ (mu11w 37 0)), .int (iZ (mu11w 38 0)), .int (iZ (mu11w 39 0)), .int (iZ (mu11w 40 0)), .ref (b 41), .ref (b 42)])) := hE11w.1
        have f17_ : en11w 37 0 = some (b 17, aI dA (4) (mu11w 17)) := hE11w.2 17 (by decide)
        have f21_ : en11w 41 0 = some (b 21, aI dA (4) (mu11w 21)) := hE11w.2 21 (by decide)
        have f22_ : en11w 42 0 = some (b 22, aI dA (4) (mu11w 22)) := hE11w.2 22 (by decide)
        have f23_ : en11w 43 0 = some (b 23, aJ dA (4) (mu11w 23)) := hE11w.2 23 (by decide)
        have f24_ : en11w 44 0 = some (b 24, aZ dA (4) (mu11w 24)) := hE11w.2 24 (by decide)
        refine lv_aload_n hx hb dX4_answer_80 rfl (lv_at hl 0 rfl) ?_
        refine g_get (C := RX4) (T := TX4) (N := 43) (ci := 6) (v := .ref (b 22)) hx hb hts hi6 hown hK hW fM rfl 22 (by decide) (hts (.fieldLink RX4 68 "LongTransferModel" "more" "[I") (by decide +kernel)) (fun _ h9 => h9) rfl dX4_answer_81 ?_
        refine lv_iload_n hx hb dX4_answer_84 rfl (lv_at hl 1 rfl) ?_
        refine lv_aload_n hx hb dX4_answer_85 rfl (lv_at hl 0 rfl) ?_
        refine g_get (C := RX4) (T := TX4) (N := 43) (ci := 6) (v := .int (iZ (mu11w 35 0))) hx hb hts hi6 hown hK hW fM rfl 35 (by decide) (hts (.fieldLink RX4 156 "LongTransferModel" "flowBlock" "I") (by decide +kernel)) (fun _ h9 => h9) rfl dX4_answer_86 ?_
        rw [t35_0]
        refine g_iast (x := mu 35 (0)) hx hb hK hW hS f22_ (by omega) (by omega) (by omega) dX4_answer_89 (fun H locs hW hS => ?_)
        obtain ⟨en12w, hen12w⟩ : ∃ x : en_T, x = e2 en11w 42 0 (some (b 22, aI dA (4) (uF (mu11w 22) (r) (mu 35 (0))))) := ⟨_, rfl⟩
        rw [← hen12w] at hW
        obtain ⟨mu12w, hmu12w⟩ : ∃ x : Mu, x = u2 mu11w 22 (r) (mu 35 (0)) := ⟨_, rfl⟩
        have hE12w : EM dA b mu12w en12w := by rw [hen12w, hmu12w]; exact em_w hE11w (k0 := 22) (j := r) (v := mu 35 (0)) (by decide)
        have hF12w : FM en11w en12w := fun k i q => by rw [hen12w]; exact e2_k (fun w => q (by rw [w]; decide))
        have hF12w := FM.tr hF11w hF12w
        replace t26_0 : mu12w 26 (0) = mu 26 (0) + 1 := by rw [hmu12w]; exact (u2_n (fun q => absurd q.1 (by decide))).trans t26_0
        replace t2_0 : mu12w 2 (0) = mu 2 (0) := by rw [hmu12w]; exact (u2_n (fun q => absurd q.1 (by decide))).trans t2_0
        replace t17_r : mu12w 17 (r) = mu 17 (r) := by rw [hmu12w]; exact (u2_n (fun q => absurd q.1 (by decide))).trans t17_r
        replace t35_0 : mu12w 35 (0) = mu 35 (0) := by rw [hmu12w]; exact (u2_n (fun q => absurd q.1 (by decide))).trans t35_0
        replace t36_0 : mu12w 36 (0) = mu 36 (0) := by rw [hmu12w]; exact (u2_n (fun q => absurd q.1 (by decide))).trans t36_0
        replace t37_0 : mu12w 37 (0) = mu 37 (0) := by rw [hmu12w]; exact (u2_n (fun q => absurd q.1 (by decide))).trans t37_0
        replace t16_r : mu12w 16 (r) = mu 16 (r) := by rw [hmu12w]; exact (u2_n (fun q => absurd q.1 (by decide))).trans t16_r
        replace t18_r : mu12w 18 (r) = mu 18 (r) := by rw [hmu12w]; exact (u2_n (fun q => absurd q.1 (by decide))).trans t18_r
        replace t19_r : mu12w 19 (r) = mu 19 (r) := by rw [hmu12w]; exact (u2_n (fun q => absurd q.1 (by decide))).trans t19_r
        replace t20_r : mu12w 20 (r) = mu 20 (r) := by rw [hmu12w]; exact (u2_n (fun q => absurd q.1 (by decide))).trans t20_r
        replace t21_r : mu12w 21 (r) = mu 35 (0) := by rw [hmu12w]; exact (u2_n (fun q => absurd q.1 (by decide))).trans t21_r
        replace t22_r : mu12w 22 (r) = mu 35 (0) := by rw [hmu12w]; exact u2_s _ _ _ _
        replace t23_r : mu12w 23 (r) = mu 2 (0) := by rw [hmu12w]; exact (u2_n (fun q => absurd q.1 (by decide))).trans t23_r
        replace t24_r : mu12w 24 (r) = 1 := by rw [hmu12w]; exact (u2_n (fun q => absurd q.1 (by decide))).trans t24_r
        have fM : en12w 20 0 = some (b 0, .inr (6, [.int (iZ (mu12w 0 0)), .int (iZ (mu12w 1 0)), .long (lZ (mu12w 2 0)), .int (iZ (mu12w 3 0)), .ref (b 4), .ref (b 5), .ref (b 6), .ref (b 7), .ref (b 8), .ref (b 9), .ref (b 10), .ref (b 11), .ref (b 12), .ref (b 13), .ref (b 14), .ref (b 15), .ref (b 16), .ref (b 17), .ref (b 18), .ref (b 19), .ref (b 20), .ref (b 21), .ref (b 22), .ref (b 23), .ref (b 24), .ref (b 25), .int (iZ (mu12w 26 0)), .ref (b 27), .ref (b 28), .ref (b 29), .ref (b 30), .ref (b 31), .ref (b 32), .ref (b 33), .ref (b 34), .int (iZ (mu12w 35 0)), .int (iZ (mu12w 36 0)), .int (iZ (mu12w 37 0)), .int (iZ (mu12w 38 0)), .int (iZ (mu12w 39 0)), .int (iZ (mu12w 40 0)), .ref (b 41), .ref (b 42)])) := hE12w.1
        have f17_ : en12w 37 0 = some (b 17, aI dA (4) (mu12w 17)) := hE12w.2 17 (by decide)
        have f21_ : en12w 41 0 = some (b 21, aI dA (4) (mu12w 21)) := hE12w.2 21 (by decide)
        have f22_ : en12w 42 0 = some (b 22, aI dA (4) (mu12w 22)) := hE12w.2 22 (by decide)
        have f23_ : en12w 43 0 = some (b 23, aJ dA (4) (mu12w 23)) := hE12w.2 23 (by decide)
        have f24_ : en12w 44 0 = some (b 24, aZ dA (4) (mu12w 24)) := hE12w.2 24 (by decide)
        refine lv_aload_n hx hb dX4_answer_90 rfl (lv_at hl 0 rfl) ?_
        refine g_get (C := RX4) (T := TX4) (N := 43) (ci := 6) (v := .int (iZ (mu12w 37 0))) hx hb hts hi6 hown hK hW fM rfl 37 (by decide) (hts (.fieldLink RX4 153 "LongTransferModel" "flowKind" "I") (by decide +kernel)) (fun _ h9 => h9) rfl dX4_answer_91 ?_
        rw [t37_0]
        refine z_iconst hx hb dX4_answer_94 ?_
        refine z_icmp_ne (tgt := 104) hx hb dX4_answer_95 (by decide) (by omega) (by omega) (fun c_95 => ?_) (fun c_95 => ?_)
        · have hmx : ∀ (t : Nat) (j : Int), ¬ (16 ≤ t ∧ t ≤ 24 ∧ j = r) → mu12w t j = mMk mu 3 (g 31 r 0) (g 0 9 0) (g 0 10 0) (g 0 11 0) t j := fun t j q => by rw [hmu12w, u2_n (by omega), hmu11w, u2_n (by omega), hmu9w, u2_n (by omega), hmu3w, u2_n (by omega), hmk2]
          have hF0 : sAns0 g r = sFlow g (g 31 r 0) (g 0 9 0) (g 0 10 0) (g 0 11 0) := v_a0f (by omega)
          obtain ⟨gq, hgq⟩ : ∃ x : St, x = wr (wr (wr (wr (sAns0 g r) 38 r (g 0 7 0 + 1000)) 37 r 9223372036854775807) 35 r (g 0 10 0)) 36 r 0 := ⟨_, rfl⟩
          have v30 : gq 30 r 0 = g 30 r 0 := by rw [hgq, wr_n (by omega), wr_n (by omega), wr_n (by omega), wr_n (by omega), hF0]; exact v_flw (by decide)
          have v31 : gq 31 r 0 = g 31 r 0 := by rw [hgq, wr_n (by omega), wr_n (by omega), wr_n (by omega), wr_n (by omega), hF0]; exact v_flw (by decide)
          have v32 : gq 32 r 0 = g 32 r 0 := by rw [hgq, wr_n (by omega), wr_n (by omega), wr_n (by omega), wr_n (by omega), hF0]; exact v_flw (by decide)
          have v33 : gq 33 r 0 = g 33 r 0 := by rw [hgq, wr_n (by omega), wr_n (by omega), wr_n (by omega), wr_n (by omega), hF0]; exact v_flw (by decide)
          have v34 : gq 34 r 0 = g 34 r 0 := by rw [hgq, wr_n (by omega), wr_n (by omega), wr_n (by omega), wr_n (by omega), hF0]; exact v_flw (by decide)
          have v35 : gq 35 r 0 = g 0 10 0 := by rw [hgq]; simp [wr]
          have v36 : gq 36 r 0 = 0 := by rw [hgq]; simp [wr]
          have v39 : ∀ j : Int, gq 39 r j = g 39 r j := fun j => by rw [hgq, wr_n (by omega), wr_n (by omega), wr_n (by omega), wr_n (by omega), hF0]; exact v_flw (by decide)
          have v38 : gq 38 r 0 = g 0 7 0 + 1000 := by rw [hgq]; simp [wr]
          have v37 : gq 37 r 0 = 9223372036854775807 := by rw [hgq]; simp [wr]
          have v25 : ∀ j : Int, mu12w 25 j = mu 25 j := fun j => by rw [hmx 25 j (by omega)]; exact mMk_n (by omega)
          have hRx : RlR gq mu12w r := rlr_f hI hR (fun t i j q => by rw [hgq, wr_n (by omega), wr_n (by omega), wr_n (by omega), wr_n (by omega), hF0]) hmx
          have hwx : Rw gq mu12w r := ⟨by omega, by omega, ⟨by omega, by omega, by omega, by omega, by omega⟩, fun q => by omega, fun j q1 q2 => by rw [v25, v39]; exact w25 j q1 (by omega)⟩
          have hpst : Rl (sAns g r) mu12w := by rw [v_anz (by omega) (by omega) (by omega), ← hgq]; exact hRx.l (hwx.q (by omega) (Or.inr ⟨by omega, v37⟩))
          exact W.vret hx hb hr (fun t ht hw => ⟨⟨(en12w, mu12w), rfl, ⟨hE12w, hF12w, hpst⟩, by show Wd _ _ _ t.heap; rw [ht]; exact hW⟩, hS.F ht⟩) hS.2.2 dX4_answer_104
        · refine lv_aload_n hx hb dX4_answer_98 rfl (lv_at hl 0 rfl) ?_
          refine lv_iload_n hx hb dX4_answer_99 rfl (lv_at hl 1 rfl) ?_
          refine z_iconst hx hb dX4_answer_100 ?_
          refine va_callv (va_runV (As := [.int (iZ (r)), .int (iZ (4))]) (rest := []) ⟨hx, hb, hml, hown, hts⟩ (c_X4_endReceiver l D dA z en12w b mu12w r 4 (by omega) (by omega) (by omega) (by omega) hE12w) (cwV 2 hts gX4_answer_X4_endReceiver rfl rfl rfl (by decide +kernel) ⟨Nat.le_of_ble_eq_true rfl, Nat.le_of_ble_eq_true rfl⟩) ⟨gBl, gRecv hK hW (ci := 6) rfl fM, gPre _ hg hS hW⟩ rfl rfl hl.1 rfl (lv_room (Nat.le_of_ble_eq_true rfl)) dX4_answer_101 ⟨(show 0 + 0 + 0 ≤ 0 by omega), (show 0 + 0 + 0 ≤ 0 by omega)⟩) hS (fun _ _ h => h) (fun _ h => h) (fun u9 t9 H locs ht9 hvm9 hw9 hB9 hz9 hk9 hS => ?_)
          obtain ⟨en13w, mu13w⟩ := u9
          obtain ⟨hE13w, hF13w, hmu13w⟩ := hw9
          have hW : Wd D (z 0) en13w H := by rw [← ht9]; exact hB9
          dsimp only at hE13w hF13w hmu13w
          have hF13w := FM.tr hF12w hF13w
          have fM : en13w 20 0 = some (b 0, .inr (6, [.int (iZ (mu13w 0 0)), .int (iZ (mu13w 1 0)), .long (lZ (mu13w 2 0)), .int (iZ (mu13w 3 0)), .ref (b 4), .ref (b 5), .ref (b 6), .ref (b 7), .ref (b 8), .ref (b 9), .ref (b 10), .ref (b 11), .ref (b 12), .ref (b 13), .ref (b 14), .ref (b 15), .ref (b 16), .ref (b 17), .ref (b 18), .ref (b 19), .ref (b 20), .ref (b 21), .ref (b 22), .ref (b 23), .ref (b 24), .ref (b 25), .int (iZ (mu13w 26 0)), .ref (b 27), .ref (b 28), .ref (b 29), .ref (b 30), .ref (b 31), .ref (b 32), .ref (b 33), .ref (b 34), .int (iZ (mu13w 35 0)), .int (iZ (mu13w 36 0)), .int (iZ (mu13w 37 0)), .int (iZ (mu13w 38 0)), .int (iZ (mu13w 39 0)), .int (iZ (mu13w 40 0)), .ref (b 41), .ref (b 42)])) := hE13w.1
          have f17_ : en13w 37 0 = some (b 17, aI dA (4) (mu13w 17)) := hE13w.2 17 (by decide)
          have f21_ : en13w 41 0 = some (b 21, aI dA (4) (mu13w 21)) := hE13w.2 21 (by decide)
          have f22_ : en13w 42 0 = some (b 22, aI dA (4) (mu13w 22)) := hE13w.2 22 (by decide)
          have f23_ : en13w 43 0 = some (b 23, aJ dA (4) (mu13w 23)) := hE13w.2 23 (by decide)
          have f24_ : en13w 44 0 = some (b 24, aZ dA (4) (mu13w 24)) := hE13w.2 24 (by decide)
          have hmx : ∀ (t : Nat) (j : Int), ¬ (16 ≤ t ∧ t ≤ 24 ∧ j = r) → mu12w t j = mMk mu 3 (g 31 r 0) (g 0 9 0) (g 0 10 0) (g 0 11 0) t j := fun t j q => by rw [hmu12w, u2_n (by omega), hmu11w, u2_n (by omega), hmu9w, u2_n (by omega), hmu3w, u2_n (by omega), hmk2]
          have hF0 : sAns0 g r = sFlow g (g 31 r 0) (g 0 9 0) (g 0 10 0) (g 0 11 0) := v_a0f (by omega)
          have hRx : RlR (sAns0 g r) mu12w r := rlr_f hI hR (fun t i j q => by rw [hF0]) hmx
          have hIx : IB (sAns0 g r) := ib_mf hI (by omega) (by omega) (by omega) (by omega) (by omega) (by omega)
          have hpst : Rl (sAns g r) mu13w := by rw [v_an2 (by omega) (by omega), hmu13w]; exact rlr_e hIx hRx (by omega) (by omega) (by omega) (fun t j q => rfl)
          exact W.vret hx hb hr (fun t ht hw => ⟨⟨(en13w, mu13w), rfl, ⟨hE13w, hF13w, hpst⟩, by show Wd _ _ _ t.heap; rw [ht]; exact hW⟩, hS.F ht⟩) hS.2.2 dX4_answer_104
