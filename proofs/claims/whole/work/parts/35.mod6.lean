theorem put_buf {g : St} {mu0 mu' : Mu} {r f n c : Int} (hc : mu0 19 r = c) (h0 : 0 ≤ c) (hm : mu' = mPut mu0 r f n) (hold : ∀ j : Int, 0 ≤ j → j < c → mu0 25 (10000 * r + j) = g 39 r j) (hnew : ∀ j : Int, 0 ≤ j → j < n → mu0 34 (7 * f + j) = g 28 f j) : ∀ j : Int, 0 ≤ j → j < c + n → mu' 25 (10000 * r + j) = cpF (g 28 f) (g 39 r) 0 c n j := by
  intro j q1 q2
  rw [hm]
  unfold cpF
  by_cases q : c ≤ j ∧ j < c + n
  · rw [if_pos q]
    have e := mPut_v (mu := mu0) (r := r) (f := f) (k := n) (j := j - c) (by omega) (by omega)
    rw [hc] at e
    rw [show 10000 * r + j = 10000 * r + c + (j - c) by omega, e, hnew (j - c) (by omega) (by omega), Int.zero_add]
  · rw [if_neg q, mPut_n (by rw [hc]; omega) (by omega)]
    exact hold j q1 (by omega)
theorem v_tc1 {g : St} {r f : Int} : (sTC1 g r f 30 r 0 = g 30 r 0 ∧ sTC1 g r f 31 r 0 = g 31 r 0 ∧ sTC1 g r f 32 r 0 = g 32 r 0 ∧ sTC1 g r f 33 r 0 = g 33 r 0 + g 26 f 0 ∧ sTC1 g r f 34 r 0 = (g 34 r 0 + 1) % 16 ∧ sTC1 g r f 35 r 0 = g 35 r 0 ∧ sTC1 g r f 36 r 0 = g 36 r 0 ∧ sTC1 g r f 37 r 0 = 9223372036854775807 ∧ sTC1 g r f 38 r 0 = g 0 7 0 + 1000) ∧ (∀ j : Int, sTC1 g r f 39 r j = cpF (g 28 f) (g 39 r) 0 (g 33 r 0) (g 26 f 0) j) ∧ ∀ (t : Nat) (i j : Int), ¬ (30 ≤ t ∧ t ≤ 39 ∧ i = r) → sTC1 g r f t i j = g t i j := by
  refine ⟨?_, fun j => ?_, fun t i j q => ?_⟩
  · simp [sTC1, sTake, sSq, wr, wR]
  · have e1 : sSq g r 28 f = g 28 f := funext fun j => wr_n (by omega)
    have e2 : sSq g r 39 r = g 39 r := funext fun j => wr_n (by omega)
    have e3 : sSq g r 33 r 0 = g 33 r 0 := wr_n (by omega)
    have e4 : sSq g r 26 f 0 = g 26 f 0 := wr_n (by omega)
    unfold sTC1 sTake
    rw [wR_s, e1, e2, e3, e4]
  · unfold sTC1 sTake sSq
    rw [wR_n (by omega), wr_n (by omega), wr_n (by omega), wr_n (by omega), wr_n (by omega)]
theorem ib_tc1 {g : St} (hI : IB g) {r f : Int} (h0 : 0 ≤ r) (h1 : r < 4) (hf0 : 1 ≤ f) (hf1 : f ≤ g 1 1 0) (h26 : 0 ≤ g 26 f 0) (hc : g 33 r 0 + g 26 f 0 ≤ g 32 r 0) : IB (sTC1 g r f) := by
  refine ib_take (ib_sq hI h0 h1) h0 h1 hf0 hf1 ?_ ?_
  · show 0 ≤ g 26 f 0; exact h26
  · have e : sSq g r 33 r 0 = g 33 r 0 := by simp [sSq, wr]
    have e2 : sSq g r 32 r 0 = g 32 r 0 := by simp [sSq, wr]
    have e3 : sSq g r 26 f 0 = g 26 f 0 := by simp [sSq, wr]
    omega
set_option maxHeartbeats 4000000 in
set_option maxRecDepth 100000 in
theorem c_X4_takeNext (l : Launch) (D : va_G) (dA : Nat → ClassId) (z : Nat → Nat) (en : en_T) (b : Nat → Nat) (mu : Mu) (g : St) (r ff : Int) (h0 : 0 ≤ r) (h1 : r < 4) (hf0 : 1 ≤ ff) (hf1 : ff ≤ g 1 1 0) (h20 : g 20 ff 0 = 2) (h30 : g 30 r 0 = 1) (h31 : 1 ≤ g 31 r 0) (h36 : g 36 r 0 ≤ 10000) (hcap : g 33 r 0 + g 26 ff 0 ≤ g 32 r 0) (hI : IB g) (hR : Rl g mu) (hE : EM dA b mu en) : Met l yX4_takeNext wsX4_takeNext ({ frames := 2, cells := 0, slots := 0, locals := 60 }) (gP D dA z en [.ref (b 0), .int (iZ (r)), .int (iZ (ff))]) (va_Qv (fun u : en_T × Mu => EM dA b u.2 u.1 ∧ FM en u.1 ∧ Rl (sTC g r ff) u.2) (fun u t9 => Wd D (z 0) u.1 t9.heap) (fun q => z 0 ≤ q)) (0) (0) (fun q => z 0 ≤ q) := by
  refine gMet (own := RX4) (cc := cX4_takeNext) (maxL := 3) (ret := none) (by decide) rfl rfl (Nat.le_of_ble_eq_true rfl) ?_
  intro p e s m below meth c hx hb hml hown hts hr hlocks hnm hg hW ls hl
  have hK := hg.1
  have hS : va_S (fun q => z 0 ≤ q) s.heap s.heap [] := va_S.rf
  have hi6 : ∀ w ∈ u_ws RX4 TX4 43, w ∈ wsX4_takeNext := by decide +kernel
  have hl : lv_has ls 3 [(0, .ref (b 0)), (1, .int (iZ (r))), (2, .int (iZ (ff)))] := hl
  obtain ⟨rX, rC, rG, rD, rS, rF, rR, rB⟩ := id hR
  unfold RX at rX
  obtain ⟨hIX, hIL, hIS, hIF, hIR, hIG⟩ := id hI
  unfold IL at hIL
  unfold IX at hIX
  have rFf := rF.1 ff (by omega) (by omega)
  unfold RF at rFf
  obtain ⟨⟨r27, r28, r29, r30, r31, r32⟩, -, r34⟩ := rFf
  have hIFf := hIF ff (by omega) (by omega)
  unfold IF at hIFf
  obtain ⟨f20, f21, f22, f23, f24, f25, f27, f26, f263, -⟩ := hIFf
  have hIRr := hIR r (by omega) (by omega)
  unfold IR at hIRr
  obtain ⟨i30, i31, i32, i33, i34, i35, i36, -, -, -⟩ := hIRr
  have f26b := f26 (by omega)
  have r34b := r34 (by omega)
  have hqr := rR r (by omega) (by omega)
  obtain ⟨w30, w16, ⟨w17, w18, w19, w20, w21⟩, w22, w25⟩ := hqr.w h30
  clear f26 f263 r34 f27 f24 f25
  have fM : en 20 0 = some (b 0, .inr (6, [.int (iZ (mu 0 0)), .int (iZ (mu 1 0)), .long (lZ (mu 2 0)), .int (iZ (mu 3 0)), .ref (b 4), .ref (b 5), .ref (b 6), .ref (b 7), .ref (b 8), .ref (b 9), .ref (b 10), .ref (b 11), .ref (b 12), .ref (b 13), .ref (b 14), .ref (b 15), .ref (b 16), .ref (b 17), .ref (b 18), .ref (b 19), .ref (b 20), .ref (b 21), .ref (b 22), .ref (b 23), .ref (b 24), .ref (b 25), .int (iZ (mu 26 0)), .ref (b 27), .ref (b 28), .ref (b 29), .ref (b 30), .ref (b 31), .ref (b 32), .ref (b 33), .ref (b 34), .int (iZ (mu 35 0)), .int (iZ (mu 36 0)), .int (iZ (mu 37 0)), .int (iZ (mu 38 0)), .int (iZ (mu 39 0)), .int (iZ (mu 40 0)), .ref (b 41), .ref (b 42)])) := hE.1
  have f18_ : en 38 0 = some (b 18, aI dA (4) (mu 18)) := hE.2 18 (by decide)
  have f19_ : en 39 0 = some (b 19, aI dA (4) (mu 19)) := hE.2 19 (by decide)
  have f20_ : en 40 0 = some (b 20, aI dA (4) (mu 20)) := hE.2 20 (by decide)
  have f21_ : en 41 0 = some (b 21, aI dA (4) (mu 21)) := hE.2 21 (by decide)
  have f22_ : en 42 0 = some (b 22, aI dA (4) (mu 22)) := hE.2 22 (by decide)
  have f23_ : en 43 0 = some (b 23, aJ dA (4) (mu 23)) := hE.2 23 (by decide)
  have f24_ : en 44 0 = some (b 24, aZ dA (4) (mu 24)) := hE.2 24 (by decide)
  have f29_ : en 49 0 = some (b 29, aI dA (6001) (mu 29)) := hE.2 29 (by decide)
  have f30_ : en 50 0 = some (b 30, aI dA (6001) (mu 30)) := hE.2 30 (by decide)
  have t2_0 : mu 2 (0) = mu 2 (0) := rfl
  have t16_r : mu 16 (r) = mu 16 (r) := rfl
  have t17_r : mu 17 (r) = mu 17 (r) := rfl
  have t18_r : mu 18 (r) = mu 18 (r) := rfl
  have t19_r : mu 19 (r) = mu 19 (r) := rfl
  have t20_r : mu 20 (r) = mu 20 (r) := rfl
  have t21_r : mu 21 (r) = mu 21 (r) := rfl
  have t22_r : mu 22 (r) = mu 22 (r) := rfl
  have t23_r : mu 23 (r) = mu 23 (r) := rfl
  have t24_r : mu 24 (r) = mu 24 (r) := rfl
  have t29_ff : mu 29 (ff) = mu 29 (ff) := rfl
  have t30_ff : mu 30 (ff) = mu 30 (ff) := rfl
  refine lv_aload_n hx hb dX4_takeNext_0 rfl (lv_at hl 0 rfl) ?_
  refine g_get (C := RX4) (T := TX4) (N := 43) (ci := 6) (v := .ref (b 29)) hx hb hts hi6 hown hK hW fM rfl 29 (by decide) (hts (.fieldLink RX4 87 "LongTransferModel" "number" "[I") (by decide +kernel)) (fun _ h9 => h9) rfl dX4_takeNext_1 ?_
  refine lv_iload_n hx hb dX4_takeNext_4 rfl (lv_at hl 2 rfl) ?_
  refine g_iald hx hb hK hW f29_ (by omega) (by omega) (by omega) dX4_takeNext_5 ?_
  refine lv_aload_n hx hb dX4_takeNext_6 rfl (lv_at hl 0 rfl) ?_
  refine g_get (C := RX4) (T := TX4) (N := 43) (ci := 6) (v := .ref (b 20)) hx hb hts hi6 hown hK hW fM rfl 20 (by decide) (hts (.fieldLink RX4 62 "LongTransferModel" "awaited" "[I") (by decide +kernel)) (fun _ h9 => h9) rfl dX4_takeNext_7 ?_
  refine lv_iload_n hx hb dX4_takeNext_10 rfl (lv_at hl 1 rfl) ?_
  refine g_iald hx hb hK hW f20_ (by omega) (by omega) (by omega) dX4_takeNext_11 ?_
  refine z_icmp_eq (tgt := 22) hx hb dX4_takeNext_12 (by decide) (by omega) (by omega) (fun c_12 => ?_) (fun c_12 => ?_)
  · refine lv_aload_n hx hb dX4_takeNext_22 rfl (lv_at hl 0 rfl) ?_
    refine g_get (C := RX4) (T := TX4) (N := 43) (ci := 6) (v := .ref (b 20)) hx hb hts hi6 hown hK hW fM rfl 20 (by decide) (hts (.fieldLink RX4 62 "LongTransferModel" "awaited" "[I") (by decide +kernel)) (fun _ h9 => h9) rfl dX4_takeNext_23 ?_
    refine lv_iload_n hx hb dX4_takeNext_26 rfl (lv_at hl 1 rfl) ?_
    refine lv_aload_n hx hb dX4_takeNext_27 rfl (lv_at hl 0 rfl) ?_
    refine g_get (C := RX4) (T := TX4) (N := 43) (ci := 6) (v := .ref (b 20)) hx hb hts hi6 hown hK hW fM rfl 20 (by decide) (hts (.fieldLink RX4 62 "LongTransferModel" "awaited" "[I") (by decide +kernel)) (fun _ h9 => h9) rfl dX4_takeNext_28 ?_
    refine lv_iload_n hx hb dX4_takeNext_31 rfl (lv_at hl 1 rfl) ?_
    refine g_iald hx hb hK hW f20_ (by omega) (by omega) (by omega) dX4_takeNext_32 ?_
    refine z_iconst hx hb dX4_takeNext_33 ?_
    refine z_iadd hx hb dX4_takeNext_34 ?_
    refine z_bipush hx hb dX4_takeNext_35 (by decide) ?_
    refine z_irem hx hb (by omega) (by omega) (by omega) (by omega) dX4_takeNext_37 ?_
    refine g_iast (x := ((mu 20 (r)) + 1) % 16) hx hb hK hW hS f20_ (by omega) (by omega) (by omega) dX4_takeNext_38 (fun H locs hW hS => ?_)
    obtain ⟨en1w, hen1w⟩ : ∃ x : en_T, x = e2 en 40 0 (some (b 20, aI dA (4) (uF (mu 20) (r) (((mu 20 (r)) + 1) % 16)))) := ⟨_, rfl⟩
    rw [← hen1w] at hW
    obtain ⟨mu1w, hmu1w⟩ : ∃ x : Mu, x = u2 mu 20 (r) (((mu 20 (r)) + 1) % 16) := ⟨_, rfl⟩
    have hE1w : EM dA b mu1w en1w := by rw [hen1w, hmu1w]; exact em_w hE (k0 := 20) (j := r) (v := ((mu 20 (r)) + 1) % 16) (by decide)
    have hF1w : FM en en1w := fun k i q => by rw [hen1w]; exact e2_k (fun w => q (by rw [w]; decide))
    replace t2_0 : mu1w 2 (0) = mu 2 (0) := by rw [hmu1w]; exact (u2_n (fun q => absurd q.1 (by decide))).trans t2_0
    replace t16_r : mu1w 16 (r) = mu 16 (r) := by rw [hmu1w]; exact (u2_n (fun q => absurd q.1 (by decide))).trans t16_r
    replace t17_r : mu1w 17 (r) = mu 17 (r) := by rw [hmu1w]; exact (u2_n (fun q => absurd q.1 (by decide))).trans t17_r
    replace t18_r : mu1w 18 (r) = mu 18 (r) := by rw [hmu1w]; exact (u2_n (fun q => absurd q.1 (by decide))).trans t18_r
    replace t19_r : mu1w 19 (r) = mu 19 (r) := by rw [hmu1w]; exact (u2_n (fun q => absurd q.1 (by decide))).trans t19_r
    replace t20_r : mu1w 20 (r) = ((mu 20 (r)) + 1) % 16 := by rw [hmu1w]; exact u2_s _ _ _ _
    replace t21_r : mu1w 21 (r) = mu 21 (r) := by rw [hmu1w]; exact (u2_n (fun q => absurd q.1 (by decide))).trans t21_r
    replace t22_r : mu1w 22 (r) = mu 22 (r) := by rw [hmu1w]; exact (u2_n (fun q => absurd q.1 (by decide))).trans t22_r
    replace t23_r : mu1w 23 (r) = mu 23 (r) := by rw [hmu1w]; exact (u2_n (fun q => absurd q.1 (by decide))).trans t23_r
    replace t24_r : mu1w 24 (r) = mu 24 (r) := by rw [hmu1w]; exact (u2_n (fun q => absurd q.1 (by decide))).trans t24_r
    replace t29_ff : mu1w 29 (ff) = mu 29 (ff) := by rw [hmu1w]; exact (u2_n (fun q => absurd q.1 (by decide))).trans t29_ff
    replace t30_ff : mu1w 30 (ff) = mu 30 (ff) := by rw [hmu1w]; exact (u2_n (fun q => absurd q.1 (by decide))).trans t30_ff
    have fM : en1w 20 0 = some (b 0, .inr (6, [.int (iZ (mu1w 0 0)), .int (iZ (mu1w 1 0)), .long (lZ (mu1w 2 0)), .int (iZ (mu1w 3 0)), .ref (b 4), .ref (b 5), .ref (b 6), .ref (b 7), .ref (b 8), .ref (b 9), .ref (b 10), .ref (b 11), .ref (b 12), .ref (b 13), .ref (b 14), .ref (b 15), .ref (b 16), .ref (b 17), .ref (b 18), .ref (b 19), .ref (b 20), .ref (b 21), .ref (b 22), .ref (b 23), .ref (b 24), .ref (b 25), .int (iZ (mu1w 26 0)), .ref (b 27), .ref (b 28), .ref (b 29), .ref (b 30), .ref (b 31), .ref (b 32), .ref (b 33), .ref (b 34), .int (iZ (mu1w 35 0)), .int (iZ (mu1w 36 0)), .int (iZ (mu1w 37 0)), .int (iZ (mu1w 38 0)), .int (iZ (mu1w 39 0)), .int (iZ (mu1w 40 0)), .ref (b 41), .ref (b 42)])) := hE1w.1
    have f18_ : en1w 38 0 = some (b 18, aI dA (4) (mu1w 18)) := hE1w.2 18 (by decide)
    have f19_ : en1w 39 0 = some (b 19, aI dA (4) (mu1w 19)) := hE1w.2 19 (by decide)
    have f20_ : en1w 40 0 = some (b 20, aI dA (4) (mu1w 20)) := hE1w.2 20 (by decide)
    have f21_ : en1w 41 0 = some (b 21, aI dA (4) (mu1w 21)) := hE1w.2 21 (by decide)
    have f22_ : en1w 42 0 = some (b 22, aI dA (4) (mu1w 22)) := hE1w.2 22 (by decide)
    have f23_ : en1w 43 0 = some (b 23, aJ dA (4) (mu1w 23)) := hE1w.2 23 (by decide)
    have f24_ : en1w 44 0 = some (b 24, aZ dA (4) (mu1w 24)) := hE1w.2 24 (by decide)
    have f29_ : en1w 49 0 = some (b 29, aI dA (6001) (mu1w 29)) := hE1w.2 29 (by decide)
    have f30_ : en1w 50 0 = some (b 30, aI dA (6001) (mu1w 30)) := hE1w.2 30 (by decide)
    refine lv_aload_n hx hb dX4_takeNext_39 rfl (lv_at hl 0 rfl) ?_
    refine g_get (C := RX4) (T := TX4) (N := 43) (ci := 6) (v := .ref (b 23)) hx hb hts hi6 hown hK hW fM rfl 23 (by decide) (hts (.fieldLink RX4 71 "LongTransferModel" "heard" "[J") (by decide +kernel)) (fun _ h9 => h9) rfl dX4_takeNext_40 ?_
    refine lv_iload_n hx hb dX4_takeNext_43 rfl (lv_at hl 1 rfl) ?_
    refine lv_aload_n hx hb dX4_takeNext_44 rfl (lv_at hl 0 rfl) ?_
    refine g_get (C := RX4) (T := TX4) (N := 43) (ci := 6) (v := .long (lZ (mu1w 2 0))) hx hb hts hi6 hown hK hW fM rfl 2 (by decide) (hts (.fieldLink RX4 137 "LongTransferModel" "now" "J") (by decide +kernel)) (fun _ h9 => h9) rfl dX4_takeNext_45 ?_
    rw [t2_0]
    refine g_last (x := mu 2 (0)) hx hb hK hW hS f23_ (by omega) (by omega) (by omega) dX4_takeNext_48 (fun H locs hW hS => ?_)
    obtain ⟨en2w, hen2w⟩ : ∃ x : en_T, x = e2 en1w 43 0 (some (b 23, aJ dA (4) (uF (mu1w 23) (r) (mu 2 (0))))) := ⟨_, rfl⟩
    rw [← hen2w] at hW
    obtain ⟨mu2w, hmu2w⟩ : ∃ x : Mu, x = u2 mu1w 23 (r) (mu 2 (0)) := ⟨_, rfl⟩
    have hE2w : EM dA b mu2w en2w := by rw [hen2w, hmu2w]; exact em_w hE1w (k0 := 23) (j := r) (v := mu 2 (0)) (by decide)
    have hF2w : FM en1w en2w := fun k i q => by rw [hen2w]; exact e2_k (fun w => q (by rw [w]; decide))
    have hF2w := FM.tr hF1w hF2w
    replace t2_0 : mu2w 2 (0) = mu 2 (0) := by rw [hmu2w]; exact (u2_n (fun q => absurd q.1 (by decide))).trans t2_0
    replace t16_r : mu2w 16 (r) = mu 16 (r) := by rw [hmu2w]; exact (u2_n (fun q => absurd q.1 (by decide))).trans t16_r
    replace t17_r : mu2w 17 (r) = mu 17 (r) := by rw [hmu2w]; exact (u2_n (fun q => absurd q.1 (by decide))).trans t17_r
    replace t18_r : mu2w 18 (r) = mu 18 (r) := by rw [hmu2w]; exact (u2_n (fun q => absurd q.1 (by decide))).trans t18_r
    replace t19_r : mu2w 19 (r) = mu 19 (r) := by rw [hmu2w]; exact (u2_n (fun q => absurd q.1 (by decide))).trans t19_r
    replace t20_r : mu2w 20 (r) = ((mu 20 (r)) + 1) % 16 := by rw [hmu2w]; exact (u2_n (fun q => absurd q.1 (by decide))).trans t20_r
    replace t21_r : mu2w 21 (r) = mu 21 (r) := by rw [hmu2w]; exact (u2_n (fun q => absurd q.1 (by decide))).trans t21_r
    replace t22_r : mu2w 22 (r) = mu 22 (r) := by rw [hmu2w]; exact (u2_n (fun q => absurd q.1 (by decide))).trans t22_r
    replace t23_r : mu2w 23 (r) = mu 2 (0) := by rw [hmu2w]; exact u2_s _ _ _ _
    replace t24_r : mu2w 24 (r) = mu 24 (r) := by rw [hmu2w]; exact (u2_n (fun q => absurd q.1 (by decide))).trans t24_r
    replace t29_ff : mu2w 29 (ff) = mu 29 (ff) := by rw [hmu2w]; exact (u2_n (fun q => absurd q.1 (by decide))).trans t29_ff
    replace t30_ff : mu2w 30 (ff) = mu 30 (ff) := by rw [hmu2w]; exact (u2_n (fun q => absurd q.1 (by decide))).trans t30_ff
    have fM : en2w 20 0 = some (b 0, .inr (6, [.int (iZ (mu2w 0 0)), .int (iZ (mu2w 1 0)), .long (lZ (mu2w 2 0)), .int (iZ (mu2w 3 0)), .ref (b 4), .ref (b 5), .ref (b 6), .ref (b 7), .ref (b 8), .ref (b 9), .ref (b 10), .ref (b 11), .ref (b 12), .ref (b 13), .ref (b 14), .ref (b 15), .ref (b 16), .ref (b 17), .ref (b 18), .ref (b 19), .ref (b 20), .ref (b 21), .ref (b 22), .ref (b 23), .ref (b 24), .ref (b 25), .int (iZ (mu2w 26 0)), .ref (b 27), .ref (b 28), .ref (b 29), .ref (b 30), .ref (b 31), .ref (b 32), .ref (b 33), .ref (b 34), .int (iZ (mu2w 35 0)), .int (iZ (mu2w 36 0)), .int (iZ (mu2w 37 0)), .int (iZ (mu2w 38 0)), .int (iZ (mu2w 39 0)), .int (iZ (mu2w 40 0)), .ref (b 41), .ref (b 42)])) := hE2w.1
    have f18_ : en2w 38 0 = some (b 18, aI dA (4) (mu2w 18)) := hE2w.2 18 (by decide)
    have f19_ : en2w 39 0 = some (b 19, aI dA (4) (mu2w 19)) := hE2w.2 19 (by decide)
    have f20_ : en2w 40 0 = some (b 20, aI dA (4) (mu2w 20)) := hE2w.2 20 (by decide)
    have f21_ : en2w 41 0 = some (b 21, aI dA (4) (mu2w 21)) := hE2w.2 21 (by decide)
    have f22_ : en2w 42 0 = some (b 22, aI dA (4) (mu2w 22)) := hE2w.2 22 (by decide)
    have f23_ : en2w 43 0 = some (b 23, aJ dA (4) (mu2w 23)) := hE2w.2 23 (by decide)
    have f24_ : en2w 44 0 = some (b 24, aZ dA (4) (mu2w 24)) := hE2w.2 24 (by decide)
    have f29_ : en2w 49 0 = some (b 29, aI dA (6001) (mu2w 29)) := hE2w.2 29 (by decide)
    have f30_ : en2w 50 0 = some (b 30, aI dA (6001) (mu2w 30)) := hE2w.2 30 (by decide)
    refine lv_aload_n hx hb dX4_takeNext_49 rfl (lv_at hl 0 rfl) ?_
    refine g_get (C := RX4) (T := TX4) (N := 43) (ci := 6) (v := .ref (b 24)) hx hb hts hi6 hown hK hW fM rfl 24 (by decide) (hts (.fieldLink RX4 74 "LongTransferModel" "asks" "[Z") (by decide +kernel)) (fun _ h9 => h9) rfl dX4_takeNext_50 ?_
    refine lv_iload_n hx hb dX4_takeNext_53 rfl (lv_at hl 1 rfl) ?_
    refine z_iconst hx hb dX4_takeNext_54 ?_
    refine g_zast (x := 0) hx hb hK hW hS f24_ (by omega) (by omega) (by omega) (by decide) dX4_takeNext_55 (fun H locs hW hS => ?_)
    obtain ⟨en3w, hen3w⟩ : ∃ x : en_T, x = e2 en2w 44 0 (some (b 24, aZ dA (4) (uF (mu2w 24) (r) (0)))) := ⟨_, rfl⟩
    rw [← hen3w] at hW
    obtain ⟨mu3w, hmu3w⟩ : ∃ x : Mu, x = u2 mu2w 24 (r) (0) := ⟨_, rfl⟩
    have hE3w : EM dA b mu3w en3w := by rw [hen3w, hmu3w]; exact em_w hE2w (k0 := 24) (j := r) (v := 0) (by decide)
    have hF3w : FM en2w en3w := fun k i q => by rw [hen3w]; exact e2_k (fun w => q (by rw [w]; decide))
    have hF3w := FM.tr hF2w hF3w
    replace t2_0 : mu3w 2 (0) = mu 2 (0) := by rw [hmu3w]; exact (u2_n (fun q => absurd q.1 (by decide))).trans t2_0
    replace t16_r : mu3w 16 (r) = mu 16 (r) := by rw [hmu3w]; exact (u2_n (fun q => absurd q.1 (by decide))).trans t16_r
    replace t17_r : mu3w 17 (r) = mu 17 (r) := by rw [hmu3w]; exact (u2_n (fun q => absurd q.1 (by decide))).trans t17_r
    replace t18_r : mu3w 18 (r) = mu 18 (r) := by rw [hmu3w]; exact (u2_n (fun q => absurd q.1 (by decide))).trans t18_r
    replace t19_r : mu3w 19 (r) = mu 19 (r) := by rw [hmu3w]; exact (u2_n (fun q => absurd q.1 (by decide))).trans t19_r
    replace t20_r : mu3w 20 (r) = ((mu 20 (r)) + 1) % 16 := by rw [hmu3w]; exact (u2_n (fun q => absurd q.1 (by decide))).trans t20_r
    replace t21_r : mu3w 21 (r) = mu 21 (r) := by rw [hmu3w]; exact (u2_n (fun q => absurd q.1 (by decide))).trans t21_r
    replace t22_r : mu3w 22 (r) = mu 22 (r) := by rw [hmu3w]; exact (u2_n (fun q => absurd q.1 (by decide))).trans t22_r
    replace t23_r : mu3w 23 (r) = mu 2 (0) := by rw [hmu3w]; exact (u2_n (fun q => absurd q.1 (by decide))).trans t23_r
    replace t24_r : mu3w 24 (r) = 0 := by rw [hmu3w]; exact u2_s _ _ _ _
    replace t29_ff : mu3w 29 (ff) = mu 29 (ff) := by rw [hmu3w]; exact (u2_n (fun q => absurd q.1 (by decide))).trans t29_ff
    replace t30_ff : mu3w 30 (ff) = mu 30 (ff) := by rw [hmu3w]; exact (u2_n (fun q => absurd q.1 (by decide))).trans t30_ff
    have fM : en3w 20 0 = some (b 0, .inr (6, [.int (iZ (mu3w 0 0)), .int (iZ (mu3w 1 0)), .long (lZ (mu3w 2 0)), .int (iZ (mu3w 3 0)), .ref (b 4), .ref (b 5), .ref (b 6), .ref (b 7), .ref (b 8), .ref (b 9), .ref (b 10), .ref (b 11), .ref (b 12), .ref (b 13), .ref (b 14), .ref (b 15), .ref (b 16), .ref (b 17), .ref (b 18), .ref (b 19), .ref (b 20), .ref (b 21), .ref (b 22), .ref (b 23), .ref (b 24), .ref (b 25), .int (iZ (mu3w 26 0)), .ref (b 27), .ref (b 28), .ref (b 29), .ref (b 30), .ref (b 31), .ref (b 32), .ref (b 33), .ref (b 34), .int (iZ (mu3w 35 0)), .int (iZ (mu3w 36 0)), .int (iZ (mu3w 37 0)), .int (iZ (mu3w 38 0)), .int (iZ (mu3w 39 0)), .int (iZ (mu3w 40 0)), .ref (b 41), .ref (b 42)])) := hE3w.1
    have f18_ : en3w 38 0 = some (b 18, aI dA (4) (mu3w 18)) := hE3w.2 18 (by decide)
    have f19_ : en3w 39 0 = some (b 19, aI dA (4) (mu3w 19)) := hE3w.2 19 (by decide)
    have f20_ : en3w 40 0 = some (b 20, aI dA (4) (mu3w 20)) := hE3w.2 20 (by decide)
    have f21_ : en3w 41 0 = some (b 21, aI dA (4) (mu3w 21)) := hE3w.2 21 (by decide)
    have f22_ : en3w 42 0 = some (b 22, aI dA (4) (mu3w 22)) := hE3w.2 22 (by decide)
    have f23_ : en3w 43 0 = some (b 23, aJ dA (4) (mu3w 23)) := hE3w.2 23 (by decide)
    have f24_ : en3w 44 0 = some (b 24, aZ dA (4) (mu3w 24)) := hE3w.2 24 (by decide)
    have f29_ : en3w 49 0 = some (b 29, aI dA (6001) (mu3w 29)) := hE3w.2 29 (by decide)
    have f30_ : en3w 50 0 = some (b 30, aI dA (6001) (mu3w 30)) := hE3w.2 30 (by decide)
    refine lv_aload_n hx hb dX4_takeNext_56 rfl (lv_at hl 0 rfl) ?_
    refine lv_iload_n hx hb dX4_takeNext_57 rfl (lv_at hl 1 rfl) ?_
    refine lv_iload_n hx hb dX4_takeNext_58 rfl (lv_at hl 2 rfl) ?_
    have hM0 : ∀ (t : Nat) (j : Int), ¬ (16 ≤ t ∧ t ≤ 24 ∧ j = r) → mu3w t j = mu t j := fun t j q => by rw [hmu3w, u2_n (by omega), hmu2w, u2_n (by omega), hmu1w, u2_n (by omega)]
    have hB34 : ∀ j : Int, -128 ≤ mu3w 34 j ∧ mu3w 34 j ≤ 127 := fun j => by rw [hM0 34 j (by omega)]; exact rB 34 j (by omega)
    have c19 : mu3w 19 r = g 33 r 0 := by omega
    refine va_callv (va_runV (As := [.int (iZ (r)), .int (iZ (ff))]) (rest := []) ⟨hx, hb, hml, hown, hts⟩ (c_X4_put l D dA z en3w b mu3w r ff (by omega) (by omega) (by omega) (by omega) (by omega) (by omega) (by omega) (by omega) hB34 hE3w) (cwV 2 hts gX4_takeNext_X4_put rfl rfl rfl (by decide +kernel) ⟨Nat.le_of_ble_eq_true rfl, Nat.le_of_ble_eq_true rfl⟩) ⟨gBl, gRecv hK hW (ci := 6) rfl fM, gPre _ hg hS hW⟩ rfl rfl hl.1 rfl (lv_room (Nat.le_of_ble_eq_true rfl)) dX4_takeNext_59 ⟨(show 0 + 0 ≤ 0 by omega), (show 0 + 0 ≤ 0 by omega)⟩) hS (fun _ _ h => h) (fun _ h => h) (fun u9 t9 H locs ht9 hvm9 hw9 hB9 hz9 hk9 hS => ?_)
    obtain ⟨en4w, mu4w⟩ := u9
    obtain ⟨hE4w, hF4w, hmu4w⟩ := hw9
    have hW : Wd D (z 0) en4w H := by rw [← ht9]; exact hB9
    dsimp only at hE4w hF4w hmu4w
    have hF4w := FM.tr hF3w hF4w
    have fM : en4w 20 0 = some (b 0, .inr (6, [.int (iZ (mu4w 0 0)), .int (iZ (mu4w 1 0)), .long (lZ (mu4w 2 0)), .int (iZ (mu4w 3 0)), .ref (b 4), .ref (b 5), .ref (b 6), .ref (b 7), .ref (b 8), .ref (b 9), .ref (b 10), .ref (b 11), .ref (b 12), .ref (b 13), .ref (b 14), .ref (b 15), .ref (b 16), .ref (b 17), .ref (b 18), .ref (b 19), .ref (b 20), .ref (b 21), .ref (b 22), .ref (b 23), .ref (b 24), .ref (b 25), .int (iZ (mu4w 26 0)), .ref (b 27), .ref (b 28), .ref (b 29), .ref (b 30), .ref (b 31), .ref (b 32), .ref (b 33), .ref (b 34), .int (iZ (mu4w 35 0)), .int (iZ (mu4w 36 0)), .int (iZ (mu4w 37 0)), .int (iZ (mu4w 38 0)), .int (iZ (mu4w 39 0)), .int (iZ (mu4w 40 0)), .ref (b 41), .ref (b 42)])) := hE4w.1
    have f18_ : en4w 38 0 = some (b 18, aI dA (4) (mu4w 18)) := hE4w.2 18 (by decide)
    have f19_ : en4w 39 0 = some (b 19, aI dA (4) (mu4w 19)) := hE4w.2 19 (by decide)
    have f20_ : en4w 40 0 = some (b 20, aI dA (4) (mu4w 20)) := hE4w.2 20 (by decide)
    have f21_ : en4w 41 0 = some (b 21, aI dA (4) (mu4w 21)) := hE4w.2 21 (by decide)
    have f22_ : en4w 42 0 = some (b 22, aI dA (4) (mu4w 22)) := hE4w.2 22 (by decide)
    have f23_ : en4w 43 0 = some (b 23, aJ dA (4) (mu4w 23)) := hE4w.2 23 (by decide)
    have f24_ : en4w 44 0 = some (b 24, aZ dA (4) (mu4w 24)) := hE4w.2 24 (by decide)
    have f29_ : en4w 49 0 = some (b 29, aI dA (6001) (mu4w 29)) := hE4w.2 29 (by decide)
    have f30_ : en4w 50 0 = some (b 30, aI dA (6001) (mu4w 30)) := hE4w.2 30 (by decide)
    have hmp : mu4w = mPut mu3w r ff (mu 30 ff) := by rw [hmu4w, t30_ff]
    skip
    replace t2_0 : mu4w 2 (0) = mu 2 (0) := by rw [hmp]; exact (mPut_n (fun q => absurd q.1 (by decide)) (fun q => absurd q.1 (by decide))).trans t2_0
    replace t16_r : mu4w 16 (r) = mu 16 (r) := by rw [hmp]; exact (mPut_n (fun q => absurd q.1 (by decide)) (fun q => absurd q.1 (by decide))).trans t16_r
    replace t17_r : mu4w 17 (r) = mu 17 (r) := by rw [hmp]; exact (mPut_n (fun q => absurd q.1 (by decide)) (fun q => absurd q.1 (by decide))).trans t17_r
    replace t18_r : mu4w 18 (r) = mu 18 (r) := by rw [hmp]; exact (mPut_n (fun q => absurd q.1 (by decide)) (fun q => absurd q.1 (by decide))).trans t18_r
    replace t19_r : mu4w 19 (r) = mu 19 (r) + mu 30 ff := by rw [hmp, mPut_c, t19_r]
    replace t20_r : mu4w 20 (r) = ((mu 20 (r)) + 1) % 16 := by rw [hmp]; exact (mPut_n (fun q => absurd q.1 (by decide)) (fun q => absurd q.1 (by decide))).trans t20_r
    replace t21_r : mu4w 21 (r) = mu 21 (r) := by rw [hmp]; exact (mPut_n (fun q => absurd q.1 (by decide)) (fun q => absurd q.1 (by decide))).trans t21_r
    replace t22_r : mu4w 22 (r) = mu 22 (r) := by rw [hmp]; exact (mPut_n (fun q => absurd q.1 (by decide)) (fun q => absurd q.1 (by decide))).trans t22_r
    replace t23_r : mu4w 23 (r) = mu 2 (0) := by rw [hmp]; exact (mPut_n (fun q => absurd q.1 (by decide)) (fun q => absurd q.1 (by decide))).trans t23_r
    replace t24_r : mu4w 24 (r) = 0 := by rw [hmp]; exact (mPut_n (fun q => absurd q.1 (by decide)) (fun q => absurd q.1 (by decide))).trans t24_r
    replace t29_ff : mu4w 29 (ff) = mu 29 (ff) := by rw [hmp]; exact (mPut_n (fun q => absurd q.1 (by decide)) (fun q => absurd q.1 (by decide))).trans t29_ff
    replace t30_ff : mu4w 30 (ff) = mu 30 (ff) := by rw [hmp]; exact (mPut_n (fun q => absurd q.1 (by decide)) (fun q => absurd q.1 (by decide))).trans t30_ff
    obtain ⟨⟨u30, u31, u32, u33, u34, u35, u36, u37, u38⟩, u39, ug⟩ := v_tc1 (g := g) (r := r) (f := ff)
    have i1 := ib_tc1 hI (r := r) (f := ff) (by omega) (by omega) (by omega) (by omega) (by omega) (by omega)
    have hB25 : ∀ j : Int, -128 ≤ mu4w 25 j ∧ mu4w 25 j ≤ 127 := by rw [hmp]; exact mPut_b (fun j => by rw [hM0 25 j (by omega)]; exact rB 25 j (by omega)) hB34
    have hRp : RlR (sTC1 g r ff) mu4w r := rlr_c hI (hR.r r) ug (fun t j q => by rw [hmp, mPut_n (by omega) (by omega)]; exact hM0 t j (by omega)) hB25
    have hbuf : ∀ j : Int, 0 ≤ j → j < sTC1 g r ff 33 r 0 → mu4w 25 (10000 * r + j) = sTC1 g r ff 39 r j := fun j q1 q2 => by rw [u39, ← show mu 30 ff = g 26 ff 0 by omega]; exact put_buf (g := g) c19 (by omega) hmp (fun j q1 q2 => by rw [hM0 25 _ (by omega)]; exact w25 j q1 q2) (fun j q1 q2 => by rw [hM0 34 _ (by omega)]; exact r34b j q1 (by omega)) j q1 (by omega)
    refine lv_aload_n hx hb dX4_takeNext_62 rfl (lv_at hl 0 rfl) ?_
    refine g_get (C := RX4) (T := TX4) (N := 43) (ci := 6) (v := .ref (b 19)) hx hb hts hi6 hown hK hW fM rfl 19 (by decide) (hts (.fieldLink RX4 59 "LongTransferModel" "come" "[I") (by decide +kernel)) (fun _ h9 => h9) rfl dX4_takeNext_63 ?_
    refine lv_iload_n hx hb dX4_takeNext_66 rfl (lv_at hl 1 rfl) ?_
    refine g_iald hx hb hK hW f19_ (by omega) (by omega) (by omega) dX4_takeNext_67 ?_
    rw [t19_r]
    refine lv_aload_n hx hb dX4_takeNext_68 rfl (lv_at hl 0 rfl) ?_
    refine g_get (C := RX4) (T := TX4) (N := 43) (ci := 6) (v := .ref (b 18)) hx hb hts hi6 hown hK hW fM rfl 18 (by decide) (hts (.fieldLink RX4 56 "LongTransferModel" "length" "[I") (by decide +kernel)) (fun _ h9 => h9) rfl dX4_takeNext_69 ?_
    refine lv_iload_n hx hb dX4_takeNext_72 rfl (lv_at hl 1 rfl) ?_
    refine g_iald hx hb hK hW f18_ (by omega) (by omega) (by omega) dX4_takeNext_73 ?_
    rw [t18_r]
    refine z_icmp_ne (tgt := 83) hx hb dX4_takeNext_74 (by decide) (by omega) (by omega) (fun c_74 => ?_) (fun c_74 => ?_)
    · refine lv_aload_n hx hb dX4_takeNext_83 rfl (lv_at hl 0 rfl) ?_
      refine g_get (C := RX4) (T := TX4) (N := 43) (ci := 6) (v := .ref (b 22)) hx hb hts hi6 hown hK hW fM rfl 22 (by decide) (hts (.fieldLink RX4 68 "LongTransferModel" "more" "[I") (by decide +kernel)) (fun _ h9 => h9) rfl dX4_takeNext_84 ?_
      refine lv_iload_n hx hb dX4_takeNext_87 rfl (lv_at hl 1 rfl) ?_
      refine lv_dup2_11 hx hb dX4_takeNext_88 rfl rfl ?_
      refine g_iald hx hb hK hW f22_ (by omega) (by omega) (by omega) dX4_takeNext_89 ?_
      rw [t22_r]
      refine z_iconst hx hb dX4_takeNext_90 ?_
      refine z_isub hx hb dX4_takeNext_91 ?_
      refine g_iast (x := (mu 22 (r)) - 1) hx hb hK hW hS f22_ (by omega) (by omega) (by omega) dX4_takeNext_92 (fun H locs hW hS => ?_)
      obtain ⟨en5w, hen5w⟩ : ∃ x : en_T, x = e2 en4w 42 0 (some (b 22, aI dA (4) (uF (mu4w 22) (r) ((mu 22 (r)) - 1)))) := ⟨_, rfl⟩
      rw [← hen5w] at hW
      obtain ⟨mu5w, hmu5w⟩ : ∃ x : Mu, x = u2 mu4w 22 (r) ((mu 22 (r)) - 1) := ⟨_, rfl⟩
      have hE5w : EM dA b mu5w en5w := by rw [hen5w, hmu5w]; exact em_w hE4w (k0 := 22) (j := r) (v := (mu 22 (r)) - 1) (by decide)
      have hF5w : FM en4w en5w := fun k i q => by rw [hen5w]; exact e2_k (fun w => q (by rw [w]; decide))
      have hF5w := FM.tr hF4w hF5w
      replace t2_0 : mu5w 2 (0) = mu 2 (0) := by rw [hmu5w]; exact (u2_n (fun q => absurd q.1 (by decide))).trans t2_0
      replace t16_r : mu5w 16 (r) = mu 16 (r) := by rw [hmu5w]; exact (u2_n (fun q => absurd q.1 (by decide))).trans t16_r
      replace t17_r : mu5w 17 (r) = mu 17 (r) := by rw [hmu5w]; exact (u2_n (fun q => absurd q.1 (by decide))).trans t17_r
      replace t18_r : mu5w 18 (r) = mu 18 (r) := by rw [hmu5w]; exact (u2_n (fun q => absurd q.1 (by decide))).trans t18_r
      replace t19_r : mu5w 19 (r) = mu 19 (r) + mu 30 ff := by rw [hmu5w]; exact (u2_n (fun q => absurd q.1 (by decide))).trans t19_r
      replace t20_r : mu5w 20 (r) = ((mu 20 (r)) + 1) % 16 := by rw [hmu5w]; exact (u2_n (fun q => absurd q.1 (by decide))).trans t20_r
      replace t21_r : mu5w 21 (r) = mu 21 (r) := by rw [hmu5w]; exact (u2_n (fun q => absurd q.1 (by decide))).trans t21_r
      replace t22_r : mu5w 22 (r) = (mu 22 (r)) - 1 := by rw [hmu5w]; exact u2_s _ _ _ _
      replace t23_r : mu5w 23 (r) = mu 2 (0) := by rw [hmu5w]; exact (u2_n (fun q => absurd q.1 (by decide))).trans t23_r
      replace t24_r : mu5w 24 (r) = 0 := by rw [hmu5w]; exact (u2_n (fun q => absurd q.1 (by decide))).trans t24_r
      replace t29_ff : mu5w 29 (ff) = mu 29 (ff) := by rw [hmu5w]; exact (u2_n (fun q => absurd q.1 (by decide))).trans t29_ff
      replace t30_ff : mu5w 30 (ff) = mu 30 (ff) := by rw [hmu5w]; exact (u2_n (fun q => absurd q.1 (by decide))).trans t30_ff
      have fM : en5w 20 0 = some (b 0, .inr (6, [.int (iZ (mu5w 0 0)), .int (iZ (mu5w 1 0)), .long (lZ (mu5w 2 0)), .int (iZ (mu5w 3 0)), .ref (b 4), .ref (b 5), .ref (b 6), .ref (b 7), .ref (b 8), .ref (b 9), .ref (b 10), .ref (b 11), .ref (b 12), .ref (b 13), .ref (b 14), .ref (b 15), .ref (b 16), .ref (b 17), .ref (b 18), .ref (b 19), .ref (b 20), .ref (b 21), .ref (b 22), .ref (b 23), .ref (b 24), .ref (b 25), .int (iZ (mu5w 26 0)), .ref (b 27), .ref (b 28), .ref (b 29), .ref (b 30), .ref (b 31), .ref (b 32), .ref (b 33), .ref (b 34), .int (iZ (mu5w 35 0)), .int (iZ (mu5w 36 0)), .int (iZ (mu5w 37 0)), .int (iZ (mu5w 38 0)), .int (iZ (mu5w 39 0)), .int (iZ (mu5w 40 0)), .ref (b 41), .ref (b 42)])) := hE5w.1
      have f18_ : en5w 38 0 = some (b 18, aI dA (4) (mu5w 18)) := hE5w.2 18 (by decide)
      have f19_ : en5w 39 0 = some (b 19, aI dA (4) (mu5w 19)) := hE5w.2 19 (by decide)
      have f20_ : en5w 40 0 = some (b 20, aI dA (4) (mu5w 20)) := hE5w.2 20 (by decide)
      have f21_ : en5w 41 0 = some (b 21, aI dA (4) (mu5w 21)) := hE5w.2 21 (by decide)
      have f22_ : en5w 42 0 = some (b 22, aI dA (4) (mu5w 22)) := hE5w.2 22 (by decide)
      have f23_ : en5w 43 0 = some (b 23, aJ dA (4) (mu5w 23)) := hE5w.2 23 (by decide)
      have f24_ : en5w 44 0 = some (b 24, aZ dA (4) (mu5w 24)) := hE5w.2 24 (by decide)
      have f29_ : en5w 49 0 = some (b 29, aI dA (6001) (mu5w 29)) := hE5w.2 29 (by decide)
      have f30_ : en5w 50 0 = some (b 30, aI dA (6001) (mu5w 30)) := hE5w.2 30 (by decide)
      refine lv_aload_n hx hb dX4_takeNext_93 rfl (lv_at hl 0 rfl) ?_
      refine g_get (C := RX4) (T := TX4) (N := 43) (ci := 6) (v := .ref (b 21)) hx hb hts hi6 hown hK hW fM rfl 21 (by decide) (hts (.fieldLink RX4 65 "LongTransferModel" "said" "[I") (by decide +kernel)) (fun _ h9 => h9) rfl dX4_takeNext_94 ?_
      refine lv_iload_n hx hb dX4_takeNext_97 rfl (lv_at hl 1 rfl) ?_
      refine g_iald hx hb hK hW f21_ (by omega) (by omega) (by omega) dX4_takeNext_98 ?_
      rw [t21_r]
      refine z_if_le (tgt := 116) hx hb dX4_takeNext_99 (by decide) (by omega) (fun c_99 => ?_) (fun c_99 => ?_)
      · obtain ⟨gq, hgq⟩ : ∃ x : St, x = sTC2 (sTC1 g r ff) r := ⟨_, rfl⟩
        have hgo : sTC g r ff = sTC3 gq r := by unfold sTC; rw [if_pos (by omega), if_neg (by omega), ← hgq]
        have i2 : IB gq := by rw [hgq]; exact ib_tc2 i1 (by omega) (by omega) (by omega)
        have x30 : gq 30 r 0 = sTC1 g r ff 30 r 0 := by rw [hgq]; unfold sTC2; exact wr_n (by omega)
        have x31 : gq 31 r 0 = sTC1 g r ff 31 r 0 := by rw [hgq]; unfold sTC2; exact wr_n (by omega)
        have x32 : gq 32 r 0 = sTC1 g r ff 32 r 0 := by rw [hgq]; unfold sTC2; exact wr_n (by omega)
        have x33 : gq 33 r 0 = sTC1 g r ff 33 r 0 := by rw [hgq]; unfold sTC2; exact wr_n (by omega)
        have x34 : gq 34 r 0 = sTC1 g r ff 34 r 0 := by rw [hgq]; unfold sTC2; exact wr_n (by omega)
        have x35 : gq 35 r 0 = sTC1 g r ff 35 r 0 := by rw [hgq]; unfold sTC2; exact wr_n (by omega)
        have x37 : gq 37 r 0 = sTC1 g r ff 37 r 0 := by rw [hgq]; unfold sTC2; exact wr_n (by omega)
        have x38 : gq 38 r 0 = sTC1 g r ff 38 r 0 := by rw [hgq]; unfold sTC2; exact wr_n (by omega)
        have x36 : gq 36 r 0 = sTC1 g r ff 36 r 0 + 1 := by rw [hgq]; unfold sTC2; exact wr_s _ _ _ _
        have x39 : ∀ j : Int, gq 39 r j = sTC1 g r ff 39 r j := fun j => by rw [hgq]; unfold sTC2; exact wr_n (by omega)
        have m25 : ∀ j : Int, mu5w 25 j = mu4w 25 j := fun j => by rw [hmu5w]; exact u2_n (by omega)
        have hRq : RlR gq mu5w r := rlr_c i1 hRp (fun t i j q => by rw [hgq]; unfold sTC2; exact wr_n (by omega)) (fun t j q => by rw [hmu5w]; exact u2_n (by omega)) (fun j => by rw [m25]; exact hB25 j)
        have hwq : Rw gq mu5w r := ⟨by omega, by omega, ⟨by omega, by omega, by omega, by omega, by omega⟩, fun q => by have := w22 (by omega); omega, fun j q1 q2 => by rw [m25, x39]; exact hbuf j q1 (by omega)⟩
        have hpst : Rl (sTC g r ff) mu5w := by rw [show sTC g r ff = gq by rw [hgo]; unfold sTC3; first | rw [if_pos (by omega)] | rw [if_neg (by omega), if_neg (by omega)]]; exact hRq.l (hwq.q (by omega) (Or.inr ⟨by omega, by omega⟩))
        exact W.vret hx hb hr (fun t ht hw => ⟨⟨(en5w, mu5w), rfl, ⟨hE5w, hF5w, hpst⟩, by show Wd _ _ _ t.heap; rw [ht]; exact hW⟩, hS.F ht⟩) hS.2.2 dX4_takeNext_116
      · refine lv_aload_n hx hb dX4_takeNext_102 rfl (lv_at hl 0 rfl) ?_
        refine g_get (C := RX4) (T := TX4) (N := 43) (ci := 6) (v := .ref (b 22)) hx hb hts hi6 hown hK hW fM rfl 22 (by decide) (hts (.fieldLink RX4 68 "LongTransferModel" "more" "[I") (by decide +kernel)) (fun _ h9 => h9) rfl dX4_takeNext_103 ?_
        refine lv_iload_n hx hb dX4_takeNext_106 rfl (lv_at hl 1 rfl) ?_
        refine g_iald hx hb hK hW f22_ (by omega) (by omega) (by omega) dX4_takeNext_107 ?_
        rw [t22_r]
        refine z_if_ne (tgt := 116) hx hb dX4_takeNext_108 (by decide) (by omega) (fun c_108 => ?_) (fun c_108 => ?_)
        · obtain ⟨gq, hgq⟩ : ∃ x : St, x = sTC2 (sTC1 g r ff) r := ⟨_, rfl⟩
          have hgo : sTC g r ff = sTC3 gq r := by unfold sTC; rw [if_pos (by omega), if_neg (by omega), ← hgq]
          have i2 : IB gq := by rw [hgq]; exact ib_tc2 i1 (by omega) (by omega) (by omega)
          have x30 : gq 30 r 0 = sTC1 g r ff 30 r 0 := by rw [hgq]; unfold sTC2; exact wr_n (by omega)
          have x31 : gq 31 r 0 = sTC1 g r ff 31 r 0 := by rw [hgq]; unfold sTC2; exact wr_n (by omega)
          have x32 : gq 32 r 0 = sTC1 g r ff 32 r 0 := by rw [hgq]; unfold sTC2; exact wr_n (by omega)
          have x33 : gq 33 r 0 = sTC1 g r ff 33 r 0 := by rw [hgq]; unfold sTC2; exact wr_n (by omega)
          have x34 : gq 34 r 0 = sTC1 g r ff 34 r 0 := by rw [hgq]; unfold sTC2; exact wr_n (by omega)
          have x35 : gq 35 r 0 = sTC1 g r ff 35 r 0 := by rw [hgq]; unfold sTC2; exact wr_n (by omega)
          have x37 : gq 37 r 0 = sTC1 g r ff 37 r 0 := by rw [hgq]; unfold sTC2; exact wr_n (by omega)
          have x38 : gq 38 r 0 = sTC1 g r ff 38 r 0 := by rw [hgq]; unfold sTC2; exact wr_n (by omega)
          have x36 : gq 36 r 0 = sTC1 g r ff 36 r 0 + 1 := by rw [hgq]; unfold sTC2; exact wr_s _ _ _ _
          have x39 : ∀ j : Int, gq 39 r j = sTC1 g r ff 39 r j := fun j => by rw [hgq]; unfold sTC2; exact wr_n (by omega)
          have m25 : ∀ j : Int, mu5w 25 j = mu4w 25 j := fun j => by rw [hmu5w]; exact u2_n (by omega)
          have hRq : RlR gq mu5w r := rlr_c i1 hRp (fun t i j q => by rw [hgq]; unfold sTC2; exact wr_n (by omega)) (fun t j q => by rw [hmu5w]; exact u2_n (by omega)) (fun j => by rw [m25]; exact hB25 j)
          have hwq : Rw gq mu5w r := ⟨by omega, by omega, ⟨by omega, by omega, by omega, by omega, by omega⟩, fun q => by have := w22 (by omega); omega, fun j q1 q2 => by rw [m25, x39]; exact hbuf j q1 (by omega)⟩
          have hpst : Rl (sTC g r ff) mu5w := by rw [show sTC g r ff = gq by rw [hgo]; unfold sTC3; first | rw [if_pos (by omega)] | rw [if_neg (by omega), if_neg (by omega)]]; exact hRq.l (hwq.q (by omega) (Or.inr ⟨by omega, by omega⟩))
          exact W.vret hx hb hr (fun t ht hw => ⟨⟨(en5w, mu5w), rfl, ⟨hE5w, hF5w, hpst⟩, by show Wd _ _ _ t.heap; rw [ht]; exact hW⟩, hS.F ht⟩) hS.2.2 dX4_takeNext_116
        · refine lv_aload_n hx hb dX4_takeNext_111 rfl (lv_at hl 0 rfl) ?_
          refine lv_iload_n hx hb dX4_takeNext_112 rfl (lv_at hl 1 rfl) ?_
          obtain ⟨gq, hgq⟩ : ∃ x : St, x = sTC2 (sTC1 g r ff) r := ⟨_, rfl⟩
          have hgo : sTC g r ff = sTC3 gq r := by unfold sTC; rw [if_pos (by omega), if_neg (by omega), ← hgq]
          have i2 : IB gq := by rw [hgq]; exact ib_tc2 i1 (by omega) (by omega) (by omega)
          have x30 : gq 30 r 0 = sTC1 g r ff 30 r 0 := by rw [hgq]; unfold sTC2; exact wr_n (by omega)
          have x31 : gq 31 r 0 = sTC1 g r ff 31 r 0 := by rw [hgq]; unfold sTC2; exact wr_n (by omega)
          have x32 : gq 32 r 0 = sTC1 g r ff 32 r 0 := by rw [hgq]; unfold sTC2; exact wr_n (by omega)
          have x33 : gq 33 r 0 = sTC1 g r ff 33 r 0 := by rw [hgq]; unfold sTC2; exact wr_n (by omega)
          have x34 : gq 34 r 0 = sTC1 g r ff 34 r 0 := by rw [hgq]; unfold sTC2; exact wr_n (by omega)
          have x35 : gq 35 r 0 = sTC1 g r ff 35 r 0 := by rw [hgq]; unfold sTC2; exact wr_n (by omega)
          have x37 : gq 37 r 0 = sTC1 g r ff 37 r 0 := by rw [hgq]; unfold sTC2; exact wr_n (by omega)
          have x38 : gq 38 r 0 = sTC1 g r ff 38 r 0 := by rw [hgq]; unfold sTC2; exact wr_n (by omega)
          have x36 : gq 36 r 0 = sTC1 g r ff 36 r 0 + 1 := by rw [hgq]; unfold sTC2; exact wr_s _ _ _ _
          have x39 : ∀ j : Int, gq 39 r j = sTC1 g r ff 39 r j := fun j => by rw [hgq]; unfold sTC2; exact wr_n (by omega)
          have m25 : ∀ j : Int, mu5w 25 j = mu4w 25 j := fun j => by rw [hmu5w]; exact u2_n (by omega)
          have hRq : RlR gq mu5w r := rlr_c i1 hRp (fun t i j q => by rw [hgq]; unfold sTC2; exact wr_n (by omega)) (fun t j q => by rw [hmu5w]; exact u2_n (by omega)) (fun j => by rw [m25]; exact hB25 j)
          have hwq : Rw gq mu5w r := ⟨by omega, by omega, ⟨by omega, by omega, by omega, by omega, by omega⟩, fun q => by have := w22 (by omega); omega, fun j q1 q2 => by rw [m25, x39]; exact hbuf j q1 (by omega)⟩
          have hg3 : sTC g r ff = sAns gq r := by rw [hgo]; unfold sTC3; rw [if_neg (by omega), if_pos (by omega)]
          refine va_callv (va_runV (As := [.int (iZ (r))]) (rest := []) ⟨hx, hb, hml, hown, hts⟩ (c_X4_answer l D dA z en5w b mu5w gq r (by omega) (by omega) (by omega) i2 hRq hwq hE5w) (cwV 1 hts gX4_takeNext_X4_answer rfl rfl rfl (by decide +kernel) ⟨Nat.le_of_ble_eq_true rfl, Nat.le_of_ble_eq_true rfl⟩) ⟨gBl, gRecv hK hW (ci := 6) rfl fM, gPre _ hg hS hW⟩ rfl rfl hl.1 rfl (lv_room (Nat.le_of_ble_eq_true rfl)) dX4_takeNext_113 ⟨(show 0 + 0 + 0 ≤ 0 by omega), (show 0 + 0 + 0 ≤ 0 by omega)⟩) hS (fun _ _ h => h) (fun _ h => h) (fun u9 t9 H locs ht9 hvm9 hw9 hB9 hz9 hk9 hS => ?_)
          obtain ⟨en6w, mu6w⟩ := u9
          obtain ⟨hE6w, hF6w, hmu6w⟩ := hw9
          have hW : Wd D (z 0) en6w H := by rw [← ht9]; exact hB9
          dsimp only at hE6w hF6w hmu6w
          have hF6w := FM.tr hF5w hF6w
          have fM : en6w 20 0 = some (b 0, .inr (6, [.int (iZ (mu6w 0 0)), .int (iZ (mu6w 1 0)), .long (lZ (mu6w 2 0)), .int (iZ (mu6w 3 0)), .ref (b 4), .ref (b 5), .ref (b 6), .ref (b 7), .ref (b 8), .ref (b 9), .ref (b 10), .ref (b 11), .ref (b 12), .ref (b 13), .ref (b 14), .ref (b 15), .ref (b 16), .ref (b 17), .ref (b 18), .ref (b 19), .ref (b 20), .ref (b 21), .ref (b 22), .ref (b 23), .ref (b 24), .ref (b 25), .int (iZ (mu6w 26 0)), .ref (b 27), .ref (b 28), .ref (b 29), .ref (b 30), .ref (b 31), .ref (b 32), .ref (b 33), .ref (b 34), .int (iZ (mu6w 35 0)), .int (iZ (mu6w 36 0)), .int (iZ (mu6w 37 0)), .int (iZ (mu6w 38 0)), .int (iZ (mu6w 39 0)), .int (iZ (mu6w 40 0)), .ref (b 41), .ref (b 42)])) := hE6w.1
          have f18_ : en6w 38 0 = some (b 18, aI dA (4) (mu6w 18)) := hE6w.2 18 (by decide)
          have f19_ : en6w 39 0 = some (b 19, aI dA (4) (mu6w 19)) := hE6w.2 19 (by decide)
          have f20_ : en6w 40 0 = some (b 20, aI dA (4) (mu6w 20)) := hE6w.2 20 (by decide)
          have f21_ : en6w 41 0 = some (b 21, aI dA (4) (mu6w 21)) := hE6w.2 21 (by decide)
          have f22_ : en6w 42 0 = some (b 22, aI dA (4) (mu6w 22)) := hE6w.2 22 (by decide)
          have f23_ : en6w 43 0 = some (b 23, aJ dA (4) (mu6w 23)) := hE6w.2 23 (by decide)
          have f24_ : en6w 44 0 = some (b 24, aZ dA (4) (mu6w 24)) := hE6w.2 24 (by decide)
          have f29_ : en6w 49 0 = some (b 29, aI dA (6001) (mu6w 29)) := hE6w.2 29 (by decide)
          have f30_ : en6w 50 0 = some (b 30, aI dA (6001) (mu6w 30)) := hE6w.2 30 (by decide)
          have hpst : Rl (sTC g r ff) mu6w := by rw [hg3]; exact hmu6w
          exact W.vret hx hb hr (fun t ht hw => ⟨⟨(en6w, mu6w), rfl, ⟨hE6w, hF6w, hpst⟩, by show Wd _ _ _ t.heap; rw [ht]; exact hW⟩, hS.F ht⟩) hS.2.2 dX4_takeNext_116
    · refine lv_aload_n hx hb dX4_takeNext_77 rfl (lv_at hl 0 rfl) ?_
      refine lv_iload_n hx hb dX4_takeNext_78 rfl (lv_at hl 1 rfl) ?_
      refine va_callv (va_runV (As := [.int (iZ (r))]) (rest := []) ⟨hx, hb, hml, hown, hts⟩ (c_X4_whole l D dA z en4w b mu4w r (by omega) (by omega) (by omega) (by omega) hB25 hE4w) (cwV 1 hts gX4_takeNext_X4_whole rfl rfl rfl (by decide +kernel) ⟨Nat.le_of_ble_eq_true rfl, Nat.le_of_ble_eq_true rfl⟩) ⟨gBl, gRecv hK hW (ci := 6) rfl fM, gPre _ hg hS hW⟩ rfl rfl hl.1 rfl (lv_room (Nat.le_of_ble_eq_true rfl)) dX4_takeNext_79 ⟨(show 0 + 0 + 0 ≤ 0 by omega), (show 0 + 0 + 0 ≤ 0 by omega)⟩) hS (fun _ _ h => h) (fun _ h => h) (fun u9 t9 H locs ht9 hvm9 hw9 hB9 hz9 hk9 hS => ?_)
      obtain ⟨en7w, mu7w⟩ := u9
      obtain ⟨hE7w, hF7w, hmu7w⟩ := hw9
      have hW : Wd D (z 0) en7w H := by rw [← ht9]; exact hB9
      dsimp only at hE7w hF7w hmu7w
      have hF7w := FM.tr hF4w hF7w
      have fM : en7w 20 0 = some (b 0, .inr (6, [.int (iZ (mu7w 0 0)), .int (iZ (mu7w 1 0)), .long (lZ (mu7w 2 0)), .int (iZ (mu7w 3 0)), .ref (b 4), .ref (b 5), .ref (b 6), .ref (b 7), .ref (b 8), .ref (b 9), .ref (b 10), .ref (b 11), .ref (b 12), .ref (b 13), .ref (b 14), .ref (b 15), .ref (b 16), .ref (b 17), .ref (b 18), .ref (b 19), .ref (b 20), .ref (b 21), .ref (b 22), .ref (b 23), .ref (b 24), .ref (b 25), .int (iZ (mu7w 26 0)), .ref (b 27), .ref (b 28), .ref (b 29), .ref (b 30), .ref (b 31), .ref (b 32), .ref (b 33), .ref (b 34), .int (iZ (mu7w 35 0)), .int (iZ (mu7w 36 0)), .int (iZ (mu7w 37 0)), .int (iZ (mu7w 38 0)), .int (iZ (mu7w 39 0)), .int (iZ (mu7w 40 0)), .ref (b 41), .ref (b 42)])) := hE7w.1
      have f18_ : en7w 38 0 = some (b 18, aI dA (4) (mu7w 18)) := hE7w.2 18 (by decide)
      have f19_ : en7w 39 0 = some (b 19, aI dA (4) (mu7w 19)) := hE7w.2 19 (by decide)
      have f20_ : en7w 40 0 = some (b 20, aI dA (4) (mu7w 20)) := hE7w.2 20 (by decide)
      have f21_ : en7w 41 0 = some (b 21, aI dA (4) (mu7w 21)) := hE7w.2 21 (by decide)
      have f22_ : en7w 42 0 = some (b 22, aI dA (4) (mu7w 22)) := hE7w.2 22 (by decide)
      have f23_ : en7w 43 0 = some (b 23, aJ dA (4) (mu7w 23)) := hE7w.2 23 (by decide)
      have f24_ : en7w 44 0 = some (b 24, aZ dA (4) (mu7w 24)) := hE7w.2 24 (by decide)
      have f29_ : en7w 49 0 = some (b 29, aI dA (6001) (mu7w 29)) := hE7w.2 29 (by decide)
      have f30_ : en7w 50 0 = some (b 30, aI dA (6001) (mu7w 30)) := hE7w.2 30 (by decide)
      have hgo : sTC g r ff = sWh (sTC1 g r ff) r (sTC1 g r ff 32 r 0) (sTC1 g r ff 39 r) := by unfold sTC; rw [if_pos (by omega), if_pos (by omega)]
      have hpst : Rl (sTC g r ff) mu7w := by rw [hgo]; exact rl_wh i1 hRp (by omega) (by omega) (by omega) (fun j q1 q2 => hbuf j q1 (by omega)) hmu7w
      exact W.vret hx hb hr (fun t ht hw => ⟨⟨(en7w, mu7w), rfl, ⟨hE7w, hF7w, hpst⟩, by show Wd _ _ _ t.heap; rw [ht]; exact hW⟩, hS.F ht⟩) hS.2.2 dX4_takeNext_82
  · refine lv_aload_n hx hb dX4_takeNext_15 rfl (lv_at hl 0 rfl) ?_
    refine lv_iload_n hx hb dX4_takeNext_16 rfl (lv_at hl 1 rfl) ?_
    refine z_iconst hx hb dX4_takeNext_17 ?_
    refine va_callv (va_runV (As := [.int (iZ (r)), .int (iZ (3))]) (rest := []) ⟨hx, hb, hml, hown, hts⟩ (c_X4_endReceiver l D dA z en b mu r 3 (by omega) (by omega) (by omega) (by omega) hE) (cwV 2 hts gX4_takeNext_X4_endReceiver rfl rfl rfl (by decide +kernel) ⟨Nat.le_of_ble_eq_true rfl, Nat.le_of_ble_eq_true rfl⟩) ⟨gBl, gRecv hK hW (ci := 6) rfl fM, gPre _ hg hS hW⟩ rfl rfl hl.1 rfl (lv_room (Nat.le_of_ble_eq_true rfl)) dX4_takeNext_18 ⟨(show 0 + 0 ≤ 0 by omega), (show 0 + 0 ≤ 0 by omega)⟩) hS (fun _ _ h => h) (fun _ h => h) (fun u9 t9 H locs ht9 hvm9 hw9 hB9 hz9 hk9 hS => ?_)
    obtain ⟨en8w, mu8w⟩ := u9
    obtain ⟨hE8w, hF8w, hmu8w⟩ := hw9
    have hW : Wd D (z 0) en8w H := by rw [← ht9]; exact hB9
    dsimp only at hE8w hF8w hmu8w
    have fM : en8w 20 0 = some (b 0, .inr (6, [.int (iZ (mu8w 0 0)), .int (iZ (mu8w 1 0)), .long (lZ (mu8w 2 0)), .int (iZ (mu8w 3 0)), .ref (b 4), .ref (b 5), .ref (b 6), .ref (b 7), .ref (b 8), .ref (b 9), .ref (b 10), .ref (b 11), .ref (b 12), .ref (b 13), .ref (b 14), .ref (b 15), .ref (b 16), .ref (b 17), .ref (b 18), .ref (b 19), .ref (b 20), .ref (b 21), .ref (b 22), .ref (b 23), .ref (b 24), .ref (b 25), .int (iZ (mu8w 26 0)), .ref (b 27), .ref (b 28), .ref (b 29), .ref (b 30), .ref (b 31), .ref (b 32), .ref (b 33), .ref (b 34), .int (iZ (mu8w 35 0)), .int (iZ (mu8w 36 0)), .int (iZ (mu8w 37 0)), .int (iZ (mu8w 38 0)), .int (iZ (mu8w 39 0)), .int (iZ (mu8w 40 0)), .ref (b 41), .ref (b 42)])) := hE8w.1
    have f18_ : en8w 38 0 = some (b 18, aI dA (4) (mu8w 18)) := hE8w.2 18 (by decide)
    have f19_ : en8w 39 0 = some (b 19, aI dA (4) (mu8w 19)) := hE8w.2 19 (by decide)
    have f20_ : en8w 40 0 = some (b 20, aI dA (4) (mu8w 20)) := hE8w.2 20 (by decide)
    have f21_ : en8w 41 0 = some (b 21, aI dA (4) (mu8w 21)) := hE8w.2 21 (by decide)
    have f22_ : en8w 42 0 = some (b 22, aI dA (4) (mu8w 22)) := hE8w.2 22 (by decide)
    have f23_ : en8w 43 0 = some (b 23, aJ dA (4) (mu8w 23)) := hE8w.2 23 (by decide)
    have f24_ : en8w 44 0 = some (b 24, aZ dA (4) (mu8w 24)) := hE8w.2 24 (by decide)
    have f29_ : en8w 49 0 = some (b 29, aI dA (6001) (mu8w 29)) := hE8w.2 29 (by decide)
    have f30_ : en8w 50 0 = some (b 30, aI dA (6001) (mu8w 30)) := hE8w.2 30 (by decide)
    have hpst : Rl (sTC g r ff) mu8w := by rw [show sTC g r ff = sEndR g r 3 from if_neg (by omega), hmu8w]; exact rl_er hI hR (by omega) (by omega) (by omega)
    exact W.vret hx hb hr (fun t ht hw => ⟨⟨(en8w, mu8w), rfl, ⟨hE8w, hF8w, hpst⟩, by show Wd _ _ _ t.heap; rw [ht]; exact hW⟩, hS.F ht⟩) hS.2.2 dX4_takeNext_21
