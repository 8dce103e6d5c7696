theorem v_sb {g : St} {r mg ln : Int} : (sBeg g r mg ln 30 r 0 = 1 ∧ sBeg g r mg ln 31 r 0 = mg ∧ sBeg g r mg ln 32 r 0 = ln ∧ sBeg g r mg ln 33 r 0 = 0 ∧ sBeg g r mg ln 34 r 0 = 1 ∧ sBeg g r mg ln 35 r 0 = 0 ∧ sBeg g r mg ln 36 r 0 = 0) ∧ ∀ (t : Nat) (i j : Int), ¬ (30 ≤ t ∧ t ≤ 39 ∧ i = r) → sBeg g r mg ln t i j = g t i j := by
  refine ⟨?_, fun t i j q => ?_⟩
  · simp [sBeg, wr, wR]
  · unfold sBeg
    rw [wR_n (by omega)]
    repeat rw [wr_n (by omega)]
theorem v_tk {g : St} {r f : Int} : (sTake g r f 30 r 0 = g 30 r 0 ∧ sTake g r f 31 r 0 = g 31 r 0 ∧ sTake g r f 32 r 0 = g 32 r 0 ∧ sTake g r f 33 r 0 = g 33 r 0 + g 26 f 0 ∧ sTake g r f 34 r 0 = g 34 r 0 ∧ sTake g r f 35 r 0 = g 35 r 0 ∧ sTake g r f 36 r 0 = g 36 r 0) ∧ (∀ j : Int, sTake g r f 39 r j = cpF (g 28 f) (g 39 r) 0 (g 33 r 0) (g 26 f 0) j) ∧ ∀ (t : Nat) (i j : Int), ¬ (30 ≤ t ∧ t ≤ 39 ∧ i = r) → sTake g r f t i j = g t i j := by
  refine ⟨?_, fun j => ?_, fun t i j q => ?_⟩
  · simp [sTake, wr, wR]
  · simp [sTake, wr, wR]
  · unfold sTake
    rw [wR_n (by omega), wr_n (by omega), wr_n (by omega), wr_n (by omega)]
theorem v_e6 {g : St} {r : Int} {t : Nat} {i j : Int} (h : ¬ ((t = 30 ∨ t = 32 ∨ t = 33 ∨ t = 37 ∨ t = 38) ∧ i = r) ∧ t ≠ 2 ∧ ¬ (t = 0 ∧ i = 5)) : sE6 g r t i j = g t i j := by
  unfold sE6
  split
  · exact v_er h
  · rfl
set_option maxHeartbeats 4000000 in
set_option maxRecDepth 100000 in
theorem c_X4_take (l : Launch) (D : va_G) (dA : Nat → ClassId) (z : Nat → Nat) (en : en_T) (b : Nat → Nat) (mu : Mu) (g : St) (ff : Int) (hf0 : 1 ≤ ff) (hf1 : ff ≤ g 1 1 0) (hk3 : g 20 ff 0 ≠ 3) (hcs : g 20 ff 0 = 2 → g 30 (g 21 ff 0 % 4) 0 = 1 → g 31 (g 21 ff 0 % 4) 0 = g 21 ff 0 → g 33 (g 21 ff 0 % 4) 0 + g 26 ff 0 ≤ g 32 (g 21 ff 0 % 4) 0) (hfs : g 20 ff 0 = 1 → 1 ≤ g 22 ff 0 ∧ g 26 ff 0 ≤ g 22 ff 0) (hI : IB g) (hj : JB g) (hR : Rl g mu) (hE : EM dA b mu en) : Met l yX4_take wsX4_take ({ frames := 3, cells := 0, slots := 0, locals := 90 }) (gP D dA z en [.ref (b 0), .int (iZ (ff))]) (va_Qi (fun (r8 : Int32) (u : en_T × Mu) => r8 = iZ (aRR g ff) ∧ EM dA b u.2 u.1 ∧ FM en u.1 ∧ Rl (sRR g ff) u.2) (fun u t9 => Wd D (z 0) u.1 t9.heap) (fun q => z 0 ≤ q)) (0) (0) (fun q => z 0 ≤ q) := by
  refine gMet (own := RX4) (cc := cX4_take) (maxL := 3) (ret := (some .int)) (by decide) rfl rfl (Nat.le_of_ble_eq_true rfl) ?_
  intro p e s m below meth c hx hb hml hown hts hr hlocks hnm hg hW ls hl
  have hK := hg.1
  have hS : va_S (fun q => z 0 ≤ q) s.heap s.heap [] := va_S.rf
  have hi6 : ∀ w ∈ u_ws RX4 TX4 43, w ∈ wsX4_take := by decide +kernel
  have hl : lv_has ls 3 [(0, .ref (b 0)), (1, .int (iZ (ff)))] := hl
  obtain ⟨hIX, hIL, hIS, hIF, hIR, hIG⟩ := id hI
  unfold IL at hIL
  unfold IX at hIX
  obtain ⟨r, hrd⟩ : ∃ x : Int, x = g 21 ff 0 % 4 := ⟨_, rfl⟩
  have hIFf := hIF ff (by omega) (by omega)
  unfold IF at hIFf
  obtain ⟨f20, f21, f22, f23, f24, f25, f27, f26, f263, -⟩ := hIFf
  have hIRr := hIR r (by omega) (by omega)
  unfold IR at hIRr
  obtain ⟨i30, i31, i32, i33, i34, i35, i36, -, -, -⟩ := hIRr
  obtain ⟨g6, hg6⟩ : ∃ x : St, x = sE6 g r := ⟨_, rfl⟩
  have i6 : IB g6 := by
    rw [hg6]
    unfold sE6
    split
    · exact ib_er hI 6 (by omega) (by omega)
    · exact hI
  have fM : en 20 0 = some (b 0, .inr (6, [.int (iZ (mu 0 0)), .int (iZ (mu 1 0)), .long (lZ (mu 2 0)), .int (iZ (mu 3 0)), .ref (b 4), .ref (b 5), .ref (b 6), .ref (b 7), .ref (b 8), .ref (b 9), .ref (b 10), .ref (b 11), .ref (b 12), .ref (b 13), .ref (b 14), .ref (b 15), .ref (b 16), .ref (b 17), .ref (b 18), .ref (b 19), .ref (b 20), .ref (b 21), .ref (b 22), .ref (b 23), .ref (b 24), .ref (b 25), .int (iZ (mu 26 0)), .ref (b 27), .ref (b 28), .ref (b 29), .ref (b 30), .ref (b 31), .ref (b 32), .ref (b 33), .ref (b 34), .int (iZ (mu 35 0)), .int (iZ (mu 36 0)), .int (iZ (mu 37 0)), .int (iZ (mu 38 0)), .int (iZ (mu 39 0)), .int (iZ (mu 40 0)), .ref (b 41), .ref (b 42)])) := hE.1
  have f16_ : en 36 0 = some (b 16, aI dA (4) (mu 16)) := hE.2 16 (by decide)
  have f17_ : en 37 0 = some (b 17, aI dA (4) (mu 17)) := hE.2 17 (by decide)
  have f18_ : en 38 0 = some (b 18, aI dA (4) (mu 18)) := hE.2 18 (by decide)
  have f19_ : en 39 0 = some (b 19, aI dA (4) (mu 19)) := hE.2 19 (by decide)
  have f20_ : en 40 0 = some (b 20, aI dA (4) (mu 20)) := hE.2 20 (by decide)
  have f21_ : en 41 0 = some (b 21, aI dA (4) (mu 21)) := hE.2 21 (by decide)
  have f27_ : en 47 0 = some (b 27, aI dA (6001) (mu 27)) := hE.2 27 (by decide)
  have f28_ : en 48 0 = some (b 28, aI dA (6001) (mu 28)) := hE.2 28 (by decide)
  have f29_ : en 49 0 = some (b 29, aI dA (6001) (mu 29)) := hE.2 29 (by decide)
  have f30_ : en 50 0 = some (b 30, aI dA (6001) (mu 30)) := hE.2 30 (by decide)
  have y20_ff : g6 20 ff 0 = g 20 ff 0 := by rw [hg6]; exact v_e6 (by omega)
  have y21_ff : g6 21 ff 0 = g 21 ff 0 := by rw [hg6]; exact v_e6 (by omega)
  have y22_ff : g6 22 ff 0 = g 22 ff 0 := by rw [hg6]; exact v_e6 (by omega)
  have y23_ff : g6 23 ff 0 = g 23 ff 0 := by rw [hg6]; exact v_e6 (by omega)
  have y26_ff : g6 26 ff 0 = g 26 ff 0 := by rw [hg6]; exact v_e6 (by omega)
  have y1_1 : g6 1 1 0 = g 1 1 0 := by rw [hg6]; exact v_e6 (by omega)
  have y1_0 : g6 1 0 0 = g 1 0 0 := by rw [hg6]; exact v_e6 (by omega)
  have y0_0 : g6 0 0 0 = g 0 0 0 := by rw [hg6]; exact v_e6 (by omega)
  have y0_7 : g6 0 7 0 = g 0 7 0 := by rw [hg6]; exact v_e6 (by omega)
  have y0_9 : g6 0 9 0 = g 0 9 0 := by rw [hg6]; exact v_e6 (by omega)
  have y28 : ∀ j : Int, g6 28 ff j = g 28 ff j := fun j => by rw [hg6]; exact v_e6 (by omega)
  have hgo : g 20 ff 0 ≠ 2 → sRR g ff = if g 20 ff 0 = 0 then sWh g6 r (g6 26 ff 0) (g6 28 ff) else sTF g6 r ff := fun q => by unfold sRR; rw [if_neg q, ← hrd, ← hg6]
  have k74 : ∀ (muA : Mu) (enA : en_T) (H : Heap) (locs : List Loc) (ls : Array Slot), EM dA b muA enA → Wd D (z 0) enA H → va_S (fun q => z 0 ≤ q) s.heap H locs → lv_has ls 3 [(2, .int (iZ (r))), (0, .ref (b 0)), (1, .int (iZ (ff)))] → FM en enA → Rl g6 muA → g 20 ff 0 ≠ 2 → W p l e ({ frames := 3, cells := 0, slots := 0, locals := 90 }) s m (([.ref (b 0), .int (iZ (ff))] : List Value).toArray) below meth c H locs 0 0 (MQ below (va_Qi (fun (r8 : Int32) (u : en_T × Mu) => r8 = iZ (aRR g ff) ∧ EM dA b u.2 u.1 ∧ FM en u.1 ∧ Rl (sRR g ff) u.2) (fun u t9 => Wd D (z 0) u.1 t9.heap) (fun q => z 0 ≤ q)) ([.ref (b 0), .int (iZ (ff))] : List Value).toArray s (0) (0) (fun q => z 0 ≤ q)) (F0 m 74 ls []) := by
    intro muA enA H locs ls hEA hW hS hl hFA hRA hk2
    obtain ⟨rX, rC, rG, rD, rS, rF, rR, rB⟩ := id hRA
    unfold RX at rX
    have rFf := rF.1 ff (by omega) (by omega)
    unfold RF at rFf
    obtain ⟨⟨r27, r28, r29, r30, r31, r32⟩, -, r34⟩ := rFf
    have fM : enA 20 0 = some (b 0, .inr (6, [.int (iZ (muA 0 0)), .int (iZ (muA 1 0)), .long (lZ (muA 2 0)), .int (iZ (muA 3 0)), .ref (b 4), .ref (b 5), .ref (b 6), .ref (b 7), .ref (b 8), .ref (b 9), .ref (b 10), .ref (b 11), .ref (b 12), .ref (b 13), .ref (b 14), .ref (b 15), .ref (b 16), .ref (b 17), .ref (b 18), .ref (b 19), .ref (b 20), .ref (b 21), .ref (b 22), .ref (b 23), .ref (b 24), .ref (b 25), .int (iZ (muA 26 0)), .ref (b 27), .ref (b 28), .ref (b 29), .ref (b 30), .ref (b 31), .ref (b 32), .ref (b 33), .ref (b 34), .int (iZ (muA 35 0)), .int (iZ (muA 36 0)), .int (iZ (muA 37 0)), .int (iZ (muA 38 0)), .int (iZ (muA 39 0)), .int (iZ (muA 40 0)), .ref (b 41), .ref (b 42)])) := hEA.1
    have f16_ : enA 36 0 = some (b 16, aI dA (4) (muA 16)) := hEA.2 16 (by decide)
    have f17_ : enA 37 0 = some (b 17, aI dA (4) (muA 17)) := hEA.2 17 (by decide)
    have f18_ : enA 38 0 = some (b 18, aI dA (4) (muA 18)) := hEA.2 18 (by decide)
    have f19_ : enA 39 0 = some (b 19, aI dA (4) (muA 19)) := hEA.2 19 (by decide)
    have f20_ : enA 40 0 = some (b 20, aI dA (4) (muA 20)) := hEA.2 20 (by decide)
    have f21_ : enA 41 0 = some (b 21, aI dA (4) (muA 21)) := hEA.2 21 (by decide)
    have f27_ : enA 47 0 = some (b 27, aI dA (6001) (muA 27)) := hEA.2 27 (by decide)
    have f28_ : enA 48 0 = some (b 28, aI dA (6001) (muA 28)) := hEA.2 28 (by decide)
    have f29_ : enA 49 0 = some (b 29, aI dA (6001) (muA 29)) := hEA.2 29 (by decide)
    have f30_ : enA 50 0 = some (b 30, aI dA (6001) (muA 30)) := hEA.2 30 (by decide)
    have t1_0 : muA 1 (0) = muA 1 (0) := rfl
    have t2_0 : muA 2 (0) = muA 2 (0) := rfl
    have t26_0 : muA 26 (0) = muA 26 (0) := rfl
    have t27_ff : muA 27 (ff) = muA 27 (ff) := rfl
    have t28_ff : muA 28 (ff) = muA 28 (ff) := rfl
    have t29_ff : muA 29 (ff) = muA 29 (ff) := rfl
    have t30_ff : muA 30 (ff) = muA 30 (ff) := rfl
    have t16_r : muA 16 (r) = muA 16 (r) := rfl
    have t17_r : muA 17 (r) = muA 17 (r) := rfl
    have t18_r : muA 18 (r) = muA 18 (r) := rfl
    have t19_r : muA 19 (r) = muA 19 (r) := rfl
    have t20_r : muA 20 (r) = muA 20 (r) := rfl
    have t21_r : muA 21 (r) = muA 21 (r) := rfl
    refine lv_aload_n hx hb dX4_take_74 rfl (lv_at hl 1 rfl) ?_
    refine g_get (C := RX4) (T := TX4) (N := 43) (ci := 6) (v := .ref (b 17)) hx hb hts hi6 hown hK hW fM rfl 17 (by decide) (hts (.fieldLink RX4 53 "LongTransferModel" "message" "[I") (by decide +kernel)) (fun _ h9 => h9) rfl dX4_take_75 ?_
    refine lv_iload_n hx hb dX4_take_78 rfl (lv_at hl 0 rfl) ?_
    refine lv_aload_n hx hb dX4_take_79 rfl (lv_at hl 1 rfl) ?_
    refine g_get (C := RX4) (T := TX4) (N := 43) (ci := 6) (v := .ref (b 28)) hx hb hts hi6 hown hK hW fM rfl 28 (by decide) (hts (.fieldLink RX4 84 "LongTransferModel" "of" "[I") (by decide +kernel)) (fun _ h9 => h9) rfl dX4_take_80 ?_
    refine lv_iload_n hx hb dX4_take_83 rfl (lv_at hl 2 rfl) ?_
    refine g_iald hx hb hK hW f28_ (by omega) (by omega) (by omega) dX4_take_84 ?_
    refine g_iast (x := muA 28 (ff)) hx hb hK hW hS f17_ (by omega) (by omega) (by omega) dX4_take_85 (fun H locs hW hS => ?_)
    obtain ⟨en1w, hen1w⟩ : ∃ x : en_T, x = e2 enA 37 0 (some (b 17, aI dA (4) (uF (muA 17) (r) (muA 28 (ff))))) := ⟨_, rfl⟩
    rw [← hen1w] at hW
    obtain ⟨mu1w, hmu1w⟩ : ∃ x : Mu, x = u2 muA 17 (r) (muA 28 (ff)) := ⟨_, rfl⟩
    have hE1w : EM dA b mu1w en1w := by rw [hen1w, hmu1w]; exact em_w hEA (k0 := 17) (j := r) (v := muA 28 (ff)) (by decide)
    have hF1w : FM enA en1w := fun k i q => by rw [hen1w]; exact e2_k (fun w => q (by rw [w]; decide))
    have hF1w := FM.tr hFA hF1w
    replace t1_0 : mu1w 1 (0) = muA 1 (0) := by rw [hmu1w]; exact (u2_n (fun q => absurd q.1 (by decide))).trans t1_0
    replace t2_0 : mu1w 2 (0) = muA 2 (0) := by rw [hmu1w]; exact (u2_n (fun q => absurd q.1 (by decide))).trans t2_0
    replace t26_0 : mu1w 26 (0) = muA 26 (0) := by rw [hmu1w]; exact (u2_n (fun q => absurd q.1 (by decide))).trans t26_0
    replace t27_ff : mu1w 27 (ff) = muA 27 (ff) := by rw [hmu1w]; exact (u2_n (fun q => absurd q.1 (by decide))).trans t27_ff
    replace t28_ff : mu1w 28 (ff) = muA 28 (ff) := by rw [hmu1w]; exact (u2_n (fun q => absurd q.1 (by decide))).trans t28_ff
    replace t29_ff : mu1w 29 (ff) = muA 29 (ff) := by rw [hmu1w]; exact (u2_n (fun q => absurd q.1 (by decide))).trans t29_ff
    replace t30_ff : mu1w 30 (ff) = muA 30 (ff) := by rw [hmu1w]; exact (u2_n (fun q => absurd q.1 (by decide))).trans t30_ff
    replace t16_r : mu1w 16 (r) = muA 16 (r) := by rw [hmu1w]; exact (u2_n (fun q => absurd q.1 (by decide))).trans t16_r
    replace t17_r : mu1w 17 (r) = muA 28 (ff) := by rw [hmu1w]; exact u2_s _ _ _ _
    replace t18_r : mu1w 18 (r) = muA 18 (r) := by rw [hmu1w]; exact (u2_n (fun q => absurd q.1 (by decide))).trans t18_r
    replace t19_r : mu1w 19 (r) = muA 19 (r) := by rw [hmu1w]; exact (u2_n (fun q => absurd q.1 (by decide))).trans t19_r
    replace t20_r : mu1w 20 (r) = muA 20 (r) := by rw [hmu1w]; exact (u2_n (fun q => absurd q.1 (by decide))).trans t20_r
    replace t21_r : mu1w 21 (r) = muA 21 (r) := by rw [hmu1w]; exact (u2_n (fun q => absurd q.1 (by decide))).trans t21_r
    have fM : en1w 20 0 = some (b 0, .inr (6, [.int (iZ (mu1w 0 0)), .int (iZ (mu1w 1 0)), .long (lZ (mu1w 2 0)), .int (iZ (mu1w 3 0)), .ref (b 4), .ref (b 5), .ref (b 6), .ref (b 7), .ref (b 8), .ref (b 9), .ref (b 10), .ref (b 11), .ref (b 12), .ref (b 13), .ref (b 14), .ref (b 15), .ref (b 16), .ref (b 17), .ref (b 18), .ref (b 19), .ref (b 20), .ref (b 21), .ref (b 22), .ref (b 23), .ref (b 24), .ref (b 25), .int (iZ (mu1w 26 0)), .ref (b 27), .ref (b 28), .ref (b 29), .ref (b 30), .ref (b 31), .ref (b 32), .ref (b 33), .ref (b 34), .int (iZ (mu1w 35 0)), .int (iZ (mu1w 36 0)), .int (iZ (mu1w 37 0)), .int (iZ (mu1w 38 0)), .int (iZ (mu1w 39 0)), .int (iZ (mu1w 40 0)), .ref (b 41), .ref (b 42)])) := hE1w.1
    have f16_ : en1w 36 0 = some (b 16, aI dA (4) (mu1w 16)) := hE1w.2 16 (by decide)
    have f17_ : en1w 37 0 = some (b 17, aI dA (4) (mu1w 17)) := hE1w.2 17 (by decide)
    have f18_ : en1w 38 0 = some (b 18, aI dA (4) (mu1w 18)) := hE1w.2 18 (by decide)
    have f19_ : en1w 39 0 = some (b 19, aI dA (4) (mu1w 19)) := hE1w.2 19 (by decide)
    have f20_ : en1w 40 0 = some (b 20, aI dA (4) (mu1w 20)) := hE1w.2 20 (by decide)
    have f21_ : en1w 41 0 = some (b 21, aI dA (4) (mu1w 21)) := hE1w.2 21 (by decide)
    have f27_ : en1w 47 0 = some (b 27, aI dA (6001) (mu1w 27)) := hE1w.2 27 (by decide)
    have f28_ : en1w 48 0 = some (b 28, aI dA (6001) (mu1w 28)) := hE1w.2 28 (by decide)
    have f29_ : en1w 49 0 = some (b 29, aI dA (6001) (mu1w 29)) := hE1w.2 29 (by decide)
    have f30_ : en1w 50 0 = some (b 30, aI dA (6001) (mu1w 30)) := hE1w.2 30 (by decide)
    refine lv_aload_n hx hb dX4_take_86 rfl (lv_at hl 1 rfl) ?_
    refine g_get (C := RX4) (T := TX4) (N := 43) (ci := 6) (v := .ref (b 19)) hx hb hts hi6 hown hK hW fM rfl 19 (by decide) (hts (.fieldLink RX4 59 "LongTransferModel" "come" "[I") (by decide +kernel)) (fun _ h9 => h9) rfl dX4_take_87 ?_
    refine lv_iload_n hx hb dX4_take_90 rfl (lv_at hl 0 rfl) ?_
    refine z_iconst hx hb dX4_take_91 ?_
    refine g_iast (x := 0) hx hb hK hW hS f19_ (by omega) (by omega) (by omega) dX4_take_92 (fun H locs hW hS => ?_)
    obtain ⟨en2w, hen2w⟩ : ∃ x : en_T, x = e2 en1w 39 0 (some (b 19, aI dA (4) (uF (mu1w 19) (r) (0)))) := ⟨_, rfl⟩
    rw [← hen2w] at hW
    obtain ⟨mu2w, hmu2w⟩ : ∃ x : Mu, x = u2 mu1w 19 (r) (0) := ⟨_, rfl⟩
    have hE2w : EM dA b mu2w en2w := by rw [hen2w, hmu2w]; exact em_w hE1w (k0 := 19) (j := r) (v := 0) (by decide)
    have hF2w : FM en1w en2w := fun k i q => by rw [hen2w]; exact e2_k (fun w => q (by rw [w]; decide))
    have hF2w := FM.tr hF1w hF2w
    replace t1_0 : mu2w 1 (0) = muA 1 (0) := by rw [hmu2w]; exact (u2_n (fun q => absurd q.1 (by decide))).trans t1_0
    replace t2_0 : mu2w 2 (0) = muA 2 (0) := by rw [hmu2w]; exact (u2_n (fun q => absurd q.1 (by decide))).trans t2_0
    replace t26_0 : mu2w 26 (0) = muA 26 (0) := by rw [hmu2w]; exact (u2_n (fun q => absurd q.1 (by decide))).trans t26_0
    replace t27_ff : mu2w 27 (ff) = muA 27 (ff) := by rw [hmu2w]; exact (u2_n (fun q => absurd q.1 (by decide))).trans t27_ff
    replace t28_ff : mu2w 28 (ff) = muA 28 (ff) := by rw [hmu2w]; exact (u2_n (fun q => absurd q.1 (by decide))).trans t28_ff
    replace t29_ff : mu2w 29 (ff) = muA 29 (ff) := by rw [hmu2w]; exact (u2_n (fun q => absurd q.1 (by decide))).trans t29_ff
    replace t30_ff : mu2w 30 (ff) = muA 30 (ff) := by rw [hmu2w]; exact (u2_n (fun q => absurd q.1 (by decide))).trans t30_ff
    replace t16_r : mu2w 16 (r) = muA 16 (r) := by rw [hmu2w]; exact (u2_n (fun q => absurd q.1 (by decide))).trans t16_r
    replace t17_r : mu2w 17 (r) = muA 28 (ff) := by rw [hmu2w]; exact (u2_n (fun q => absurd q.1 (by decide))).trans t17_r
    replace t18_r : mu2w 18 (r) = muA 18 (r) := by rw [hmu2w]; exact (u2_n (fun q => absurd q.1 (by decide))).trans t18_r
    replace t19_r : mu2w 19 (r) = 0 := by rw [hmu2w]; exact u2_s _ _ _ _
    replace t20_r : mu2w 20 (r) = muA 20 (r) := by rw [hmu2w]; exact (u2_n (fun q => absurd q.1 (by decide))).trans t20_r
    replace t21_r : mu2w 21 (r) = muA 21 (r) := by rw [hmu2w]; exact (u2_n (fun q => absurd q.1 (by decide))).trans t21_r
    have fM : en2w 20 0 = some (b 0, .inr (6, [.int (iZ (mu2w 0 0)), .int (iZ (mu2w 1 0)), .long (lZ (mu2w 2 0)), .int (iZ (mu2w 3 0)), .ref (b 4), .ref (b 5), .ref (b 6), .ref (b 7), .ref (b 8), .ref (b 9), .ref (b 10), .ref (b 11), .ref (b 12), .ref (b 13), .ref (b 14), .ref (b 15), .ref (b 16), .ref (b 17), .ref (b 18), .ref (b 19), .ref (b 20), .ref (b 21), .ref (b 22), .ref (b 23), .ref (b 24), .ref (b 25), .int (iZ (mu2w 26 0)), .ref (b 27), .ref (b 28), .ref (b 29), .ref (b 30), .ref (b 31), .ref (b 32), .ref (b 33), .ref (b 34), .int (iZ (mu2w 35 0)), .int (iZ (mu2w 36 0)), .int (iZ (mu2w 37 0)), .int (iZ (mu2w 38 0)), .int (iZ (mu2w 39 0)), .int (iZ (mu2w 40 0)), .ref (b 41), .ref (b 42)])) := hE2w.1
    have f16_ : en2w 36 0 = some (b 16, aI dA (4) (mu2w 16)) := hE2w.2 16 (by decide)
    have f17_ : en2w 37 0 = some (b 17, aI dA (4) (mu2w 17)) := hE2w.2 17 (by decide)
    have f18_ : en2w 38 0 = some (b 18, aI dA (4) (mu2w 18)) := hE2w.2 18 (by decide)
    have f19_ : en2w 39 0 = some (b 19, aI dA (4) (mu2w 19)) := hE2w.2 19 (by decide)
    have f20_ : en2w 40 0 = some (b 20, aI dA (4) (mu2w 20)) := hE2w.2 20 (by decide)
    have f21_ : en2w 41 0 = some (b 21, aI dA (4) (mu2w 21)) := hE2w.2 21 (by decide)
    have f27_ : en2w 47 0 = some (b 27, aI dA (6001) (mu2w 27)) := hE2w.2 27 (by decide)
    have f28_ : en2w 48 0 = some (b 28, aI dA (6001) (mu2w 28)) := hE2w.2 28 (by decide)
    have f29_ : en2w 49 0 = some (b 29, aI dA (6001) (mu2w 29)) := hE2w.2 29 (by decide)
    have f30_ : en2w 50 0 = some (b 30, aI dA (6001) (mu2w 30)) := hE2w.2 30 (by decide)
    refine lv_aload_n hx hb dX4_take_93 rfl (lv_at hl 1 rfl) ?_
    refine g_get (C := RX4) (T := TX4) (N := 43) (ci := 6) (v := .ref (b 21)) hx hb hts hi6 hown hK hW fM rfl 21 (by decide) (hts (.fieldLink RX4 65 "LongTransferModel" "said" "[I") (by decide +kernel)) (fun _ h9 => h9) rfl dX4_take_94 ?_
    refine lv_iload_n hx hb dX4_take_97 rfl (lv_at hl 0 rfl) ?_
    refine z_iconst hx hb dX4_take_98 ?_
    refine g_iast (x := 0) hx hb hK hW hS f21_ (by omega) (by omega) (by omega) dX4_take_99 (fun H locs hW hS => ?_)
    obtain ⟨en3w, hen3w⟩ : ∃ x : en_T, x = e2 en2w 41 0 (some (b 21, aI dA (4) (uF (mu2w 21) (r) (0)))) := ⟨_, rfl⟩
    rw [← hen3w] at hW
    obtain ⟨mu3w, hmu3w⟩ : ∃ x : Mu, x = u2 mu2w 21 (r) (0) := ⟨_, rfl⟩
    have hE3w : EM dA b mu3w en3w := by rw [hen3w, hmu3w]; exact em_w hE2w (k0 := 21) (j := r) (v := 0) (by decide)
    have hF3w : FM en2w en3w := fun k i q => by rw [hen3w]; exact e2_k (fun w => q (by rw [w]; decide))
    have hF3w := FM.tr hF2w hF3w
    replace t1_0 : mu3w 1 (0) = muA 1 (0) := by rw [hmu3w]; exact (u2_n (fun q => absurd q.1 (by decide))).trans t1_0
    replace t2_0 : mu3w 2 (0) = muA 2 (0) := by rw [hmu3w]; exact (u2_n (fun q => absurd q.1 (by decide))).trans t2_0
    replace t26_0 : mu3w 26 (0) = muA 26 (0) := by rw [hmu3w]; exact (u2_n (fun q => absurd q.1 (by decide))).trans t26_0
    replace t27_ff : mu3w 27 (ff) = muA 27 (ff) := by rw [hmu3w]; exact (u2_n (fun q => absurd q.1 (by decide))).trans t27_ff
    replace t28_ff : mu3w 28 (ff) = muA 28 (ff) := by rw [hmu3w]; exact (u2_n (fun q => absurd q.1 (by decide))).trans t28_ff
    replace t29_ff : mu3w 29 (ff) = muA 29 (ff) := by rw [hmu3w]; exact (u2_n (fun q => absurd q.1 (by decide))).trans t29_ff
    replace t30_ff : mu3w 30 (ff) = muA 30 (ff) := by rw [hmu3w]; exact (u2_n (fun q => absurd q.1 (by decide))).trans t30_ff
    replace t16_r : mu3w 16 (r) = muA 16 (r) := by rw [hmu3w]; exact (u2_n (fun q => absurd q.1 (by decide))).trans t16_r
    replace t17_r : mu3w 17 (r) = muA 28 (ff) := by rw [hmu3w]; exact (u2_n (fun q => absurd q.1 (by decide))).trans t17_r
    replace t18_r : mu3w 18 (r) = muA 18 (r) := by rw [hmu3w]; exact (u2_n (fun q => absurd q.1 (by decide))).trans t18_r
    replace t19_r : mu3w 19 (r) = 0 := by rw [hmu3w]; exact (u2_n (fun q => absurd q.1 (by decide))).trans t19_r
    replace t20_r : mu3w 20 (r) = muA 20 (r) := by rw [hmu3w]; exact (u2_n (fun q => absurd q.1 (by decide))).trans t20_r
    replace t21_r : mu3w 21 (r) = 0 := by rw [hmu3w]; exact u2_s _ _ _ _
    have fM : en3w 20 0 = some (b 0, .inr (6, [.int (iZ (mu3w 0 0)), .int (iZ (mu3w 1 0)), .long (lZ (mu3w 2 0)), .int (iZ (mu3w 3 0)), .ref (b 4), .ref (b 5), .ref (b 6), .ref (b 7), .ref (b 8), .ref (b 9), .ref (b 10), .ref (b 11), .ref (b 12), .ref (b 13), .ref (b 14), .ref (b 15), .ref (b 16), .ref (b 17), .ref (b 18), .ref (b 19), .ref (b 20), .ref (b 21), .ref (b 22), .ref (b 23), .ref (b 24), .ref (b 25), .int (iZ (mu3w 26 0)), .ref (b 27), .ref (b 28), .ref (b 29), .ref (b 30), .ref (b 31), .ref (b 32), .ref (b 33), .ref (b 34), .int (iZ (mu3w 35 0)), .int (iZ (mu3w 36 0)), .int (iZ (mu3w 37 0)), .int (iZ (mu3w 38 0)), .int (iZ (mu3w 39 0)), .int (iZ (mu3w 40 0)), .ref (b 41), .ref (b 42)])) := hE3w.1
    have f16_ : en3w 36 0 = some (b 16, aI dA (4) (mu3w 16)) := hE3w.2 16 (by decide)
    have f17_ : en3w 37 0 = some (b 17, aI dA (4) (mu3w 17)) := hE3w.2 17 (by decide)
    have f18_ : en3w 38 0 = some (b 18, aI dA (4) (mu3w 18)) := hE3w.2 18 (by decide)
    have f19_ : en3w 39 0 = some (b 19, aI dA (4) (mu3w 19)) := hE3w.2 19 (by decide)
    have f20_ : en3w 40 0 = some (b 20, aI dA (4) (mu3w 20)) := hE3w.2 20 (by decide)
    have f21_ : en3w 41 0 = some (b 21, aI dA (4) (mu3w 21)) := hE3w.2 21 (by decide)
    have f27_ : en3w 47 0 = some (b 27, aI dA (6001) (mu3w 27)) := hE3w.2 27 (by decide)
    have f28_ : en3w 48 0 = some (b 28, aI dA (6001) (mu3w 28)) := hE3w.2 28 (by decide)
    have f29_ : en3w 49 0 = some (b 29, aI dA (6001) (mu3w 29)) := hE3w.2 29 (by decide)
    have f30_ : en3w 50 0 = some (b 30, aI dA (6001) (mu3w 30)) := hE3w.2 30 (by decide)
    refine lv_aload_n hx hb dX4_take_100 rfl (lv_at hl 1 rfl) ?_
    refine g_get (C := RX4) (T := TX4) (N := 43) (ci := 6) (v := .ref (b 18)) hx hb hts hi6 hown hK hW fM rfl 18 (by decide) (hts (.fieldLink RX4 56 "LongTransferModel" "length" "[I") (by decide +kernel)) (fun _ h9 => h9) rfl dX4_take_101 ?_
    refine lv_iload_n hx hb dX4_take_104 rfl (lv_at hl 0 rfl) ?_
    refine lv_aload_n hx hb dX4_take_105 rfl (lv_at hl 1 rfl) ?_
    refine g_get (C := RX4) (T := TX4) (N := 43) (ci := 6) (v := .ref (b 27)) hx hb hts hi6 hown hK hW fM rfl 27 (by decide) (hts (.fieldLink RX4 81 "LongTransferModel" "kind" "[I") (by decide +kernel)) (fun _ h9 => h9) rfl dX4_take_106 ?_
    refine lv_iload_n hx hb dX4_take_109 rfl (lv_at hl 2 rfl) ?_
    refine g_iald hx hb hK hW f27_ (by omega) (by omega) (by omega) dX4_take_110 ?_
    rw [t27_ff]
    refine z_if_ne (tgt := 123) hx hb dX4_take_111 (by decide) (by omega) (fun c_111 => ?_) (fun c_111 => ?_)
    · have hfs1 := hfs (by omega)
      refine lv_aload_n hx hb dX4_take_123 rfl (lv_at hl 1 rfl) ?_
      refine g_get (C := RX4) (T := TX4) (N := 43) (ci := 6) (v := .ref (b 29)) hx hb hts hi6 hown hK hW fM rfl 29 (by decide) (hts (.fieldLink RX4 87 "LongTransferModel" "number" "[I") (by decide +kernel)) (fun _ h9 => h9) rfl dX4_take_124 ?_
      refine lv_iload_n hx hb dX4_take_127 rfl (lv_at hl 2 rfl) ?_
      refine g_iald hx hb hK hW f29_ (by omega) (by omega) (by omega) dX4_take_128 ?_
      rw [t29_ff]
      refine g_iast (x := muA 29 (ff)) hx hb hK hW hS f18_ (by omega) (by omega) (by omega) dX4_take_129 (fun H locs hW hS => ?_)
      obtain ⟨en4w, hen4w⟩ : ∃ x : en_T, x = e2 en3w 38 0 (some (b 18, aI dA (4) (uF (mu3w 18) (r) (muA 29 (ff))))) := ⟨_, rfl⟩
      rw [← hen4w] at hW
      obtain ⟨mu4w, hmu4w⟩ : ∃ x : Mu, x = u2 mu3w 18 (r) (muA 29 (ff)) := ⟨_, rfl⟩
      have hE4w : EM dA b mu4w en4w := by rw [hen4w, hmu4w]; exact em_w hE3w (k0 := 18) (j := r) (v := muA 29 (ff)) (by decide)
      have hF4w : FM en3w en4w := fun k i q => by rw [hen4w]; exact e2_k (fun w => q (by rw [w]; decide))
      have hF4w := FM.tr hF3w hF4w
      replace t1_0 : mu4w 1 (0) = muA 1 (0) := by rw [hmu4w]; exact (u2_n (fun q => absurd q.1 (by decide))).trans t1_0
      replace t2_0 : mu4w 2 (0) = muA 2 (0) := by rw [hmu4w]; exact (u2_n (fun q => absurd q.1 (by decide))).trans t2_0
      replace t26_0 : mu4w 26 (0) = muA 26 (0) := by rw [hmu4w]; exact (u2_n (fun q => absurd q.1 (by decide))).trans t26_0
      replace t27_ff : mu4w 27 (ff) = muA 27 (ff) := by rw [hmu4w]; exact (u2_n (fun q => absurd q.1 (by decide))).trans t27_ff
      replace t28_ff : mu4w 28 (ff) = muA 28 (ff) := by rw [hmu4w]; exact (u2_n (fun q => absurd q.1 (by decide))).trans t28_ff
      replace t29_ff : mu4w 29 (ff) = muA 29 (ff) := by rw [hmu4w]; exact (u2_n (fun q => absurd q.1 (by decide))).trans t29_ff
      replace t30_ff : mu4w 30 (ff) = muA 30 (ff) := by rw [hmu4w]; exact (u2_n (fun q => absurd q.1 (by decide))).trans t30_ff
      replace t16_r : mu4w 16 (r) = muA 16 (r) := by rw [hmu4w]; exact (u2_n (fun q => absurd q.1 (by decide))).trans t16_r
      replace t17_r : mu4w 17 (r) = muA 28 (ff) := by rw [hmu4w]; exact (u2_n (fun q => absurd q.1 (by decide))).trans t17_r
      replace t18_r : mu4w 18 (r) = muA 29 (ff) := by rw [hmu4w]; exact u2_s _ _ _ _
      replace t19_r : mu4w 19 (r) = 0 := by rw [hmu4w]; exact (u2_n (fun q => absurd q.1 (by decide))).trans t19_r
      replace t20_r : mu4w 20 (r) = muA 20 (r) := by rw [hmu4w]; exact (u2_n (fun q => absurd q.1 (by decide))).trans t20_r
      replace t21_r : mu4w 21 (r) = 0 := by rw [hmu4w]; exact (u2_n (fun q => absurd q.1 (by decide))).trans t21_r
      have fM : en4w 20 0 = some (b 0, .inr (6, [.int (iZ (mu4w 0 0)), .int (iZ (mu4w 1 0)), .long (lZ (mu4w 2 0)), .int (iZ (mu4w 3 0)), .ref (b 4), .ref (b 5), .ref (b 6), .ref (b 7), .ref (b 8), .ref (b 9), .ref (b 10), .ref (b 11), .ref (b 12), .ref (b 13), .ref (b 14), .ref (b 15), .ref (b 16), .ref (b 17), .ref (b 18), .ref (b 19), .ref (b 20), .ref (b 21), .ref (b 22), .ref (b 23), .ref (b 24), .ref (b 25), .int (iZ (mu4w 26 0)), .ref (b 27), .ref (b 28), .ref (b 29), .ref (b 30), .ref (b 31), .ref (b 32), .ref (b 33), .ref (b 34), .int (iZ (mu4w 35 0)), .int (iZ (mu4w 36 0)), .int (iZ (mu4w 37 0)), .int (iZ (mu4w 38 0)), .int (iZ (mu4w 39 0)), .int (iZ (mu4w 40 0)), .ref (b 41), .ref (b 42)])) := hE4w.1
      have f16_ : en4w 36 0 = some (b 16, aI dA (4) (mu4w 16)) := hE4w.2 16 (by decide)
      have f17_ : en4w 37 0 = some (b 17, aI dA (4) (mu4w 17)) := hE4w.2 17 (by decide)
      have f18_ : en4w 38 0 = some (b 18, aI dA (4) (mu4w 18)) := hE4w.2 18 (by decide)
      have f19_ : en4w 39 0 = some (b 19, aI dA (4) (mu4w 19)) := hE4w.2 19 (by decide)
      have f20_ : en4w 40 0 = some (b 20, aI dA (4) (mu4w 20)) := hE4w.2 20 (by decide)
      have f21_ : en4w 41 0 = some (b 21, aI dA (4) (mu4w 21)) := hE4w.2 21 (by decide)
      have f27_ : en4w 47 0 = some (b 27, aI dA (6001) (mu4w 27)) := hE4w.2 27 (by decide)
      have f28_ : en4w 48 0 = some (b 28, aI dA (6001) (mu4w 28)) := hE4w.2 28 (by decide)
      have f29_ : en4w 49 0 = some (b 29, aI dA (6001) (mu4w 29)) := hE4w.2 29 (by decide)
      have f30_ : en4w 50 0 = some (b 30, aI dA (6001) (mu4w 30)) := hE4w.2 30 (by decide)
      refine lv_aload_n hx hb dX4_take_130 rfl (lv_at hl 1 rfl) ?_
      refine g_get (C := RX4) (T := TX4) (N := 43) (ci := 6) (v := .ref (b 27)) hx hb hts hi6 hown hK hW fM rfl 27 (by decide) (hts (.fieldLink RX4 81 "LongTransferModel" "kind" "[I") (by decide +kernel)) (fun _ h9 => h9) rfl dX4_take_131 ?_
      refine lv_iload_n hx hb dX4_take_134 rfl (lv_at hl 2 rfl) ?_
      refine g_iald hx hb hK hW f27_ (by omega) (by omega) (by omega) dX4_take_135 ?_
      rw [t27_ff]
      refine z_if_ne (tgt := 153) hx hb dX4_take_136 (by decide) (by omega) (fun _ => ?_) (fun c_q => absurd c_q (by omega))
      refine lv_aload_n hx hb dX4_take_153 rfl (lv_at hl 1 rfl) ?_
      refine g_get (C := RX4) (T := TX4) (N := 43) (ci := 6) (v := .ref (b 29)) hx hb hts hi6 hown hK hW fM rfl 29 (by decide) (hts (.fieldLink RX4 87 "LongTransferModel" "number" "[I") (by decide +kernel)) (fun _ h9 => h9) rfl dX4_take_154 ?_
      refine lv_iload_n hx hb dX4_take_157 rfl (lv_at hl 2 rfl) ?_
      refine g_iald hx hb hK hW f29_ (by omega) (by omega) (by omega) dX4_take_158 ?_
      rw [t29_ff]
      refine lv_aload_n hx hb dX4_take_159 rfl (lv_at hl 1 rfl) ?_
      refine g_get (C := RX4) (T := TX4) (N := 43) (ci := 6) (v := .int (iZ (mu4w 1 0))) hx hb hts hi6 hown hK hW fM rfl 1 (by decide) (hts (.fieldLink RX4 117 "LongTransferModel" "room" "I") (by decide +kernel)) (fun _ h9 => h9) rfl dX4_take_160 ?_
      rw [t1_0]
      refine z_icmp_le (tgt := 197) hx hb dX4_take_163 (by decide) (by omega) (by omega) (fun c_163 => ?_) (fun c_163 => ?_)
      · refine lv_aload_n hx hb dX4_take_197 rfl (lv_at hl 1 rfl) ?_
        refine g_get (C := RX4) (T := TX4) (N := 43) (ci := 6) (v := .ref (b 16)) hx hb hts hi6 hown hK hW fM rfl 16 (by decide) (hts (.fieldLink RX4 50 "LongTransferModel" "place" "[I") (by decide +kernel)) (fun _ h9 => h9) rfl dX4_take_198 ?_
        refine lv_iload_n hx hb dX4_take_201 rfl (lv_at hl 0 rfl) ?_
        refine z_iconst hx hb dX4_take_202 ?_
        refine g_iast (x := 1) hx hb hK hW hS f16_ (by omega) (by omega) (by omega) dX4_take_203 (fun H locs hW hS => ?_)
        obtain ⟨en5w, hen5w⟩ : ∃ x : en_T, x = e2 en4w 36 0 (some (b 16, aI dA (4) (uF (mu4w 16) (r) (1)))) := ⟨_, rfl⟩
        rw [← hen5w] at hW
        obtain ⟨mu5w, hmu5w⟩ : ∃ x : Mu, x = u2 mu4w 16 (r) (1) := ⟨_, rfl⟩
        have hE5w : EM dA b mu5w en5w := by rw [hen5w, hmu5w]; exact em_w hE4w (k0 := 16) (j := r) (v := 1) (by decide)
        have hF5w : FM en4w en5w := fun k i q => by rw [hen5w]; exact e2_k (fun w => q (by rw [w]; decide))
        have hF5w := FM.tr hF4w hF5w
        replace t1_0 : mu5w 1 (0) = muA 1 (0) := by rw [hmu5w]; exact (u2_n (fun q => absurd q.1 (by decide))).trans t1_0
        replace t2_0 : mu5w 2 (0) = muA 2 (0) := by rw [hmu5w]; exact (u2_n (fun q => absurd q.1 (by decide))).trans t2_0
        replace t26_0 : mu5w 26 (0) = muA 26 (0) := by rw [hmu5w]; exact (u2_n (fun q => absurd q.1 (by decide))).trans t26_0
        replace t27_ff : mu5w 27 (ff) = muA 27 (ff) := by rw [hmu5w]; exact (u2_n (fun q => absurd q.1 (by decide))).trans t27_ff
        replace t28_ff : mu5w 28 (ff) = muA 28 (ff) := by rw [hmu5w]; exact (u2_n (fun q => absurd q.1 (by decide))).trans t28_ff
        replace t29_ff : mu5w 29 (ff) = muA 29 (ff) := by rw [hmu5w]; exact (u2_n (fun q => absurd q.1 (by decide))).trans t29_ff
        replace t30_ff : mu5w 30 (ff) = muA 30 (ff) := by rw [hmu5w]; exact (u2_n (fun q => absurd q.1 (by decide))).trans t30_ff
        replace t16_r : mu5w 16 (r) = 1 := by rw [hmu5w]; exact u2_s _ _ _ _
        replace t17_r : mu5w 17 (r) = muA 28 (ff) := by rw [hmu5w]; exact (u2_n (fun q => absurd q.1 (by decide))).trans t17_r
        replace t18_r : mu5w 18 (r) = muA 29 (ff) := by rw [hmu5w]; exact (u2_n (fun q => absurd q.1 (by decide))).trans t18_r
        replace t19_r : mu5w 19 (r) = 0 := by rw [hmu5w]; exact (u2_n (fun q => absurd q.1 (by decide))).trans t19_r
        replace t20_r : mu5w 20 (r) = muA 20 (r) := by rw [hmu5w]; exact (u2_n (fun q => absurd q.1 (by decide))).trans t20_r
        replace t21_r : mu5w 21 (r) = 0 := by rw [hmu5w]; exact (u2_n (fun q => absurd q.1 (by decide))).trans t21_r
        have fM : en5w 20 0 = some (b 0, .inr (6, [.int (iZ (mu5w 0 0)), .int (iZ (mu5w 1 0)), .long (lZ (mu5w 2 0)), .int (iZ (mu5w 3 0)), .ref (b 4), .ref (b 5), .ref (b 6), .ref (b 7), .ref (b 8), .ref (b 9), .ref (b 10), .ref (b 11), .ref (b 12), .ref (b 13), .ref (b 14), .ref (b 15), .ref (b 16), .ref (b 17), .ref (b 18), .ref (b 19), .ref (b 20), .ref (b 21), .ref (b 22), .ref (b 23), .ref (b 24), .ref (b 25), .int (iZ (mu5w 26 0)), .ref (b 27), .ref (b 28), .ref (b 29), .ref (b 30), .ref (b 31), .ref (b 32), .ref (b 33), .ref (b 34), .int (iZ (mu5w 35 0)), .int (iZ (mu5w 36 0)), .int (iZ (mu5w 37 0)), .int (iZ (mu5w 38 0)), .int (iZ (mu5w 39 0)), .int (iZ (mu5w 40 0)), .ref (b 41), .ref (b 42)])) := hE5w.1
        have f16_ : en5w 36 0 = some (b 16, aI dA (4) (mu5w 16)) := hE5w.2 16 (by decide)
        have f17_ : en5w 37 0 = some (b 17, aI dA (4) (mu5w 17)) := hE5w.2 17 (by decide)
        have f18_ : en5w 38 0 = some (b 18, aI dA (4) (mu5w 18)) := hE5w.2 18 (by decide)
        have f19_ : en5w 39 0 = some (b 19, aI dA (4) (mu5w 19)) := hE5w.2 19 (by decide)
        have f20_ : en5w 40 0 = some (b 20, aI dA (4) (mu5w 20)) := hE5w.2 20 (by decide)
        have f21_ : en5w 41 0 = some (b 21, aI dA (4) (mu5w 21)) := hE5w.2 21 (by decide)
        have f27_ : en5w 47 0 = some (b 27, aI dA (6001) (mu5w 27)) := hE5w.2 27 (by decide)
        have f28_ : en5w 48 0 = some (b 28, aI dA (6001) (mu5w 28)) := hE5w.2 28 (by decide)
        have f29_ : en5w 49 0 = some (b 29, aI dA (6001) (mu5w 29)) := hE5w.2 29 (by decide)
        have f30_ : en5w 50 0 = some (b 30, aI dA (6001) (mu5w 30)) := hE5w.2 30 (by decide)
        refine lv_aload_n hx hb dX4_take_204 rfl (lv_at hl 1 rfl) ?_
        refine g_get (C := RX4) (T := TX4) (N := 43) (ci := 6) (v := .ref (b 20)) hx hb hts hi6 hown hK hW fM rfl 20 (by decide) (hts (.fieldLink RX4 62 "LongTransferModel" "awaited" "[I") (by decide +kernel)) (fun _ h9 => h9) rfl dX4_take_205 ?_
        refine lv_iload_n hx hb dX4_take_208 rfl (lv_at hl 0 rfl) ?_
        refine z_iconst hx hb dX4_take_209 ?_
        refine g_iast (x := 1) hx hb hK hW hS f20_ (by omega) (by omega) (by omega) dX4_take_210 (fun H locs hW hS => ?_)
        obtain ⟨en6w, hen6w⟩ : ∃ x : en_T, x = e2 en5w 40 0 (some (b 20, aI dA (4) (uF (mu5w 20) (r) (1)))) := ⟨_, rfl⟩
        rw [← hen6w] at hW
        obtain ⟨mu6w, hmu6w⟩ : ∃ x : Mu, x = u2 mu5w 20 (r) (1) := ⟨_, rfl⟩
        have hE6w : EM dA b mu6w en6w := by rw [hen6w, hmu6w]; exact em_w hE5w (k0 := 20) (j := r) (v := 1) (by decide)
        have hF6w : FM en5w en6w := fun k i q => by rw [hen6w]; exact e2_k (fun w => q (by rw [w]; decide))
        have hF6w := FM.tr hF5w hF6w
        replace t1_0 : mu6w 1 (0) = muA 1 (0) := by rw [hmu6w]; exact (u2_n (fun q => absurd q.1 (by decide))).trans t1_0
        replace t2_0 : mu6w 2 (0) = muA 2 (0) := by rw [hmu6w]; exact (u2_n (fun q => absurd q.1 (by decide))).trans t2_0
        replace t26_0 : mu6w 26 (0) = muA 26 (0) := by rw [hmu6w]; exact (u2_n (fun q => absurd q.1 (by decide))).trans t26_0
        replace t27_ff : mu6w 27 (ff) = muA 27 (ff) := by rw [hmu6w]; exact (u2_n (fun q => absurd q.1 (by decide))).trans t27_ff
        replace t28_ff : mu6w 28 (ff) = muA 28 (ff) := by rw [hmu6w]; exact (u2_n (fun q => absurd q.1 (by decide))).trans t28_ff
        replace t29_ff : mu6w 29 (ff) = muA 29 (ff) := by rw [hmu6w]; exact (u2_n (fun q => absurd q.1 (by decide))).trans t29_ff
        replace t30_ff : mu6w 30 (ff) = muA 30 (ff) := by rw [hmu6w]; exact (u2_n (fun q => absurd q.1 (by decide))).trans t30_ff
        replace t16_r : mu6w 16 (r) = 1 := by rw [hmu6w]; exact (u2_n (fun q => absurd q.1 (by decide))).trans t16_r
        replace t17_r : mu6w 17 (r) = muA 28 (ff) := by rw [hmu6w]; exact (u2_n (fun q => absurd q.1 (by decide))).trans t17_r
        replace t18_r : mu6w 18 (r) = muA 29 (ff) := by rw [hmu6w]; exact (u2_n (fun q => absurd q.1 (by decide))).trans t18_r
        replace t19_r : mu6w 19 (r) = 0 := by rw [hmu6w]; exact (u2_n (fun q => absurd q.1 (by decide))).trans t19_r
        replace t20_r : mu6w 20 (r) = 1 := by rw [hmu6w]; exact u2_s _ _ _ _
        replace t21_r : mu6w 21 (r) = 0 := by rw [hmu6w]; exact (u2_n (fun q => absurd q.1 (by decide))).trans t21_r
        have fM : en6w 20 0 = some (b 0, .inr (6, [.int (iZ (mu6w 0 0)), .int (iZ (mu6w 1 0)), .long (lZ (mu6w 2 0)), .int (iZ (mu6w 3 0)), .ref (b 4), .ref (b 5), .ref (b 6), .ref (b 7), .ref (b 8), .ref (b 9), .ref (b 10), .ref (b 11), .ref (b 12), .ref (b 13), .ref (b 14), .ref (b 15), .ref (b 16), .ref (b 17), .ref (b 18), .ref (b 19), .ref (b 20), .ref (b 21), .ref (b 22), .ref (b 23), .ref (b 24), .ref (b 25), .int (iZ (mu6w 26 0)), .ref (b 27), .ref (b 28), .ref (b 29), .ref (b 30), .ref (b 31), .ref (b 32), .ref (b 33), .ref (b 34), .int (iZ (mu6w 35 0)), .int (iZ (mu6w 36 0)), .int (iZ (mu6w 37 0)), .int (iZ (mu6w 38 0)), .int (iZ (mu6w 39 0)), .int (iZ (mu6w 40 0)), .ref (b 41), .ref (b 42)])) := hE6w.1
        have f16_ : en6w 36 0 = some (b 16, aI dA (4) (mu6w 16)) := hE6w.2 16 (by decide)
        have f17_ : en6w 37 0 = some (b 17, aI dA (4) (mu6w 17)) := hE6w.2 17 (by decide)
        have f18_ : en6w 38 0 = some (b 18, aI dA (4) (mu6w 18)) := hE6w.2 18 (by decide)
        have f19_ : en6w 39 0 = some (b 19, aI dA (4) (mu6w 19)) := hE6w.2 19 (by decide)
        have f20_ : en6w 40 0 = some (b 20, aI dA (4) (mu6w 20)) := hE6w.2 20 (by decide)
        have f21_ : en6w 41 0 = some (b 21, aI dA (4) (mu6w 21)) := hE6w.2 21 (by decide)
        have f27_ : en6w 47 0 = some (b 27, aI dA (6001) (mu6w 27)) := hE6w.2 27 (by decide)
        have f28_ : en6w 48 0 = some (b 28, aI dA (6001) (mu6w 28)) := hE6w.2 28 (by decide)
        have f29_ : en6w 49 0 = some (b 29, aI dA (6001) (mu6w 29)) := hE6w.2 29 (by decide)
        have f30_ : en6w 50 0 = some (b 30, aI dA (6001) (mu6w 30)) := hE6w.2 30 (by decide)
        refine lv_aload_n hx hb dX4_take_211 rfl (lv_at hl 1 rfl) ?_
        refine lv_iload_n hx hb dX4_take_212 rfl (lv_at hl 0 rfl) ?_
        refine lv_iload_n hx hb dX4_take_213 rfl (lv_at hl 2 rfl) ?_
        have hM0 : ∀ (t : Nat) (j : Int), ¬ (16 ≤ t ∧ t ≤ 24 ∧ j = r) → mu6w t j = muA t j := fun t j q => by rw [hmu6w, u2_n (by omega), hmu5w, u2_n (by omega), hmu4w, u2_n (by omega), hmu3w, u2_n (by omega), hmu2w, u2_n (by omega), hmu1w, u2_n (by omega)]
        have hB34 : ∀ j : Int, -128 ≤ mu6w 34 j ∧ mu6w 34 j ≤ 127 := fun j => by rw [hM0 34 j (by omega)]; exact rB 34 j (by omega)
        have c19 : mu6w 19 r = 0 := by omega
        have f26b := f26 (by omega)
        have r34b := r34 (by omega)
        clear f26 f263 r34 f27
        refine va_callv (va_runV (As := [.int (iZ (r)), .int (iZ (ff))]) (rest := []) ⟨hx, hb, hml, hown, hts⟩ (c_X4_put l D dA z en6w b mu6w r ff (by omega) (by omega) (by omega) (by omega) (by omega) (by omega) (by omega) (by omega) hB34 hE6w) (cwV 2 hts gX4_take_X4_put rfl rfl rfl (by decide +kernel) ⟨Nat.le_of_ble_eq_true rfl, Nat.le_of_ble_eq_true rfl⟩) ⟨gBl, gRecv hK hW (ci := 6) rfl fM, gPre _ hg hS hW⟩ rfl rfl hl.1 rfl (lv_room (Nat.le_of_ble_eq_true rfl)) dX4_take_214 ⟨(show 0 + 0 ≤ 0 by omega), (show 0 + 0 ≤ 0 by omega)⟩) hS (fun _ _ h => h) (fun _ h => h) (fun u9 t9 H locs ht9 hvm9 hw9 hB9 hz9 hk9 hS => ?_)
        obtain ⟨en7w, mu7w⟩ := u9
        obtain ⟨hE7w, hF7w, hmu7w⟩ := hw9
        have hW : Wd D (z 0) en7w H := by rw [← ht9]; exact hB9
        dsimp only at hE7w hF7w hmu7w
        have hF7w := FM.tr hF6w hF7w
        have fM : en7w 20 0 = some (b 0, .inr (6, [.int (iZ (mu7w 0 0)), .int (iZ (mu7w 1 0)), .long (lZ (mu7w 2 0)), .int (iZ (mu7w 3 0)), .ref (b 4), .ref (b 5), .ref (b 6), .ref (b 7), .ref (b 8), .ref (b 9), .ref (b 10), .ref (b 11), .ref (b 12), .ref (b 13), .ref (b 14), .ref (b 15), .ref (b 16), .ref (b 17), .ref (b 18), .ref (b 19), .ref (b 20), .ref (b 21), .ref (b 22), .ref (b 23), .ref (b 24), .ref (b 25), .int (iZ (mu7w 26 0)), .ref (b 27), .ref (b 28), .ref (b 29), .ref (b 30), .ref (b 31), .ref (b 32), .ref (b 33), .ref (b 34), .int (iZ (mu7w 35 0)), .int (iZ (mu7w 36 0)), .int (iZ (mu7w 37 0)), .int (iZ (mu7w 38 0)), .int (iZ (mu7w 39 0)), .int (iZ (mu7w 40 0)), .ref (b 41), .ref (b 42)])) := hE7w.1
        have f16_ : en7w 36 0 = some (b 16, aI dA (4) (mu7w 16)) := hE7w.2 16 (by decide)
        have f17_ : en7w 37 0 = some (b 17, aI dA (4) (mu7w 17)) := hE7w.2 17 (by decide)
        have f18_ : en7w 38 0 = some (b 18, aI dA (4) (mu7w 18)) := hE7w.2 18 (by decide)
        have f19_ : en7w 39 0 = some (b 19, aI dA (4) (mu7w 19)) := hE7w.2 19 (by decide)
        have f20_ : en7w 40 0 = some (b 20, aI dA (4) (mu7w 20)) := hE7w.2 20 (by decide)
        have f21_ : en7w 41 0 = some (b 21, aI dA (4) (mu7w 21)) := hE7w.2 21 (by decide)
        have f27_ : en7w 47 0 = some (b 27, aI dA (6001) (mu7w 27)) := hE7w.2 27 (by decide)
        have f28_ : en7w 48 0 = some (b 28, aI dA (6001) (mu7w 28)) := hE7w.2 28 (by decide)
        have f29_ : en7w 49 0 = some (b 29, aI dA (6001) (mu7w 29)) := hE7w.2 29 (by decide)
        have f30_ : en7w 50 0 = some (b 30, aI dA (6001) (mu7w 30)) := hE7w.2 30 (by decide)
        have hmp : mu7w = mPut mu6w r ff (muA 30 ff) := by rw [hmu7w, t30_ff]
        replace t1_0 : mu7w 1 (0) = muA 1 (0) := by rw [hmp]; exact (mPut_n (fun q => absurd q.1 (by decide)) (fun q => absurd q.1 (by decide))).trans t1_0
        replace t2_0 : mu7w 2 (0) = muA 2 (0) := by rw [hmp]; exact (mPut_n (fun q => absurd q.1 (by decide)) (fun q => absurd q.1 (by decide))).trans t2_0
        replace t26_0 : mu7w 26 (0) = muA 26 (0) := by rw [hmp]; exact (mPut_n (fun q => absurd q.1 (by decide)) (fun q => absurd q.1 (by decide))).trans t26_0
        replace t27_ff : mu7w 27 (ff) = muA 27 (ff) := by rw [hmp]; exact (mPut_n (fun q => absurd q.1 (by decide)) (fun q => absurd q.1 (by decide))).trans t27_ff
        replace t28_ff : mu7w 28 (ff) = muA 28 (ff) := by rw [hmp]; exact (mPut_n (fun q => absurd q.1 (by decide)) (fun q => absurd q.1 (by decide))).trans t28_ff
        replace t29_ff : mu7w 29 (ff) = muA 29 (ff) := by rw [hmp]; exact (mPut_n (fun q => absurd q.1 (by decide)) (fun q => absurd q.1 (by decide))).trans t29_ff
        replace t30_ff : mu7w 30 (ff) = muA 30 (ff) := by rw [hmp]; exact (mPut_n (fun q => absurd q.1 (by decide)) (fun q => absurd q.1 (by decide))).trans t30_ff
        replace t16_r : mu7w 16 (r) = 1 := by rw [hmp]; exact (mPut_n (fun q => absurd q.1 (by decide)) (fun q => absurd q.1 (by decide))).trans t16_r
        replace t17_r : mu7w 17 (r) = muA 28 (ff) := by rw [hmp]; exact (mPut_n (fun q => absurd q.1 (by decide)) (fun q => absurd q.1 (by decide))).trans t17_r
        replace t18_r : mu7w 18 (r) = muA 29 (ff) := by rw [hmp]; exact (mPut_n (fun q => absurd q.1 (by decide)) (fun q => absurd q.1 (by decide))).trans t18_r
        replace t19_r : mu7w 19 (r) = 0 + muA 30 ff := by rw [hmp, mPut_c, t19_r]
        replace t20_r : mu7w 20 (r) = 1 := by rw [hmp]; exact (mPut_n (fun q => absurd q.1 (by decide)) (fun q => absurd q.1 (by decide))).trans t20_r
        replace t21_r : mu7w 21 (r) = 0 := by rw [hmp]; exact (mPut_n (fun q => absurd q.1 (by decide)) (fun q => absurd q.1 (by decide))).trans t21_r
        have hB25 : ∀ j : Int, -128 ≤ mu7w 25 j ∧ mu7w 25 j ≤ 127 := by rw [hmp]; exact mPut_b (fun j => by rw [hM0 25 j (by omega)]; exact rB 25 j (by omega)) hB34
        have hM1 : ∀ (t : Nat) (j : Int), ¬ (16 ≤ t ∧ t ≤ 24 ∧ j = r) ∧ ¬ (t = 25 ∧ 10000 * r ≤ j ∧ j < 10000 * r + 10000) → mu7w t j = muA t j := fun t j q => by rw [hmp, mPut_n (by omega) (by omega)]; exact hM0 t j (by omega)
        have hnw : ∀ j : Int, 0 ≤ j → j < g6 26 ff 0 → mu7w 25 (10000 * r + j) = g6 28 ff j := fun j q1 q2 => by rw [hmp]; have e := mPut_v (mu := mu6w) (r := r) (f := ff) (k := muA 30 ff) (j := j) q1 (by omega); rw [c19, Int.add_zero] at e; rw [e, hM0 34 _ (by omega)]; exact r34b j q1 (by omega)
        refine lv_aload_n hx hb dX4_take_217 rfl (lv_at hl 1 rfl) ?_
        refine lv_iload_n hx hb dX4_take_218 rfl (lv_at hl 0 rfl) ?_
        obtain ⟨⟨b30, b31, b32, b33, b34, b35, b36⟩, bg⟩ := v_sb (g := g6) (r := r) (mg := g6 21 ff 0) (ln := g6 22 ff 0)
        have iB1 : IB (sBeg g6 r (g6 21 ff 0) (g6 22 ff 0)) := ib_beg i6 (by omega) (by omega) (by omega) (by omega)
        obtain ⟨gB, hgB⟩ : ∃ x : St, x = sBeg g6 r (g6 21 ff 0) (g6 22 ff 0) := ⟨_, rfl⟩
        rw [← hgB] at b30 b31 b32 b33 b34 b35 b36 bg iB1
        obtain ⟨⟨c30, c31, c32, c33, c34, c35, c36⟩, c39, cg⟩ := v_tk (g := gB) (r := r) (f := ff)
        have bB26 := bg 26 ff 0 (by omega)
        have bB28 : ∀ j : Int, gB 28 ff j = g6 28 ff j := fun j => bg 28 ff j (by omega)
        have bN := bg 1 1 0 (by omega)
        have iT : IB (sTake gB r ff) := ib_take iB1 (by omega) (by omega) (by omega) (by omega) (by omega) (by omega)
        obtain ⟨gT, hgT⟩ : ∃ x : St, x = sTake gB r ff := ⟨_, rfl⟩
        rw [← hgT] at c30 c31 c32 c33 c34 c35 c36 c39 cg iT
        have hRp : RlR gT mu7w r := rlr_c i6 (hRA.r r) (fun t i j q => (cg t i j q).trans (bg t i j q)) hM1 hB25
        have hwT : Rw gT mu7w r := ⟨by omega, by omega, ⟨by omega, by omega, by omega, by omega, by omega⟩, fun q => by omega, fun j q1 q2 => by rw [c39, hnw j q1 (by omega), ← bB28]; unfold cpF; rw [if_pos (by omega)]; congr 1; omega⟩
        have hg2 : sRR g ff = sAns gT r := by rw [hgo (by omega), if_neg (by omega)]; unfold sTF; rw [if_pos (by omega), hgT, hgB]
        refine va_callv (va_runV (As := [.int (iZ (r))]) (rest := []) ⟨hx, hb, hml, hown, hts⟩ (c_X4_answer l D dA z en7w b mu7w gT r (by omega) (by omega) (by omega) iT hRp hwT hE7w) (cwV 1 hts gX4_take_X4_answer rfl rfl rfl (by decide +kernel) ⟨Nat.le_of_ble_eq_true rfl, Nat.le_of_ble_eq_true rfl⟩) ⟨gBl, gRecv hK hW (ci := 6) rfl fM, gPre _ hg hS hW⟩ rfl rfl hl.1 rfl (lv_room (Nat.le_of_ble_eq_true rfl)) dX4_take_219 ⟨(show 0 + 0 + 0 ≤ 0 by omega), (show 0 + 0 + 0 ≤ 0 by omega)⟩) hS (fun _ _ h => h) (fun _ h => h) (fun u9 t9 H locs ht9 hvm9 hw9 hB9 hz9 hk9 hS => ?_)
        obtain ⟨en8w, mu8w⟩ := u9
        obtain ⟨hE8w, hF8w, hmu8w⟩ := hw9
        have hW : Wd D (z 0) en8w H := by rw [← ht9]; exact hB9
        dsimp only at hE8w hF8w hmu8w
        have hF8w := FM.tr hF7w hF8w
        have fM : en8w 20 0 = some (b 0, .inr (6, [.int (iZ (mu8w 0 0)), .int (iZ (mu8w 1 0)), .long (lZ (mu8w 2 0)), .int (iZ (mu8w 3 0)), .ref (b 4), .ref (b 5), .ref (b 6), .ref (b 7), .ref (b 8), .ref (b 9), .ref (b 10), .ref (b 11), .ref (b 12), .ref (b 13), .ref (b 14), .ref (b 15), .ref (b 16), .ref (b 17), .ref (b 18), .ref (b 19), .ref (b 20), .ref (b 21), .ref (b 22), .ref (b 23), .ref (b 24), .ref (b 25), .int (iZ (mu8w 26 0)), .ref (b 27), .ref (b 28), .ref (b 29), .ref (b 30), .ref (b 31), .ref (b 32), .ref (b 33), .ref (b 34), .int (iZ (mu8w 35 0)), .int (iZ (mu8w 36 0)), .int (iZ (mu8w 37 0)), .int (iZ (mu8w 38 0)), .int (iZ (mu8w 39 0)), .int (iZ (mu8w 40 0)), .ref (b 41), .ref (b 42)])) := hE8w.1
        have f16_ : en8w 36 0 = some (b 16, aI dA (4) (mu8w 16)) := hE8w.2 16 (by decide)
        have f17_ : en8w 37 0 = some (b 17, aI dA (4) (mu8w 17)) := hE8w.2 17 (by decide)
        have f18_ : en8w 38 0 = some (b 18, aI dA (4) (mu8w 18)) := hE8w.2 18 (by decide)
        have f19_ : en8w 39 0 = some (b 19, aI dA (4) (mu8w 19)) := hE8w.2 19 (by decide)
        have f20_ : en8w 40 0 = some (b 20, aI dA (4) (mu8w 20)) := hE8w.2 20 (by decide)
        have f21_ : en8w 41 0 = some (b 21, aI dA (4) (mu8w 21)) := hE8w.2 21 (by decide)
        have f27_ : en8w 47 0 = some (b 27, aI dA (6001) (mu8w 27)) := hE8w.2 27 (by decide)
        have f28_ : en8w 48 0 = some (b 28, aI dA (6001) (mu8w 28)) := hE8w.2 28 (by decide)
        have f29_ : en8w 49 0 = some (b 29, aI dA (6001) (mu8w 29)) := hE8w.2 29 (by decide)
        have f30_ : en8w 50 0 = some (b 30, aI dA (6001) (mu8w 30)) := hE8w.2 30 (by decide)
        have hfin : Rl (sRR g ff) mu8w := by rw [hg2]; exact hmu8w
        refine lv_aload_n hx hb dX4_take_222 rfl (lv_at hl 1 rfl) ?_
        refine g_get (C := RX4) (T := TX4) (N := 43) (ci := 6) (v := .ref (b 16)) hx hb hts hi6 hown hK hW fM rfl 16 (by decide) (hts (.fieldLink RX4 50 "LongTransferModel" "place" "[I") (by decide +kernel)) (fun _ h9 => h9) rfl dX4_take_223 ?_
        refine lv_iload_n hx hb dX4_take_226 rfl (lv_at hl 0 rfl) ?_
        refine g_iald hx hb hK hW f16_ (by omega) (by omega) (by omega) dX4_take_227 ?_
        have hq16 : mu8w 16 r = sRR g ff 30 r 0 := (hfin.2.2.2.2.2.2.1 r (by omega) (by omega)).1
        have hpst : Rl (sRR g ff) mu8w := hfin
        exact W.iret hx hb hr (fun t ht hw => ⟨⟨_, (en8w, mu8w), rfl, ⟨by unfold aRR; rw [← hrd, ← hq16], hE8w, hF8w, hpst⟩, by show Wd _ _ _ t.heap; rw [ht]; exact hW⟩, hS.F ht⟩) hS.2.2 dX4_take_228
      · refine lv_aload_n hx hb dX4_take_166 rfl (lv_at hl 1 rfl) ?_
        refine lv_iload_n hx hb dX4_take_167 rfl (lv_at hl 0 rfl) ?_
        refine lv_aload_n hx hb dX4_take_168 rfl (lv_at hl 1 rfl) ?_
        refine z_iconst hx hb dX4_take_169 ?_
        refine lv_aload_n hx hb dX4_take_170 rfl (lv_at hl 1 rfl) ?_
        refine g_get (C := RX4) (T := TX4) (N := 43) (ci := 6) (v := .ref (b 28)) hx hb hts hi6 hown hK hW fM rfl 28 (by decide) (hts (.fieldLink RX4 84 "LongTransferModel" "of" "[I") (by decide +kernel)) (fun _ h9 => h9) rfl dX4_take_171 ?_
        refine lv_iload_n hx hb dX4_take_174 rfl (lv_at hl 2 rfl) ?_
        refine g_iald hx hb hK hW f28_ (by omega) (by omega) (by omega) dX4_take_175 ?_
        rw [t28_ff]
        refine z_iconst hx hb dX4_take_176 ?_
        refine z_iconst hx hb dX4_take_177 ?_
        refine z_iconst hx hb dX4_take_178 ?_
        refine va_calli (va_runV (As := [.int (iZ (3)), .int (iZ (muA 28 (ff))), .int (iZ (2)), .int (iZ (0)), .int (iZ (0))]) (rest := [.int (iZ (r)), .ref (b 0)]) ⟨hx, hb, hml, hown, hts⟩ (c_X4_make l D dA z en4w b mu4w 3 (muA 28 (ff)) 2 0 0 (by omega) (by omega) hE4w) (cwV 5 hts gX4_take_X4_make rfl rfl rfl (by decide +kernel) ⟨Nat.le_of_ble_eq_true rfl, Nat.le_of_ble_eq_true rfl⟩) ⟨gBl, gRecv hK hW (ci := 6) rfl fM, gPre _ hg hS hW⟩ rfl rfl hl.1 rfl (lv_room (Nat.le_of_ble_eq_true rfl)) dX4_take_179 ⟨(show 0 + 0 ≤ 0 by omega), (show 0 + 0 ≤ 0 by omega)⟩) hS (fun _ _ h => h) (fun _ h => h) (fun r9 u9 t9 H locs ht9 hvm9 hw9 hB9 hz9 hk9 hS => ?_)
        obtain ⟨en9w, mu9w⟩ := u9
        obtain ⟨hr9, hE9w, hF9w, hmu9w⟩ := hw9
        have hW : Wd D (z 0) en9w H := by rw [← ht9]; exact hB9
        dsimp only at hE9w hF9w hmu9w
        subst hr9
        have hF9w := FM.tr hF4w hF9w
        have fM : en9w 20 0 = some (b 0, .inr (6, [.int (iZ (mu9w 0 0)), .int (iZ (mu9w 1 0)), .long (lZ (mu9w 2 0)), .int (iZ (mu9w 3 0)), .ref (b 4), .ref (b 5), .ref (b 6), .ref (b 7), .ref (b 8), .ref (b 9), .ref (b 10), .ref (b 11), .ref (b 12), .ref (b 13), .ref (b 14), .ref (b 15), .ref (b 16), .ref (b 17), .ref (b 18), .ref (b 19), .ref (b 20), .ref (b 21), .ref (b 22), .ref (b 23), .ref (b 24), .ref (b 25), .int (iZ (mu9w 26 0)), .ref (b 27), .ref (b 28), .ref (b 29), .ref (b 30), .ref (b 31), .ref (b 32), .ref (b 33), .ref (b 34), .int (iZ (mu9w 35 0)), .int (iZ (mu9w 36 0)), .int (iZ (mu9w 37 0)), .int (iZ (mu9w 38 0)), .int (iZ (mu9w 39 0)), .int (iZ (mu9w 40 0)), .ref (b 41), .ref (b 42)])) := hE9w.1
        have f16_ : en9w 36 0 = some (b 16, aI dA (4) (mu9w 16)) := hE9w.2 16 (by decide)
        have f17_ : en9w 37 0 = some (b 17, aI dA (4) (mu9w 17)) := hE9w.2 17 (by decide)
        have f18_ : en9w 38 0 = some (b 18, aI dA (4) (mu9w 18)) := hE9w.2 18 (by decide)
        have f19_ : en9w 39 0 = some (b 19, aI dA (4) (mu9w 19)) := hE9w.2 19 (by decide)
        have f20_ : en9w 40 0 = some (b 20, aI dA (4) (mu9w 20)) := hE9w.2 20 (by decide)
        have f21_ : en9w 41 0 = some (b 21, aI dA (4) (mu9w 21)) := hE9w.2 21 (by decide)
        have f27_ : en9w 47 0 = some (b 27, aI dA (6001) (mu9w 27)) := hE9w.2 27 (by decide)
        have f28_ : en9w 48 0 = some (b 28, aI dA (6001) (mu9w 28)) := hE9w.2 28 (by decide)
        have f29_ : en9w 49 0 = some (b 29, aI dA (6001) (mu9w 29)) := hE9w.2 29 (by decide)
        have f30_ : en9w 50 0 = some (b 30, aI dA (6001) (mu9w 30)) := hE9w.2 30 (by decide)
        have t26b : mu4w 26 0 = muA 26 (0) := by first | exact t26_0 | rfl
        by_cases hful : mu4w 26 0 = 6000
        · rw [if_pos hful]
          have hmk : mu9w = mu4w := by rw [hmu9w]; exact if_pos hful
          replace t1_0 : mu9w 1 (0) = muA 1 (0) := (congrFun (congrFun hmk 1) (0)).trans t1_0
          replace t2_0 : mu9w 2 (0) = muA 2 (0) := (congrFun (congrFun hmk 2) (0)).trans t2_0
          replace t26_0 : mu9w 26 (0) = muA 26 (0) := (congrFun (congrFun hmk 26) (0)).trans t26_0
          replace t27_ff : mu9w 27 (ff) = muA 27 (ff) := (congrFun (congrFun hmk 27) (ff)).trans t27_ff
          replace t28_ff : mu9w 28 (ff) = muA 28 (ff) := (congrFun (congrFun hmk 28) (ff)).trans t28_ff
          replace t29_ff : mu9w 29 (ff) = muA 29 (ff) := (congrFun (congrFun hmk 29) (ff)).trans t29_ff
          replace t30_ff : mu9w 30 (ff) = muA 30 (ff) := (congrFun (congrFun hmk 30) (ff)).trans t30_ff
          replace t16_r : mu9w 16 (r) = muA 16 (r) := (congrFun (congrFun hmk 16) (r)).trans t16_r
          replace t17_r : mu9w 17 (r) = muA 28 (ff) := (congrFun (congrFun hmk 17) (r)).trans t17_r
          replace t18_r : mu9w 18 (r) = muA 29 (ff) := (congrFun (congrFun hmk 18) (r)).trans t18_r
          replace t19_r : mu9w 19 (r) = 0 := (congrFun (congrFun hmk 19) (r)).trans t19_r
          replace t20_r : mu9w 20 (r) = muA 20 (r) := (congrFun (congrFun hmk 20) (r)).trans t20_r
          replace t21_r : mu9w 21 (r) = 0 := (congrFun (congrFun hmk 21) (r)).trans t21_r
          skip
          refine z_if_le (tgt := 189) hx hb dX4_take_182 (by decide) (by omega) (fun _ => ?_) (fun c_q => absurd c_q (by omega))
          refine z_bipush hx hb dX4_take_189 (by decide) ?_
          refine va_callv (va_runV (As := [.int (iZ (r)), .int (iZ (7))]) (rest := []) ⟨hx, hb, hml, hown, hts⟩ (c_X4_endReceiver l D dA z en9w b mu9w r 7 (by omega) (by omega) (by omega) (by omega) hE9w) (cwV 2 hts gX4_take_X4_endReceiver rfl rfl rfl (by decide +kernel) ⟨Nat.le_of_ble_eq_true rfl, Nat.le_of_ble_eq_true rfl⟩) ⟨gBl, gRecv hK hW (ci := 6) rfl fM, gPre _ hg hS hW⟩ rfl rfl hl.1 rfl (lv_room (Nat.le_of_ble_eq_true rfl)) dX4_take_191 ⟨(show 0 + 0 + 0 ≤ 0 by omega), (show 0 + 0 + 0 ≤ 0 by omega)⟩) hS (fun _ _ h => h) (fun _ h => h) (fun u9 t9 H locs ht9 hvm9 hw9 hB9 hz9 hk9 hS => ?_)
          obtain ⟨en10w, mu10w⟩ := u9
          obtain ⟨hE10w, hF10w, hmu10w⟩ := hw9
          have hW : Wd D (z 0) en10w H := by rw [← ht9]; exact hB9
          dsimp only at hE10w hF10w hmu10w
          have hF10w := FM.tr hF9w hF10w
          have fM : en10w 20 0 = some (b 0, .inr (6, [.int (iZ (mu10w 0 0)), .int (iZ (mu10w 1 0)), .long (lZ (mu10w 2 0)), .int (iZ (mu10w 3 0)), .ref (b 4), .ref (b 5), .ref (b 6), .ref (b 7), .ref (b 8), .ref (b 9), .ref (b 10), .ref (b 11), .ref (b 12), .ref (b 13), .ref (b 14), .ref (b 15), .ref (b 16), .ref (b 17), .ref (b 18), .ref (b 19), .ref (b 20), .ref (b 21), .ref (b 22), .ref (b 23), .ref (b 24), .ref (b 25), .int (iZ (mu10w 26 0)), .ref (b 27), .ref (b 28), .ref (b 29), .ref (b 30), .ref (b 31), .ref (b 32), .ref (b 33), .ref (b 34), .int (iZ (mu10w 35 0)), .int (iZ (mu10w 36 0)), .int (iZ (mu10w 37 0)), .int (iZ (mu10w 38 0)), .int (iZ (mu10w 39 0)), .int (iZ (mu10w 40 0)), .ref (b 41), .ref (b 42)])) := hE10w.1
          have f16_ : en10w 36 0 = some (b 16, aI dA (4) (mu10w 16)) := hE10w.2 16 (by decide)
          have f17_ : en10w 37 0 = some (b 17, aI dA (4) (mu10w 17)) := hE10w.2 17 (by decide)
          have f18_ : en10w 38 0 = some (b 18, aI dA (4) (mu10w 18)) := hE10w.2 18 (by decide)
          have f19_ : en10w 39 0 = some (b 19, aI dA (4) (mu10w 19)) := hE10w.2 19 (by decide)
          have f20_ : en10w 40 0 = some (b 20, aI dA (4) (mu10w 20)) := hE10w.2 20 (by decide)
          have f21_ : en10w 41 0 = some (b 21, aI dA (4) (mu10w 21)) := hE10w.2 21 (by decide)
          have f27_ : en10w 47 0 = some (b 27, aI dA (6001) (mu10w 27)) := hE10w.2 27 (by decide)
          have f28_ : en10w 48 0 = some (b 28, aI dA (6001) (mu10w 28)) := hE10w.2 28 (by decide)
          have f29_ : en10w 49 0 = some (b 29, aI dA (6001) (mu10w 29)) := hE10w.2 29 (by decide)
          have f30_ : en10w 50 0 = some (b 30, aI dA (6001) (mu10w 30)) := hE10w.2 30 (by decide)
          have hM0 : ∀ (t : Nat) (j : Int), ¬ (16 ≤ t ∧ t ≤ 24 ∧ j = r) → mu4w t j = muA t j := fun t j q => by rw [hmu4w, u2_n (by omega), hmu3w, u2_n (by omega), hmu2w, u2_n (by omega), hmu1w, u2_n (by omega)]
          have hRp : RlR g6 mu4w r := rlr_c i6 (hRA.r r) (fun t i j q => rfl) (fun t j q => hM0 t j (by omega)) (fun j => by rw [hM0 25 j (by omega)]; exact rB 25 j (by omega))
          have hg2 : sRR g ff = sTF g6 r ff := by rw [hgo (by omega), if_neg (by omega)]
          have hg3 : sTF g6 r ff = sEndR g6 r 7 := by unfold sTF sMkF; rw [if_neg (by omega), if_pos (by omega), if_pos (by omega)]
          have hfin : Rl (sRR g ff) mu10w := by rw [hg2, hg3, hmu10w, hmk]; exact rlr_e i6 hRp (by omega) (by omega) (by omega) (fun t j q => rfl)
          refine lv_goto (tgt := 222) hx hb dX4_take_194 (by decide) ?_
          refine lv_aload_n hx hb dX4_take_222 rfl (lv_at hl 1 rfl) ?_
          refine g_get (C := RX4) (T := TX4) (N := 43) (ci := 6) (v := .ref (b 16)) hx hb hts hi6 hown hK hW fM rfl 16 (by decide) (hts (.fieldLink RX4 50 "LongTransferModel" "place" "[I") (by decide +kernel)) (fun _ h9 => h9) rfl dX4_take_223 ?_
          refine lv_iload_n hx hb dX4_take_226 rfl (lv_at hl 0 rfl) ?_
          refine g_iald hx hb hK hW f16_ (by omega) (by omega) (by omega) dX4_take_227 ?_
          have hq16 : mu10w 16 r = sRR g ff 30 r 0 := (hfin.2.2.2.2.2.2.1 r (by omega) (by omega)).1
          have hpst : Rl (sRR g ff) mu10w := hfin
          exact W.iret hx hb hr (fun t ht hw => ⟨⟨_, (en10w, mu10w), rfl, ⟨by unfold aRR; rw [← hrd, ← hq16], hE10w, hF10w, hpst⟩, by show Wd _ _ _ t.heap; rw [ht]; exact hW⟩, hS.F ht⟩) hS.2.2 dX4_take_228
        · rw [if_neg hful]
          have hmk : mu9w = mMk mu4w 3 (muA 28 (ff)) 2 0 0 := by rw [hmu9w]; exact if_neg hful
          replace t1_0 : mu9w 1 (0) = muA 1 (0) := by rw [hmk]; exact (mMk_n ⟨fun q => absurd q.1 (by decide), fun q => absurd q.1 (by decide)⟩).trans t1_0
          replace t2_0 : mu9w 2 (0) = muA 2 (0) := by rw [hmk]; exact (mMk_n ⟨fun q => absurd q.1 (by decide), fun q => absurd q.1 (by decide)⟩).trans t2_0
          replace t26_0 : mu9w 26 (0) = muA 26 (0) + 1 := by rw [hmk, (mMk_v _ _ _ _ _ _).1, t26_0]
          replace t27_ff : mu9w 27 (ff) = muA 27 (ff) := by rw [hmk]; exact (mMk_n (by omega)).trans t27_ff
          replace t28_ff : mu9w 28 (ff) = muA 28 (ff) := by rw [hmk]; exact (mMk_n (by omega)).trans t28_ff
          replace t29_ff : mu9w 29 (ff) = muA 29 (ff) := by rw [hmk]; exact (mMk_n (by omega)).trans t29_ff
          replace t30_ff : mu9w 30 (ff) = muA 30 (ff) := by rw [hmk]; exact (mMk_n (by omega)).trans t30_ff
          replace t16_r : mu9w 16 (r) = muA 16 (r) := by rw [hmk]; exact (mMk_n ⟨fun q => absurd q.1 (by decide), fun q => absurd q.1 (by decide)⟩).trans t16_r
          replace t17_r : mu9w 17 (r) = muA 28 (ff) := by rw [hmk]; exact (mMk_n ⟨fun q => absurd q.1 (by decide), fun q => absurd q.1 (by decide)⟩).trans t17_r
          replace t18_r : mu9w 18 (r) = muA 29 (ff) := by rw [hmk]; exact (mMk_n ⟨fun q => absurd q.1 (by decide), fun q => absurd q.1 (by decide)⟩).trans t18_r
          replace t19_r : mu9w 19 (r) = 0 := by rw [hmk]; exact (mMk_n ⟨fun q => absurd q.1 (by decide), fun q => absurd q.1 (by decide)⟩).trans t19_r
          replace t20_r : mu9w 20 (r) = muA 20 (r) := by rw [hmk]; exact (mMk_n ⟨fun q => absurd q.1 (by decide), fun q => absurd q.1 (by decide)⟩).trans t20_r
          replace t21_r : mu9w 21 (r) = 0 := by rw [hmk]; exact (mMk_n ⟨fun q => absurd q.1 (by decide), fun q => absurd q.1 (by decide)⟩).trans t21_r
          skip
          refine z_if_le (tgt := 189) hx hb dX4_take_182 (by decide) (by omega) (fun c_q => absurd c_q (by omega)) (fun _ => ?_)
          refine z_iconst hx hb dX4_take_185 ?_
          refine lv_goto (tgt := 191) hx hb dX4_take_186 (by decide) ?_
          refine va_callv (va_runV (As := [.int (iZ (r)), .int (iZ (4))]) (rest := []) ⟨hx, hb, hml, hown, hts⟩ (c_X4_endReceiver l D dA z en9w b mu9w r 4 (by omega) (by omega) (by omega) (by omega) hE9w) (cwV 2 hts gX4_take_X4_endReceiver rfl rfl rfl (by decide +kernel) ⟨Nat.le_of_ble_eq_true rfl, Nat.le_of_ble_eq_true rfl⟩) ⟨gBl, gRecv hK hW (ci := 6) rfl fM, gPre _ hg hS hW⟩ rfl rfl hl.1 rfl (lv_room (Nat.le_of_ble_eq_true rfl)) dX4_take_191 ⟨(show 0 + 0 + 0 ≤ 0 by omega), (show 0 + 0 + 0 ≤ 0 by omega)⟩) hS (fun _ _ h => h) (fun _ h => h) (fun u9 t9 H locs ht9 hvm9 hw9 hB9 hz9 hk9 hS => ?_)
          obtain ⟨en11w, mu11w⟩ := u9
          obtain ⟨hE11w, hF11w, hmu11w⟩ := hw9
          have hW : Wd D (z 0) en11w H := by rw [← ht9]; exact hB9
          dsimp only at hE11w hF11w hmu11w
          have hF11w := FM.tr hF9w hF11w
          have fM : en11w 20 0 = some (b 0, .inr (6, [.int (iZ (mu11w 0 0)), .int (iZ (mu11w 1 0)), .long (lZ (mu11w 2 0)), .int (iZ (mu11w 3 0)), .ref (b 4), .ref (b 5), .ref (b 6), .ref (b 7), .ref (b 8), .ref (b 9), .ref (b 10), .ref (b 11), .ref (b 12), .ref (b 13), .ref (b 14), .ref (b 15), .ref (b 16), .ref (b 17), .ref (b 18), .ref (b 19), .ref (b 20), .ref (b 21), .ref (b 22), .ref (b 23), .ref (b 24), .ref (b 25), .int (iZ (mu11w 26 0)), .ref (b 27), .ref (b 28), .ref (b 29), .ref (b 30), .ref (b 31), .ref (b 32), .ref (b 33), .ref (b 34), .int (iZ (mu11w 35 0)), .int (iZ (mu11w 36 0)), .int (iZ (mu11w 37 0)), .int (iZ (mu11w 38 0)), .int (iZ (mu11w 39 0)), .int (iZ (mu11w 40 0)), .ref (b 41), .ref (b 42)])) := hE11w.1
          have f16_ : en11w 36 0 = some (b 16, aI dA (4) (mu11w 16)) := hE11w.2 16 (by decide)
          have f17_ : en11w 37 0 = some (b 17, aI dA (4) (mu11w 17)) := hE11w.2 17 (by decide)
          have f18_ : en11w 38 0 = some (b 18, aI dA (4) (mu11w 18)) := hE11w.2 18 (by decide)
          have f19_ : en11w 39 0 = some (b 19, aI dA (4) (mu11w 19)) := hE11w.2 19 (by decide)
          have f20_ : en11w 40 0 = some (b 20, aI dA (4) (mu11w 20)) := hE11w.2 20 (by decide)
          have f21_ : en11w 41 0 = some (b 21, aI dA (4) (mu11w 21)) := hE11w.2 21 (by decide)
          have f27_ : en11w 47 0 = some (b 27, aI dA (6001) (mu11w 27)) := hE11w.2 27 (by decide)
          have f28_ : en11w 48 0 = some (b 28, aI dA (6001) (mu11w 28)) := hE11w.2 28 (by decide)
          have f29_ : en11w 49 0 = some (b 29, aI dA (6001) (mu11w 29)) := hE11w.2 29 (by decide)
          have f30_ : en11w 50 0 = some (b 30, aI dA (6001) (mu11w 30)) := hE11w.2 30 (by decide)
          have hM0 : ∀ (t : Nat) (j : Int), ¬ (16 ≤ t ∧ t ≤ 24 ∧ j = r) → mu4w t j = muA t j := fun t j q => by rw [hmu4w, u2_n (by omega), hmu3w, u2_n (by omega), hmu2w, u2_n (by omega), hmu1w, u2_n (by omega)]
          have hRp : RlR g6 mu4w r := rlr_c i6 (hRA.r r) (fun t i j q => rfl) (fun t j q => hM0 t j (by omega)) (fun j => by rw [hM0 25 j (by omega)]; exact rB 25 j (by omega))
          have hg2 : sRR g ff = sTF g6 r ff := by rw [hgo (by omega), if_neg (by omega)]
          have hg3 : sTF g6 r ff = sEndR (sFlow g6 (g6 21 ff 0) 2 0 0) r 4 := by unfold sTF sMkF; rw [if_neg (by omega), if_neg (by omega), if_neg (by omega)]
          have iF : IB (sFlow g6 (g6 21 ff 0) 2 0 0) := by have q := ib_mf i6 (r := r) (mg := g6 21 ff 0) (fk := 2) (bk := 0) (sp := 0) (by omega) (by omega) (by omega) (by omega) (by omega) (by omega); unfold sMkF at q; rw [if_neg (by omega)] at q; exact q
          have hRf : RlR (sFlow g6 (g6 21 ff 0) 2 0 0) mu9w r := rlr_f i6 hRp (fun t i j q => rfl) (fun t j q => by rw [hmk, show muA 28 (ff) = g6 21 ff 0 by omega])
          have hfin : Rl (sRR g ff) mu11w := by rw [hg2, hg3, hmu11w]; exact rlr_e iF hRf (by omega) (by omega) (by omega) (fun t j q => rfl)
          refine lv_goto (tgt := 222) hx hb dX4_take_194 (by decide) ?_
          refine lv_aload_n hx hb dX4_take_222 rfl (lv_at hl 1 rfl) ?_
          refine g_get (C := RX4) (T := TX4) (N := 43) (ci := 6) (v := .ref (b 16)) hx hb hts hi6 hown hK hW fM rfl 16 (by decide) (hts (.fieldLink RX4 50 "LongTransferModel" "place" "[I") (by decide +kernel)) (fun _ h9 => h9) rfl dX4_take_223 ?_
          refine lv_iload_n hx hb dX4_take_226 rfl (lv_at hl 0 rfl) ?_
          refine g_iald hx hb hK hW f16_ (by omega) (by omega) (by omega) dX4_take_227 ?_
          have hq16 : mu11w 16 r = sRR g ff 30 r 0 := (hfin.2.2.2.2.2.2.1 r (by omega) (by omega)).1
          have hpst : Rl (sRR g ff) mu11w := hfin
          exact W.iret hx hb hr (fun t ht hw => ⟨⟨_, (en11w, mu11w), rfl, ⟨by unfold aRR; rw [← hrd, ← hq16], hE11w, hF11w, hpst⟩, by show Wd _ _ _ t.heap; rw [ht]; exact hW⟩, hS.F ht⟩) hS.2.2 dX4_take_228
    · skip
      refine lv_aload_n hx hb dX4_take_114 rfl (lv_at hl 1 rfl) ?_
      refine g_get (C := RX4) (T := TX4) (N := 43) (ci := 6) (v := .ref (b 30)) hx hb hts hi6 hown hK hW fM rfl 30 (by decide) (hts (.fieldLink RX4 90 "LongTransferModel" "count" "[I") (by decide +kernel)) (fun _ h9 => h9) rfl dX4_take_115 ?_
      refine lv_iload_n hx hb dX4_take_118 rfl (lv_at hl 2 rfl) ?_
      refine g_iald hx hb hK hW f30_ (by omega) (by omega) (by omega) dX4_take_119 ?_
      rw [t30_ff]
      refine lv_goto (tgt := 129) hx hb dX4_take_120 (by decide) ?_
      refine g_iast (x := muA 30 (ff)) hx hb hK hW hS f18_ (by omega) (by omega) (by omega) dX4_take_129 (fun H locs hW hS => ?_)
      obtain ⟨en12w, hen12w⟩ : ∃ x : en_T, x = e2 en3w 38 0 (some (b 18, aI dA (4) (uF (mu3w 18) (r) (muA 30 (ff))))) := ⟨_, rfl⟩
      rw [← hen12w] at hW
      obtain ⟨mu12w, hmu12w⟩ : ∃ x : Mu, x = u2 mu3w 18 (r) (muA 30 (ff)) := ⟨_, rfl⟩
      have hE12w : EM dA b mu12w en12w := by rw [hen12w, hmu12w]; exact em_w hE3w (k0 := 18) (j := r) (v := muA 30 (ff)) (by decide)
      have hF12w : FM en3w en12w := fun k i q => by rw [hen12w]; exact e2_k (fun w => q (by rw [w]; decide))
      have hF12w := FM.tr hF3w hF12w
      replace t1_0 : mu12w 1 (0) = muA 1 (0) := by rw [hmu12w]; exact (u2_n (fun q => absurd q.1 (by decide))).trans t1_0
      replace t2_0 : mu12w 2 (0) = muA 2 (0) := by rw [hmu12w]; exact (u2_n (fun q => absurd q.1 (by decide))).trans t2_0
      replace t26_0 : mu12w 26 (0) = muA 26 (0) := by rw [hmu12w]; exact (u2_n (fun q => absurd q.1 (by decide))).trans t26_0
      replace t27_ff : mu12w 27 (ff) = muA 27 (ff) := by rw [hmu12w]; exact (u2_n (fun q => absurd q.1 (by decide))).trans t27_ff
      replace t28_ff : mu12w 28 (ff) = muA 28 (ff) := by rw [hmu12w]; exact (u2_n (fun q => absurd q.1 (by decide))).trans t28_ff
      replace t29_ff : mu12w 29 (ff) = muA 29 (ff) := by rw [hmu12w]; exact (u2_n (fun q => absurd q.1 (by decide))).trans t29_ff
      replace t30_ff : mu12w 30 (ff) = muA 30 (ff) := by rw [hmu12w]; exact (u2_n (fun q => absurd q.1 (by decide))).trans t30_ff
      replace t16_r : mu12w 16 (r) = muA 16 (r) := by rw [hmu12w]; exact (u2_n (fun q => absurd q.1 (by decide))).trans t16_r
      replace t17_r : mu12w 17 (r) = muA 28 (ff) := by rw [hmu12w]; exact (u2_n (fun q => absurd q.1 (by decide))).trans t17_r
      replace t18_r : mu12w 18 (r) = muA 30 (ff) := by rw [hmu12w]; exact u2_s _ _ _ _
      replace t19_r : mu12w 19 (r) = 0 := by rw [hmu12w]; exact (u2_n (fun q => absurd q.1 (by decide))).trans t19_r
      replace t20_r : mu12w 20 (r) = muA 20 (r) := by rw [hmu12w]; exact (u2_n (fun q => absurd q.1 (by decide))).trans t20_r
      replace t21_r : mu12w 21 (r) = 0 := by rw [hmu12w]; exact (u2_n (fun q => absurd q.1 (by decide))).trans t21_r
      have fM : en12w 20 0 = some (b 0, .inr (6, [.int (iZ (mu12w 0 0)), .int (iZ (mu12w 1 0)), .long (lZ (mu12w 2 0)), .int (iZ (mu12w 3 0)), .ref (b 4), .ref (b 5), .ref (b 6), .ref (b 7), .ref (b 8), .ref (b 9), .ref (b 10), .ref (b 11), .ref (b 12), .ref (b 13), .ref (b 14), .ref (b 15), .ref (b 16), .ref (b 17), .ref (b 18), .ref (b 19), .ref (b 20), .ref (b 21), .ref (b 22), .ref (b 23), .ref (b 24), .ref (b 25), .int (iZ (mu12w 26 0)), .ref (b 27), .ref (b 28), .ref (b 29), .ref (b 30), .ref (b 31), .ref (b 32), .ref (b 33), .ref (b 34), .int (iZ (mu12w 35 0)), .int (iZ (mu12w 36 0)), .int (iZ (mu12w 37 0)), .int (iZ (mu12w 38 0)), .int (iZ (mu12w 39 0)), .int (iZ (mu12w 40 0)), .ref (b 41), .ref (b 42)])) := hE12w.1
      have f16_ : en12w 36 0 = some (b 16, aI dA (4) (mu12w 16)) := hE12w.2 16 (by decide)
      have f17_ : en12w 37 0 = some (b 17, aI dA (4) (mu12w 17)) := hE12w.2 17 (by decide)
      have f18_ : en12w 38 0 = some (b 18, aI dA (4) (mu12w 18)) := hE12w.2 18 (by decide)
      have f19_ : en12w 39 0 = some (b 19, aI dA (4) (mu12w 19)) := hE12w.2 19 (by decide)
      have f20_ : en12w 40 0 = some (b 20, aI dA (4) (mu12w 20)) := hE12w.2 20 (by decide)
      have f21_ : en12w 41 0 = some (b 21, aI dA (4) (mu12w 21)) := hE12w.2 21 (by decide)
      have f27_ : en12w 47 0 = some (b 27, aI dA (6001) (mu12w 27)) := hE12w.2 27 (by decide)
      have f28_ : en12w 48 0 = some (b 28, aI dA (6001) (mu12w 28)) := hE12w.2 28 (by decide)
      have f29_ : en12w 49 0 = some (b 29, aI dA (6001) (mu12w 29)) := hE12w.2 29 (by decide)
      have f30_ : en12w 50 0 = some (b 30, aI dA (6001) (mu12w 30)) := hE12w.2 30 (by decide)
      refine lv_aload_n hx hb dX4_take_130 rfl (lv_at hl 1 rfl) ?_
      refine g_get (C := RX4) (T := TX4) (N := 43) (ci := 6) (v := .ref (b 27)) hx hb hts hi6 hown hK hW fM rfl 27 (by decide) (hts (.fieldLink RX4 81 "LongTransferModel" "kind" "[I") (by decide +kernel)) (fun _ h9 => h9) rfl dX4_take_131 ?_
      refine lv_iload_n hx hb dX4_take_134 rfl (lv_at hl 2 rfl) ?_
      refine g_iald hx hb hK hW f27_ (by omega) (by omega) (by omega) dX4_take_135 ?_
      rw [t27_ff]
      refine z_if_ne (tgt := 153) hx hb dX4_take_136 (by decide) (by omega) (fun c_q => absurd c_q (by omega)) (fun _ => ?_)
      refine lv_aload_n hx hb dX4_take_139 rfl (lv_at hl 1 rfl) ?_
      refine lv_iload_n hx hb dX4_take_140 rfl (lv_at hl 0 rfl) ?_
      refine lv_iload_n hx hb dX4_take_141 rfl (lv_at hl 2 rfl) ?_
      have hM0 : ∀ (t : Nat) (j : Int), ¬ (16 ≤ t ∧ t ≤ 24 ∧ j = r) → mu12w t j = muA t j := fun t j q => by rw [hmu12w, u2_n (by omega), hmu3w, u2_n (by omega), hmu2w, u2_n (by omega), hmu1w, u2_n (by omega)]
      have hB34 : ∀ j : Int, -128 ≤ mu12w 34 j ∧ mu12w 34 j ≤ 127 := fun j => by rw [hM0 34 j (by omega)]; exact rB 34 j (by omega)
      have c19 : mu12w 19 r = 0 := by omega
      have f26b := f26 (by omega)
      have r34b := r34 (by omega)
      clear f26 f263 r34 f27
      refine va_callv (va_runV (As := [.int (iZ (r)), .int (iZ (ff))]) (rest := []) ⟨hx, hb, hml, hown, hts⟩ (c_X4_put l D dA z en12w b mu12w r ff (by omega) (by omega) (by omega) (by omega) (by omega) (by omega) (by omega) (by omega) hB34 hE12w) (cwV 2 hts gX4_take_X4_put rfl rfl rfl (by decide +kernel) ⟨Nat.le_of_ble_eq_true rfl, Nat.le_of_ble_eq_true rfl⟩) ⟨gBl, gRecv hK hW (ci := 6) rfl fM, gPre _ hg hS hW⟩ rfl rfl hl.1 rfl (lv_room (Nat.le_of_ble_eq_true rfl)) dX4_take_142 ⟨(show 0 + 0 ≤ 0 by omega), (show 0 + 0 ≤ 0 by omega)⟩) hS (fun _ _ h => h) (fun _ h => h) (fun u9 t9 H locs ht9 hvm9 hw9 hB9 hz9 hk9 hS => ?_)
      obtain ⟨en13w, mu13w⟩ := u9
      obtain ⟨hE13w, hF13w, hmu13w⟩ := hw9
      have hW : Wd D (z 0) en13w H := by rw [← ht9]; exact hB9
      dsimp only at hE13w hF13w hmu13w
      have hF13w := FM.tr hF12w hF13w
      have fM : en13w 20 0 = some (b 0, .inr (6, [.int (iZ (mu13w 0 0)), .int (iZ (mu13w 1 0)), .long (lZ (mu13w 2 0)), .int (iZ (mu13w 3 0)), .ref (b 4), .ref (b 5), .ref (b 6), .ref (b 7), .ref (b 8), .ref (b 9), .ref (b 10), .ref (b 11), .ref (b 12), .ref (b 13), .ref (b 14), .ref (b 15), .ref (b 16), .ref (b 17), .ref (b 18), .ref (b 19), .ref (b 20), .ref (b 21), .ref (b 22), .ref (b 23), .ref (b 24), .ref (b 25), .int (iZ (mu13w 26 0)), .ref (b 27), .ref (b 28), .ref (b 29), .ref (b 30), .ref (b 31), .ref (b 32), .ref (b 33), .ref (b 34), .int (iZ (mu13w 35 0)), .int (iZ (mu13w 36 0)), .int (iZ (mu13w 37 0)), .int (iZ (mu13w 38 0)), .int (iZ (mu13w 39 0)), .int (iZ (mu13w 40 0)), .ref (b 41), .ref (b 42)])) := hE13w.1
      have f16_ : en13w 36 0 = some (b 16, aI dA (4) (mu13w 16)) := hE13w.2 16 (by decide)
      have f17_ : en13w 37 0 = some (b 17, aI dA (4) (mu13w 17)) := hE13w.2 17 (by decide)
      have f18_ : en13w 38 0 = some (b 18, aI dA (4) (mu13w 18)) := hE13w.2 18 (by decide)
      have f19_ : en13w 39 0 = some (b 19, aI dA (4) (mu13w 19)) := hE13w.2 19 (by decide)
      have f20_ : en13w 40 0 = some (b 20, aI dA (4) (mu13w 20)) := hE13w.2 20 (by decide)
      have f21_ : en13w 41 0 = some (b 21, aI dA (4) (mu13w 21)) := hE13w.2 21 (by decide)
      have f27_ : en13w 47 0 = some (b 27, aI dA (6001) (mu13w 27)) := hE13w.2 27 (by decide)
      have f28_ : en13w 48 0 = some (b 28, aI dA (6001) (mu13w 28)) := hE13w.2 28 (by decide)
      have f29_ : en13w 49 0 = some (b 29, aI dA (6001) (mu13w 29)) := hE13w.2 29 (by decide)
      have f30_ : en13w 50 0 = some (b 30, aI dA (6001) (mu13w 30)) := hE13w.2 30 (by decide)
      have hmp : mu13w = mPut mu12w r ff (muA 30 ff) := by rw [hmu13w, t30_ff]
      replace t1_0 : mu13w 1 (0) = muA 1 (0) := by rw [hmp]; exact (mPut_n (fun q => absurd q.1 (by decide)) (fun q => absurd q.1 (by decide))).trans t1_0
      replace t2_0 : mu13w 2 (0) = muA 2 (0) := by rw [hmp]; exact (mPut_n (fun q => absurd q.1 (by decide)) (fun q => absurd q.1 (by decide))).trans t2_0
      replace t26_0 : mu13w 26 (0) = muA 26 (0) := by rw [hmp]; exact (mPut_n (fun q => absurd q.1 (by decide)) (fun q => absurd q.1 (by decide))).trans t26_0
      replace t27_ff : mu13w 27 (ff) = muA 27 (ff) := by rw [hmp]; exact (mPut_n (fun q => absurd q.1 (by decide)) (fun q => absurd q.1 (by decide))).trans t27_ff
      replace t28_ff : mu13w 28 (ff) = muA 28 (ff) := by rw [hmp]; exact (mPut_n (fun q => absurd q.1 (by decide)) (fun q => absurd q.1 (by decide))).trans t28_ff
      replace t29_ff : mu13w 29 (ff) = muA 29 (ff) := by rw [hmp]; exact (mPut_n (fun q => absurd q.1 (by decide)) (fun q => absurd q.1 (by decide))).trans t29_ff
      replace t30_ff : mu13w 30 (ff) = muA 30 (ff) := by rw [hmp]; exact (mPut_n (fun q => absurd q.1 (by decide)) (fun q => absurd q.1 (by decide))).trans t30_ff
      replace t16_r : mu13w 16 (r) = muA 16 (r) := by rw [hmp]; exact (mPut_n (fun q => absurd q.1 (by decide)) (fun q => absurd q.1 (by decide))).trans t16_r
      replace t17_r : mu13w 17 (r) = muA 28 (ff) := by rw [hmp]; exact (mPut_n (fun q => absurd q.1 (by decide)) (fun q => absurd q.1 (by decide))).trans t17_r
      replace t18_r : mu13w 18 (r) = muA 30 (ff) := by rw [hmp]; exact (mPut_n (fun q => absurd q.1 (by decide)) (fun q => absurd q.1 (by decide))).trans t18_r
      replace t19_r : mu13w 19 (r) = 0 + muA 30 ff := by rw [hmp, mPut_c, t19_r]
      replace t20_r : mu13w 20 (r) = muA 20 (r) := by rw [hmp]; exact (mPut_n (fun q => absurd q.1 (by decide)) (fun q => absurd q.1 (by decide))).trans t20_r
      replace t21_r : mu13w 21 (r) = 0 := by rw [hmp]; exact (mPut_n (fun q => absurd q.1 (by decide)) (fun q => absurd q.1 (by decide))).trans t21_r
      have hB25 : ∀ j : Int, -128 ≤ mu13w 25 j ∧ mu13w 25 j ≤ 127 := by rw [hmp]; exact mPut_b (fun j => by rw [hM0 25 j (by omega)]; exact rB 25 j (by omega)) hB34
      have hM1 : ∀ (t : Nat) (j : Int), ¬ (16 ≤ t ∧ t ≤ 24 ∧ j = r) ∧ ¬ (t = 25 ∧ 10000 * r ≤ j ∧ j < 10000 * r + 10000) → mu13w t j = muA t j := fun t j q => by rw [hmp, mPut_n (by omega) (by omega)]; exact hM0 t j (by omega)
      have hnw : ∀ j : Int, 0 ≤ j → j < g6 26 ff 0 → mu13w 25 (10000 * r + j) = g6 28 ff j := fun j q1 q2 => by rw [hmp]; have e := mPut_v (mu := mu12w) (r := r) (f := ff) (k := muA 30 ff) (j := j) q1 (by omega); rw [c19, Int.add_zero] at e; rw [e, hM0 34 _ (by omega)]; exact r34b j q1 (by omega)
      refine lv_aload_n hx hb dX4_take_145 rfl (lv_at hl 1 rfl) ?_
      refine lv_iload_n hx hb dX4_take_146 rfl (lv_at hl 0 rfl) ?_
      refine va_callv (va_runV (As := [.int (iZ (r))]) (rest := []) ⟨hx, hb, hml, hown, hts⟩ (c_X4_whole l D dA z en13w b mu13w r (by omega) (by omega) (by omega) (by omega) hB25 hE13w) (cwV 1 hts gX4_take_X4_whole rfl rfl rfl (by decide +kernel) ⟨Nat.le_of_ble_eq_true rfl, Nat.le_of_ble_eq_true rfl⟩) ⟨gBl, gRecv hK hW (ci := 6) rfl fM, gPre _ hg hS hW⟩ rfl rfl hl.1 rfl (lv_room (Nat.le_of_ble_eq_true rfl)) dX4_take_147 ⟨(show 0 + 0 + 0 ≤ 0 by omega), (show 0 + 0 + 0 ≤ 0 by omega)⟩) hS (fun _ _ h => h) (fun _ h => h) (fun u9 t9 H locs ht9 hvm9 hw9 hB9 hz9 hk9 hS => ?_)
      obtain ⟨en14w, mu14w⟩ := u9
      obtain ⟨hE14w, hF14w, hmu14w⟩ := hw9
      have hW : Wd D (z 0) en14w H := by rw [← ht9]; exact hB9
      dsimp only at hE14w hF14w hmu14w
      have hF14w := FM.tr hF13w hF14w
      have fM : en14w 20 0 = some (b 0, .inr (6, [.int (iZ (mu14w 0 0)), .int (iZ (mu14w 1 0)), .long (lZ (mu14w 2 0)), .int (iZ (mu14w 3 0)), .ref (b 4), .ref (b 5), .ref (b 6), .ref (b 7), .ref (b 8), .ref (b 9), .ref (b 10), .ref (b 11), .ref (b 12), .ref (b 13), .ref (b 14), .ref (b 15), .ref (b 16), .ref (b 17), .ref (b 18), .ref (b 19), .ref (b 20), .ref (b 21), .ref (b 22), .ref (b 23), .ref (b 24), .ref (b 25), .int (iZ (mu14w 26 0)), .ref (b 27), .ref (b 28), .ref (b 29), .ref (b 30), .ref (b 31), .ref (b 32), .ref (b 33), .ref (b 34), .int (iZ (mu14w 35 0)), .int (iZ (mu14w 36 0)), .int (iZ (mu14w 37 0)), .int (iZ (mu14w 38 0)), .int (iZ (mu14w 39 0)), .int (iZ (mu14w 40 0)), .ref (b 41), .ref (b 42)])) := hE14w.1
      have f16_ : en14w 36 0 = some (b 16, aI dA (4) (mu14w 16)) := hE14w.2 16 (by decide)
      have f17_ : en14w 37 0 = some (b 17, aI dA (4) (mu14w 17)) := hE14w.2 17 (by decide)
      have f18_ : en14w 38 0 = some (b 18, aI dA (4) (mu14w 18)) := hE14w.2 18 (by decide)
      have f19_ : en14w 39 0 = some (b 19, aI dA (4) (mu14w 19)) := hE14w.2 19 (by decide)
      have f20_ : en14w 40 0 = some (b 20, aI dA (4) (mu14w 20)) := hE14w.2 20 (by decide)
      have f21_ : en14w 41 0 = some (b 21, aI dA (4) (mu14w 21)) := hE14w.2 21 (by decide)
      have f27_ : en14w 47 0 = some (b 27, aI dA (6001) (mu14w 27)) := hE14w.2 27 (by decide)
      have f28_ : en14w 48 0 = some (b 28, aI dA (6001) (mu14w 28)) := hE14w.2 28 (by decide)
      have f29_ : en14w 49 0 = some (b 29, aI dA (6001) (mu14w 29)) := hE14w.2 29 (by decide)
      have f30_ : en14w 50 0 = some (b 30, aI dA (6001) (mu14w 30)) := hE14w.2 30 (by decide)
      have hRp : RlR g6 mu13w r := rlr_c i6 (hRA.r r) (fun t i j q => rfl) hM1 hB25
      have hg2 : sRR g ff = sWh g6 r (g6 26 ff 0) (g6 28 ff) := by rw [hgo (by omega), if_pos (by omega)]
      have hfin : Rl (sRR g ff) mu14w := by rw [hg2]; exact rl_wh i6 hRp (by omega) (by omega) (by omega) hnw hmu14w
      refine lv_goto (tgt := 222) hx hb dX4_take_150 (by decide) ?_
      refine lv_aload_n hx hb dX4_take_222 rfl (lv_at hl 1 rfl) ?_
      refine g_get (C := RX4) (T := TX4) (N := 43) (ci := 6) (v := .ref (b 16)) hx hb hts hi6 hown hK hW fM rfl 16 (by decide) (hts (.fieldLink RX4 50 "LongTransferModel" "place" "[I") (by decide +kernel)) (fun _ h9 => h9) rfl dX4_take_223 ?_
      refine lv_iload_n hx hb dX4_take_226 rfl (lv_at hl 0 rfl) ?_
      refine g_iald hx hb hK hW f16_ (by omega) (by omega) (by omega) dX4_take_227 ?_
      have hq16 : mu14w 16 r = sRR g ff 30 r 0 := (hfin.2.2.2.2.2.2.1 r (by omega) (by omega)).1
      have hpst : Rl (sRR g ff) mu14w := hfin
      exact W.iret hx hb hr (fun t ht hw => ⟨⟨_, (en14w, mu14w), rfl, ⟨by unfold aRR; rw [← hrd, ← hq16], hE14w, hF14w, hpst⟩, by show Wd _ _ _ t.heap; rw [ht]; exact hW⟩, hS.F ht⟩) hS.2.2 dX4_take_228
  obtain ⟨rX, rC, rG, rD, rS, rF, rR, rB⟩ := id hR
  unfold RX at rX
  have rFf := rF.1 ff (by omega) (by omega)
  unfold RF at rFf
  obtain ⟨⟨r27, r28, r29, r30, r31, r32⟩, -, -⟩ := rFf
  have hqr := rR r (by omega) (by omega)
  have hq16 := hqr.1
  have hq17 : g 30 r 0 = 1 → mu 17 r = g 31 r 0 := fun q => (hqr.2.1 q).1.1
  have fM : en 20 0 = some (b 0, .inr (6, [.int (iZ (mu 0 0)), .int (iZ (mu 1 0)), .long (lZ (mu 2 0)), .int (iZ (mu 3 0)), .ref (b 4), .ref (b 5), .ref (b 6), .ref (b 7), .ref (b 8), .ref (b 9), .ref (b 10), .ref (b 11), .ref (b 12), .ref (b 13), .ref (b 14), .ref (b 15), .ref (b 16), .ref (b 17), .ref (b 18), .ref (b 19), .ref (b 20), .ref (b 21), .ref (b 22), .ref (b 23), .ref (b 24), .ref (b 25), .int (iZ (mu 26 0)), .ref (b 27), .ref (b 28), .ref (b 29), .ref (b 30), .ref (b 31), .ref (b 32), .ref (b 33), .ref (b 34), .int (iZ (mu 35 0)), .int (iZ (mu 36 0)), .int (iZ (mu 37 0)), .int (iZ (mu 38 0)), .int (iZ (mu 39 0)), .int (iZ (mu 40 0)), .ref (b 41), .ref (b 42)])) := hE.1
  have f16_ : en 36 0 = some (b 16, aI dA (4) (mu 16)) := hE.2 16 (by decide)
  have f17_ : en 37 0 = some (b 17, aI dA (4) (mu 17)) := hE.2 17 (by decide)
  have f18_ : en 38 0 = some (b 18, aI dA (4) (mu 18)) := hE.2 18 (by decide)
  have f19_ : en 39 0 = some (b 19, aI dA (4) (mu 19)) := hE.2 19 (by decide)
  have f20_ : en 40 0 = some (b 20, aI dA (4) (mu 20)) := hE.2 20 (by decide)
  have f21_ : en 41 0 = some (b 21, aI dA (4) (mu 21)) := hE.2 21 (by decide)
  have f27_ : en 47 0 = some (b 27, aI dA (6001) (mu 27)) := hE.2 27 (by decide)
  have f28_ : en 48 0 = some (b 28, aI dA (6001) (mu 28)) := hE.2 28 (by decide)
  have f29_ : en 49 0 = some (b 29, aI dA (6001) (mu 29)) := hE.2 29 (by decide)
  have f30_ : en 50 0 = some (b 30, aI dA (6001) (mu 30)) := hE.2 30 (by decide)
  refine lv_aload_n hx hb dX4_take_0 rfl (lv_at hl 0 rfl) ?_
  refine g_get (C := RX4) (T := TX4) (N := 43) (ci := 6) (v := .ref (b 28)) hx hb hts hi6 hown hK hW fM rfl 28 (by decide) (hts (.fieldLink RX4 84 "LongTransferModel" "of" "[I") (by decide +kernel)) (fun _ h9 => h9) rfl dX4_take_1 ?_
  refine lv_iload_n hx hb dX4_take_4 rfl (lv_at hl 1 rfl) ?_
  refine g_iald hx hb hK hW f28_ (by omega) (by omega) (by omega) dX4_take_5 ?_
  refine z_iconst hx hb dX4_take_6 ?_
  refine z_irem hx hb (by omega) (by omega) (by omega) (by omega) dX4_take_7 ?_
  rw [show ((mu 28) (ff)) % 4 = r by omega]
  refine lv_istore_n (lv' := [(2, .int (iZ (r))), (0, .ref (b 0)), (1, .int (iZ (ff)))]) hx hb dX4_take_8 rfl hl (by decide) rfl (fun ls hl => ?_)
  refine lv_aload_n hx hb dX4_take_9 rfl (lv_at hl 1 rfl) ?_
  refine g_get (C := RX4) (T := TX4) (N := 43) (ci := 6) (v := .ref (b 27)) hx hb hts hi6 hown hK hW fM rfl 27 (by decide) (hts (.fieldLink RX4 81 "LongTransferModel" "kind" "[I") (by decide +kernel)) (fun _ h9 => h9) rfl dX4_take_10 ?_
  refine lv_iload_n hx hb dX4_take_13 rfl (lv_at hl 2 rfl) ?_
  refine g_iald hx hb hK hW f27_ (by omega) (by omega) (by omega) dX4_take_14 ?_
  refine z_iconst hx hb dX4_take_15 ?_
  refine z_icmp_ne (tgt := 57) hx hb dX4_take_16 (by decide) (by omega) (by omega) (fun c_16 => ?_) (fun c_16 => ?_)
  · refine lv_aload_n hx hb dX4_take_57 rfl (lv_at hl 1 rfl) ?_
    refine g_get (C := RX4) (T := TX4) (N := 43) (ci := 6) (v := .ref (b 16)) hx hb hts hi6 hown hK hW fM rfl 16 (by decide) (hts (.fieldLink RX4 50 "LongTransferModel" "place" "[I") (by decide +kernel)) (fun _ h9 => h9) rfl dX4_take_58 ?_
    refine lv_iload_n hx hb dX4_take_61 rfl (lv_at hl 0 rfl) ?_
    refine g_iald hx hb hK hW f16_ (by omega) (by omega) (by omega) dX4_take_62 ?_
    refine z_iconst hx hb dX4_take_63 ?_
    refine z_icmp_ne (tgt := 74) hx hb dX4_take_64 (by decide) (by omega) (by omega) (fun c_64 => ?_) (fun c_64 => ?_)
    · have hR6 : Rl g6 mu := by rw [hg6]; unfold sE6; rw [if_neg (by omega)]; exact hR
      refine W.widen (k := 0) (n := 0) (by omega) (by omega) ?_
      exact k74  mu en _ _ _  hE hW hS (lv_sub hl [0, 1, 2] rfl) (FM.rf _) hR6 (by omega)
    · refine lv_aload_n hx hb dX4_take_67 rfl (lv_at hl 1 rfl) ?_
      refine lv_iload_n hx hb dX4_take_68 rfl (lv_at hl 0 rfl) ?_
      refine z_bipush hx hb dX4_take_69 (by decide) ?_
      refine va_callv (va_runV (As := [.int (iZ (r)), .int (iZ (6))]) (rest := []) ⟨hx, hb, hml, hown, hts⟩ (c_X4_endReceiver l D dA z en b mu r 6 (by omega) (by omega) (by omega) (by omega) hE) (cwV 2 hts gX4_take_X4_endReceiver rfl rfl rfl (by decide +kernel) ⟨Nat.le_of_ble_eq_true rfl, Nat.le_of_ble_eq_true rfl⟩) ⟨gBl, gRecv hK hW (ci := 6) rfl fM, gPre _ hg hS hW⟩ rfl rfl hl.1 rfl (lv_room (Nat.le_of_ble_eq_true rfl)) dX4_take_71 ⟨(show 0 + 0 ≤ 0 by omega), (show 0 + 0 ≤ 0 by omega)⟩) hS (fun _ _ h => h) (fun _ h => h) (fun u9 t9 H locs ht9 hvm9 hw9 hB9 hz9 hk9 hS => ?_)
      obtain ⟨en15w, mu15w⟩ := u9
      obtain ⟨hE15w, hF15w, hmu15w⟩ := hw9
      have hW : Wd D (z 0) en15w H := by rw [← ht9]; exact hB9
      dsimp only at hE15w hF15w hmu15w
      have fM : en15w 20 0 = some (b 0, .inr (6, [.int (iZ (mu15w 0 0)), .int (iZ (mu15w 1 0)), .long (lZ (mu15w 2 0)), .int (iZ (mu15w 3 0)), .ref (b 4), .ref (b 5), .ref (b 6), .ref (b 7), .ref (b 8), .ref (b 9), .ref (b 10), .ref (b 11), .ref (b 12), .ref (b 13), .ref (b 14), .ref (b 15), .ref (b 16), .ref (b 17), .ref (b 18), .ref (b 19), .ref (b 20), .ref (b 21), .ref (b 22), .ref (b 23), .ref (b 24), .ref (b 25), .int (iZ (mu15w 26 0)), .ref (b 27), .ref (b 28), .ref (b 29), .ref (b 30), .ref (b 31), .ref (b 32), .ref (b 33), .ref (b 34), .int (iZ (mu15w 35 0)), .int (iZ (mu15w 36 0)), .int (iZ (mu15w 37 0)), .int (iZ (mu15w 38 0)), .int (iZ (mu15w 39 0)), .int (iZ (mu15w 40 0)), .ref (b 41), .ref (b 42)])) := hE15w.1
      have f16_ : en15w 36 0 = some (b 16, aI dA (4) (mu15w 16)) := hE15w.2 16 (by decide)
      have f17_ : en15w 37 0 = some (b 17, aI dA (4) (mu15w 17)) := hE15w.2 17 (by decide)
      have f18_ : en15w 38 0 = some (b 18, aI dA (4) (mu15w 18)) := hE15w.2 18 (by decide)
      have f19_ : en15w 39 0 = some (b 19, aI dA (4) (mu15w 19)) := hE15w.2 19 (by decide)
      have f20_ : en15w 40 0 = some (b 20, aI dA (4) (mu15w 20)) := hE15w.2 20 (by decide)
      have f21_ : en15w 41 0 = some (b 21, aI dA (4) (mu15w 21)) := hE15w.2 21 (by decide)
      have f27_ : en15w 47 0 = some (b 27, aI dA (6001) (mu15w 27)) := hE15w.2 27 (by decide)
      have f28_ : en15w 48 0 = some (b 28, aI dA (6001) (mu15w 28)) := hE15w.2 28 (by decide)
      have f29_ : en15w 49 0 = some (b 29, aI dA (6001) (mu15w 29)) := hE15w.2 29 (by decide)
      have f30_ : en15w 50 0 = some (b 30, aI dA (6001) (mu15w 30)) := hE15w.2 30 (by decide)
      have hR6 : Rl g6 mu15w := by rw [hg6, hmu15w]; unfold sE6; rw [if_pos (by omega)]; exact rl_er hI hR (by omega) (by omega) (by omega)
      refine W.widen (k := 0) (n := 0) (by omega) (by omega) ?_
      exact k74  mu15w en15w _ _ _  hE15w hW hS (lv_sub hl [0, 1, 2] rfl) hF15w hR6 (by omega)
  · refine lv_aload_n hx hb dX4_take_19 rfl (lv_at hl 1 rfl) ?_
    refine g_get (C := RX4) (T := TX4) (N := 43) (ci := 6) (v := .ref (b 16)) hx hb hts hi6 hown hK hW fM rfl 16 (by decide) (hts (.fieldLink RX4 50 "LongTransferModel" "place" "[I") (by decide +kernel)) (fun _ h9 => h9) rfl dX4_take_20 ?_
    refine lv_iload_n hx hb dX4_take_23 rfl (lv_at hl 0 rfl) ?_
    refine g_iald hx hb hK hW f16_ (by omega) (by omega) (by omega) dX4_take_24 ?_
    refine z_iconst hx hb dX4_take_25 ?_
    refine z_icmp_ne (tgt := 50) hx hb dX4_take_26 (by decide) (by omega) (by omega) (fun c_26 => ?_) (fun c_26 => ?_)
    · refine lv_aload_n hx hb dX4_take_50 rfl (lv_at hl 1 rfl) ?_
      refine g_get (C := RX4) (T := TX4) (N := 43) (ci := 6) (v := .ref (b 16)) hx hb hts hi6 hown hK hW fM rfl 16 (by decide) (hts (.fieldLink RX4 50 "LongTransferModel" "place" "[I") (by decide +kernel)) (fun _ h9 => h9) rfl dX4_take_51 ?_
      refine lv_iload_n hx hb dX4_take_54 rfl (lv_at hl 0 rfl) ?_
      refine g_iald hx hb hK hW f16_ (by omega) (by omega) (by omega) dX4_take_55 ?_
      have hg2 : sRR g ff = g := by unfold sRR; rw [if_pos (by omega), ← hrd, if_neg (by omega)]
      have hfin : Rl (sRR g ff) mu := by rw [hg2]; exact hR
      have hq16z : mu 16 r = sRR g ff 30 r 0 := (hfin.2.2.2.2.2.2.1 r (by omega) (by omega)).1
      have hpst : Rl (sRR g ff) mu := hfin
      exact W.iret hx hb hr (fun t ht hw => ⟨⟨_, (en, mu), rfl, ⟨by unfold aRR; rw [← hrd, ← hq16z], hE, (FM.rf _), hpst⟩, by show Wd _ _ _ t.heap; rw [ht]; exact hW⟩, hS.F ht⟩) hS.2.2 dX4_take_56
    · have hq17b := hq17 (by omega)
      refine lv_aload_n hx hb dX4_take_29 rfl (lv_at hl 1 rfl) ?_
      refine g_get (C := RX4) (T := TX4) (N := 43) (ci := 6) (v := .ref (b 17)) hx hb hts hi6 hown hK hW fM rfl 17 (by decide) (hts (.fieldLink RX4 53 "LongTransferModel" "message" "[I") (by decide +kernel)) (fun _ h9 => h9) rfl dX4_take_30 ?_
      refine lv_iload_n hx hb dX4_take_33 rfl (lv_at hl 0 rfl) ?_
      refine g_iald hx hb hK hW f17_ (by omega) (by omega) (by omega) dX4_take_34 ?_
      refine lv_aload_n hx hb dX4_take_35 rfl (lv_at hl 1 rfl) ?_
      refine g_get (C := RX4) (T := TX4) (N := 43) (ci := 6) (v := .ref (b 28)) hx hb hts hi6 hown hK hW fM rfl 28 (by decide) (hts (.fieldLink RX4 84 "LongTransferModel" "of" "[I") (by decide +kernel)) (fun _ h9 => h9) rfl dX4_take_36 ?_
      refine lv_iload_n hx hb dX4_take_39 rfl (lv_at hl 2 rfl) ?_
      refine g_iald hx hb hK hW f28_ (by omega) (by omega) (by omega) dX4_take_40 ?_
      refine z_icmp_ne (tgt := 50) hx hb dX4_take_41 (by decide) (by omega) (by omega) (fun c_41 => ?_) (fun c_41 => ?_)
      · refine lv_aload_n hx hb dX4_take_50 rfl (lv_at hl 1 rfl) ?_
        refine g_get (C := RX4) (T := TX4) (N := 43) (ci := 6) (v := .ref (b 16)) hx hb hts hi6 hown hK hW fM rfl 16 (by decide) (hts (.fieldLink RX4 50 "LongTransferModel" "place" "[I") (by decide +kernel)) (fun _ h9 => h9) rfl dX4_take_51 ?_
        refine lv_iload_n hx hb dX4_take_54 rfl (lv_at hl 0 rfl) ?_
        refine g_iald hx hb hK hW f16_ (by omega) (by omega) (by omega) dX4_take_55 ?_
        have hg2 : sRR g ff = g := by unfold sRR; rw [if_pos (by omega), ← hrd, if_neg (by omega)]
        have hfin : Rl (sRR g ff) mu := by rw [hg2]; exact hR
        have hq16z : mu 16 r = sRR g ff 30 r 0 := (hfin.2.2.2.2.2.2.1 r (by omega) (by omega)).1
        have hpst : Rl (sRR g ff) mu := hfin
        exact W.iret hx hb hr (fun t ht hw => ⟨⟨_, (en, mu), rfl, ⟨by unfold aRR; rw [← hrd, ← hq16z], hE, (FM.rf _), hpst⟩, by show Wd _ _ _ t.heap; rw [ht]; exact hW⟩, hS.F ht⟩) hS.2.2 dX4_take_56
      · refine lv_aload_n hx hb dX4_take_44 rfl (lv_at hl 1 rfl) ?_
        refine lv_iload_n hx hb dX4_take_45 rfl (lv_at hl 0 rfl) ?_
        refine lv_iload_n hx hb dX4_take_46 rfl (lv_at hl 2 rfl) ?_
        have hJr := hj.2 r (by omega) (by omega)
        unfold JR at hJr
        have hJ2 := hJr.2 (by omega)
        have hcs1 := hcs (by omega) (by rw [← hrd]; omega) (by rw [← hrd]; omega)
        rw [← hrd] at hcs1
        refine va_callv (va_runV (As := [.int (iZ (r)), .int (iZ (ff))]) (rest := []) ⟨hx, hb, hml, hown, hts⟩ (c_X4_takeNext l D dA z en b mu g r ff (by omega) (by omega) (by omega) (by omega) (by omega) (by omega) (by omega) (by omega) (by omega) hI hR hE) (cwV 2 hts gX4_take_X4_takeNext rfl rfl rfl (by decide +kernel) ⟨Nat.le_of_ble_eq_true rfl, Nat.le_of_ble_eq_true rfl⟩) ⟨gBl, gRecv hK hW (ci := 6) rfl fM, gPre _ hg hS hW⟩ rfl rfl hl.1 rfl (lv_room (Nat.le_of_ble_eq_true rfl)) dX4_take_47 ⟨(show 0 + 0 ≤ 0 by omega), (show 0 + 0 ≤ 0 by omega)⟩) hS (fun _ _ h => h) (fun _ h => h) (fun u9 t9 H locs ht9 hvm9 hw9 hB9 hz9 hk9 hS => ?_)
        obtain ⟨en16w, mu16w⟩ := u9
        obtain ⟨hE16w, hF16w, hmu16w⟩ := hw9
        have hW : Wd D (z 0) en16w H := by rw [← ht9]; exact hB9
        dsimp only at hE16w hF16w hmu16w
        have fM : en16w 20 0 = some (b 0, .inr (6, [.int (iZ (mu16w 0 0)), .int (iZ (mu16w 1 0)), .long (lZ (mu16w 2 0)), .int (iZ (mu16w 3 0)), .ref (b 4), .ref (b 5), .ref (b 6), .ref (b 7), .ref (b 8), .ref (b 9), .ref (b 10), .ref (b 11), .ref (b 12), .ref (b 13), .ref (b 14), .ref (b 15), .ref (b 16), .ref (b 17), .ref (b 18), .ref (b 19), .ref (b 20), .ref (b 21), .ref (b 22), .ref (b 23), .ref (b 24), .ref (b 25), .int (iZ (mu16w 26 0)), .ref (b 27), .ref (b 28), .ref (b 29), .ref (b 30), .ref (b 31), .ref (b 32), .ref (b 33), .ref (b 34), .int (iZ (mu16w 35 0)), .int (iZ (mu16w 36 0)), .int (iZ (mu16w 37 0)), .int (iZ (mu16w 38 0)), .int (iZ (mu16w 39 0)), .int (iZ (mu16w 40 0)), .ref (b 41), .ref (b 42)])) := hE16w.1
        have f16_ : en16w 36 0 = some (b 16, aI dA (4) (mu16w 16)) := hE16w.2 16 (by decide)
        have f17_ : en16w 37 0 = some (b 17, aI dA (4) (mu16w 17)) := hE16w.2 17 (by decide)
        have f18_ : en16w 38 0 = some (b 18, aI dA (4) (mu16w 18)) := hE16w.2 18 (by decide)
        have f19_ : en16w 39 0 = some (b 19, aI dA (4) (mu16w 19)) := hE16w.2 19 (by decide)
        have f20_ : en16w 40 0 = some (b 20, aI dA (4) (mu16w 20)) := hE16w.2 20 (by decide)
        have f21_ : en16w 41 0 = some (b 21, aI dA (4) (mu16w 21)) := hE16w.2 21 (by decide)
        have f27_ : en16w 47 0 = some (b 27, aI dA (6001) (mu16w 27)) := hE16w.2 27 (by decide)
        have f28_ : en16w 48 0 = some (b 28, aI dA (6001) (mu16w 28)) := hE16w.2 28 (by decide)
        have f29_ : en16w 49 0 = some (b 29, aI dA (6001) (mu16w 29)) := hE16w.2 29 (by decide)
        have f30_ : en16w 50 0 = some (b 30, aI dA (6001) (mu16w 30)) := hE16w.2 30 (by decide)
        have hg2 : sRR g ff = sTC g r ff := by unfold sRR; rw [if_pos (by omega), ← hrd, if_pos ⟨by omega, by omega⟩]
        have hfin : Rl (sRR g ff) mu16w := by rw [hg2]; exact hmu16w
        refine lv_aload_n hx hb dX4_take_50 rfl (lv_at hl 1 rfl) ?_
        refine g_get (C := RX4) (T := TX4) (N := 43) (ci := 6) (v := .ref (b 16)) hx hb hts hi6 hown hK hW fM rfl 16 (by decide) (hts (.fieldLink RX4 50 "LongTransferModel" "place" "[I") (by decide +kernel)) (fun _ h9 => h9) rfl dX4_take_51 ?_
        refine lv_iload_n hx hb dX4_take_54 rfl (lv_at hl 0 rfl) ?_
        refine g_iald hx hb hK hW f16_ (by omega) (by omega) (by omega) dX4_take_55 ?_
        have hq16z : mu16w 16 r = sRR g ff 30 r 0 := (hfin.2.2.2.2.2.2.1 r (by omega) (by omega)).1
        have hpst : Rl (sRR g ff) mu16w := hfin
        exact W.iret hx hb hr (fun t ht hw => ⟨⟨_, (en16w, mu16w), rfl, ⟨by unfold aRR; rw [← hrd, ← hq16z], hE16w, hF16w, hpst⟩, by show Wd _ _ _ t.heap; rw [ht]; exact hW⟩, hS.F ht⟩) hS.2.2 dX4_take_56
