theorem rl_m {g : St} {mu mu' : Mu} (hI : IB g) (h : Rl g mu) (hm : ∀ (t : Nat) (j : Int), t ≠ 0 → mu' t j = mu t j) : Rl g mu' := by
  obtain ⟨hx, hc, hg, hd, hs, hf, hr, hb⟩ := h
  exact ⟨rx_c (fun t q => hm t 0 (by omega)) (fun i q q' => rfl) rfl rfl hx, rc_c (fun w => hm 42 w (by omega)) (fun w => rfl) rfl hc, rg_c (hm 40 0 (by omega)) (fun j => hm 41 j (by omega)) rfl (fun j => rfl) hg, rdt_c (fun j => hm 4 j (by omega)) (fun j => hm 5 j (by omega)) rfl (fun i => rfl) (fun i j => rfl) hd, rs_c rfl (fun t j q => hm t j (by omega)) (fun t j q => rfl) rfl hs, rf_c rfl hI (fun t j q => hm t j (by omega)) (fun t i j q => rfl) hf, rr_c (fun t j q => hm t j (by omega)) (fun t i j q => rfl) hr, rb_c (fun t j q => hm t j (by omega)) hb⟩
theorem rl_now {g : St} {mu mu' : Mu} (hI : IB g) (h : Rl g mu) {v : Int} (hm : mu' = u2 mu 2 0 v) : Rl (wr g 0 7 v) mu' := by
  obtain ⟨hx, hc, hg, hd, hs, hf, hr, hb⟩ := h
  have M : ∀ (t : Nat) (j : Int), t ≠ 2 → mu' t j = mu t j := fun t j q => by rw [hm]; exact u2_n (by omega)
  have G : ∀ (t : Nat) (i j : Int), ¬ (t = 0 ∧ i = 7) → wr g 0 7 v t i j = g t i j := fun t i j q => wr_n (by omega)
  refine ⟨?_, rc_c (fun w => M 42 w (by omega)) (fun w => G 2 w 0 (by omega)) (G 0 5 0 (by omega)) hc, rg_c (M 40 0 (by omega)) (fun j => M 41 j (by omega)) (G 1 2 0 (by omega)) (fun j => G 40 0 j (by omega)) hg, rdt_c (fun j => M 4 j (by omega)) (fun j => M 5 j (by omega)) (G 1 0 0 (by omega)) (fun i => G 11 i 0 (by omega)) (fun i j => G 19 i j (by omega)) hd, rs_c (G 1 0 0 (by omega)) (fun t j q => M t j (by omega)) (fun t j q => G t j 0 (by omega)) (G 0 8 0 (by omega)) hs, rf_c (G 1 1 0 (by omega)) hI (fun t j q => M t j (by omega)) (fun t i j q => G t i j (by omega)) hf, rr_c (fun t j q => M t j (by omega)) (fun t i j q => G t i j (by omega)) hr, rb_c (fun t j q => M t j (by omega)) hb⟩
  unfold RX at hx ⊢
  rw [M 1 0 (by omega), M 3 0 (by omega), M 26 0 (by omega), M 35 0 (by omega), M 36 0 (by omega), M 37 0 (by omega), M 38 0 (by omega), M 39 0 (by omega), hm, u2_s, G 0 0 0 (by omega), wr_s, G 1 0 0 (by omega), G 1 1 0 (by omega), G 0 10 0 (by omega), G 0 11 0 (by omega), G 0 9 0 (by omega), G 0 12 0 (by omega), G 0 13 0 (by omega)]
  exact ⟨⟨hx.1.1, rfl, hx.1.2.2⟩, hx.2⟩
theorem sum_c {g : St} {mu : Mu} (h : Rl g mu) : mSum mu = g 0 5 0 := by
  obtain ⟨ha, hb⟩ := h.2.1
  unfold mSum
  rw [ha 1 (by omega) (by omega), ha 2 (by omega) (by omega), ha 3 (by omega) (by omega), ha 4 (by omega) (by omega), ha 5 (by omega) (by omega), ha 6 (by omega) (by omega), ha 7 (by omega) (by omega), hb]
theorem begun {g : St} {mu : Mu} (h : Rl g mu) {m : Int} (h1 : 1 ≤ m) (h2 : m ≤ g 1 0 0) : (m ≤ g 0 8 0 ∧ mu 6 m = 1) ∨ (g 0 8 0 < m ∧ mu 6 m = 0) := by
  have q := (h.2.2.2.2.1.1 m h1 h2).1
  by_cases w : m ≤ g 0 8 0
  · rw [if_pos w] at q; exact Or.inl ⟨w, q⟩
  · rw [if_neg w] at q; exact Or.inr ⟨by omega, q⟩
theorem sts_i {g : St} (h : g 0 8 0 < g 1 0 0) (hI : IJ g) : sSts (g 1 0 0 - g 0 8 0).toNat g = sSts (sSt1 g 1 0 0 - sSt1 g 0 8 0).toNat (sSt1 g) := by
  have q := ij_st1 hI h
  rw [q.2.1.1, q.2.2.1, show (g 1 0 0 - g 0 8 0).toNat = (g 1 0 0 - (g 0 8 0 + 1)).toNat + 1 by omega, sSts_s]
set_option maxHeartbeats 4000000 in
set_option maxRecDepth 100000 in
theorem c_X4_tick (l : Launch) (D : va_G) (dA : Nat → ClassId) (z : Nat → Nat) (en : en_T) (b : Nat → Nat) (mu : Mu) (g : St) (tt : Int) (htl : lB tt) (hnow : g 0 7 0 ≤ 3990000) (fu fp : Nat) (hfu : 6000 < fu) (hfp : 5000 < fp) (hIJ : IJ g) (hd : PD g) (hR : Rl g mu) (hE : EM dA b mu en) : Met l yX4_tick wsX4_tick ({ frames := 4, cells := 0, slots := 0, locals := 120 }) (gP D dA z en [.ref (b 0), .long (lZ (tt))]) (va_Qi (fun (r8 : Int32) (u : en_T × Mu) => r8 = iZ (if tt < g 0 7 0 ∨ 5000 < tt - g 0 7 0 then -2 else sTick fu fp g tt 0 5 0 - g 0 5 0) ∧ EM dA b u.2 u.1 ∧ FM en u.1 ∧ Rl (sTick fu fp g tt) u.2) (fun u t9 => Wd D (z 0) u.1 t9.heap) (fun q => z 0 ≤ q)) (0) (0) (fun q => z 0 ≤ q) := by
  refine gMet (own := RX4) (cc := cX4_tick) (maxL := 5) (ret := (some .int)) (by decide) rfl rfl (Nat.le_of_ble_eq_true rfl) ?_
  intro p e s m below meth c hx hb hml hown hts hr hlocks hnm hg hW ls hl
  have hK := hg.1
  have hS : va_S (fun q => z 0 ≤ q) s.heap s.heap [] := va_S.rf
  have hi6 : ∀ w ∈ u_ws RX4 TX4 43, w ∈ wsX4_tick := by decide +kernel
  have hl : lv_has ls 5 [(0, .ref (b 0)), (1, .long (lZ (tt)))] := hl
  have rX0 := hR.1
  unfold RX at rX0
  have hx0 := hIJ.1.1
  unfold IX at hx0
  have hL0 := hIJ.1.2.1
  unfold IL at hL0
  have fM : en 20 0 = some (b 0, .inr (6, [.int (iZ (mu 0 0)), .int (iZ (mu 1 0)), .long (lZ (mu 2 0)), .int (iZ (mu 3 0)), .ref (b 4), .ref (b 5), .ref (b 6), .ref (b 7), .ref (b 8), .ref (b 9), .ref (b 10), .ref (b 11), .ref (b 12), .ref (b 13), .ref (b 14), .ref (b 15), .ref (b 16), .ref (b 17), .ref (b 18), .ref (b 19), .ref (b 20), .ref (b 21), .ref (b 22), .ref (b 23), .ref (b 24), .ref (b 25), .int (iZ (mu 26 0)), .ref (b 27), .ref (b 28), .ref (b 29), .ref (b 30), .ref (b 31), .ref (b 32), .ref (b 33), .ref (b 34), .int (iZ (mu 35 0)), .int (iZ (mu 36 0)), .int (iZ (mu 37 0)), .int (iZ (mu 38 0)), .int (iZ (mu 39 0)), .int (iZ (mu 40 0)), .ref (b 41), .ref (b 42)])) := hE.1
  have f6_ : en 26 0 = some (b 6, aZ dA (101) (mu 6)) := hE.2 6 (by decide)
  refine lv_aload_n hx hb dX4_tick_0 rfl (lv_at hl 0 rfl) ?_
  refine z_iconst hx hb dX4_tick_1 ?_
  refine g_put (C := RX4) (T := TX4) (N := 43) (ci := 6) (ty := .int) (v := .int (iZ (0))) (fs' := [.int (iZ (0)), .int (iZ (mu 1 0)), .long (lZ (mu 2 0)), .int (iZ (mu 3 0)), .ref (b 4), .ref (b 5), .ref (b 6), .ref (b 7), .ref (b 8), .ref (b 9), .ref (b 10), .ref (b 11), .ref (b 12), .ref (b 13), .ref (b 14), .ref (b 15), .ref (b 16), .ref (b 17), .ref (b 18), .ref (b 19), .ref (b 20), .ref (b 21), .ref (b 22), .ref (b 23), .ref (b 24), .ref (b 25), .int (iZ (mu 26 0)), .ref (b 27), .ref (b 28), .ref (b 29), .ref (b 30), .ref (b 31), .ref (b 32), .ref (b 33), .ref (b 34), .int (iZ (mu 35 0)), .int (iZ (mu 36 0)), .int (iZ (mu 37 0)), .int (iZ (mu 38 0)), .int (iZ (mu 39 0)), .int (iZ (mu 40 0)), .ref (b 41), .ref (b 42)]) hx hb hts hi6 tyX4 tyX4_ok nmX4 hown hK hW hS fM rfl 0 (by decide) (hts (.fieldLink RX4 120 "LongTransferModel" "code" "I") (by decide +kernel)) (fun _ h9 => h9) rfl (by decide +kernel) rfl rfl (Nat.le_of_ble_eq_true rfl) dX4_tick_2 rfl (fun H locs hW hS => ?_)
  obtain ⟨en1w, hen1w⟩ : ∃ x : en_T, x = e2 en 20 0 (some (b 0, .inr (6, [.int (iZ (0)), .int (iZ (mu 1 0)), .long (lZ (mu 2 0)), .int (iZ (mu 3 0)), .ref (b 4), .ref (b 5), .ref (b 6), .ref (b 7), .ref (b 8), .ref (b 9), .ref (b 10), .ref (b 11), .ref (b 12), .ref (b 13), .ref (b 14), .ref (b 15), .ref (b 16), .ref (b 17), .ref (b 18), .ref (b 19), .ref (b 20), .ref (b 21), .ref (b 22), .ref (b 23), .ref (b 24), .ref (b 25), .int (iZ (mu 26 0)), .ref (b 27), .ref (b 28), .ref (b 29), .ref (b 30), .ref (b 31), .ref (b 32), .ref (b 33), .ref (b 34), .int (iZ (mu 35 0)), .int (iZ (mu 36 0)), .int (iZ (mu 37 0)), .int (iZ (mu 38 0)), .int (iZ (mu 39 0)), .int (iZ (mu 40 0)), .ref (b 41), .ref (b 42)]))) := ⟨_, rfl⟩
  rw [← hen1w] at hW
  obtain ⟨mu1w, hmu1w⟩ : ∃ x : Mu, x = u2 mu 0 (0) (0) := ⟨_, rfl⟩
  have hE1w : EM dA b mu1w en1w := by rw [hen1w, hmu1w]; exact em_f hE (k0 := 0) (v := 0) (by decide)
  have hF1w : FM en en1w := fun k i q => by rw [hen1w]; exact e2_k (fun w => q (by rw [w]; decide))
  have fM : en1w 20 0 = some (b 0, .inr (6, [.int (iZ (mu1w 0 0)), .int (iZ (mu1w 1 0)), .long (lZ (mu1w 2 0)), .int (iZ (mu1w 3 0)), .ref (b 4), .ref (b 5), .ref (b 6), .ref (b 7), .ref (b 8), .ref (b 9), .ref (b 10), .ref (b 11), .ref (b 12), .ref (b 13), .ref (b 14), .ref (b 15), .ref (b 16), .ref (b 17), .ref (b 18), .ref (b 19), .ref (b 20), .ref (b 21), .ref (b 22), .ref (b 23), .ref (b 24), .ref (b 25), .int (iZ (mu1w 26 0)), .ref (b 27), .ref (b 28), .ref (b 29), .ref (b 30), .ref (b 31), .ref (b 32), .ref (b 33), .ref (b 34), .int (iZ (mu1w 35 0)), .int (iZ (mu1w 36 0)), .int (iZ (mu1w 37 0)), .int (iZ (mu1w 38 0)), .int (iZ (mu1w 39 0)), .int (iZ (mu1w 40 0)), .ref (b 41), .ref (b 42)])) := hE1w.1
  have f6_ : en1w 26 0 = some (b 6, aZ dA (101) (mu1w 6)) := hE1w.2 6 (by decide)
  have hR1 : Rl g mu1w := rl_m hIJ.1 hR (fun t j q => by rw [hmu1w]; exact u2_n (by omega))
  clear rX0
  have rX0 := hR1.1
  unfold RX at rX0
  refine lv_lload_n hx hb dX4_tick_5 rfl (lv_at hl 1 rfl) ?_
  refine lv_aload_n hx hb dX4_tick_6 rfl (lv_at hl 0 rfl) ?_
  refine g_get (C := RX4) (T := TX4) (N := 43) (ci := 6) (v := .long (lZ (mu1w 2 0))) hx hb hts hi6 hown hK hW fM rfl 2 (by decide) (hts (.fieldLink RX4 137 "LongTransferModel" "now" "J") (by decide +kernel)) (fun _ h9 => h9) rfl dX4_tick_7 ?_
  refine z_lc_lt (tgt := 27) hx hb dX4_tick_10 dX4_tick_11 (by decide) (by omega) (by omega) (fun c_10 => ?_) (fun c_10 => ?_)
  · refine z_bipush hx hb dX4_tick_27 (by decide) ?_
    have hpst : Rl (sTick fu fp g tt) mu1w := by unfold sTick; rw [if_pos (by omega)]; exact hR1
    exact W.iret hx hb hr (fun t ht hw => ⟨⟨_, (en1w, mu1w), rfl, ⟨congrArg iZ (by rw [if_pos (by omega)]), hE1w, hF1w, hpst⟩, by show Wd _ _ _ t.heap; rw [ht]; exact hW⟩, hS.F ht⟩) hS.2.2 dX4_tick_29
  · refine lv_lload_n hx hb dX4_tick_14 rfl (lv_at hl 1 rfl) ?_
    refine lv_aload_n hx hb dX4_tick_15 rfl (lv_at hl 0 rfl) ?_
    refine g_get (C := RX4) (T := TX4) (N := 43) (ci := 6) (v := .long (lZ (mu1w 2 0))) hx hb hts hi6 hown hK hW fM rfl 2 (by decide) (hts (.fieldLink RX4 137 "LongTransferModel" "now" "J") (by decide +kernel)) (fun _ h9 => h9) rfl dX4_tick_16 ?_
    refine z_lsub hx hb dX4_tick_19 ?_
    refine z_ldc2 hx hb 5000 hown (hts (.constantLong RX4 192 (5000)) (by decide +kernel)) (by decide) dX4_tick_20 ?_
    refine z_lc_le (tgt := 30) hx hb dX4_tick_23 dX4_tick_24 (by decide) (by omega) (by omega) (fun c_23 => ?_) (fun c_23 => ?_)
    · refine lv_aload_n hx hb dX4_tick_30 rfl (lv_at hl 0 rfl) ?_
      refine va_calli (va_runV (As := []) (rest := []) ⟨hx, hb, hml, hown, hts⟩ (c_X4_sum l D dA z en1w b mu1w hE1w) (cwV 0 hts gX4_tick_X4_sum rfl rfl rfl (by decide +kernel) ⟨Nat.le_of_ble_eq_true rfl, Nat.le_of_ble_eq_true rfl⟩) ⟨gBl, gRecv hK hW (ci := 6) rfl fM, gPre _ hg hS hW⟩ rfl rfl hl.1 rfl (lv_room (Nat.le_of_ble_eq_true rfl)) dX4_tick_31 ⟨(show 0 + 0 ≤ 0 by omega), (show 0 + 0 ≤ 0 by omega)⟩) hS (fun _ _ h => h) (fun _ h => h) (fun r9 u9 t9 H locs ht9 hvm9 hw9 hB9 hz9 hk9 hS => ?_)
      have hW : Wd D (z 0) en1w H := by rw [← ht9]; exact hB9
      subst hw9
      obtain ⟨sv, hsv⟩ : ∃ x : Int, x = mSum mu1w := ⟨_, rfl⟩
      rw [← hsv]
      have hsv2 : sv = g 0 5 0 := by rw [hsv]; exact sum_c hR1
      have hcnd : ¬ (tt < g 0 7 0 ∨ 5000 < tt - g 0 7 0) := by omega
      clear hsv
      have k2 : ∀ (n : Nat) (muT : Mu) (enT : en_T) (H : Heap) (locs : List Loc) (ls : Array Slot) (gT : St), EM dA b muT enT → Wd D (z 0) enT H → va_S (fun q => z 0 ≤ q) s.heap H locs → lv_has ls 5 [(3, .int (iZ (sv))), (0, .ref (b 0)), (1, .long (lZ (tt)))] → FM en enT → Rl gT muT → IJ gT → PS gT → gT 0 7 0 + (n : Int) = tt → sTick fu fp g tt = dL fu n gT → W p l e ({ frames := 4, cells := 0, slots := 0, locals := 120 }) s m (([.ref (b 0), .long (lZ (tt))] : List Value).toArray) below meth c H locs 0 0 (MQ below (va_Qi (fun (r8 : Int32) (u : en_T × Mu) => r8 = iZ (if tt < g 0 7 0 ∨ 5000 < tt - g 0 7 0 then -2 else sTick fu fp g tt 0 5 0 - g 0 5 0) ∧ EM dA b u.2 u.1 ∧ FM en u.1 ∧ Rl (sTick fu fp g tt) u.2) (fun u t9 => Wd D (z 0) u.1 t9.heap) (fun q => z 0 ≤ q)) ([.ref (b 0), .long (lZ (tt))] : List Value).toArray s (0) (0) (fun q => z 0 ≤ q)) (F0 m 73 ls []) := by
        intro n
        induction n with
        | zero =>
          intro muT enT H locs ls gT hET hW hS hl hFT hRT hIT hST hnT heT
          have rX := hRT.1
          unfold RX at rX
          have hxT := hIT.1.1
          unfold IX at hxT
          have fM : enT 20 0 = some (b 0, .inr (6, [.int (iZ (muT 0 0)), .int (iZ (muT 1 0)), .long (lZ (muT 2 0)), .int (iZ (muT 3 0)), .ref (b 4), .ref (b 5), .ref (b 6), .ref (b 7), .ref (b 8), .ref (b 9), .ref (b 10), .ref (b 11), .ref (b 12), .ref (b 13), .ref (b 14), .ref (b 15), .ref (b 16), .ref (b 17), .ref (b 18), .ref (b 19), .ref (b 20), .ref (b 21), .ref (b 22), .ref (b 23), .ref (b 24), .ref (b 25), .int (iZ (muT 26 0)), .ref (b 27), .ref (b 28), .ref (b 29), .ref (b 30), .ref (b 31), .ref (b 32), .ref (b 33), .ref (b 34), .int (iZ (muT 35 0)), .int (iZ (muT 36 0)), .int (iZ (muT 37 0)), .int (iZ (muT 38 0)), .int (iZ (muT 39 0)), .int (iZ (muT 40 0)), .ref (b 41), .ref (b 42)])) := hET.1
          have f6_ : enT 26 0 = some (b 6, aZ dA (101) (muT 6)) := hET.2 6 (by decide)
          refine lv_aload_n hx hb dX4_tick_73 rfl (lv_at hl 1 rfl) ?_
          refine g_get (C := RX4) (T := TX4) (N := 43) (ci := 6) (v := .long (lZ (muT 2 0))) hx hb hts hi6 hown hK hW fM rfl 2 (by decide) (hts (.fieldLink RX4 137 "LongTransferModel" "now" "J") (by decide +kernel)) (fun _ h9 => h9) rfl dX4_tick_74 ?_
          refine lv_lload_n hx hb dX4_tick_77 rfl (lv_at hl 2 rfl) ?_
          refine z_lc_ge (tgt := 99) hx hb dX4_tick_78 dX4_tick_79 (by decide) (by omega) (by omega) (fun _ => ?_) (fun c_q => absurd c_q (by omega))
          refine lv_aload_n hx hb dX4_tick_99 rfl (lv_at hl 1 rfl) ?_
          refine va_calli (va_runV (As := []) (rest := []) ⟨hx, hb, hml, hown, hts⟩ (c_X4_sum l D dA z enT b muT hET) (cwV 0 hts gX4_tick_X4_sum rfl rfl rfl (by decide +kernel) ⟨Nat.le_of_ble_eq_true rfl, Nat.le_of_ble_eq_true rfl⟩) ⟨gBl, gRecv hK hW (ci := 6) rfl fM, gPre _ hg hS hW⟩ rfl rfl hl.1 rfl (lv_room (Nat.le_of_ble_eq_true rfl)) dX4_tick_100 ⟨(show 0 + 0 ≤ 0 by omega), (show 0 + 0 ≤ 0 by omega)⟩) hS (fun _ _ h => h) (fun _ h => h) (fun r9 u9 t9 H locs ht9 hvm9 hw9 hB9 hz9 hk9 hS => ?_)
          have hW : Wd D (z 0) enT H := by rw [← ht9]; exact hB9
          subst hw9
          refine lv_iload_n hx hb dX4_tick_103 rfl (lv_at hl 0 rfl) ?_
          refine z_isub hx hb dX4_tick_104 ?_
          have hpst : Rl (sTick fu fp g tt) muT := by rw [heT, dL_0]; exact hRT
          exact W.iret hx hb hr (fun t ht hw => ⟨⟨_, (enT, muT), rfl, ⟨congrArg iZ (by rw [if_neg hcnd, heT, dL_0, sum_c hRT, hsv2]), hET, hFT, hpst⟩, by show Wd _ _ _ t.heap; rw [ht]; exact hW⟩, hS.F ht⟩) hS.2.2 dX4_tick_105
        | succ n ih =>
          intro muT enT H locs ls gT hET hW hS hl hFT hRT hIT hST hnT heT
          have rX := hRT.1
          unfold RX at rX
          have hxT := hIT.1.1
          unfold IX at hxT
          have fM : enT 20 0 = some (b 0, .inr (6, [.int (iZ (muT 0 0)), .int (iZ (muT 1 0)), .long (lZ (muT 2 0)), .int (iZ (muT 3 0)), .ref (b 4), .ref (b 5), .ref (b 6), .ref (b 7), .ref (b 8), .ref (b 9), .ref (b 10), .ref (b 11), .ref (b 12), .ref (b 13), .ref (b 14), .ref (b 15), .ref (b 16), .ref (b 17), .ref (b 18), .ref (b 19), .ref (b 20), .ref (b 21), .ref (b 22), .ref (b 23), .ref (b 24), .ref (b 25), .int (iZ (muT 26 0)), .ref (b 27), .ref (b 28), .ref (b 29), .ref (b 30), .ref (b 31), .ref (b 32), .ref (b 33), .ref (b 34), .int (iZ (muT 35 0)), .int (iZ (muT 36 0)), .int (iZ (muT 37 0)), .int (iZ (muT 38 0)), .int (iZ (muT 39 0)), .int (iZ (muT 40 0)), .ref (b 41), .ref (b 42)])) := hET.1
          have f6_ : enT 26 0 = some (b 6, aZ dA (101) (muT 6)) := hET.2 6 (by decide)
          refine lv_aload_n hx hb dX4_tick_73 rfl (lv_at hl 1 rfl) ?_
          refine g_get (C := RX4) (T := TX4) (N := 43) (ci := 6) (v := .long (lZ (muT 2 0))) hx hb hts hi6 hown hK hW fM rfl 2 (by decide) (hts (.fieldLink RX4 137 "LongTransferModel" "now" "J") (by decide +kernel)) (fun _ h9 => h9) rfl dX4_tick_74 ?_
          refine lv_lload_n hx hb dX4_tick_77 rfl (lv_at hl 2 rfl) ?_
          refine z_lc_ge (tgt := 99) hx hb dX4_tick_78 dX4_tick_79 (by decide) (by omega) (by omega) (fun c_q => absurd c_q (by omega)) (fun _ => ?_)
          refine lv_aload_n hx hb dX4_tick_82 rfl (lv_at hl 1 rfl) ?_
          refine lv_dup hx hb dX4_tick_83 rfl ?_
          refine g_get (C := RX4) (T := TX4) (N := 43) (ci := 6) (v := .long (lZ (muT 2 0))) hx hb hts hi6 hown hK hW fM rfl 2 (by decide) (hts (.fieldLink RX4 137 "LongTransferModel" "now" "J") (by decide +kernel)) (fun _ h9 => h9) rfl dX4_tick_84 ?_
          refine z_lconst hx hb (1) dX4_tick_87 (by decide) ?_
          refine z_ladd hx hb dX4_tick_88 ?_
          refine g_put (C := RX4) (T := TX4) (N := 43) (ci := 6) (ty := .long) (v := .long (lZ ((muT 2 0) + 1))) (fs' := [.int (iZ (muT 0 0)), .int (iZ (muT 1 0)), .long (lZ ((muT 2 0) + 1)), .int (iZ (muT 3 0)), .ref (b 4), .ref (b 5), .ref (b 6), .ref (b 7), .ref (b 8), .ref (b 9), .ref (b 10), .ref (b 11), .ref (b 12), .ref (b 13), .ref (b 14), .ref (b 15), .ref (b 16), .ref (b 17), .ref (b 18), .ref (b 19), .ref (b 20), .ref (b 21), .ref (b 22), .ref (b 23), .ref (b 24), .ref (b 25), .int (iZ (muT 26 0)), .ref (b 27), .ref (b 28), .ref (b 29), .ref (b 30), .ref (b 31), .ref (b 32), .ref (b 33), .ref (b 34), .int (iZ (muT 35 0)), .int (iZ (muT 36 0)), .int (iZ (muT 37 0)), .int (iZ (muT 38 0)), .int (iZ (muT 39 0)), .int (iZ (muT 40 0)), .ref (b 41), .ref (b 42)]) hx hb hts hi6 tyX4 tyX4_ok nmX4 hown hK hW hS fM rfl 2 (by decide) (hts (.fieldLink RX4 137 "LongTransferModel" "now" "J") (by decide +kernel)) (fun _ h9 => h9) rfl (by decide +kernel) rfl rfl (Nat.le_of_ble_eq_true rfl) dX4_tick_89 rfl (fun H locs hW hS => ?_)
          obtain ⟨en2w, hen2w⟩ : ∃ x : en_T, x = e2 enT 20 0 (some (b 0, .inr (6, [.int (iZ (muT 0 0)), .int (iZ (muT 1 0)), .long (lZ ((muT 2 0) + 1)), .int (iZ (muT 3 0)), .ref (b 4), .ref (b 5), .ref (b 6), .ref (b 7), .ref (b 8), .ref (b 9), .ref (b 10), .ref (b 11), .ref (b 12), .ref (b 13), .ref (b 14), .ref (b 15), .ref (b 16), .ref (b 17), .ref (b 18), .ref (b 19), .ref (b 20), .ref (b 21), .ref (b 22), .ref (b 23), .ref (b 24), .ref (b 25), .int (iZ (muT 26 0)), .ref (b 27), .ref (b 28), .ref (b 29), .ref (b 30), .ref (b 31), .ref (b 32), .ref (b 33), .ref (b 34), .int (iZ (muT 35 0)), .int (iZ (muT 36 0)), .int (iZ (muT 37 0)), .int (iZ (muT 38 0)), .int (iZ (muT 39 0)), .int (iZ (muT 40 0)), .ref (b 41), .ref (b 42)]))) := ⟨_, rfl⟩
          rw [← hen2w] at hW
          obtain ⟨mu2w, hmu2w⟩ : ∃ x : Mu, x = u2 muT 2 (0) ((muT 2 0) + 1) := ⟨_, rfl⟩
          have hE2w : EM dA b mu2w en2w := by rw [hen2w, hmu2w]; exact em_f hET (k0 := 2) (v := (muT 2 0) + 1) (by decide)
          have hF2w : FM enT en2w := fun k i q => by rw [hen2w]; exact e2_k (fun w => q (by rw [w]; decide))
          have hF2w := FM.tr hFT hF2w
          have fM : en2w 20 0 = some (b 0, .inr (6, [.int (iZ (mu2w 0 0)), .int (iZ (mu2w 1 0)), .long (lZ (mu2w 2 0)), .int (iZ (mu2w 3 0)), .ref (b 4), .ref (b 5), .ref (b 6), .ref (b 7), .ref (b 8), .ref (b 9), .ref (b 10), .ref (b 11), .ref (b 12), .ref (b 13), .ref (b 14), .ref (b 15), .ref (b 16), .ref (b 17), .ref (b 18), .ref (b 19), .ref (b 20), .ref (b 21), .ref (b 22), .ref (b 23), .ref (b 24), .ref (b 25), .int (iZ (mu2w 26 0)), .ref (b 27), .ref (b 28), .ref (b 29), .ref (b 30), .ref (b 31), .ref (b 32), .ref (b 33), .ref (b 34), .int (iZ (mu2w 35 0)), .int (iZ (mu2w 36 0)), .int (iZ (mu2w 37 0)), .int (iZ (mu2w 38 0)), .int (iZ (mu2w 39 0)), .int (iZ (mu2w 40 0)), .ref (b 41), .ref (b 42)])) := hE2w.1
          have f6_ : en2w 26 0 = some (b 6, aZ dA (101) (mu2w 6)) := hE2w.2 6 (by decide)
          refine lv_aload_n hx hb dX4_tick_92 rfl (lv_at hl 1 rfl) ?_
          have hg7 : wr gT 0 7 (gT 0 7 0 + 1) 0 7 0 = gT 0 7 0 + 1 := wr_s _ _ _ _
          have hIn := ij_now hIT (u := gT 0 7 0 + 1) (by omega) (by omega)
          have hPn : PD (wr gT 0 7 (gT 0 7 0 + 1)) := by unfold PD; rw [hg7]; exact wu_now hST
          have hRn : Rl (wr gT 0 7 (gT 0 7 0 + 1)) mu2w := rl_now hIT.1 hRT (by rw [hmu2w, show muT 2 0 + 1 = gT 0 7 0 + 1 by omega])
          have hps := ps_mom hfu hIn
          have hij := (ij_mom fu hIn).1
          rw [dL_s] at heT
          refine va_callv (va_runV (As := []) (rest := []) ⟨hx, hb, hml, hown, hts⟩ (c_X4_moment l D dA z en2w b mu2w (wr gT 0 7 (gT 0 7 0 + 1)) fu hfu hIn hPn hRn hE2w) (cwV 0 hts gX4_tick_X4_moment rfl rfl rfl (by decide +kernel) ⟨Nat.le_of_ble_eq_true rfl, Nat.le_of_ble_eq_true rfl⟩) ⟨gBl, gRecv hK hW (ci := 6) rfl fM, gPre _ hg hS hW⟩ rfl rfl hl.1 rfl (lv_room (Nat.le_of_ble_eq_true rfl)) dX4_tick_93 ⟨(show 0 + 0 ≤ 0 by omega), (show 0 + 0 ≤ 0 by omega)⟩) hS (fun _ _ h => h) (fun _ h => h) (fun u9 t9 H locs ht9 hvm9 hw9 hB9 hz9 hk9 hS => ?_)
          obtain ⟨en3w, mu3w⟩ := u9
          obtain ⟨hE3w, hF3w, hmu3w⟩ := hw9
          have hW : Wd D (z 0) en3w H := by rw [← ht9]; exact hB9
          dsimp only at hE3w hF3w hmu3w
          have hF3w := FM.tr hF2w hF3w
          have fM : en3w 20 0 = some (b 0, .inr (6, [.int (iZ (mu3w 0 0)), .int (iZ (mu3w 1 0)), .long (lZ (mu3w 2 0)), .int (iZ (mu3w 3 0)), .ref (b 4), .ref (b 5), .ref (b 6), .ref (b 7), .ref (b 8), .ref (b 9), .ref (b 10), .ref (b 11), .ref (b 12), .ref (b 13), .ref (b 14), .ref (b 15), .ref (b 16), .ref (b 17), .ref (b 18), .ref (b 19), .ref (b 20), .ref (b 21), .ref (b 22), .ref (b 23), .ref (b 24), .ref (b 25), .int (iZ (mu3w 26 0)), .ref (b 27), .ref (b 28), .ref (b 29), .ref (b 30), .ref (b 31), .ref (b 32), .ref (b 33), .ref (b 34), .int (iZ (mu3w 35 0)), .int (iZ (mu3w 36 0)), .int (iZ (mu3w 37 0)), .int (iZ (mu3w 38 0)), .int (iZ (mu3w 39 0)), .int (iZ (mu3w 40 0)), .ref (b 41), .ref (b 42)])) := hE3w.1
          have f6_ : en3w 26 0 = some (b 6, aZ dA (101) (mu3w 6)) := hE3w.2 6 (by decide)
          refine lv_goto (tgt := 73) hx hb dX4_tick_96 (by decide) ?_
          refine W.widen (k := 0) (n := 0) (by omega) (by omega) ?_
          exact ih  mu3w en3w _ _ _ (sMom fu (wr gT 0 7 (gT 0 7 0 + 1))) hE3w hW hS (lv_sub hl [0, 1, 2] rfl) hF3w hmu3w hij hps.1 (by rw [hps.2, hg7]; omega) heT
      have k1 : ∀ (n : Nat) (muL : Mu) (enL : en_T) (H : Heap) (locs : List Loc) (ls : Array Slot) (ii : Int) (gL : St), EM dA b muL enL → Wd D (z 0) enL H → va_S (fun q => z 0 ≤ q) s.heap H locs → lv_has ls 5 [(4, .int (iZ (ii))), (3, .int (iZ (sv))), (0, .ref (b 0)), (1, .long (lZ (tt)))] → FM en enL → Rl gL muL → IJ gL → PD gL → 1 ≤ ii → ii + (n : Int) = gL 1 0 0 + 1 → ii ≤ gL 0 8 0 + 1 → gL 1 0 0 = g 1 0 0 → gL 0 7 0 = g 0 7 0 → sSts (g 1 0 0 - g 0 8 0).toNat g = sSts (gL 1 0 0 - gL 0 8 0).toNat gL → W p l e ({ frames := 4, cells := 0, slots := 0, locals := 120 }) s m (([.ref (b 0), .long (lZ (tt))] : List Value).toArray) below meth c H locs 0 0 (MQ below (va_Qi (fun (r8 : Int32) (u : en_T × Mu) => r8 = iZ (if tt < g 0 7 0 ∨ 5000 < tt - g 0 7 0 then -2 else sTick fu fp g tt 0 5 0 - g 0 5 0) ∧ EM dA b u.2 u.1 ∧ FM en u.1 ∧ Rl (sTick fu fp g tt) u.2) (fun u t9 => Wd D (z 0) u.1 t9.heap) (fun q => z 0 ≤ q)) ([.ref (b 0), .long (lZ (tt))] : List Value).toArray s (0) (0) (fun q => z 0 ≤ q)) (F0 m 38 ls []) := by
        intro n
        induction n with
        | zero =>
          intro muL enL H locs ls ii gL hEL hW hS hl hFL hRL hIL9 hdL hi1 hin hi8m h10 h70 heL
          have rX := hRL.1
          unfold RX at rX
          have hxL := hIL9.1.1
          unfold IX at hxL
          have hLl := hIL9.1.2.1
          unfold IL at hLl
          have fM : enL 20 0 = some (b 0, .inr (6, [.int (iZ (muL 0 0)), .int (iZ (muL 1 0)), .long (lZ (muL 2 0)), .int (iZ (muL 3 0)), .ref (b 4), .ref (b 5), .ref (b 6), .ref (b 7), .ref (b 8), .ref (b 9), .ref (b 10), .ref (b 11), .ref (b 12), .ref (b 13), .ref (b 14), .ref (b 15), .ref (b 16), .ref (b 17), .ref (b 18), .ref (b 19), .ref (b 20), .ref (b 21), .ref (b 22), .ref (b 23), .ref (b 24), .ref (b 25), .int (iZ (muL 26 0)), .ref (b 27), .ref (b 28), .ref (b 29), .ref (b 30), .ref (b 31), .ref (b 32), .ref (b 33), .ref (b 34), .int (iZ (muL 35 0)), .int (iZ (muL 36 0)), .int (iZ (muL 37 0)), .int (iZ (muL 38 0)), .int (iZ (muL 39 0)), .int (iZ (muL 40 0)), .ref (b 41), .ref (b 42)])) := hEL.1
          have f6_ : enL 26 0 = some (b 6, aZ dA (101) (muL 6)) := hEL.2 6 (by decide)
          refine lv_iload hx hb dX4_tick_38 (lv_at hl 0 rfl) ?_
          refine lv_aload_n hx hb dX4_tick_40 rfl (lv_at hl 2 rfl) ?_
          refine g_get (C := RX4) (T := TX4) (N := 43) (ci := 6) (v := .int (iZ (muL 3 0))) hx hb hts hi6 hown hK hW fM rfl 3 (by decide) (hts (.fieldLink RX4 123 "LongTransferModel" "messages" "I") (by decide +kernel)) (fun _ h9 => h9) rfl dX4_tick_41 ?_
          refine z_icmp_gt (tgt := 69) hx hb dX4_tick_44 (by decide) (by omega) (by omega) (fun _ => ?_) (fun c_q => absurd c_q (by omega))
          refine lv_aload_n hx hb dX4_tick_69 rfl (lv_at hl 2 rfl) ?_
          have hg8 : sSts (g 1 0 0 - g 0 8 0).toNat g = gL := by rw [heL, show (gL 1 0 0 - gL 0 8 0).toNat = 0 by omega, sSts_0]
          obtain ⟨htd, -⟩ := tick_dl hfu hfp hIJ hd hnow hcnd
          rw [hg8] at htd
          have hps := ps_mom hfu hIL9
          have hij := (ij_mom fu hIL9).1
          refine va_callv (va_runV (As := []) (rest := []) ⟨hx, hb, hml, hown, hts⟩ (c_X4_moment l D dA z enL b muL gL fu hfu hIL9 hdL hRL hEL) (cwV 0 hts gX4_tick_X4_moment rfl rfl rfl (by decide +kernel) ⟨Nat.le_of_ble_eq_true rfl, Nat.le_of_ble_eq_true rfl⟩) ⟨gBl, gRecv hK hW (ci := 6) rfl fM, gPre _ hg hS hW⟩ rfl rfl hl.1 rfl (lv_room (Nat.le_of_ble_eq_true rfl)) dX4_tick_70 ⟨(show 0 + 0 ≤ 0 by omega), (show 0 + 0 ≤ 0 by omega)⟩) hS (fun _ _ h => h) (fun _ h => h) (fun u9 t9 H locs ht9 hvm9 hw9 hB9 hz9 hk9 hS => ?_)
          obtain ⟨en4w, mu4w⟩ := u9
          obtain ⟨hE4w, hF4w, hmu4w⟩ := hw9
          have hW : Wd D (z 0) en4w H := by rw [← ht9]; exact hB9
          dsimp only at hE4w hF4w hmu4w
          have hF4w := FM.tr hFL hF4w
          have fM : en4w 20 0 = some (b 0, .inr (6, [.int (iZ (mu4w 0 0)), .int (iZ (mu4w 1 0)), .long (lZ (mu4w 2 0)), .int (iZ (mu4w 3 0)), .ref (b 4), .ref (b 5), .ref (b 6), .ref (b 7), .ref (b 8), .ref (b 9), .ref (b 10), .ref (b 11), .ref (b 12), .ref (b 13), .ref (b 14), .ref (b 15), .ref (b 16), .ref (b 17), .ref (b 18), .ref (b 19), .ref (b 20), .ref (b 21), .ref (b 22), .ref (b 23), .ref (b 24), .ref (b 25), .int (iZ (mu4w 26 0)), .ref (b 27), .ref (b 28), .ref (b 29), .ref (b 30), .ref (b 31), .ref (b 32), .ref (b 33), .ref (b 34), .int (iZ (mu4w 35 0)), .int (iZ (mu4w 36 0)), .int (iZ (mu4w 37 0)), .int (iZ (mu4w 38 0)), .int (iZ (mu4w 39 0)), .int (iZ (mu4w 40 0)), .ref (b 41), .ref (b 42)])) := hE4w.1
          have f6_ : en4w 26 0 = some (b 6, aZ dA (101) (mu4w 6)) := hE4w.2 6 (by decide)
          refine W.widen (k := 0) (n := 0) (by omega) (by omega) ?_
          exact k2 (tt - g 0 7 0).toNat mu4w en4w _ _ _ (sMom fu gL) hE4w hW hS (lv_sub hl [1, 2, 3] rfl) hF4w hmu4w hij hps.1 (by rw [hps.2]; omega) htd
        | succ n ih =>
          intro muL enL H locs ls ii gL hEL hW hS hl hFL hRL hIL9 hdL hi1 hin hi8m h10 h70 heL
          have rX := hRL.1
          unfold RX at rX
          have hxL := hIL9.1.1
          unfold IX at hxL
          have hLl := hIL9.1.2.1
          unfold IL at hLl
          have fM : enL 20 0 = some (b 0, .inr (6, [.int (iZ (muL 0 0)), .int (iZ (muL 1 0)), .long (lZ (muL 2 0)), .int (iZ (muL 3 0)), .ref (b 4), .ref (b 5), .ref (b 6), .ref (b 7), .ref (b 8), .ref (b 9), .ref (b 10), .ref (b 11), .ref (b 12), .ref (b 13), .ref (b 14), .ref (b 15), .ref (b 16), .ref (b 17), .ref (b 18), .ref (b 19), .ref (b 20), .ref (b 21), .ref (b 22), .ref (b 23), .ref (b 24), .ref (b 25), .int (iZ (muL 26 0)), .ref (b 27), .ref (b 28), .ref (b 29), .ref (b 30), .ref (b 31), .ref (b 32), .ref (b 33), .ref (b 34), .int (iZ (muL 35 0)), .int (iZ (muL 36 0)), .int (iZ (muL 37 0)), .int (iZ (muL 38 0)), .int (iZ (muL 39 0)), .int (iZ (muL 40 0)), .ref (b 41), .ref (b 42)])) := hEL.1
          have f6_ : enL 26 0 = some (b 6, aZ dA (101) (muL 6)) := hEL.2 6 (by decide)
          have hbg := begun hRL (m := ii) (by omega) (by omega)
          refine lv_iload hx hb dX4_tick_38 (lv_at hl 0 rfl) ?_
          refine lv_aload_n hx hb dX4_tick_40 rfl (lv_at hl 2 rfl) ?_
          refine g_get (C := RX4) (T := TX4) (N := 43) (ci := 6) (v := .int (iZ (muL 3 0))) hx hb hts hi6 hown hK hW fM rfl 3 (by decide) (hts (.fieldLink RX4 123 "LongTransferModel" "messages" "I") (by decide +kernel)) (fun _ h9 => h9) rfl dX4_tick_41 ?_
          refine z_icmp_gt (tgt := 69) hx hb dX4_tick_44 (by decide) (by omega) (by omega) (fun c_q => absurd c_q (by omega)) (fun _ => ?_)
          refine lv_aload_n hx hb dX4_tick_47 rfl (lv_at hl 2 rfl) ?_
          refine g_get (C := RX4) (T := TX4) (N := 43) (ci := 6) (v := .ref (b 6)) hx hb hts hi6 hown hK hW fM rfl 6 (by decide) (hts (.fieldLink RX4 18 "LongTransferModel" "begun" "[Z") (by decide +kernel)) (fun _ h9 => h9) rfl dX4_tick_48 ?_
          refine lv_iload hx hb dX4_tick_51 (lv_at hl 0 rfl) ?_
          refine g_zald hx hb hK hW f6_ (by omega) (by omega) (by omega) dX4_tick_53 ?_
          refine z_if_ne (tgt := 63) hx hb dX4_tick_54 (by decide) (by omega) (fun c_54 => ?_) (fun c_54 => ?_)
          · refine lv_iinc (v := iZ (ii + 1)) (lv' := [(4, .int (iZ (ii + 1))), (3, .int (iZ (sv))), (0, .ref (b 0)), (1, .long (lZ (tt)))]) hx hb dX4_tick_63 hl (k := 0) rfl (iZ_add _ _) (by decide) rfl (fun ls hl => ?_)
            refine lv_goto (tgt := 38) hx hb dX4_tick_66 (by decide) ?_
            refine W.widen (k := 0) (n := 0) (by omega) (by omega) ?_
            exact ih  muL enL _ _ _ (ii + 1) gL hEL hW hS (lv_sub hl [0, 1, 2, 3] rfl) hFL hRL hIL9 hdL (by omega) (by omega) (by omega) h10 h70 heL
          · refine lv_aload_n hx hb dX4_tick_57 rfl (lv_at hl 2 rfl) ?_
            refine lv_iload hx hb dX4_tick_58 (lv_at hl 0 rfl) ?_
            have hi8 : ii = gL 0 8 0 + 1 := by omega
            have hq1 := ij_st1 hIL9 (by omega)
            have hpd1 := pd_st1 hIL9 hdL (by omega)
            have hsi := sts_i (g := gL) (by omega) hIL9
            refine va_callv (va_runV (As := [.int (iZ (ii))]) (rest := []) ⟨hx, hb, hml, hown, hts⟩ (c_X4_start l D dA z enL b muL gL ii hi8 (by omega) hIL9.1 hIL9.2 hRL hEL) (cwV 1 hts gX4_tick_X4_start rfl rfl rfl (by decide +kernel) ⟨Nat.le_of_ble_eq_true rfl, Nat.le_of_ble_eq_true rfl⟩) ⟨gBl, gRecv hK hW (ci := 6) rfl fM, gPre _ hg hS hW⟩ rfl rfl hl.1 rfl (lv_room (Nat.le_of_ble_eq_true rfl)) dX4_tick_60 ⟨(show 0 + 0 ≤ 0 by omega), (show 0 + 0 ≤ 0 by omega)⟩) hS (fun _ _ h => h) (fun _ h => h) (fun u9 t9 H locs ht9 hvm9 hw9 hB9 hz9 hk9 hS => ?_)
            obtain ⟨en5w, mu5w⟩ := u9
            obtain ⟨hE5w, hF5w, hmu5w⟩ := hw9
            have hW : Wd D (z 0) en5w H := by rw [← ht9]; exact hB9
            dsimp only at hE5w hF5w hmu5w
            have hF5w := FM.tr hFL hF5w
            have fM : en5w 20 0 = some (b 0, .inr (6, [.int (iZ (mu5w 0 0)), .int (iZ (mu5w 1 0)), .long (lZ (mu5w 2 0)), .int (iZ (mu5w 3 0)), .ref (b 4), .ref (b 5), .ref (b 6), .ref (b 7), .ref (b 8), .ref (b 9), .ref (b 10), .ref (b 11), .ref (b 12), .ref (b 13), .ref (b 14), .ref (b 15), .ref (b 16), .ref (b 17), .ref (b 18), .ref (b 19), .ref (b 20), .ref (b 21), .ref (b 22), .ref (b 23), .ref (b 24), .ref (b 25), .int (iZ (mu5w 26 0)), .ref (b 27), .ref (b 28), .ref (b 29), .ref (b 30), .ref (b 31), .ref (b 32), .ref (b 33), .ref (b 34), .int (iZ (mu5w 35 0)), .int (iZ (mu5w 36 0)), .int (iZ (mu5w 37 0)), .int (iZ (mu5w 38 0)), .int (iZ (mu5w 39 0)), .int (iZ (mu5w 40 0)), .ref (b 41), .ref (b 42)])) := hE5w.1
            have f6_ : en5w 26 0 = some (b 6, aZ dA (101) (mu5w 6)) := hE5w.2 6 (by decide)
            refine lv_iinc (v := iZ (ii + 1)) (lv' := [(4, .int (iZ (ii + 1))), (3, .int (iZ (sv))), (0, .ref (b 0)), (1, .long (lZ (tt)))]) hx hb dX4_tick_63 hl (k := 0) rfl (iZ_add _ _) (by decide) rfl (fun ls hl => ?_)
            refine lv_goto (tgt := 38) hx hb dX4_tick_66 (by decide) ?_
            refine W.widen (k := 0) (n := 0) (by omega) (by omega) ?_
            exact ih  mu5w en5w _ _ _ (ii + 1) (sSt1 gL) hE5w hW hS (lv_sub hl [0, 1, 2, 3] rfl) hF5w hmu5w hq1.1 hpd1 (by omega) (by rw [hq1.2.1.1]; omega) (by rw [hq1.2.2.1]; omega) (by rw [hq1.2.1.1]; exact h10) (by rw [hq1.2.2.2]; exact h70) (heL.trans hsi)
      refine lv_istore_n (lv' := [(3, .int (iZ (sv))), (0, .ref (b 0)), (1, .long (lZ (tt)))]) hx hb dX4_tick_34 rfl hl (by decide) rfl (fun ls hl => ?_)
      refine z_iconst hx hb dX4_tick_35 ?_
      refine lv_istore (lv' := [(4, .int (iZ (1))), (3, .int (iZ (sv))), (0, .ref (b 0)), (1, .long (lZ (tt)))]) hx hb dX4_tick_36 hl (by decide) rfl (fun ls hl => ?_)
      refine W.widen (k := 0) (n := 0) (by omega) (by omega) ?_
      exact k1 (g 1 0 0).toNat mu1w en1w _ _ _ 1 g hE1w hW hS (lv_sub hl [0, 1, 2, 3] rfl) hF1w hR1 hIJ hd (by omega) (by omega) (by omega) rfl rfl rfl
    · refine z_bipush hx hb dX4_tick_27 (by decide) ?_
      have hpst : Rl (sTick fu fp g tt) mu1w := by unfold sTick; rw [if_pos (by omega)]; exact hR1
      exact W.iret hx hb hr (fun t ht hw => ⟨⟨_, (en1w, mu1w), rfl, ⟨congrArg iZ (by rw [if_pos (by omega)]), hE1w, hF1w, hpst⟩, by show Wd _ _ _ t.heap; rw [ht]; exact hW⟩, hS.F ht⟩) hS.2.2 dX4_tick_29
