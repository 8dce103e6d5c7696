theorem ow_f {g : St} {mu : Mu} (hI : IB g) (h : Rl g mu) {f : Int} (h1 : 1 ≤ f) (h2 : f ≤ g 1 1 0) : (g 27 f 0 = 0 ∧ mu 33 f = 1) ∨ (g 27 f 0 = 1 ∧ mu 33 f = 0) := by
  have k := (h.2.2.2.2.2.1.1 f h1 h2).2.1
  have hf := hI.2.2.2.1 f h1 h2
  unfold IF at hf
  by_cases q : g 27 f 0 = 0
  · rw [if_pos q] at k; exact Or.inl ⟨q, k⟩
  · rw [if_neg q] at k; exact Or.inr ⟨by omega, k⟩
theorem sz_m {g : St} {mu : Mu} (h : Rl g mu) {m : Int} (h1 : 1 ≤ m) (h2 : m ≤ g 1 0 0) : mu 4 (m + 1) - mu 4 m = g 11 m 0 ∧ 0 ≤ mu 4 m ∧ mu 4 m ≤ 10000 * (m - 1) := by
  have a := h.2.2.2.1.2.1 m h1 h2
  have b := h.2.2.2.1.2.2.1 m h1 (by omega)
  exact ⟨by omega, b⟩
set_option maxHeartbeats 4000000 in
set_option maxRecDepth 100000 in
theorem c_X4_length (l : Launch) (D : va_G) (dA : Nat → ClassId) (z : Nat → Nat) (en : en_T) (b : Nat → Nat) (mu : Mu) (g : St) (hI : IB g) (hR : Rl g mu) (hE : EM dA b mu en) : Met l yX4_length wsX4_length ({ frames := 0, cells := 0, slots := 0, locals := 0 }) (gP D dA z en [.ref (b 0)]) (va_Qi (fun (r8 : Int32) (u : en_T × Mu) => r8 = iZ (g 1 2 0) ∧ EM dA b u.2 u.1 ∧ FM en u.1 ∧ Rl g u.2) (fun u t9 => Wd D (z 0) u.1 t9.heap) (fun q => z 0 ≤ q)) (0) (0) (fun q => z 0 ≤ q) := by
  refine gMet (own := RX4) (cc := cX4_length) (maxL := 1) (ret := (some .int)) (by decide) rfl rfl (Nat.le_of_ble_eq_true rfl) ?_
  intro p e s m below meth c hx hb hml hown hts hr hlocks hnm hg hW ls hl
  have hK := hg.1
  have hS : va_S (fun q => z 0 ≤ q) s.heap s.heap [] := va_S.rf
  have hi6 : ∀ w ∈ u_ws RX4 TX4 43, w ∈ wsX4_length := by decide +kernel
  have hl : lv_has ls 1 [(0, .ref (b 0))] := hl
  have hx0 := hI.1
  unfold IX at hx0
  have hL0 := hI.2.1
  unfold IL at hL0
  have fM : en 20 0 = some (b 0, .inr (6, [.int (iZ (mu 0 0)), .int (iZ (mu 1 0)), .long (lZ (mu 2 0)), .int (iZ (mu 3 0)), .ref (b 4), .ref (b 5), .ref (b 6), .ref (b 7), .ref (b 8), .ref (b 9), .ref (b 10), .ref (b 11), .ref (b 12), .ref (b 13), .ref (b 14), .ref (b 15), .ref (b 16), .ref (b 17), .ref (b 18), .ref (b 19), .ref (b 20), .ref (b 21), .ref (b 22), .ref (b 23), .ref (b 24), .ref (b 25), .int (iZ (mu 26 0)), .ref (b 27), .ref (b 28), .ref (b 29), .ref (b 30), .ref (b 31), .ref (b 32), .ref (b 33), .ref (b 34), .int (iZ (mu 35 0)), .int (iZ (mu 36 0)), .int (iZ (mu 37 0)), .int (iZ (mu 38 0)), .int (iZ (mu 39 0)), .int (iZ (mu 40 0)), .ref (b 41), .ref (b 42)])) := hE.1
  refine lv_aload_n hx hb dX4_length_0 rfl (lv_at hl 0 rfl) ?_
  refine z_iconst hx hb dX4_length_1 ?_
  refine g_put (C := RX4) (T := TX4) (N := 43) (ci := 6) (ty := .int) (v := .int (iZ (0))) (fs' := [.int (iZ (0)), .int (iZ (mu 1 0)), .long (lZ (mu 2 0)), .int (iZ (mu 3 0)), .ref (b 4), .ref (b 5), .ref (b 6), .ref (b 7), .ref (b 8), .ref (b 9), .ref (b 10), .ref (b 11), .ref (b 12), .ref (b 13), .ref (b 14), .ref (b 15), .ref (b 16), .ref (b 17), .ref (b 18), .ref (b 19), .ref (b 20), .ref (b 21), .ref (b 22), .ref (b 23), .ref (b 24), .ref (b 25), .int (iZ (mu 26 0)), .ref (b 27), .ref (b 28), .ref (b 29), .ref (b 30), .ref (b 31), .ref (b 32), .ref (b 33), .ref (b 34), .int (iZ (mu 35 0)), .int (iZ (mu 36 0)), .int (iZ (mu 37 0)), .int (iZ (mu 38 0)), .int (iZ (mu 39 0)), .int (iZ (mu 40 0)), .ref (b 41), .ref (b 42)]) hx hb hts hi6 tyX4 tyX4_ok nmX4 hown hK hW hS fM rfl 0 (by decide) (hts (.fieldLink RX4 120 "LongTransferModel" "code" "I") (by decide +kernel)) (fun _ h9 => h9) rfl (by decide +kernel) rfl rfl (Nat.le_of_ble_eq_true rfl) dX4_length_2 rfl (fun H locs hW hS => ?_)
  obtain ⟨en1w, hen1w⟩ : ∃ x : en_T, x = e2 en 20 0 (some (b 0, .inr (6, [.int (iZ (0)), .int (iZ (mu 1 0)), .long (lZ (mu 2 0)), .int (iZ (mu 3 0)), .ref (b 4), .ref (b 5), .ref (b 6), .ref (b 7), .ref (b 8), .ref (b 9), .ref (b 10), .ref (b 11), .ref (b 12), .ref (b 13), .ref (b 14), .ref (b 15), .ref (b 16), .ref (b 17), .ref (b 18), .ref (b 19), .ref (b 20), .ref (b 21), .ref (b 22), .ref (b 23), .ref (b 24), .ref (b 25), .int (iZ (mu 26 0)), .ref (b 27), .ref (b 28), .ref (b 29), .ref (b 30), .ref (b 31), .ref (b 32), .ref (b 33), .ref (b 34), .int (iZ (mu 35 0)), .int (iZ (mu 36 0)), .int (iZ (mu 37 0)), .int (iZ (mu 38 0)), .int (iZ (mu 39 0)), .int (iZ (mu 40 0)), .ref (b 41), .ref (b 42)]))) := ⟨_, rfl⟩
  rw [← hen1w] at hW
  obtain ⟨mu1w, hmu1w⟩ : ∃ x : Mu, x = u2 mu 0 (0) (0) := ⟨_, rfl⟩
  have hE1w : EM dA b mu1w en1w := by rw [hen1w, hmu1w]; exact em_f hE (k0 := 0) (v := 0) (by decide)
  have hF1w : FM en en1w := fun k i q => by rw [hen1w]; exact e2_k (fun w => q (by rw [w]; decide))
  have fM : en1w 20 0 = some (b 0, .inr (6, [.int (iZ (mu1w 0 0)), .int (iZ (mu1w 1 0)), .long (lZ (mu1w 2 0)), .int (iZ (mu1w 3 0)), .ref (b 4), .ref (b 5), .ref (b 6), .ref (b 7), .ref (b 8), .ref (b 9), .ref (b 10), .ref (b 11), .ref (b 12), .ref (b 13), .ref (b 14), .ref (b 15), .ref (b 16), .ref (b 17), .ref (b 18), .ref (b 19), .ref (b 20), .ref (b 21), .ref (b 22), .ref (b 23), .ref (b 24), .ref (b 25), .int (iZ (mu1w 26 0)), .ref (b 27), .ref (b 28), .ref (b 29), .ref (b 30), .ref (b 31), .ref (b 32), .ref (b 33), .ref (b 34), .int (iZ (mu1w 35 0)), .int (iZ (mu1w 36 0)), .int (iZ (mu1w 37 0)), .int (iZ (mu1w 38 0)), .int (iZ (mu1w 39 0)), .int (iZ (mu1w 40 0)), .ref (b 41), .ref (b 42)])) := hE1w.1
  have hR1 : Rl g mu1w := rl_m hI hR (fun t j q => by rw [hmu1w]; exact u2_n (by omega))
  have rX0 := hR1.1
  unfold RX at rX0
  refine lv_aload_n hx hb dX4_length_5 rfl (lv_at hl 0 rfl) ?_
  refine g_get (C := RX4) (T := TX4) (N := 43) (ci := 6) (v := .int (iZ (mu1w 40 0))) hx hb hts hi6 hown hK hW fM rfl 40 (by decide) (hts (.fieldLink RX4 165 "LongTransferModel" "gotten" "I") (by decide +kernel)) (fun _ h9 => h9) rfl dX4_length_6 ?_
  have hpst : Rl g mu1w := hR1
  exact W.iret hx hb hr (fun t ht hw => ⟨⟨_, (en1w, mu1w), rfl, ⟨congrArg iZ hR1.2.2.1.1, hE1w, hF1w, hpst⟩, by show Wd _ _ _ t.heap; rw [ht]; exact hW⟩, hS.F ht⟩) hS.2.2 dX4_length_9
set_option maxHeartbeats 4000000 in
set_option maxRecDepth 100000 in
theorem c_X4_ended (l : Launch) (D : va_G) (dA : Nat → ClassId) (z : Nat → Nat) (en : en_T) (b : Nat → Nat) (mu : Mu) (g : St) (n : Int) (hn : iB n) (hI : IB g) (hR : Rl g mu) (hE : EM dA b mu en) : Met l yX4_ended wsX4_ended ({ frames := 0, cells := 0, slots := 0, locals := 0 }) (gP D dA z en [.ref (b 0), .int (iZ (n))]) (va_Qi (fun (r8 : Int32) (u : en_T × Mu) => r8 = iZ (aEnd g n) ∧ EM dA b u.2 u.1 ∧ FM en u.1 ∧ Rl g u.2) (fun u t9 => Wd D (z 0) u.1 t9.heap) (fun q => z 0 ≤ q)) (0) (0) (fun q => z 0 ≤ q) := by
  refine gMet (own := RX4) (cc := cX4_ended) (maxL := 2) (ret := (some .int)) (by decide) rfl rfl (Nat.le_of_ble_eq_true rfl) ?_
  intro p e s m below meth c hx hb hml hown hts hr hlocks hnm hg hW ls hl
  have hK := hg.1
  have hS : va_S (fun q => z 0 ≤ q) s.heap s.heap [] := va_S.rf
  have hi6 : ∀ w ∈ u_ws RX4 TX4 43, w ∈ wsX4_ended := by decide +kernel
  have hl : lv_has ls 2 [(0, .ref (b 0)), (1, .int (iZ (n)))] := hl
  have hx0 := hI.1
  unfold IX at hx0
  have hL0 := hI.2.1
  unfold IL at hL0
  have fM : en 20 0 = some (b 0, .inr (6, [.int (iZ (mu 0 0)), .int (iZ (mu 1 0)), .long (lZ (mu 2 0)), .int (iZ (mu 3 0)), .ref (b 4), .ref (b 5), .ref (b 6), .ref (b 7), .ref (b 8), .ref (b 9), .ref (b 10), .ref (b 11), .ref (b 12), .ref (b 13), .ref (b 14), .ref (b 15), .ref (b 16), .ref (b 17), .ref (b 18), .ref (b 19), .ref (b 20), .ref (b 21), .ref (b 22), .ref (b 23), .ref (b 24), .ref (b 25), .int (iZ (mu 26 0)), .ref (b 27), .ref (b 28), .ref (b 29), .ref (b 30), .ref (b 31), .ref (b 32), .ref (b 33), .ref (b 34), .int (iZ (mu 35 0)), .int (iZ (mu 36 0)), .int (iZ (mu 37 0)), .int (iZ (mu 38 0)), .int (iZ (mu 39 0)), .int (iZ (mu 40 0)), .ref (b 41), .ref (b 42)])) := hE.1
  have f42_ : en 62 0 = some (b 42, aI dA (8) (mu 42)) := hE.2 42 (by decide)
  refine lv_aload_n hx hb dX4_ended_0 rfl (lv_at hl 0 rfl) ?_
  refine z_iconst hx hb dX4_ended_1 ?_
  refine g_put (C := RX4) (T := TX4) (N := 43) (ci := 6) (ty := .int) (v := .int (iZ (0))) (fs' := [.int (iZ (0)), .int (iZ (mu 1 0)), .long (lZ (mu 2 0)), .int (iZ (mu 3 0)), .ref (b 4), .ref (b 5), .ref (b 6), .ref (b 7), .ref (b 8), .ref (b 9), .ref (b 10), .ref (b 11), .ref (b 12), .ref (b 13), .ref (b 14), .ref (b 15), .ref (b 16), .ref (b 17), .ref (b 18), .ref (b 19), .ref (b 20), .ref (b 21), .ref (b 22), .ref (b 23), .ref (b 24), .ref (b 25), .int (iZ (mu 26 0)), .ref (b 27), .ref (b 28), .ref (b 29), .ref (b 30), .ref (b 31), .ref (b 32), .ref (b 33), .ref (b 34), .int (iZ (mu 35 0)), .int (iZ (mu 36 0)), .int (iZ (mu 37 0)), .int (iZ (mu 38 0)), .int (iZ (mu 39 0)), .int (iZ (mu 40 0)), .ref (b 41), .ref (b 42)]) hx hb hts hi6 tyX4 tyX4_ok nmX4 hown hK hW hS fM rfl 0 (by decide) (hts (.fieldLink RX4 120 "LongTransferModel" "code" "I") (by decide +kernel)) (fun _ h9 => h9) rfl (by decide +kernel) rfl rfl (Nat.le_of_ble_eq_true rfl) dX4_ended_2 rfl (fun H locs hW hS => ?_)
  obtain ⟨en1w, hen1w⟩ : ∃ x : en_T, x = e2 en 20 0 (some (b 0, .inr (6, [.int (iZ (0)), .int (iZ (mu 1 0)), .long (lZ (mu 2 0)), .int (iZ (mu 3 0)), .ref (b 4), .ref (b 5), .ref (b 6), .ref (b 7), .ref (b 8), .ref (b 9), .ref (b 10), .ref (b 11), .ref (b 12), .ref (b 13), .ref (b 14), .ref (b 15), .ref (b 16), .ref (b 17), .ref (b 18), .ref (b 19), .ref (b 20), .ref (b 21), .ref (b 22), .ref (b 23), .ref (b 24), .ref (b 25), .int (iZ (mu 26 0)), .ref (b 27), .ref (b 28), .ref (b 29), .ref (b 30), .ref (b 31), .ref (b 32), .ref (b 33), .ref (b 34), .int (iZ (mu 35 0)), .int (iZ (mu 36 0)), .int (iZ (mu 37 0)), .int (iZ (mu 38 0)), .int (iZ (mu 39 0)), .int (iZ (mu 40 0)), .ref (b 41), .ref (b 42)]))) := ⟨_, rfl⟩
  rw [← hen1w] at hW
  obtain ⟨mu1w, hmu1w⟩ : ∃ x : Mu, x = u2 mu 0 (0) (0) := ⟨_, rfl⟩
  have hE1w : EM dA b mu1w en1w := by rw [hen1w, hmu1w]; exact em_f hE (k0 := 0) (v := 0) (by decide)
  have hF1w : FM en en1w := fun k i q => by rw [hen1w]; exact e2_k (fun w => q (by rw [w]; decide))
  have fM : en1w 20 0 = some (b 0, .inr (6, [.int (iZ (mu1w 0 0)), .int (iZ (mu1w 1 0)), .long (lZ (mu1w 2 0)), .int (iZ (mu1w 3 0)), .ref (b 4), .ref (b 5), .ref (b 6), .ref (b 7), .ref (b 8), .ref (b 9), .ref (b 10), .ref (b 11), .ref (b 12), .ref (b 13), .ref (b 14), .ref (b 15), .ref (b 16), .ref (b 17), .ref (b 18), .ref (b 19), .ref (b 20), .ref (b 21), .ref (b 22), .ref (b 23), .ref (b 24), .ref (b 25), .int (iZ (mu1w 26 0)), .ref (b 27), .ref (b 28), .ref (b 29), .ref (b 30), .ref (b 31), .ref (b 32), .ref (b 33), .ref (b 34), .int (iZ (mu1w 35 0)), .int (iZ (mu1w 36 0)), .int (iZ (mu1w 37 0)), .int (iZ (mu1w 38 0)), .int (iZ (mu1w 39 0)), .int (iZ (mu1w 40 0)), .ref (b 41), .ref (b 42)])) := hE1w.1
  have f42_ : en1w 62 0 = some (b 42, aI dA (8) (mu1w 42)) := hE1w.2 42 (by decide)
  have hR1 : Rl g mu1w := rl_m hI hR (fun t j q => by rw [hmu1w]; exact u2_n (by omega))
  have rX0 := hR1.1
  unfold RX at rX0
  refine lv_iload_n hx hb dX4_ended_5 rfl (lv_at hl 1 rfl) ?_
  refine z_if_lt (tgt := 15) hx hb dX4_ended_6 (by decide) (by omega) (fun c_6 => ?_) (fun c_6 => ?_)
  · refine z_bipush hx hb dX4_ended_15 (by decide) ?_
    refine lv_goto (tgt := 26) hx hb dX4_ended_17 (by decide) ?_
    have hpst : Rl g mu1w := hR1
    exact W.iret hx hb hr (fun t ht hw => ⟨⟨_, (en1w, mu1w), rfl, ⟨congrArg iZ (by unfold aEnd; rw [if_neg (by omega)]), hE1w, hF1w, hpst⟩, by show Wd _ _ _ t.heap; rw [ht]; exact hW⟩, hS.F ht⟩) hS.2.2 dX4_ended_26
  · refine lv_iload_n hx hb dX4_ended_9 rfl (lv_at hl 1 rfl) ?_
    refine z_bipush hx hb dX4_ended_10 (by decide) ?_
    refine z_icmp_le (tgt := 20) hx hb dX4_ended_12 (by decide) (by omega) (by omega) (fun c_12 => ?_) (fun c_12 => ?_)
    · refine lv_aload_n hx hb dX4_ended_20 rfl (lv_at hl 0 rfl) ?_
      refine g_get (C := RX4) (T := TX4) (N := 43) (ci := 6) (v := .ref (b 42)) hx hb hts hi6 hown hK hW fM rfl 42 (by decide) (hts (.fieldLink RX4 113 "LongTransferModel" "ended" "[I") (by decide +kernel)) (fun _ h9 => h9) rfl dX4_ended_21 ?_
      refine lv_iload_n hx hb dX4_ended_24 rfl (lv_at hl 1 rfl) ?_
      refine g_iald hx hb hK hW f42_ (by omega) (by omega) (by omega) dX4_ended_25 ?_
      have hpst : Rl g mu1w := hR1
      exact W.iret hx hb hr (fun t ht hw => ⟨⟨_, (en1w, mu1w), rfl, ⟨congrArg iZ (by unfold aEnd; rw [if_pos (by omega)]; exact hR1.2.1.1 n (by omega) (by omega)), hE1w, hF1w, hpst⟩, by show Wd _ _ _ t.heap; rw [ht]; exact hW⟩, hS.F ht⟩) hS.2.2 dX4_ended_26
    · refine z_bipush hx hb dX4_ended_15 (by decide) ?_
      refine lv_goto (tgt := 26) hx hb dX4_ended_17 (by decide) ?_
      have hpst : Rl g mu1w := hR1
      exact W.iret hx hb hr (fun t ht hw => ⟨⟨_, (en1w, mu1w), rfl, ⟨congrArg iZ (by unfold aEnd; rw [if_neg (by omega)]), hE1w, hF1w, hpst⟩, by show Wd _ _ _ t.heap; rw [ht]; exact hW⟩, hS.F ht⟩) hS.2.2 dX4_ended_26
set_option maxHeartbeats 4000000 in
set_option maxRecDepth 100000 in
theorem c_X4_wait2 (l : Launch) (D : va_G) (dA : Nat → ClassId) (z : Nat → Nat) (en : en_T) (b : Nat → Nat) (mu : Mu) (g : St) (n : Int) (hn : iB n) (hI : IB g) (hR : Rl g mu) (hE : EM dA b mu en) : Met l yX4_wait2 wsX4_wait2 ({ frames := 0, cells := 0, slots := 0, locals := 0 }) (gP D dA z en [.ref (b 0), .int (iZ (n))]) (va_Qi (fun (r8 : Int32) (u : en_T × Mu) => r8 = iZ (aWai g n) ∧ EM dA b u.2 u.1 ∧ FM en u.1 ∧ Rl (sWai g n) u.2) (fun u t9 => Wd D (z 0) u.1 t9.heap) (fun q => z 0 ≤ q)) (0) (0) (fun q => z 0 ≤ q) := by
  refine gMet (own := RX4) (cc := cX4_wait2) (maxL := 3) (ret := (some .int)) (by decide) rfl rfl (Nat.le_of_ble_eq_true rfl) ?_
  intro p e s m below meth c hx hb hml hown hts hr hlocks hnm hg hW ls hl
  have hK := hg.1
  have hS : va_S (fun q => z 0 ≤ q) s.heap s.heap [] := va_S.rf
  have hi6 : ∀ w ∈ u_ws RX4 TX4 43, w ∈ wsX4_wait2 := by decide +kernel
  have hl : lv_has ls 3 [(0, .ref (b 0)), (1, .int (iZ (n)))] := hl
  have hx0 := hI.1
  unfold IX at hx0
  have hL0 := hI.2.1
  unfold IL at hL0
  have fM : en 20 0 = some (b 0, .inr (6, [.int (iZ (mu 0 0)), .int (iZ (mu 1 0)), .long (lZ (mu 2 0)), .int (iZ (mu 3 0)), .ref (b 4), .ref (b 5), .ref (b 6), .ref (b 7), .ref (b 8), .ref (b 9), .ref (b 10), .ref (b 11), .ref (b 12), .ref (b 13), .ref (b 14), .ref (b 15), .ref (b 16), .ref (b 17), .ref (b 18), .ref (b 19), .ref (b 20), .ref (b 21), .ref (b 22), .ref (b 23), .ref (b 24), .ref (b 25), .int (iZ (mu 26 0)), .ref (b 27), .ref (b 28), .ref (b 29), .ref (b 30), .ref (b 31), .ref (b 32), .ref (b 33), .ref (b 34), .int (iZ (mu 35 0)), .int (iZ (mu 36 0)), .int (iZ (mu 37 0)), .int (iZ (mu 38 0)), .int (iZ (mu 39 0)), .int (iZ (mu 40 0)), .ref (b 41), .ref (b 42)])) := hE.1
  refine lv_aload_n hx hb dX4_wait2_0 rfl (lv_at hl 0 rfl) ?_
  refine z_iconst hx hb dX4_wait2_1 ?_
  refine g_put (C := RX4) (T := TX4) (N := 43) (ci := 6) (ty := .int) (v := .int (iZ (0))) (fs' := [.int (iZ (0)), .int (iZ (mu 1 0)), .long (lZ (mu 2 0)), .int (iZ (mu 3 0)), .ref (b 4), .ref (b 5), .ref (b 6), .ref (b 7), .ref (b 8), .ref (b 9), .ref (b 10), .ref (b 11), .ref (b 12), .ref (b 13), .ref (b 14), .ref (b 15), .ref (b 16), .ref (b 17), .ref (b 18), .ref (b 19), .ref (b 20), .ref (b 21), .ref (b 22), .ref (b 23), .ref (b 24), .ref (b 25), .int (iZ (mu 26 0)), .ref (b 27), .ref (b 28), .ref (b 29), .ref (b 30), .ref (b 31), .ref (b 32), .ref (b 33), .ref (b 34), .int (iZ (mu 35 0)), .int (iZ (mu 36 0)), .int (iZ (mu 37 0)), .int (iZ (mu 38 0)), .int (iZ (mu 39 0)), .int (iZ (mu 40 0)), .ref (b 41), .ref (b 42)]) hx hb hts hi6 tyX4 tyX4_ok nmX4 hown hK hW hS fM rfl 0 (by decide) (hts (.fieldLink RX4 120 "LongTransferModel" "code" "I") (by decide +kernel)) (fun _ h9 => h9) rfl (by decide +kernel) rfl rfl (Nat.le_of_ble_eq_true rfl) dX4_wait2_2 rfl (fun H locs hW hS => ?_)
  obtain ⟨en1w, hen1w⟩ : ∃ x : en_T, x = e2 en 20 0 (some (b 0, .inr (6, [.int (iZ (0)), .int (iZ (mu 1 0)), .long (lZ (mu 2 0)), .int (iZ (mu 3 0)), .ref (b 4), .ref (b 5), .ref (b 6), .ref (b 7), .ref (b 8), .ref (b 9), .ref (b 10), .ref (b 11), .ref (b 12), .ref (b 13), .ref (b 14), .ref (b 15), .ref (b 16), .ref (b 17), .ref (b 18), .ref (b 19), .ref (b 20), .ref (b 21), .ref (b 22), .ref (b 23), .ref (b 24), .ref (b 25), .int (iZ (mu 26 0)), .ref (b 27), .ref (b 28), .ref (b 29), .ref (b 30), .ref (b 31), .ref (b 32), .ref (b 33), .ref (b 34), .int (iZ (mu 35 0)), .int (iZ (mu 36 0)), .int (iZ (mu 37 0)), .int (iZ (mu 38 0)), .int (iZ (mu 39 0)), .int (iZ (mu 40 0)), .ref (b 41), .ref (b 42)]))) := ⟨_, rfl⟩
  rw [← hen1w] at hW
  obtain ⟨mu1w, hmu1w⟩ : ∃ x : Mu, x = u2 mu 0 (0) (0) := ⟨_, rfl⟩
  have hE1w : EM dA b mu1w en1w := by rw [hen1w, hmu1w]; exact em_f hE (k0 := 0) (v := 0) (by decide)
  have hF1w : FM en en1w := fun k i q => by rw [hen1w]; exact e2_k (fun w => q (by rw [w]; decide))
  have fM : en1w 20 0 = some (b 0, .inr (6, [.int (iZ (mu1w 0 0)), .int (iZ (mu1w 1 0)), .long (lZ (mu1w 2 0)), .int (iZ (mu1w 3 0)), .ref (b 4), .ref (b 5), .ref (b 6), .ref (b 7), .ref (b 8), .ref (b 9), .ref (b 10), .ref (b 11), .ref (b 12), .ref (b 13), .ref (b 14), .ref (b 15), .ref (b 16), .ref (b 17), .ref (b 18), .ref (b 19), .ref (b 20), .ref (b 21), .ref (b 22), .ref (b 23), .ref (b 24), .ref (b 25), .int (iZ (mu1w 26 0)), .ref (b 27), .ref (b 28), .ref (b 29), .ref (b 30), .ref (b 31), .ref (b 32), .ref (b 33), .ref (b 34), .int (iZ (mu1w 35 0)), .int (iZ (mu1w 36 0)), .int (iZ (mu1w 37 0)), .int (iZ (mu1w 38 0)), .int (iZ (mu1w 39 0)), .int (iZ (mu1w 40 0)), .ref (b 41), .ref (b 42)])) := hE1w.1
  have hR1 : Rl g mu1w := rl_m hI hR (fun t j q => by rw [hmu1w]; exact u2_n (by omega))
  have rX0 := hR1.1
  unfold RX at rX0
  refine lv_iload_n hx hb dX4_wait2_5 rfl (lv_at hl 1 rfl) ?_
  refine z_if_lt (tgt := 15) hx hb dX4_wait2_6 (by decide) (by omega) (fun c_6 => ?_) (fun c_6 => ?_)
  · refine z_bipush hx hb dX4_wait2_15 (by decide) ?_
    have hpst : Rl (sWai g n) mu1w := by unfold sWai; rw [if_neg (by omega)]; exact hR1
    exact W.iret hx hb hr (fun t ht hw => ⟨⟨_, (en1w, mu1w), rfl, ⟨congrArg iZ (by unfold aWai; rw [if_neg (by omega)]), hE1w, hF1w, hpst⟩, by show Wd _ _ _ t.heap; rw [ht]; exact hW⟩, hS.F ht⟩) hS.2.2 dX4_wait2_17
  · refine lv_iload_n hx hb dX4_wait2_9 rfl (lv_at hl 1 rfl) ?_
    refine z_bipush hx hb dX4_wait2_10 (by decide) ?_
    refine z_icmp_le (tgt := 18) hx hb dX4_wait2_12 (by decide) (by omega) (by omega) (fun c_12 => ?_) (fun c_12 => ?_)
    · refine lv_aload_n hx hb dX4_wait2_18 rfl (lv_at hl 0 rfl) ?_
      refine g_get (C := RX4) (T := TX4) (N := 43) (ci := 6) (v := .int (iZ (mu1w 38 0))) hx hb hts hi6 hown hK hW fM rfl 38 (by decide) (hts (.fieldLink RX4 106 "LongTransferModel" "limit" "I") (by decide +kernel)) (fun _ h9 => h9) rfl dX4_wait2_19 ?_
      refine lv_istore_n (lv' := [(2, .int (iZ (mu1w 38 0))), (0, .ref (b 0)), (1, .int (iZ (n)))]) hx hb dX4_wait2_22 rfl hl (by decide) rfl (fun ls hl => ?_)
      refine lv_aload_n hx hb dX4_wait2_23 rfl (lv_at hl 1 rfl) ?_
      refine lv_iload_n hx hb dX4_wait2_24 rfl (lv_at hl 2 rfl) ?_
      refine g_put (C := RX4) (T := TX4) (N := 43) (ci := 6) (ty := .int) (v := .int (iZ (n))) (fs' := [.int (iZ (mu1w 0 0)), .int (iZ (mu1w 1 0)), .long (lZ (mu1w 2 0)), .int (iZ (mu1w 3 0)), .ref (b 4), .ref (b 5), .ref (b 6), .ref (b 7), .ref (b 8), .ref (b 9), .ref (b 10), .ref (b 11), .ref (b 12), .ref (b 13), .ref (b 14), .ref (b 15), .ref (b 16), .ref (b 17), .ref (b 18), .ref (b 19), .ref (b 20), .ref (b 21), .ref (b 22), .ref (b 23), .ref (b 24), .ref (b 25), .int (iZ (mu1w 26 0)), .ref (b 27), .ref (b 28), .ref (b 29), .ref (b 30), .ref (b 31), .ref (b 32), .ref (b 33), .ref (b 34), .int (iZ (mu1w 35 0)), .int (iZ (mu1w 36 0)), .int (iZ (mu1w 37 0)), .int (iZ (n)), .int (iZ (mu1w 39 0)), .int (iZ (mu1w 40 0)), .ref (b 41), .ref (b 42)]) hx hb hts hi6 tyX4 tyX4_ok nmX4 hown hK hW hS fM rfl 38 (by decide) (hts (.fieldLink RX4 106 "LongTransferModel" "limit" "I") (by decide +kernel)) (fun _ h9 => h9) rfl (by decide +kernel) rfl rfl (Nat.le_of_ble_eq_true rfl) dX4_wait2_25 rfl (fun H locs hW hS => ?_)
      obtain ⟨en2w, hen2w⟩ : ∃ x : en_T, x = e2 en1w 20 0 (some (b 0, .inr (6, [.int (iZ (mu1w 0 0)), .int (iZ (mu1w 1 0)), .long (lZ (mu1w 2 0)), .int (iZ (mu1w 3 0)), .ref (b 4), .ref (b 5), .ref (b 6), .ref (b 7), .ref (b 8), .ref (b 9), .ref (b 10), .ref (b 11), .ref (b 12), .ref (b 13), .ref (b 14), .ref (b 15), .ref (b 16), .ref (b 17), .ref (b 18), .ref (b 19), .ref (b 20), .ref (b 21), .ref (b 22), .ref (b 23), .ref (b 24), .ref (b 25), .int (iZ (mu1w 26 0)), .ref (b 27), .ref (b 28), .ref (b 29), .ref (b 30), .ref (b 31), .ref (b 32), .ref (b 33), .ref (b 34), .int (iZ (mu1w 35 0)), .int (iZ (mu1w 36 0)), .int (iZ (mu1w 37 0)), .int (iZ (n)), .int (iZ (mu1w 39 0)), .int (iZ (mu1w 40 0)), .ref (b 41), .ref (b 42)]))) := ⟨_, rfl⟩
      rw [← hen2w] at hW
      obtain ⟨mu2w, hmu2w⟩ : ∃ x : Mu, x = u2 mu1w 38 (0) (n) := ⟨_, rfl⟩
      have hE2w : EM dA b mu2w en2w := by rw [hen2w, hmu2w]; exact em_f hE1w (k0 := 38) (v := n) (by decide)
      have hF2w : FM en1w en2w := fun k i q => by rw [hen2w]; exact e2_k (fun w => q (by rw [w]; decide))
      have hF2w := FM.tr hF1w hF2w
      have fM : en2w 20 0 = some (b 0, .inr (6, [.int (iZ (mu2w 0 0)), .int (iZ (mu2w 1 0)), .long (lZ (mu2w 2 0)), .int (iZ (mu2w 3 0)), .ref (b 4), .ref (b 5), .ref (b 6), .ref (b 7), .ref (b 8), .ref (b 9), .ref (b 10), .ref (b 11), .ref (b 12), .ref (b 13), .ref (b 14), .ref (b 15), .ref (b 16), .ref (b 17), .ref (b 18), .ref (b 19), .ref (b 20), .ref (b 21), .ref (b 22), .ref (b 23), .ref (b 24), .ref (b 25), .int (iZ (mu2w 26 0)), .ref (b 27), .ref (b 28), .ref (b 29), .ref (b 30), .ref (b 31), .ref (b 32), .ref (b 33), .ref (b 34), .int (iZ (mu2w 35 0)), .int (iZ (mu2w 36 0)), .int (iZ (mu2w 37 0)), .int (iZ (mu2w 38 0)), .int (iZ (mu2w 39 0)), .int (iZ (mu2w 40 0)), .ref (b 41), .ref (b 42)])) := hE2w.1
      refine lv_iload_n hx hb dX4_wait2_28 rfl (lv_at hl 0 rfl) ?_
      have hfin : Rl (sWai g n) mu2w := by
        unfold sWai
        rw [if_pos (by omega)]
        exact rl_set hI hR1 (fun t i j q => wr_n (by omega)) (fun t j q => by rw [hmu2w]; exact u2_n (by omega)) ⟨by rw [hmu2w, u2_n (by omega), wr_n (by omega)]; omega, by rw [hmu2w, u2_n (by omega), wr_n (by omega)]; omega, by rw [hmu2w, u2_n (by omega), wr_n (by omega)]; omega, by rw [hmu2w, u2_s, wr_s], by rw [hmu2w, u2_n (by omega), wr_n (by omega)]; omega⟩
      have hpst : Rl (sWai g n) mu2w := hfin
      exact W.iret hx hb hr (fun t ht hw => ⟨⟨_, (en2w, mu2w), rfl, ⟨congrArg iZ (by unfold aWai; rw [if_pos (by omega)]; omega), hE2w, hF2w, hpst⟩, by show Wd _ _ _ t.heap; rw [ht]; exact hW⟩, hS.F ht⟩) hS.2.2 dX4_wait2_29
    · refine z_bipush hx hb dX4_wait2_15 (by decide) ?_
      have hpst : Rl (sWai g n) mu1w := by unfold sWai; rw [if_neg (by omega)]; exact hR1
      exact W.iret hx hb hr (fun t ht hw => ⟨⟨_, (en1w, mu1w), rfl, ⟨congrArg iZ (by unfold aWai; rw [if_neg (by omega)]), hE1w, hF1w, hpst⟩, by show Wd _ _ _ t.heap; rw [ht]; exact hW⟩, hS.F ht⟩) hS.2.2 dX4_wait2_17
set_option maxHeartbeats 4000000 in
set_option maxRecDepth 100000 in
theorem c_X4_functional (l : Launch) (D : va_G) (dA : Nat → ClassId) (z : Nat → Nat) (en : en_T) (b : Nat → Nat) (mu : Mu) (g : St) (b9 : Int) (hb9 : b9 = 0 ∨ b9 = 1) (hI : IB g) (hR : Rl g mu) (hE : EM dA b mu en) : Met l yX4_functional wsX4_functional ({ frames := 0, cells := 0, slots := 0, locals := 0 }) (gP D dA z en [.ref (b 0), .int (iZ (b9))]) (va_Qi (fun (r8 : Int32) (u : en_T × Mu) => r8 = iZ (g 1 0 0) ∧ EM dA b u.2 u.1 ∧ FM en u.1 ∧ Rl (wr g 0 13 b9) u.2) (fun u t9 => Wd D (z 0) u.1 t9.heap) (fun q => z 0 ≤ q)) (0) (0) (fun q => z 0 ≤ q) := by
  refine gMet (own := RX4) (cc := cX4_functional) (maxL := 2) (ret := (some .int)) (by decide) rfl rfl (Nat.le_of_ble_eq_true rfl) ?_
  intro p e s m below meth c hx hb hml hown hts hr hlocks hnm hg hW ls hl
  have hK := hg.1
  have hS : va_S (fun q => z 0 ≤ q) s.heap s.heap [] := va_S.rf
  have hi6 : ∀ w ∈ u_ws RX4 TX4 43, w ∈ wsX4_functional := by decide +kernel
  have hl : lv_has ls 2 [(0, .ref (b 0)), (1, .int (iZ (b9)))] := hl
  have hx0 := hI.1
  unfold IX at hx0
  have hL0 := hI.2.1
  unfold IL at hL0
  have fM : en 20 0 = some (b 0, .inr (6, [.int (iZ (mu 0 0)), .int (iZ (mu 1 0)), .long (lZ (mu 2 0)), .int (iZ (mu 3 0)), .ref (b 4), .ref (b 5), .ref (b 6), .ref (b 7), .ref (b 8), .ref (b 9), .ref (b 10), .ref (b 11), .ref (b 12), .ref (b 13), .ref (b 14), .ref (b 15), .ref (b 16), .ref (b 17), .ref (b 18), .ref (b 19), .ref (b 20), .ref (b 21), .ref (b 22), .ref (b 23), .ref (b 24), .ref (b 25), .int (iZ (mu 26 0)), .ref (b 27), .ref (b 28), .ref (b 29), .ref (b 30), .ref (b 31), .ref (b 32), .ref (b 33), .ref (b 34), .int (iZ (mu 35 0)), .int (iZ (mu 36 0)), .int (iZ (mu 37 0)), .int (iZ (mu 38 0)), .int (iZ (mu 39 0)), .int (iZ (mu 40 0)), .ref (b 41), .ref (b 42)])) := hE.1
  refine lv_aload_n hx hb dX4_functional_0 rfl (lv_at hl 0 rfl) ?_
  refine z_iconst hx hb dX4_functional_1 ?_
  refine g_put (C := RX4) (T := TX4) (N := 43) (ci := 6) (ty := .int) (v := .int (iZ (0))) (fs' := [.int (iZ (0)), .int (iZ (mu 1 0)), .long (lZ (mu 2 0)), .int (iZ (mu 3 0)), .ref (b 4), .ref (b 5), .ref (b 6), .ref (b 7), .ref (b 8), .ref (b 9), .ref (b 10), .ref (b 11), .ref (b 12), .ref (b 13), .ref (b 14), .ref (b 15), .ref (b 16), .ref (b 17), .ref (b 18), .ref (b 19), .ref (b 20), .ref (b 21), .ref (b 22), .ref (b 23), .ref (b 24), .ref (b 25), .int (iZ (mu 26 0)), .ref (b 27), .ref (b 28), .ref (b 29), .ref (b 30), .ref (b 31), .ref (b 32), .ref (b 33), .ref (b 34), .int (iZ (mu 35 0)), .int (iZ (mu 36 0)), .int (iZ (mu 37 0)), .int (iZ (mu 38 0)), .int (iZ (mu 39 0)), .int (iZ (mu 40 0)), .ref (b 41), .ref (b 42)]) hx hb hts hi6 tyX4 tyX4_ok nmX4 hown hK hW hS fM rfl 0 (by decide) (hts (.fieldLink RX4 120 "LongTransferModel" "code" "I") (by decide +kernel)) (fun _ h9 => h9) rfl (by decide +kernel) rfl rfl (Nat.le_of_ble_eq_true rfl) dX4_functional_2 rfl (fun H locs hW hS => ?_)
  obtain ⟨en1w, hen1w⟩ : ∃ x : en_T, x = e2 en 20 0 (some (b 0, .inr (6, [.int (iZ (0)), .int (iZ (mu 1 0)), .long (lZ (mu 2 0)), .int (iZ (mu 3 0)), .ref (b 4), .ref (b 5), .ref (b 6), .ref (b 7), .ref (b 8), .ref (b 9), .ref (b 10), .ref (b 11), .ref (b 12), .ref (b 13), .ref (b 14), .ref (b 15), .ref (b 16), .ref (b 17), .ref (b 18), .ref (b 19), .ref (b 20), .ref (b 21), .ref (b 22), .ref (b 23), .ref (b 24), .ref (b 25), .int (iZ (mu 26 0)), .ref (b 27), .ref (b 28), .ref (b 29), .ref (b 30), .ref (b 31), .ref (b 32), .ref (b 33), .ref (b 34), .int (iZ (mu 35 0)), .int (iZ (mu 36 0)), .int (iZ (mu 37 0)), .int (iZ (mu 38 0)), .int (iZ (mu 39 0)), .int (iZ (mu 40 0)), .ref (b 41), .ref (b 42)]))) := ⟨_, rfl⟩
  rw [← hen1w] at hW
  obtain ⟨mu1w, hmu1w⟩ : ∃ x : Mu, x = u2 mu 0 (0) (0) := ⟨_, rfl⟩
  have hE1w : EM dA b mu1w en1w := by rw [hen1w, hmu1w]; exact em_f hE (k0 := 0) (v := 0) (by decide)
  have hF1w : FM en en1w := fun k i q => by rw [hen1w]; exact e2_k (fun w => q (by rw [w]; decide))
  have fM : en1w 20 0 = some (b 0, .inr (6, [.int (iZ (mu1w 0 0)), .int (iZ (mu1w 1 0)), .long (lZ (mu1w 2 0)), .int (iZ (mu1w 3 0)), .ref (b 4), .ref (b 5), .ref (b 6), .ref (b 7), .ref (b 8), .ref (b 9), .ref (b 10), .ref (b 11), .ref (b 12), .ref (b 13), .ref (b 14), .ref (b 15), .ref (b 16), .ref (b 17), .ref (b 18), .ref (b 19), .ref (b 20), .ref (b 21), .ref (b 22), .ref (b 23), .ref (b 24), .ref (b 25), .int (iZ (mu1w 26 0)), .ref (b 27), .ref (b 28), .ref (b 29), .ref (b 30), .ref (b 31), .ref (b 32), .ref (b 33), .ref (b 34), .int (iZ (mu1w 35 0)), .int (iZ (mu1w 36 0)), .int (iZ (mu1w 37 0)), .int (iZ (mu1w 38 0)), .int (iZ (mu1w 39 0)), .int (iZ (mu1w 40 0)), .ref (b 41), .ref (b 42)])) := hE1w.1
  have hR1 : Rl g mu1w := rl_m hI hR (fun t j q => by rw [hmu1w]; exact u2_n (by omega))
  have rX0 := hR1.1
  unfold RX at rX0
  refine lv_aload_n hx hb dX4_functional_5 rfl (lv_at hl 0 rfl) ?_
  refine lv_iload_n hx hb dX4_functional_6 rfl (lv_at hl 1 rfl) ?_
  refine g_put (C := RX4) (T := TX4) (N := 43) (ci := 6) (ty := .boolean) (v := .int (iZ (b9))) (fs' := [.int (iZ (mu1w 0 0)), .int (iZ (mu1w 1 0)), .long (lZ (mu1w 2 0)), .int (iZ (mu1w 3 0)), .ref (b 4), .ref (b 5), .ref (b 6), .ref (b 7), .ref (b 8), .ref (b 9), .ref (b 10), .ref (b 11), .ref (b 12), .ref (b 13), .ref (b 14), .ref (b 15), .ref (b 16), .ref (b 17), .ref (b 18), .ref (b 19), .ref (b 20), .ref (b 21), .ref (b 22), .ref (b 23), .ref (b 24), .ref (b 25), .int (iZ (mu1w 26 0)), .ref (b 27), .ref (b 28), .ref (b 29), .ref (b 30), .ref (b 31), .ref (b 32), .ref (b 33), .ref (b 34), .int (iZ (mu1w 35 0)), .int (iZ (mu1w 36 0)), .int (iZ (mu1w 37 0)), .int (iZ (mu1w 38 0)), .int (iZ (b9)), .int (iZ (mu1w 40 0)), .ref (b 41), .ref (b 42)]) hx hb hts hi6 tyX4 tyX4_ok nmX4 hown hK hW hS fM rfl 39 (by decide) (hts (.fieldLink RX4 126 "LongTransferModel" "functional" "Z") (by decide +kernel)) (fun _ h9 => h9) rfl (by decide +kernel) (nz_z (by omega)) (ft_z (by omega)) (Nat.le_of_ble_eq_true rfl) dX4_functional_7 rfl (fun H locs hW hS => ?_)
  obtain ⟨en2w, hen2w⟩ : ∃ x : en_T, x = e2 en1w 20 0 (some (b 0, .inr (6, [.int (iZ (mu1w 0 0)), .int (iZ (mu1w 1 0)), .long (lZ (mu1w 2 0)), .int (iZ (mu1w 3 0)), .ref (b 4), .ref (b 5), .ref (b 6), .ref (b 7), .ref (b 8), .ref (b 9), .ref (b 10), .ref (b 11), .ref (b 12), .ref (b 13), .ref (b 14), .ref (b 15), .ref (b 16), .ref (b 17), .ref (b 18), .ref (b 19), .ref (b 20), .ref (b 21), .ref (b 22), .ref (b 23), .ref (b 24), .ref (b 25), .int (iZ (mu1w 26 0)), .ref (b 27), .ref (b 28), .ref (b 29), .ref (b 30), .ref (b 31), .ref (b 32), .ref (b 33), .ref (b 34), .int (iZ (mu1w 35 0)), .int (iZ (mu1w 36 0)), .int (iZ (mu1w 37 0)), .int (iZ (mu1w 38 0)), .int (iZ (b9)), .int (iZ (mu1w 40 0)), .ref (b 41), .ref (b 42)]))) := ⟨_, rfl⟩
  rw [← hen2w] at hW
  obtain ⟨mu2w, hmu2w⟩ : ∃ x : Mu, x = u2 mu1w 39 (0) (b9) := ⟨_, rfl⟩
  have hE2w : EM dA b mu2w en2w := by rw [hen2w, hmu2w]; exact em_f hE1w (k0 := 39) (v := b9) (by decide)
  have hF2w : FM en1w en2w := fun k i q => by rw [hen2w]; exact e2_k (fun w => q (by rw [w]; decide))
  have hF2w := FM.tr hF1w hF2w
  have fM : en2w 20 0 = some (b 0, .inr (6, [.int (iZ (mu2w 0 0)), .int (iZ (mu2w 1 0)), .long (lZ (mu2w 2 0)), .int (iZ (mu2w 3 0)), .ref (b 4), .ref (b 5), .ref (b 6), .ref (b 7), .ref (b 8), .ref (b 9), .ref (b 10), .ref (b 11), .ref (b 12), .ref (b 13), .ref (b 14), .ref (b 15), .ref (b 16), .ref (b 17), .ref (b 18), .ref (b 19), .ref (b 20), .ref (b 21), .ref (b 22), .ref (b 23), .ref (b 24), .ref (b 25), .int (iZ (mu2w 26 0)), .ref (b 27), .ref (b 28), .ref (b 29), .ref (b 30), .ref (b 31), .ref (b 32), .ref (b 33), .ref (b 34), .int (iZ (mu2w 35 0)), .int (iZ (mu2w 36 0)), .int (iZ (mu2w 37 0)), .int (iZ (mu2w 38 0)), .int (iZ (mu2w 39 0)), .int (iZ (mu2w 40 0)), .ref (b 41), .ref (b 42)])) := hE2w.1
  refine lv_aload_n hx hb dX4_functional_10 rfl (lv_at hl 0 rfl) ?_
  refine g_get (C := RX4) (T := TX4) (N := 43) (ci := 6) (v := .int (iZ (mu2w 3 0))) hx hb hts hi6 hown hK hW fM rfl 3 (by decide) (hts (.fieldLink RX4 123 "LongTransferModel" "messages" "I") (by decide +kernel)) (fun _ h9 => h9) rfl dX4_functional_11 ?_
  have hfin : Rl (wr g 0 13 b9) mu2w := rl_set hI hR1 (fun t i j q => wr_n (by omega)) (fun t j q => by rw [hmu2w]; exact u2_n (by omega)) ⟨by rw [hmu2w, u2_n (by omega), wr_n (by omega)]; omega, by rw [hmu2w, u2_n (by omega), wr_n (by omega)]; omega, by rw [hmu2w, u2_n (by omega), wr_n (by omega)]; omega, by rw [hmu2w, u2_n (by omega), wr_n (by omega)]; omega, by rw [hmu2w, u2_s, wr_s]⟩
  have hpst : Rl (wr g 0 13 b9) mu2w := hfin
  exact W.iret hx hb hr (fun t ht hw => ⟨⟨_, (en2w, mu2w), rfl, ⟨congrArg iZ (by rw [hmu2w, u2_n (by omega)]; omega), hE2w, hF2w, hpst⟩, by show Wd _ _ _ t.heap; rw [ht]; exact hW⟩, hS.F ht⟩) hS.2.2 dX4_functional_14
set_option maxHeartbeats 4000000 in
set_option maxRecDepth 100000 in
theorem c_X4_flow (l : Launch) (D : va_G) (dA : Nat → ClassId) (z : Nat → Nat) (en : en_T) (b : Nat → Nat) (mu : Mu) (g : St) (b9 s9 k9 : Int) (hb9 : iB b9) (hs9 : iB s9) (hk9 : iB k9) (hI : IB g) (hR : Rl g mu) (hE : EM dA b mu en) : Met l yX4_flow wsX4_flow ({ frames := 0, cells := 0, slots := 0, locals := 0 }) (gP D dA z en [.ref (b 0), .int (iZ (b9)), .int (iZ (s9)), .int (iZ (k9))]) (va_Qi (fun (r8 : Int32) (u : en_T × Mu) => r8 = iZ (aFlw b9 s9 k9) ∧ EM dA b u.2 u.1 ∧ FM en u.1 ∧ Rl (sFlw g b9 s9 k9) u.2) (fun u t9 => Wd D (z 0) u.1 t9.heap) (fun q => z 0 ≤ q)) (0) (0) (fun q => z 0 ≤ q) := by
  refine gMet (own := RX4) (cc := cX4_flow) (maxL := 4) (ret := (some .int)) (by decide) rfl rfl (Nat.le_of_ble_eq_true rfl) ?_
  intro p e s m below meth c hx hb hml hown hts hr hlocks hnm hg hW ls hl
  have hK := hg.1
  have hS : va_S (fun q => z 0 ≤ q) s.heap s.heap [] := va_S.rf
  have hi6 : ∀ w ∈ u_ws RX4 TX4 43, w ∈ wsX4_flow := by decide +kernel
  have hl : lv_has ls 4 [(0, .ref (b 0)), (1, .int (iZ (b9))), (2, .int (iZ (s9))), (3, .int (iZ (k9)))] := hl
  have hx0 := hI.1
  unfold IX at hx0
  have hL0 := hI.2.1
  unfold IL at hL0
  have fM : en 20 0 = some (b 0, .inr (6, [.int (iZ (mu 0 0)), .int (iZ (mu 1 0)), .long (lZ (mu 2 0)), .int (iZ (mu 3 0)), .ref (b 4), .ref (b 5), .ref (b 6), .ref (b 7), .ref (b 8), .ref (b 9), .ref (b 10), .ref (b 11), .ref (b 12), .ref (b 13), .ref (b 14), .ref (b 15), .ref (b 16), .ref (b 17), .ref (b 18), .ref (b 19), .ref (b 20), .ref (b 21), .ref (b 22), .ref (b 23), .ref (b 24), .ref (b 25), .int (iZ (mu 26 0)), .ref (b 27), .ref (b 28), .ref (b 29), .ref (b 30), .ref (b 31), .ref (b 32), .ref (b 33), .ref (b 34), .int (iZ (mu 35 0)), .int (iZ (mu 36 0)), .int (iZ (mu 37 0)), .int (iZ (mu 38 0)), .int (iZ (mu 39 0)), .int (iZ (mu 40 0)), .ref (b 41), .ref (b 42)])) := hE.1
  refine lv_aload_n hx hb dX4_flow_0 rfl (lv_at hl 0 rfl) ?_
  refine z_iconst hx hb dX4_flow_1 ?_
  refine g_put (C := RX4) (T := TX4) (N := 43) (ci := 6) (ty := .int) (v := .int (iZ (0))) (fs' := [.int (iZ (0)), .int (iZ (mu 1 0)), .long (lZ (mu 2 0)), .int (iZ (mu 3 0)), .ref (b 4), .ref (b 5), .ref (b 6), .ref (b 7), .ref (b 8), .ref (b 9), .ref (b 10), .ref (b 11), .ref (b 12), .ref (b 13), .ref (b 14), .ref (b 15), .ref (b 16), .ref (b 17), .ref (b 18), .ref (b 19), .ref (b 20), .ref (b 21), .ref (b 22), .ref (b 23), .ref (b 24), .ref (b 25), .int (iZ (mu 26 0)), .ref (b 27), .ref (b 28), .ref (b 29), .ref (b 30), .ref (b 31), .ref (b 32), .ref (b 33), .ref (b 34), .int (iZ (mu 35 0)), .int (iZ (mu 36 0)), .int (iZ (mu 37 0)), .int (iZ (mu 38 0)), .int (iZ (mu 39 0)), .int (iZ (mu 40 0)), .ref (b 41), .ref (b 42)]) hx hb hts hi6 tyX4 tyX4_ok nmX4 hown hK hW hS fM rfl 0 (by decide) (hts (.fieldLink RX4 120 "LongTransferModel" "code" "I") (by decide +kernel)) (fun _ h9 => h9) rfl (by decide +kernel) rfl rfl (Nat.le_of_ble_eq_true rfl) dX4_flow_2 rfl (fun H locs hW hS => ?_)
  obtain ⟨en1w, hen1w⟩ : ∃ x : en_T, x = e2 en 20 0 (some (b 0, .inr (6, [.int (iZ (0)), .int (iZ (mu 1 0)), .long (lZ (mu 2 0)), .int (iZ (mu 3 0)), .ref (b 4), .ref (b 5), .ref (b 6), .ref (b 7), .ref (b 8), .ref (b 9), .ref (b 10), .ref (b 11), .ref (b 12), .ref (b 13), .ref (b 14), .ref (b 15), .ref (b 16), .ref (b 17), .ref (b 18), .ref (b 19), .ref (b 20), .ref (b 21), .ref (b 22), .ref (b 23), .ref (b 24), .ref (b 25), .int (iZ (mu 26 0)), .ref (b 27), .ref (b 28), .ref (b 29), .ref (b 30), .ref (b 31), .ref (b 32), .ref (b 33), .ref (b 34), .int (iZ (mu 35 0)), .int (iZ (mu 36 0)), .int (iZ (mu 37 0)), .int (iZ (mu 38 0)), .int (iZ (mu 39 0)), .int (iZ (mu 40 0)), .ref (b 41), .ref (b 42)]))) := ⟨_, rfl⟩
  rw [← hen1w] at hW
  obtain ⟨mu1w, hmu1w⟩ : ∃ x : Mu, x = u2 mu 0 (0) (0) := ⟨_, rfl⟩
  have hE1w : EM dA b mu1w en1w := by rw [hen1w, hmu1w]; exact em_f hE (k0 := 0) (v := 0) (by decide)
  have hF1w : FM en en1w := fun k i q => by rw [hen1w]; exact e2_k (fun w => q (by rw [w]; decide))
  have fM : en1w 20 0 = some (b 0, .inr (6, [.int (iZ (mu1w 0 0)), .int (iZ (mu1w 1 0)), .long (lZ (mu1w 2 0)), .int (iZ (mu1w 3 0)), .ref (b 4), .ref (b 5), .ref (b 6), .ref (b 7), .ref (b 8), .ref (b 9), .ref (b 10), .ref (b 11), .ref (b 12), .ref (b 13), .ref (b 14), .ref (b 15), .ref (b 16), .ref (b 17), .ref (b 18), .ref (b 19), .ref (b 20), .ref (b 21), .ref (b 22), .ref (b 23), .ref (b 24), .ref (b 25), .int (iZ (mu1w 26 0)), .ref (b 27), .ref (b 28), .ref (b 29), .ref (b 30), .ref (b 31), .ref (b 32), .ref (b 33), .ref (b 34), .int (iZ (mu1w 35 0)), .int (iZ (mu1w 36 0)), .int (iZ (mu1w 37 0)), .int (iZ (mu1w 38 0)), .int (iZ (mu1w 39 0)), .int (iZ (mu1w 40 0)), .ref (b 41), .ref (b 42)])) := hE1w.1
  have hR1 : Rl g mu1w := rl_m hI hR (fun t j q => by rw [hmu1w]; exact u2_n (by omega))
  have rX0 := hR1.1
  unfold RX at rX0
  refine lv_iload_n hx hb dX4_flow_5 rfl (lv_at hl 1 rfl) ?_
  refine z_if_lt (tgt := 36) hx hb dX4_flow_6 (by decide) (by omega) (fun c_6 => ?_) (fun c_6 => ?_)
  · refine z_bipush hx hb dX4_flow_36 (by decide) ?_
    have hpst : Rl (sFlw g b9 s9 k9) mu1w := by unfold sFlw; rw [if_neg (by omega)]; exact hR1
    exact W.iret hx hb hr (fun t ht hw => ⟨⟨_, (en1w, mu1w), rfl, ⟨congrArg iZ (by unfold aFlw; rw [if_neg (by omega)]), hE1w, hF1w, hpst⟩, by show Wd _ _ _ t.heap; rw [ht]; exact hW⟩, hS.F ht⟩) hS.2.2 dX4_flow_38
  · refine lv_iload_n hx hb dX4_flow_9 rfl (lv_at hl 1 rfl) ?_
    refine z_sipush hx hb dX4_flow_10 (by decide) ?_
    refine z_icmp_gt (tgt := 36) hx hb dX4_flow_13 (by decide) (by omega) (by omega) (fun c_13 => ?_) (fun c_13 => ?_)
    · refine z_bipush hx hb dX4_flow_36 (by decide) ?_
      have hpst : Rl (sFlw g b9 s9 k9) mu1w := by unfold sFlw; rw [if_neg (by omega)]; exact hR1
      exact W.iret hx hb hr (fun t ht hw => ⟨⟨_, (en1w, mu1w), rfl, ⟨congrArg iZ (by unfold aFlw; rw [if_neg (by omega)]), hE1w, hF1w, hpst⟩, by show Wd _ _ _ t.heap; rw [ht]; exact hW⟩, hS.F ht⟩) hS.2.2 dX4_flow_38
    · refine lv_iload_n hx hb dX4_flow_16 rfl (lv_at hl 2 rfl) ?_
      refine z_if_lt (tgt := 36) hx hb dX4_flow_17 (by decide) (by omega) (fun c_17 => ?_) (fun c_17 => ?_)
      · refine z_bipush hx hb dX4_flow_36 (by decide) ?_
        have hpst : Rl (sFlw g b9 s9 k9) mu1w := by unfold sFlw; rw [if_neg (by omega)]; exact hR1
        exact W.iret hx hb hr (fun t ht hw => ⟨⟨_, (en1w, mu1w), rfl, ⟨congrArg iZ (by unfold aFlw; rw [if_neg (by omega)]), hE1w, hF1w, hpst⟩, by show Wd _ _ _ t.heap; rw [ht]; exact hW⟩, hS.F ht⟩) hS.2.2 dX4_flow_38
      · refine lv_iload_n hx hb dX4_flow_20 rfl (lv_at hl 2 rfl) ?_
        refine z_sipush hx hb dX4_flow_21 (by decide) ?_
        refine z_icmp_gt (tgt := 36) hx hb dX4_flow_24 (by decide) (by omega) (by omega) (fun c_24 => ?_) (fun c_24 => ?_)
        · refine z_bipush hx hb dX4_flow_36 (by decide) ?_
          have hpst : Rl (sFlw g b9 s9 k9) mu1w := by unfold sFlw; rw [if_neg (by omega)]; exact hR1
          exact W.iret hx hb hr (fun t ht hw => ⟨⟨_, (en1w, mu1w), rfl, ⟨congrArg iZ (by unfold aFlw; rw [if_neg (by omega)]), hE1w, hF1w, hpst⟩, by show Wd _ _ _ t.heap; rw [ht]; exact hW⟩, hS.F ht⟩) hS.2.2 dX4_flow_38
        · refine lv_iload_n hx hb dX4_flow_27 rfl (lv_at hl 3 rfl) ?_
          refine z_if_lt (tgt := 36) hx hb dX4_flow_28 (by decide) (by omega) (fun c_28 => ?_) (fun c_28 => ?_)
          · refine z_bipush hx hb dX4_flow_36 (by decide) ?_
            have hpst : Rl (sFlw g b9 s9 k9) mu1w := by unfold sFlw; rw [if_neg (by omega)]; exact hR1
            exact W.iret hx hb hr (fun t ht hw => ⟨⟨_, (en1w, mu1w), rfl, ⟨congrArg iZ (by unfold aFlw; rw [if_neg (by omega)]), hE1w, hF1w, hpst⟩, by show Wd _ _ _ t.heap; rw [ht]; exact hW⟩, hS.F ht⟩) hS.2.2 dX4_flow_38
          · refine lv_iload_n hx hb dX4_flow_31 rfl (lv_at hl 3 rfl) ?_
            refine z_iconst hx hb dX4_flow_32 ?_
            refine z_icmp_le (tgt := 39) hx hb dX4_flow_33 (by decide) (by omega) (by omega) (fun c_33 => ?_) (fun c_33 => ?_)
            · refine lv_aload_n hx hb dX4_flow_39 rfl (lv_at hl 0 rfl) ?_
              refine lv_iload_n hx hb dX4_flow_40 rfl (lv_at hl 1 rfl) ?_
              refine g_put (C := RX4) (T := TX4) (N := 43) (ci := 6) (ty := .int) (v := .int (iZ (b9))) (fs' := [.int (iZ (mu1w 0 0)), .int (iZ (mu1w 1 0)), .long (lZ (mu1w 2 0)), .int (iZ (mu1w 3 0)), .ref (b 4), .ref (b 5), .ref (b 6), .ref (b 7), .ref (b 8), .ref (b 9), .ref (b 10), .ref (b 11), .ref (b 12), .ref (b 13), .ref (b 14), .ref (b 15), .ref (b 16), .ref (b 17), .ref (b 18), .ref (b 19), .ref (b 20), .ref (b 21), .ref (b 22), .ref (b 23), .ref (b 24), .ref (b 25), .int (iZ (mu1w 26 0)), .ref (b 27), .ref (b 28), .ref (b 29), .ref (b 30), .ref (b 31), .ref (b 32), .ref (b 33), .ref (b 34), .int (iZ (b9)), .int (iZ (mu1w 36 0)), .int (iZ (mu1w 37 0)), .int (iZ (mu1w 38 0)), .int (iZ (mu1w 39 0)), .int (iZ (mu1w 40 0)), .ref (b 41), .ref (b 42)]) hx hb hts hi6 tyX4 tyX4_ok nmX4 hown hK hW hS fM rfl 35 (by decide) (hts (.fieldLink RX4 156 "LongTransferModel" "flowBlock" "I") (by decide +kernel)) (fun _ h9 => h9) rfl (by decide +kernel) rfl rfl (Nat.le_of_ble_eq_true rfl) dX4_flow_41 rfl (fun H locs hW hS => ?_)
              obtain ⟨en2w, hen2w⟩ : ∃ x : en_T, x = e2 en1w 20 0 (some (b 0, .inr (6, [.int (iZ (mu1w 0 0)), .int (iZ (mu1w 1 0)), .long (lZ (mu1w 2 0)), .int (iZ (mu1w 3 0)), .ref (b 4), .ref (b 5), .ref (b 6), .ref (b 7), .ref (b 8), .ref (b 9), .ref (b 10), .ref (b 11), .ref (b 12), .ref (b 13), .ref (b 14), .ref (b 15), .ref (b 16), .ref (b 17), .ref (b 18), .ref (b 19), .ref (b 20), .ref (b 21), .ref (b 22), .ref (b 23), .ref (b 24), .ref (b 25), .int (iZ (mu1w 26 0)), .ref (b 27), .ref (b 28), .ref (b 29), .ref (b 30), .ref (b 31), .ref (b 32), .ref (b 33), .ref (b 34), .int (iZ (b9)), .int (iZ (mu1w 36 0)), .int (iZ (mu1w 37 0)), .int (iZ (mu1w 38 0)), .int (iZ (mu1w 39 0)), .int (iZ (mu1w 40 0)), .ref (b 41), .ref (b 42)]))) := ⟨_, rfl⟩
              rw [← hen2w] at hW
              obtain ⟨mu2w, hmu2w⟩ : ∃ x : Mu, x = u2 mu1w 35 (0) (b9) := ⟨_, rfl⟩
              have hE2w : EM dA b mu2w en2w := by rw [hen2w, hmu2w]; exact em_f hE1w (k0 := 35) (v := b9) (by decide)
              have hF2w : FM en1w en2w := fun k i q => by rw [hen2w]; exact e2_k (fun w => q (by rw [w]; decide))
              have hF2w := FM.tr hF1w hF2w
              have fM : en2w 20 0 = some (b 0, .inr (6, [.int (iZ (mu2w 0 0)), .int (iZ (mu2w 1 0)), .long (lZ (mu2w 2 0)), .int (iZ (mu2w 3 0)), .ref (b 4), .ref (b 5), .ref (b 6), .ref (b 7), .ref (b 8), .ref (b 9), .ref (b 10), .ref (b 11), .ref (b 12), .ref (b 13), .ref (b 14), .ref (b 15), .ref (b 16), .ref (b 17), .ref (b 18), .ref (b 19), .ref (b 20), .ref (b 21), .ref (b 22), .ref (b 23), .ref (b 24), .ref (b 25), .int (iZ (mu2w 26 0)), .ref (b 27), .ref (b 28), .ref (b 29), .ref (b 30), .ref (b 31), .ref (b 32), .ref (b 33), .ref (b 34), .int (iZ (mu2w 35 0)), .int (iZ (mu2w 36 0)), .int (iZ (mu2w 37 0)), .int (iZ (mu2w 38 0)), .int (iZ (mu2w 39 0)), .int (iZ (mu2w 40 0)), .ref (b 41), .ref (b 42)])) := hE2w.1
              refine lv_aload_n hx hb dX4_flow_44 rfl (lv_at hl 0 rfl) ?_
              refine lv_iload_n hx hb dX4_flow_45 rfl (lv_at hl 2 rfl) ?_
              refine g_put (C := RX4) (T := TX4) (N := 43) (ci := 6) (ty := .int) (v := .int (iZ (s9))) (fs' := [.int (iZ (mu2w 0 0)), .int (iZ (mu2w 1 0)), .long (lZ (mu2w 2 0)), .int (iZ (mu2w 3 0)), .ref (b 4), .ref (b 5), .ref (b 6), .ref (b 7), .ref (b 8), .ref (b 9), .ref (b 10), .ref (b 11), .ref (b 12), .ref (b 13), .ref (b 14), .ref (b 15), .ref (b 16), .ref (b 17), .ref (b 18), .ref (b 19), .ref (b 20), .ref (b 21), .ref (b 22), .ref (b 23), .ref (b 24), .ref (b 25), .int (iZ (mu2w 26 0)), .ref (b 27), .ref (b 28), .ref (b 29), .ref (b 30), .ref (b 31), .ref (b 32), .ref (b 33), .ref (b 34), .int (iZ (mu2w 35 0)), .int (iZ (s9)), .int (iZ (mu2w 37 0)), .int (iZ (mu2w 38 0)), .int (iZ (mu2w 39 0)), .int (iZ (mu2w 40 0)), .ref (b 41), .ref (b 42)]) hx hb hts hi6 tyX4 tyX4_ok nmX4 hown hK hW hS fM rfl 36 (by decide) (hts (.fieldLink RX4 159 "LongTransferModel" "flowApart" "I") (by decide +kernel)) (fun _ h9 => h9) rfl (by decide +kernel) rfl rfl (Nat.le_of_ble_eq_true rfl) dX4_flow_46 rfl (fun H locs hW hS => ?_)
              obtain ⟨en3w, hen3w⟩ : ∃ x : en_T, x = e2 en2w 20 0 (some (b 0, .inr (6, [.int (iZ (mu2w 0 0)), .int (iZ (mu2w 1 0)), .long (lZ (mu2w 2 0)), .int (iZ (mu2w 3 0)), .ref (b 4), .ref (b 5), .ref (b 6), .ref (b 7), .ref (b 8), .ref (b 9), .ref (b 10), .ref (b 11), .ref (b 12), .ref (b 13), .ref (b 14), .ref (b 15), .ref (b 16), .ref (b 17), .ref (b 18), .ref (b 19), .ref (b 20), .ref (b 21), .ref (b 22), .ref (b 23), .ref (b 24), .ref (b 25), .int (iZ (mu2w 26 0)), .ref (b 27), .ref (b 28), .ref (b 29), .ref (b 30), .ref (b 31), .ref (b 32), .ref (b 33), .ref (b 34), .int (iZ (mu2w 35 0)), .int (iZ (s9)), .int (iZ (mu2w 37 0)), .int (iZ (mu2w 38 0)), .int (iZ (mu2w 39 0)), .int (iZ (mu2w 40 0)), .ref (b 41), .ref (b 42)]))) := ⟨_, rfl⟩
              rw [← hen3w] at hW
              obtain ⟨mu3w, hmu3w⟩ : ∃ x : Mu, x = u2 mu2w 36 (0) (s9) := ⟨_, rfl⟩
              have hE3w : EM dA b mu3w en3w := by rw [hen3w, hmu3w]; exact em_f hE2w (k0 := 36) (v := s9) (by decide)
              have hF3w : FM en2w en3w := fun k i q => by rw [hen3w]; exact e2_k (fun w => q (by rw [w]; decide))
              have hF3w := FM.tr hF2w hF3w
              have fM : en3w 20 0 = some (b 0, .inr (6, [.int (iZ (mu3w 0 0)), .int (iZ (mu3w 1 0)), .long (lZ (mu3w 2 0)), .int (iZ (mu3w 3 0)), .ref (b 4), .ref (b 5), .ref (b 6), .ref (b 7), .ref (b 8), .ref (b 9), .ref (b 10), .ref (b 11), .ref (b 12), .ref (b 13), .ref (b 14), .ref (b 15), .ref (b 16), .ref (b 17), .ref (b 18), .ref (b 19), .ref (b 20), .ref (b 21), .ref (b 22), .ref (b 23), .ref (b 24), .ref (b 25), .int (iZ (mu3w 26 0)), .ref (b 27), .ref (b 28), .ref (b 29), .ref (b 30), .ref (b 31), .ref (b 32), .ref (b 33), .ref (b 34), .int (iZ (mu3w 35 0)), .int (iZ (mu3w 36 0)), .int (iZ (mu3w 37 0)), .int (iZ (mu3w 38 0)), .int (iZ (mu3w 39 0)), .int (iZ (mu3w 40 0)), .ref (b 41), .ref (b 42)])) := hE3w.1
              refine lv_aload_n hx hb dX4_flow_49 rfl (lv_at hl 0 rfl) ?_
              refine lv_iload_n hx hb dX4_flow_50 rfl (lv_at hl 3 rfl) ?_
              refine g_put (C := RX4) (T := TX4) (N := 43) (ci := 6) (ty := .int) (v := .int (iZ (k9))) (fs' := [.int (iZ (mu3w 0 0)), .int (iZ (mu3w 1 0)), .long (lZ (mu3w 2 0)), .int (iZ (mu3w 3 0)), .ref (b 4), .ref (b 5), .ref (b 6), .ref (b 7), .ref (b 8), .ref (b 9), .ref (b 10), .ref (b 11), .ref (b 12), .ref (b 13), .ref (b 14), .ref (b 15), .ref (b 16), .ref (b 17), .ref (b 18), .ref (b 19), .ref (b 20), .ref (b 21), .ref (b 22), .ref (b 23), .ref (b 24), .ref (b 25), .int (iZ (mu3w 26 0)), .ref (b 27), .ref (b 28), .ref (b 29), .ref (b 30), .ref (b 31), .ref (b 32), .ref (b 33), .ref (b 34), .int (iZ (mu3w 35 0)), .int (iZ (mu3w 36 0)), .int (iZ (k9)), .int (iZ (mu3w 38 0)), .int (iZ (mu3w 39 0)), .int (iZ (mu3w 40 0)), .ref (b 41), .ref (b 42)]) hx hb hts hi6 tyX4 tyX4_ok nmX4 hown hK hW hS fM rfl 37 (by decide) (hts (.fieldLink RX4 153 "LongTransferModel" "flowKind" "I") (by decide +kernel)) (fun _ h9 => h9) rfl (by decide +kernel) rfl rfl (Nat.le_of_ble_eq_true rfl) dX4_flow_51 rfl (fun H locs hW hS => ?_)
              obtain ⟨en4w, hen4w⟩ : ∃ x : en_T, x = e2 en3w 20 0 (some (b 0, .inr (6, [.int (iZ (mu3w 0 0)), .int (iZ (mu3w 1 0)), .long (lZ (mu3w 2 0)), .int (iZ (mu3w 3 0)), .ref (b 4), .ref (b 5), .ref (b 6), .ref (b 7), .ref (b 8), .ref (b 9), .ref (b 10), .ref (b 11), .ref (b 12), .ref (b 13), .ref (b 14), .ref (b 15), .ref (b 16), .ref (b 17), .ref (b 18), .ref (b 19), .ref (b 20), .ref (b 21), .ref (b 22), .ref (b 23), .ref (b 24), .ref (b 25), .int (iZ (mu3w 26 0)), .ref (b 27), .ref (b 28), .ref (b 29), .ref (b 30), .ref (b 31), .ref (b 32), .ref (b 33), .ref (b 34), .int (iZ (mu3w 35 0)), .int (iZ (mu3w 36 0)), .int (iZ (k9)), .int (iZ (mu3w 38 0)), .int (iZ (mu3w 39 0)), .int (iZ (mu3w 40 0)), .ref (b 41), .ref (b 42)]))) := ⟨_, rfl⟩
              rw [← hen4w] at hW
              obtain ⟨mu4w, hmu4w⟩ : ∃ x : Mu, x = u2 mu3w 37 (0) (k9) := ⟨_, rfl⟩
              have hE4w : EM dA b mu4w en4w := by rw [hen4w, hmu4w]; exact em_f hE3w (k0 := 37) (v := k9) (by decide)
              have hF4w : FM en3w en4w := fun k i q => by rw [hen4w]; exact e2_k (fun w => q (by rw [w]; decide))
              have hF4w := FM.tr hF3w hF4w
              have fM : en4w 20 0 = some (b 0, .inr (6, [.int (iZ (mu4w 0 0)), .int (iZ (mu4w 1 0)), .long (lZ (mu4w 2 0)), .int (iZ (mu4w 3 0)), .ref (b 4), .ref (b 5), .ref (b 6), .ref (b 7), .ref (b 8), .ref (b 9), .ref (b 10), .ref (b 11), .ref (b 12), .ref (b 13), .ref (b 14), .ref (b 15), .ref (b 16), .ref (b 17), .ref (b 18), .ref (b 19), .ref (b 20), .ref (b 21), .ref (b 22), .ref (b 23), .ref (b 24), .ref (b 25), .int (iZ (mu4w 26 0)), .ref (b 27), .ref (b 28), .ref (b 29), .ref (b 30), .ref (b 31), .ref (b 32), .ref (b 33), .ref (b 34), .int (iZ (mu4w 35 0)), .int (iZ (mu4w 36 0)), .int (iZ (mu4w 37 0)), .int (iZ (mu4w 38 0)), .int (iZ (mu4w 39 0)), .int (iZ (mu4w 40 0)), .ref (b 41), .ref (b 42)])) := hE4w.1
              refine z_iconst hx hb dX4_flow_54 ?_
              have hfin : Rl (sFlw g b9 s9 k9) mu4w := by
                unfold sFlw
                rw [if_pos (by omega)]
                refine rl_set hI hR1 (fun t i j q => by rw [wr_n (by omega), wr_n (by omega), wr_n (by omega)]) (fun t j q => by rw [hmu4w, u2_n (by omega), hmu3w, u2_n (by omega), hmu2w, u2_n (by omega)]) ⟨?_, ?_, ?_, ?_, ?_⟩
                · rw [hmu4w, u2_n (by omega), hmu3w, u2_n (by omega), hmu2w, u2_s, wr_n (by omega), wr_n (by omega), wr_s]
                · rw [hmu4w, u2_n (by omega), hmu3w, u2_s, wr_n (by omega), wr_s]
                · rw [hmu4w, u2_s, wr_s]
                · rw [hmu4w, u2_n (by omega), hmu3w, u2_n (by omega), hmu2w, u2_n (by omega), wr_n (by omega), wr_n (by omega), wr_n (by omega)]; omega
                · rw [hmu4w, u2_n (by omega), hmu3w, u2_n (by omega), hmu2w, u2_n (by omega), wr_n (by omega), wr_n (by omega), wr_n (by omega)]; omega
              have hpst : Rl (sFlw g b9 s9 k9) mu4w := hfin
              exact W.iret hx hb hr (fun t ht hw => ⟨⟨_, (en4w, mu4w), rfl, ⟨congrArg iZ (by unfold aFlw; rw [if_pos (by omega)]), hE4w, hF4w, hpst⟩, by show Wd _ _ _ t.heap; rw [ht]; exact hW⟩, hS.F ht⟩) hS.2.2 dX4_flow_55
            · refine z_bipush hx hb dX4_flow_36 (by decide) ?_
              have hpst : Rl (sFlw g b9 s9 k9) mu1w := by unfold sFlw; rw [if_neg (by omega)]; exact hR1
              exact W.iret hx hb hr (fun t ht hw => ⟨⟨_, (en1w, mu1w), rfl, ⟨congrArg iZ (by unfold aFlw; rw [if_neg (by omega)]), hE1w, hF1w, hpst⟩, by show Wd _ _ _ t.heap; rw [ht]; exact hW⟩, hS.F ht⟩) hS.2.2 dX4_flow_38
set_option maxHeartbeats 4000000 in
set_option maxRecDepth 100000 in
theorem c_X4_lose (l : Launch) (D : va_G) (dA : Nat → ClassId) (z : Nat → Nat) (en : en_T) (b : Nat → Nat) (mu : Mu) (g : St) (ff : Int) (hff : iB ff) (hI : IB g) (hR : Rl g mu) (hE : EM dA b mu en) : Met l yX4_lose wsX4_lose ({ frames := 0, cells := 0, slots := 0, locals := 0 }) (gP D dA z en [.ref (b 0), .int (iZ (ff))]) (va_Qi (fun (r8 : Int32) (u : en_T × Mu) => r8 = iZ (aLose g ff) ∧ EM dA b u.2 u.1 ∧ FM en u.1 ∧ Rl (sLose g ff) u.2) (fun u t9 => Wd D (z 0) u.1 t9.heap) (fun q => z 0 ≤ q)) (0) (0) (fun q => z 0 ≤ q) := by
  refine gMet (own := RX4) (cc := cX4_lose) (maxL := 3) (ret := (some .boolean)) (by decide) rfl rfl (Nat.le_of_ble_eq_true rfl) ?_
  intro p e s m below meth c hx hb hml hown hts hr hlocks hnm hg hW ls hl
  have hK := hg.1
  have hS : va_S (fun q => z 0 ≤ q) s.heap s.heap [] := va_S.rf
  have hi6 : ∀ w ∈ u_ws RX4 TX4 43, w ∈ wsX4_lose := by decide +kernel
  have hl : lv_has ls 3 [(0, .ref (b 0)), (1, .int (iZ (ff)))] := hl
  have hx0 := hI.1
  unfold IX at hx0
  have hL0 := hI.2.1
  unfold IL at hL0
  have fM : en 20 0 = some (b 0, .inr (6, [.int (iZ (mu 0 0)), .int (iZ (mu 1 0)), .long (lZ (mu 2 0)), .int (iZ (mu 3 0)), .ref (b 4), .ref (b 5), .ref (b 6), .ref (b 7), .ref (b 8), .ref (b 9), .ref (b 10), .ref (b 11), .ref (b 12), .ref (b 13), .ref (b 14), .ref (b 15), .ref (b 16), .ref (b 17), .ref (b 18), .ref (b 19), .ref (b 20), .ref (b 21), .ref (b 22), .ref (b 23), .ref (b 24), .ref (b 25), .int (iZ (mu 26 0)), .ref (b 27), .ref (b 28), .ref (b 29), .ref (b 30), .ref (b 31), .ref (b 32), .ref (b 33), .ref (b 34), .int (iZ (mu 35 0)), .int (iZ (mu 36 0)), .int (iZ (mu 37 0)), .int (iZ (mu 38 0)), .int (iZ (mu 39 0)), .int (iZ (mu 40 0)), .ref (b 41), .ref (b 42)])) := hE.1
  have f33_ : en 53 0 = some (b 33, aZ dA (6001) (mu 33)) := hE.2 33 (by decide)
  refine lv_aload_n hx hb dX4_lose_0 rfl (lv_at hl 0 rfl) ?_
  refine z_iconst hx hb dX4_lose_1 ?_
  refine g_put (C := RX4) (T := TX4) (N := 43) (ci := 6) (ty := .int) (v := .int (iZ (0))) (fs' := [.int (iZ (0)), .int (iZ (mu 1 0)), .long (lZ (mu 2 0)), .int (iZ (mu 3 0)), .ref (b 4), .ref (b 5), .ref (b 6), .ref (b 7), .ref (b 8), .ref (b 9), .ref (b 10), .ref (b 11), .ref (b 12), .ref (b 13), .ref (b 14), .ref (b 15), .ref (b 16), .ref (b 17), .ref (b 18), .ref (b 19), .ref (b 20), .ref (b 21), .ref (b 22), .ref (b 23), .ref (b 24), .ref (b 25), .int (iZ (mu 26 0)), .ref (b 27), .ref (b 28), .ref (b 29), .ref (b 30), .ref (b 31), .ref (b 32), .ref (b 33), .ref (b 34), .int (iZ (mu 35 0)), .int (iZ (mu 36 0)), .int (iZ (mu 37 0)), .int (iZ (mu 38 0)), .int (iZ (mu 39 0)), .int (iZ (mu 40 0)), .ref (b 41), .ref (b 42)]) hx hb hts hi6 tyX4 tyX4_ok nmX4 hown hK hW hS fM rfl 0 (by decide) (hts (.fieldLink RX4 120 "LongTransferModel" "code" "I") (by decide +kernel)) (fun _ h9 => h9) rfl (by decide +kernel) rfl rfl (Nat.le_of_ble_eq_true rfl) dX4_lose_2 rfl (fun H locs hW hS => ?_)
  obtain ⟨en1w, hen1w⟩ : ∃ x : en_T, x = e2 en 20 0 (some (b 0, .inr (6, [.int (iZ (0)), .int (iZ (mu 1 0)), .long (lZ (mu 2 0)), .int (iZ (mu 3 0)), .ref (b 4), .ref (b 5), .ref (b 6), .ref (b 7), .ref (b 8), .ref (b 9), .ref (b 10), .ref (b 11), .ref (b 12), .ref (b 13), .ref (b 14), .ref (b 15), .ref (b 16), .ref (b 17), .ref (b 18), .ref (b 19), .ref (b 20), .ref (b 21), .ref (b 22), .ref (b 23), .ref (b 24), .ref (b 25), .int (iZ (mu 26 0)), .ref (b 27), .ref (b 28), .ref (b 29), .ref (b 30), .ref (b 31), .ref (b 32), .ref (b 33), .ref (b 34), .int (iZ (mu 35 0)), .int (iZ (mu 36 0)), .int (iZ (mu 37 0)), .int (iZ (mu 38 0)), .int (iZ (mu 39 0)), .int (iZ (mu 40 0)), .ref (b 41), .ref (b 42)]))) := ⟨_, rfl⟩
  rw [← hen1w] at hW
  obtain ⟨mu1w, hmu1w⟩ : ∃ x : Mu, x = u2 mu 0 (0) (0) := ⟨_, rfl⟩
  have hE1w : EM dA b mu1w en1w := by rw [hen1w, hmu1w]; exact em_f hE (k0 := 0) (v := 0) (by decide)
  have hF1w : FM en en1w := fun k i q => by rw [hen1w]; exact e2_k (fun w => q (by rw [w]; decide))
  have fM : en1w 20 0 = some (b 0, .inr (6, [.int (iZ (mu1w 0 0)), .int (iZ (mu1w 1 0)), .long (lZ (mu1w 2 0)), .int (iZ (mu1w 3 0)), .ref (b 4), .ref (b 5), .ref (b 6), .ref (b 7), .ref (b 8), .ref (b 9), .ref (b 10), .ref (b 11), .ref (b 12), .ref (b 13), .ref (b 14), .ref (b 15), .ref (b 16), .ref (b 17), .ref (b 18), .ref (b 19), .ref (b 20), .ref (b 21), .ref (b 22), .ref (b 23), .ref (b 24), .ref (b 25), .int (iZ (mu1w 26 0)), .ref (b 27), .ref (b 28), .ref (b 29), .ref (b 30), .ref (b 31), .ref (b 32), .ref (b 33), .ref (b 34), .int (iZ (mu1w 35 0)), .int (iZ (mu1w 36 0)), .int (iZ (mu1w 37 0)), .int (iZ (mu1w 38 0)), .int (iZ (mu1w 39 0)), .int (iZ (mu1w 40 0)), .ref (b 41), .ref (b 42)])) := hE1w.1
  have f33_ : en1w 53 0 = some (b 33, aZ dA (6001) (mu1w 33)) := hE1w.2 33 (by decide)
  have hR1 : Rl g mu1w := rl_m hI hR (fun t j q => by rw [hmu1w]; exact u2_n (by omega))
  have rX0 := hR1.1
  unfold RX at rX0
  refine lv_iload_n hx hb dX4_lose_5 rfl (lv_at hl 1 rfl) ?_
  refine z_iconst hx hb dX4_lose_6 ?_
  refine z_icmp_lt (tgt := 31) hx hb dX4_lose_7 (by decide) (by omega) (by omega) (fun c_7 => ?_) (fun c_7 => ?_)
  · refine z_iconst hx hb dX4_lose_31 ?_
    refine lv_istore_n (lv' := [(2, .int (iZ (0))), (0, .ref (b 0)), (1, .int (iZ (ff)))]) hx hb dX4_lose_32 rfl hl (by decide) rfl (fun ls hl => ?_)
    refine lv_iload_n hx hb dX4_lose_33 rfl (lv_at hl 0 rfl) ?_
    refine z_if_eq (tgt := 44) hx hb dX4_lose_34 (by decide) (by omega) (fun _ => ?_) (fun c_q => absurd c_q (by omega))
    refine lv_iload_n hx hb dX4_lose_44 rfl (lv_at hl 0 rfl) ?_
    have hpst : Rl (sLose g ff) mu1w := by unfold sLose; rw [if_neg (by omega)]; exact hR1
    exact W.zret hx hb hr (by first | decide | (rcases hzr with h | h <;> rw [h] <;> decide)) (fun t ht hw => ⟨⟨_, (en1w, mu1w), rfl, ⟨congrArg iZ (by unfold aLose; rw [if_neg (by omega)]), hE1w, hF1w, hpst⟩, by show Wd _ _ _ t.heap; rw [ht]; exact hW⟩, hS.F ht⟩) hS.2.2 dX4_lose_45
  · refine lv_iload_n hx hb dX4_lose_10 rfl (lv_at hl 1 rfl) ?_
    refine lv_aload_n hx hb dX4_lose_11 rfl (lv_at hl 0 rfl) ?_
    refine g_get (C := RX4) (T := TX4) (N := 43) (ci := 6) (v := .int (iZ (mu1w 26 0))) hx hb hts hi6 hown hK hW fM rfl 26 (by decide) (hts (.fieldLink RX4 134 "LongTransferModel" "frames" "I") (by decide +kernel)) (fun _ h9 => h9) rfl dX4_lose_12 ?_
    refine z_icmp_gt (tgt := 31) hx hb dX4_lose_15 (by decide) (by omega) (by omega) (fun c_15 => ?_) (fun c_15 => ?_)
    · refine z_iconst hx hb dX4_lose_31 ?_
      refine lv_istore_n (lv' := [(2, .int (iZ (0))), (0, .ref (b 0)), (1, .int (iZ (ff)))]) hx hb dX4_lose_32 rfl hl (by decide) rfl (fun ls hl => ?_)
      refine lv_iload_n hx hb dX4_lose_33 rfl (lv_at hl 0 rfl) ?_
      refine z_if_eq (tgt := 44) hx hb dX4_lose_34 (by decide) (by omega) (fun _ => ?_) (fun c_q => absurd c_q (by omega))
      refine lv_iload_n hx hb dX4_lose_44 rfl (lv_at hl 0 rfl) ?_
      have hpst : Rl (sLose g ff) mu1w := by unfold sLose; rw [if_neg (by omega)]; exact hR1
      exact W.zret hx hb hr (by first | decide | (rcases hzr with h | h <;> rw [h] <;> decide)) (fun t ht hw => ⟨⟨_, (en1w, mu1w), rfl, ⟨congrArg iZ (by unfold aLose; rw [if_neg (by omega)]), hE1w, hF1w, hpst⟩, by show Wd _ _ _ t.heap; rw [ht]; exact hW⟩, hS.F ht⟩) hS.2.2 dX4_lose_45
    · have hq33 := ow_f hI hR1 (f := ff) (by omega) (by omega)
      refine lv_aload_n hx hb dX4_lose_18 rfl (lv_at hl 0 rfl) ?_
      refine g_get (C := RX4) (T := TX4) (N := 43) (ci := 6) (v := .ref (b 33)) hx hb hts hi6 hown hK hW fM rfl 33 (by decide) (hts (.fieldLink RX4 99 "LongTransferModel" "over" "[Z") (by decide +kernel)) (fun _ h9 => h9) rfl dX4_lose_19 ?_
      refine lv_iload_n hx hb dX4_lose_22 rfl (lv_at hl 1 rfl) ?_
      refine g_zald hx hb hK hW f33_ (by omega) (by omega) (by omega) dX4_lose_23 ?_
      refine z_if_ne (tgt := 31) hx hb dX4_lose_24 (by decide) (by omega) (fun c_24 => ?_) (fun c_24 => ?_)
      · refine z_iconst hx hb dX4_lose_31 ?_
        refine lv_istore_n (lv' := [(2, .int (iZ (0))), (0, .ref (b 0)), (1, .int (iZ (ff)))]) hx hb dX4_lose_32 rfl hl (by decide) rfl (fun ls hl => ?_)
        refine lv_iload_n hx hb dX4_lose_33 rfl (lv_at hl 0 rfl) ?_
        refine z_if_eq (tgt := 44) hx hb dX4_lose_34 (by decide) (by omega) (fun _ => ?_) (fun c_q => absurd c_q (by omega))
        refine lv_iload_n hx hb dX4_lose_44 rfl (lv_at hl 0 rfl) ?_
        have hpst : Rl (sLose g ff) mu1w := by unfold sLose; rw [if_neg (by omega)]; exact hR1
        exact W.zret hx hb hr (by first | decide | (rcases hzr with h | h <;> rw [h] <;> decide)) (fun t ht hw => ⟨⟨_, (en1w, mu1w), rfl, ⟨congrArg iZ (by unfold aLose; rw [if_neg (by omega)]), hE1w, hF1w, hpst⟩, by show Wd _ _ _ t.heap; rw [ht]; exact hW⟩, hS.F ht⟩) hS.2.2 dX4_lose_45
      · refine z_iconst hx hb dX4_lose_27 ?_
        refine lv_goto (tgt := 32) hx hb dX4_lose_28 (by decide) ?_
        refine lv_istore_n (lv' := [(2, .int (iZ (1))), (0, .ref (b 0)), (1, .int (iZ (ff)))]) hx hb dX4_lose_32 rfl hl (by decide) rfl (fun ls hl => ?_)
        refine lv_iload_n hx hb dX4_lose_33 rfl (lv_at hl 0 rfl) ?_
        refine z_if_eq (tgt := 44) hx hb dX4_lose_34 (by decide) (by omega) (fun c_q => absurd c_q (by omega)) (fun _ => ?_)
        refine lv_aload_n hx hb dX4_lose_37 rfl (lv_at hl 1 rfl) ?_
        refine g_get (C := RX4) (T := TX4) (N := 43) (ci := 6) (v := .ref (b 33)) hx hb hts hi6 hown hK hW fM rfl 33 (by decide) (hts (.fieldLink RX4 99 "LongTransferModel" "over" "[Z") (by decide +kernel)) (fun _ h9 => h9) rfl dX4_lose_38 ?_
        refine lv_iload_n hx hb dX4_lose_41 rfl (lv_at hl 2 rfl) ?_
        refine z_iconst hx hb dX4_lose_42 ?_
        refine g_zast (x := 1) hx hb hK hW hS f33_ (by omega) (by omega) (by omega) (by decide) dX4_lose_43 (fun H locs hW hS => ?_)
        obtain ⟨en2w, hen2w⟩ : ∃ x : en_T, x = e2 en1w 53 0 (some (b 33, aZ dA (6001) (uF (mu1w 33) (ff) (1)))) := ⟨_, rfl⟩
        rw [← hen2w] at hW
        obtain ⟨mu2w, hmu2w⟩ : ∃ x : Mu, x = u2 mu1w 33 (ff) (1) := ⟨_, rfl⟩
        have hE2w : EM dA b mu2w en2w := by rw [hen2w, hmu2w]; exact em_w hE1w (k0 := 33) (j := ff) (v := 1) (by decide)
        have hF2w : FM en1w en2w := fun k i q => by rw [hen2w]; exact e2_k (fun w => q (by rw [w]; decide))
        have hF2w := FM.tr hF1w hF2w
        have fM : en2w 20 0 = some (b 0, .inr (6, [.int (iZ (mu2w 0 0)), .int (iZ (mu2w 1 0)), .long (lZ (mu2w 2 0)), .int (iZ (mu2w 3 0)), .ref (b 4), .ref (b 5), .ref (b 6), .ref (b 7), .ref (b 8), .ref (b 9), .ref (b 10), .ref (b 11), .ref (b 12), .ref (b 13), .ref (b 14), .ref (b 15), .ref (b 16), .ref (b 17), .ref (b 18), .ref (b 19), .ref (b 20), .ref (b 21), .ref (b 22), .ref (b 23), .ref (b 24), .ref (b 25), .int (iZ (mu2w 26 0)), .ref (b 27), .ref (b 28), .ref (b 29), .ref (b 30), .ref (b 31), .ref (b 32), .ref (b 33), .ref (b 34), .int (iZ (mu2w 35 0)), .int (iZ (mu2w 36 0)), .int (iZ (mu2w 37 0)), .int (iZ (mu2w 38 0)), .int (iZ (mu2w 39 0)), .int (iZ (mu2w 40 0)), .ref (b 41), .ref (b 42)])) := hE2w.1
        have f33_ : en2w 53 0 = some (b 33, aZ dA (6001) (mu2w 33)) := hE2w.2 33 (by decide)
        refine lv_iload_n hx hb dX4_lose_44 rfl (lv_at hl 0 rfl) ?_
        have hpst : Rl (sLose g ff) mu2w := by unfold sLose; rw [if_pos (by omega)]; exact rl_ow hI hR1 (by omega) (by omega) (fun t j q => by rw [hmu2w]; exact u2_n (by omega)) (by rw [hmu2w]; exact u2_s _ _ _ _)
        exact W.zret hx hb hr (by first | decide | (rcases hzr with h | h <;> rw [h] <;> decide)) (fun t ht hw => ⟨⟨_, (en2w, mu2w), rfl, ⟨congrArg iZ (by unfold aLose; rw [if_pos (by omega)]), hE2w, hF2w, hpst⟩, by show Wd _ _ _ t.heap; rw [ht]; exact hW⟩, hS.F ht⟩) hS.2.2 dX4_lose_45
set_option maxHeartbeats 4000000 in
set_option maxRecDepth 100000 in
theorem c_X4_receive (l : Launch) (D : va_G) (dA : Nat → ClassId) (z : Nat → Nat) (en : en_T) (b : Nat → Nat) (mu : Mu) (g : St) (ff : Int) (hff : iB ff) (hj : JB g) (hk : KB g) (hI : IB g) (hR : Rl g mu) (hE : EM dA b mu en) : Met l yX4_receive wsX4_receive ({ frames := 4, cells := 0, slots := 0, locals := 120 }) (gP D dA z en [.ref (b 0), .int (iZ (ff))]) (va_Qi (fun (r8 : Int32) (u : en_T × Mu) => r8 = iZ (aRecv g ff) ∧ EM dA b u.2 u.1 ∧ FM en u.1 ∧ Rl (sRecv g ff) u.2) (fun u t9 => Wd D (z 0) u.1 t9.heap) (fun q => z 0 ≤ q)) (0) (0) (fun q => z 0 ≤ q) := by
  refine gMet (own := RX4) (cc := cX4_receive) (maxL := 2) (ret := (some .int)) (by decide) rfl rfl (Nat.le_of_ble_eq_true rfl) ?_
  intro p e s m below meth c hx hb hml hown hts hr hlocks hnm hg hW ls hl
  have hK := hg.1
  have hS : va_S (fun q => z 0 ≤ q) s.heap s.heap [] := va_S.rf
  have hi6 : ∀ w ∈ u_ws RX4 TX4 43, w ∈ wsX4_receive := by decide +kernel
  have hl : lv_has ls 2 [(0, .ref (b 0)), (1, .int (iZ (ff)))] := hl
  have hx0 := hI.1
  unfold IX at hx0
  have hL0 := hI.2.1
  unfold IL at hL0
  have fM : en 20 0 = some (b 0, .inr (6, [.int (iZ (mu 0 0)), .int (iZ (mu 1 0)), .long (lZ (mu 2 0)), .int (iZ (mu 3 0)), .ref (b 4), .ref (b 5), .ref (b 6), .ref (b 7), .ref (b 8), .ref (b 9), .ref (b 10), .ref (b 11), .ref (b 12), .ref (b 13), .ref (b 14), .ref (b 15), .ref (b 16), .ref (b 17), .ref (b 18), .ref (b 19), .ref (b 20), .ref (b 21), .ref (b 22), .ref (b 23), .ref (b 24), .ref (b 25), .int (iZ (mu 26 0)), .ref (b 27), .ref (b 28), .ref (b 29), .ref (b 30), .ref (b 31), .ref (b 32), .ref (b 33), .ref (b 34), .int (iZ (mu 35 0)), .int (iZ (mu 36 0)), .int (iZ (mu 37 0)), .int (iZ (mu 38 0)), .int (iZ (mu 39 0)), .int (iZ (mu 40 0)), .ref (b 41), .ref (b 42)])) := hE.1
  have f27_ : en 47 0 = some (b 27, aI dA (6001) (mu 27)) := hE.2 27 (by decide)
  have f33_ : en 53 0 = some (b 33, aZ dA (6001) (mu 33)) := hE.2 33 (by decide)
  refine lv_aload_n hx hb dX4_receive_0 rfl (lv_at hl 0 rfl) ?_
  refine z_iconst hx hb dX4_receive_1 ?_
  refine g_put (C := RX4) (T := TX4) (N := 43) (ci := 6) (ty := .int) (v := .int (iZ (0))) (fs' := [.int (iZ (0)), .int (iZ (mu 1 0)), .long (lZ (mu 2 0)), .int (iZ (mu 3 0)), .ref (b 4), .ref (b 5), .ref (b 6), .ref (b 7), .ref (b 8), .ref (b 9), .ref (b 10), .ref (b 11), .ref (b 12), .ref (b 13), .ref (b 14), .ref (b 15), .ref (b 16), .ref (b 17), .ref (b 18), .ref (b 19), .ref (b 20), .ref (b 21), .ref (b 22), .ref (b 23), .ref (b 24), .ref (b 25), .int (iZ (mu 26 0)), .ref (b 27), .ref (b 28), .ref (b 29), .ref (b 30), .ref (b 31), .ref (b 32), .ref (b 33), .ref (b 34), .int (iZ (mu 35 0)), .int (iZ (mu 36 0)), .int (iZ (mu 37 0)), .int (iZ (mu 38 0)), .int (iZ (mu 39 0)), .int (iZ (mu 40 0)), .ref (b 41), .ref (b 42)]) hx hb hts hi6 tyX4 tyX4_ok nmX4 hown hK hW hS fM rfl 0 (by decide) (hts (.fieldLink RX4 120 "LongTransferModel" "code" "I") (by decide +kernel)) (fun _ h9 => h9) rfl (by decide +kernel) rfl rfl (Nat.le_of_ble_eq_true rfl) dX4_receive_2 rfl (fun H locs hW hS => ?_)
  obtain ⟨en1w, hen1w⟩ : ∃ x : en_T, x = e2 en 20 0 (some (b 0, .inr (6, [.int (iZ (0)), .int (iZ (mu 1 0)), .long (lZ (mu 2 0)), .int (iZ (mu 3 0)), .ref (b 4), .ref (b 5), .ref (b 6), .ref (b 7), .ref (b 8), .ref (b 9), .ref (b 10), .ref (b 11), .ref (b 12), .ref (b 13), .ref (b 14), .ref (b 15), .ref (b 16), .ref (b 17), .ref (b 18), .ref (b 19), .ref (b 20), .ref (b 21), .ref (b 22), .ref (b 23), .ref (b 24), .ref (b 25), .int (iZ (mu 26 0)), .ref (b 27), .ref (b 28), .ref (b 29), .ref (b 30), .ref (b 31), .ref (b 32), .ref (b 33), .ref (b 34), .int (iZ (mu 35 0)), .int (iZ (mu 36 0)), .int (iZ (mu 37 0)), .int (iZ (mu 38 0)), .int (iZ (mu 39 0)), .int (iZ (mu 40 0)), .ref (b 41), .ref (b 42)]))) := ⟨_, rfl⟩
  rw [← hen1w] at hW
  obtain ⟨mu1w, hmu1w⟩ : ∃ x : Mu, x = u2 mu 0 (0) (0) := ⟨_, rfl⟩
  have hE1w : EM dA b mu1w en1w := by rw [hen1w, hmu1w]; exact em_f hE (k0 := 0) (v := 0) (by decide)
  have hF1w : FM en en1w := fun k i q => by rw [hen1w]; exact e2_k (fun w => q (by rw [w]; decide))
  have fM : en1w 20 0 = some (b 0, .inr (6, [.int (iZ (mu1w 0 0)), .int (iZ (mu1w 1 0)), .long (lZ (mu1w 2 0)), .int (iZ (mu1w 3 0)), .ref (b 4), .ref (b 5), .ref (b 6), .ref (b 7), .ref (b 8), .ref (b 9), .ref (b 10), .ref (b 11), .ref (b 12), .ref (b 13), .ref (b 14), .ref (b 15), .ref (b 16), .ref (b 17), .ref (b 18), .ref (b 19), .ref (b 20), .ref (b 21), .ref (b 22), .ref (b 23), .ref (b 24), .ref (b 25), .int (iZ (mu1w 26 0)), .ref (b 27), .ref (b 28), .ref (b 29), .ref (b 30), .ref (b 31), .ref (b 32), .ref (b 33), .ref (b 34), .int (iZ (mu1w 35 0)), .int (iZ (mu1w 36 0)), .int (iZ (mu1w 37 0)), .int (iZ (mu1w 38 0)), .int (iZ (mu1w 39 0)), .int (iZ (mu1w 40 0)), .ref (b 41), .ref (b 42)])) := hE1w.1
  have f27_ : en1w 47 0 = some (b 27, aI dA (6001) (mu1w 27)) := hE1w.2 27 (by decide)
  have f33_ : en1w 53 0 = some (b 33, aZ dA (6001) (mu1w 33)) := hE1w.2 33 (by decide)
  have hR1 : Rl g mu1w := rl_m hI hR (fun t j q => by rw [hmu1w]; exact u2_n (by omega))
  have rX0 := hR1.1
  unfold RX at rX0
  refine lv_iload_n hx hb dX4_receive_5 rfl (lv_at hl 1 rfl) ?_
  refine z_iconst hx hb dX4_receive_6 ?_
  refine z_icmp_lt (tgt := 18) hx hb dX4_receive_7 (by decide) (by omega) (by omega) (fun c_7 => ?_) (fun c_7 => ?_)
  · refine z_iconst hx hb dX4_receive_18 ?_
    have hpst : Rl (sRecv g ff) mu1w := by unfold sRecv; rw [if_neg (by omega)]; exact hR1
    exact W.iret hx hb hr (fun t ht hw => ⟨⟨_, (en1w, mu1w), rfl, ⟨congrArg iZ (by unfold aRecv; rw [if_neg (by omega)]), hE1w, hF1w, hpst⟩, by show Wd _ _ _ t.heap; rw [ht]; exact hW⟩, hS.F ht⟩) hS.2.2 dX4_receive_19
  · refine lv_iload_n hx hb dX4_receive_10 rfl (lv_at hl 1 rfl) ?_
    refine lv_aload_n hx hb dX4_receive_11 rfl (lv_at hl 0 rfl) ?_
    refine g_get (C := RX4) (T := TX4) (N := 43) (ci := 6) (v := .int (iZ (mu1w 26 0))) hx hb hts hi6 hown hK hW fM rfl 26 (by decide) (hts (.fieldLink RX4 134 "LongTransferModel" "frames" "I") (by decide +kernel)) (fun _ h9 => h9) rfl dX4_receive_12 ?_
    refine z_icmp_le (tgt := 20) hx hb dX4_receive_15 (by decide) (by omega) (by omega) (fun c_15 => ?_) (fun c_15 => ?_)
    · have hq33 := ow_f hI hR1 (f := ff) (by omega) (by omega)
      have hff2 : 1 ≤ ff ∧ ff ≤ g 1 1 0 := by omega
      refine lv_aload_n hx hb dX4_receive_20 rfl (lv_at hl 0 rfl) ?_
      refine g_get (C := RX4) (T := TX4) (N := 43) (ci := 6) (v := .ref (b 33)) hx hb hts hi6 hown hK hW fM rfl 33 (by decide) (hts (.fieldLink RX4 99 "LongTransferModel" "over" "[Z") (by decide +kernel)) (fun _ h9 => h9) rfl dX4_receive_21 ?_
      refine lv_iload_n hx hb dX4_receive_24 rfl (lv_at hl 1 rfl) ?_
      refine g_zald hx hb hK hW f33_ (by omega) (by omega) (by omega) dX4_receive_25 ?_
      refine z_if_eq (tgt := 32) hx hb dX4_receive_26 (by decide) (by omega) (fun c_26 => ?_) (fun c_26 => ?_)
      · refine lv_aload_n hx hb dX4_receive_32 rfl (lv_at hl 0 rfl) ?_
        refine g_get (C := RX4) (T := TX4) (N := 43) (ci := 6) (v := .ref (b 33)) hx hb hts hi6 hown hK hW fM rfl 33 (by decide) (hts (.fieldLink RX4 99 "LongTransferModel" "over" "[Z") (by decide +kernel)) (fun _ h9 => h9) rfl dX4_receive_33 ?_
        refine lv_iload_n hx hb dX4_receive_36 rfl (lv_at hl 1 rfl) ?_
        refine z_iconst hx hb dX4_receive_37 ?_
        refine g_zast (x := 1) hx hb hK hW hS f33_ (by omega) (by omega) (by omega) (by decide) dX4_receive_38 (fun H locs hW hS => ?_)
        obtain ⟨en2w, hen2w⟩ : ∃ x : en_T, x = e2 en1w 53 0 (some (b 33, aZ dA (6001) (uF (mu1w 33) (ff) (1)))) := ⟨_, rfl⟩
        rw [← hen2w] at hW
        obtain ⟨mu2w, hmu2w⟩ : ∃ x : Mu, x = u2 mu1w 33 (ff) (1) := ⟨_, rfl⟩
        have hE2w : EM dA b mu2w en2w := by rw [hen2w, hmu2w]; exact em_w hE1w (k0 := 33) (j := ff) (v := 1) (by decide)
        have hF2w : FM en1w en2w := fun k i q => by rw [hen2w]; exact e2_k (fun w => q (by rw [w]; decide))
        have hF2w := FM.tr hF1w hF2w
        have fM : en2w 20 0 = some (b 0, .inr (6, [.int (iZ (mu2w 0 0)), .int (iZ (mu2w 1 0)), .long (lZ (mu2w 2 0)), .int (iZ (mu2w 3 0)), .ref (b 4), .ref (b 5), .ref (b 6), .ref (b 7), .ref (b 8), .ref (b 9), .ref (b 10), .ref (b 11), .ref (b 12), .ref (b 13), .ref (b 14), .ref (b 15), .ref (b 16), .ref (b 17), .ref (b 18), .ref (b 19), .ref (b 20), .ref (b 21), .ref (b 22), .ref (b 23), .ref (b 24), .ref (b 25), .int (iZ (mu2w 26 0)), .ref (b 27), .ref (b 28), .ref (b 29), .ref (b 30), .ref (b 31), .ref (b 32), .ref (b 33), .ref (b 34), .int (iZ (mu2w 35 0)), .int (iZ (mu2w 36 0)), .int (iZ (mu2w 37 0)), .int (iZ (mu2w 38 0)), .int (iZ (mu2w 39 0)), .int (iZ (mu2w 40 0)), .ref (b 41), .ref (b 42)])) := hE2w.1
        have f27_ : en2w 47 0 = some (b 27, aI dA (6001) (mu2w 27)) := hE2w.2 27 (by decide)
        have f33_ : en2w 53 0 = some (b 33, aZ dA (6001) (mu2w 33)) := hE2w.2 33 (by decide)
        have h27 : g 27 ff 0 = 1 := by omega
        obtain ⟨G, hGd⟩ : ∃ x : St, x = wr g 27 ff 0 := ⟨_, rfl⟩
        have eG : ∀ (t : Nat) (i j : Int), ¬ (t = 27 ∧ i = ff) → G t i j = g t i j := fun t i j q => by rw [hGd]; exact wr_n (by omega)
        have hRG : Rl G mu2w := by rw [hGd]; exact rl_ow hI hR1 hff2.1 hff2.2 (fun t j q => by rw [hmu2w]; exact u2_n (by omega)) (by rw [hmu2w]; exact u2_s _ _ _ _)
        have hIG9 : IB G := by rw [hGd]; exact ib_ow hI hff2.1 hff2.2
        have hjG : JB G := by rw [hGd]; exact jb_o hj (fun t i q => wr_n (by omega))
        have e11 := eG 1 1 0 (by omega)
        have e20 := eG 20 ff 0 (by omega)
        have e21 := eG 21 ff 0 (by omega)
        have e22 := eG 22 ff 0 (by omega)
        have e26 := eG 26 ff 0 (by omega)
        have hq27 : mu2w 27 ff = g 20 ff 0 := by rw [← e20]; exact (hRG.2.2.2.2.2.1.1 ff hff2.1 (by omega)).1.1
        have hIFf := hI.2.2.2.1 ff hff2.1 hff2.2
        unfold IF at hIFf
        obtain ⟨f20, -⟩ := hIFf
        have hsr : sRecv g ff = if g 20 ff 0 = 3 then sRcS G ff else sRR G ff := by unfold sRecv; rw [if_pos hff2, if_neg (by omega), ← hGd]
        have har : aRecv g ff = if g 20 ff 0 = 3 then sRcS G ff 12 (g 21 ff 0) 0 else aRR G ff := by unfold aRecv; rw [if_pos hff2, if_neg (by omega), ← hGd]
        refine lv_aload_n hx hb dX4_receive_39 rfl (lv_at hl 0 rfl) ?_
        refine g_get (C := RX4) (T := TX4) (N := 43) (ci := 6) (v := .ref (b 27)) hx hb hts hi6 hown hK hW fM rfl 27 (by decide) (hts (.fieldLink RX4 81 "LongTransferModel" "kind" "[I") (by decide +kernel)) (fun _ h9 => h9) rfl dX4_receive_40 ?_
        refine lv_iload_n hx hb dX4_receive_43 rfl (lv_at hl 1 rfl) ?_
        refine g_iald hx hb hK hW f27_ (by omega) (by omega) (by omega) dX4_receive_44 ?_
        refine z_iconst hx hb dX4_receive_45 ?_
        refine z_icmp_ne (tgt := 57) hx hb dX4_receive_46 (by decide) (by omega) (by omega) (fun c_46 => ?_) (fun c_46 => ?_)
        · refine lv_aload_n hx hb dX4_receive_57 rfl (lv_at hl 0 rfl) ?_
          refine lv_iload_n hx hb dX4_receive_58 rfl (lv_at hl 1 rfl) ?_
          have hcs9 : G 20 ff 0 = 2 → G 30 (G 21 ff 0 % 4) 0 = 1 → G 31 (G 21 ff 0 % 4) 0 = G 21 ff 0 → G 33 (G 21 ff 0 % 4) 0 + G 26 ff 0 ≤ G 32 (G 21 ff 0 % 4) 0 := by
            rw [e20, e21, e26, eG 30 _ _ (by omega), eG 31 _ _ (by omega), eG 32 _ _ (by omega), eG 33 _ _ (by omega)]
            exact kb_hcs hI hk hff2.1 hff2.2 h27
          have hfs9 : G 20 ff 0 = 1 → 1 ≤ G 22 ff 0 ∧ G 26 ff 0 ≤ G 22 ff 0 := by
            rw [e20, e22, e26]
            exact kb_hfs hI hk hff2.1 hff2.2
          refine va_calli (va_runV (As := [.int (iZ (ff))]) (rest := []) ⟨hx, hb, hml, hown, hts⟩ (c_X4_take l D dA z en2w b mu2w G ff hff2.1 (by omega) (by omega) hcs9 hfs9 hIG9 hjG hRG hE2w) (cwV 1 hts gX4_receive_X4_take rfl rfl rfl (by decide +kernel) ⟨Nat.le_of_ble_eq_true rfl, Nat.le_of_ble_eq_true rfl⟩) ⟨gBl, gRecv hK hW (ci := 6) rfl fM, gPre _ hg hS hW⟩ rfl rfl hl.1 rfl (lv_room (Nat.le_of_ble_eq_true rfl)) dX4_receive_59 ⟨(show 0 + 0 ≤ 0 by omega), (show 0 + 0 ≤ 0 by omega)⟩) hS (fun _ _ h => h) (fun _ h => h) (fun r9 u9 t9 H locs ht9 hvm9 hw9 hB9 hz9 hk9 hS => ?_)
          obtain ⟨en3w, mu3w⟩ := u9
          obtain ⟨hr9, hE3w, hF3w, hmu3w⟩ := hw9
          have hW : Wd D (z 0) en3w H := by rw [← ht9]; exact hB9
          dsimp only at hE3w hF3w hmu3w
          subst hr9
          have hF3w := FM.tr hF2w hF3w
          have fM : en3w 20 0 = some (b 0, .inr (6, [.int (iZ (mu3w 0 0)), .int (iZ (mu3w 1 0)), .long (lZ (mu3w 2 0)), .int (iZ (mu3w 3 0)), .ref (b 4), .ref (b 5), .ref (b 6), .ref (b 7), .ref (b 8), .ref (b 9), .ref (b 10), .ref (b 11), .ref (b 12), .ref (b 13), .ref (b 14), .ref (b 15), .ref (b 16), .ref (b 17), .ref (b 18), .ref (b 19), .ref (b 20), .ref (b 21), .ref (b 22), .ref (b 23), .ref (b 24), .ref (b 25), .int (iZ (mu3w 26 0)), .ref (b 27), .ref (b 28), .ref (b 29), .ref (b 30), .ref (b 31), .ref (b 32), .ref (b 33), .ref (b 34), .int (iZ (mu3w 35 0)), .int (iZ (mu3w 36 0)), .int (iZ (mu3w 37 0)), .int (iZ (mu3w 38 0)), .int (iZ (mu3w 39 0)), .int (iZ (mu3w 40 0)), .ref (b 41), .ref (b 42)])) := hE3w.1
          have f27_ : en3w 47 0 = some (b 27, aI dA (6001) (mu3w 27)) := hE3w.2 27 (by decide)
          have f33_ : en3w 53 0 = some (b 33, aZ dA (6001) (mu3w 33)) := hE3w.2 33 (by decide)
          have hpst : Rl (sRecv g ff) mu3w := by rw [hsr, if_neg (by omega)]; exact hmu3w
          exact W.iret hx hb hr (fun t ht hw => ⟨⟨_, (en3w, mu3w), rfl, ⟨congrArg iZ (by rw [har, if_neg (by omega)]), hE3w, hF3w, hpst⟩, by show Wd _ _ _ t.heap; rw [ht]; exact hW⟩, hS.F ht⟩) hS.2.2 dX4_receive_62
        · refine lv_aload_n hx hb dX4_receive_49 rfl (lv_at hl 0 rfl) ?_
          refine lv_iload_n hx hb dX4_receive_50 rfl (lv_at hl 1 rfl) ?_
          refine va_calli (va_runV (As := [.int (iZ (ff))]) (rest := []) ⟨hx, hb, hml, hown, hts⟩ (c_X4_takeFlow l D dA z en2w b mu2w G ff hff2.1 (by omega) hIG9 hjG hRG hE2w) (cwV 1 hts gX4_receive_X4_takeFlow rfl rfl rfl (by decide +kernel) ⟨Nat.le_of_ble_eq_true rfl, Nat.le_of_ble_eq_true rfl⟩) ⟨gBl, gRecv hK hW (ci := 6) rfl fM, gPre _ hg hS hW⟩ rfl rfl hl.1 rfl (lv_room (Nat.le_of_ble_eq_true rfl)) dX4_receive_51 ⟨(show 0 + 0 ≤ 0 by omega), (show 0 + 0 ≤ 0 by omega)⟩) hS (fun _ _ h => h) (fun _ h => h) (fun r9 u9 t9 H locs ht9 hvm9 hw9 hB9 hz9 hk9 hS => ?_)
          obtain ⟨en4w, mu4w⟩ := u9
          obtain ⟨hr9, hE4w, hF4w, hmu4w⟩ := hw9
          have hW : Wd D (z 0) en4w H := by rw [← ht9]; exact hB9
          dsimp only at hE4w hF4w hmu4w
          subst hr9
          have hF4w := FM.tr hF2w hF4w
          have fM : en4w 20 0 = some (b 0, .inr (6, [.int (iZ (mu4w 0 0)), .int (iZ (mu4w 1 0)), .long (lZ (mu4w 2 0)), .int (iZ (mu4w 3 0)), .ref (b 4), .ref (b 5), .ref (b 6), .ref (b 7), .ref (b 8), .ref (b 9), .ref (b 10), .ref (b 11), .ref (b 12), .ref (b 13), .ref (b 14), .ref (b 15), .ref (b 16), .ref (b 17), .ref (b 18), .ref (b 19), .ref (b 20), .ref (b 21), .ref (b 22), .ref (b 23), .ref (b 24), .ref (b 25), .int (iZ (mu4w 26 0)), .ref (b 27), .ref (b 28), .ref (b 29), .ref (b 30), .ref (b 31), .ref (b 32), .ref (b 33), .ref (b 34), .int (iZ (mu4w 35 0)), .int (iZ (mu4w 36 0)), .int (iZ (mu4w 37 0)), .int (iZ (mu4w 38 0)), .int (iZ (mu4w 39 0)), .int (iZ (mu4w 40 0)), .ref (b 41), .ref (b 42)])) := hE4w.1
          have f27_ : en4w 47 0 = some (b 27, aI dA (6001) (mu4w 27)) := hE4w.2 27 (by decide)
          have f33_ : en4w 53 0 = some (b 33, aZ dA (6001) (mu4w 33)) := hE4w.2 33 (by decide)
          refine lv_goto (tgt := 62) hx hb dX4_receive_54 (by decide) ?_
          have hpst : Rl (sRecv g ff) mu4w := by rw [hsr, if_pos (by omega)]; exact hmu4w
          exact W.iret hx hb hr (fun t ht hw => ⟨⟨_, (en4w, mu4w), rfl, ⟨congrArg iZ (by rw [har, if_pos (by omega), e21]), hE4w, hF4w, hpst⟩, by show Wd _ _ _ t.heap; rw [ht]; exact hW⟩, hS.F ht⟩) hS.2.2 dX4_receive_62
      · refine z_bipush hx hb dX4_receive_29 (by decide) ?_
        have hpst : Rl (sRecv g ff) mu1w := by unfold sRecv; rw [if_pos hff2, if_pos (by omega)]; exact hR1
        exact W.iret hx hb hr (fun t ht hw => ⟨⟨_, (en1w, mu1w), rfl, ⟨congrArg iZ (by unfold aRecv; rw [if_pos hff2, if_pos (by omega)]), hE1w, hF1w, hpst⟩, by show Wd _ _ _ t.heap; rw [ht]; exact hW⟩, hS.F ht⟩) hS.2.2 dX4_receive_31
    · refine z_iconst hx hb dX4_receive_18 ?_
      have hpst : Rl (sRecv g ff) mu1w := by unfold sRecv; rw [if_neg (by omega)]; exact hR1
      exact W.iret hx hb hr (fun t ht hw => ⟨⟨_, (en1w, mu1w), rfl, ⟨congrArg iZ (by unfold aRecv; rw [if_neg (by omega)]), hE1w, hF1w, hpst⟩, by show Wd _ _ _ t.heap; rw [ht]; exact hW⟩, hS.F ht⟩) hS.2.2 dX4_receive_19
set_option maxHeartbeats 4000000 in
set_option maxRecDepth 100000 in
theorem c_X4_got (l : Launch) (D : va_G) (dA : Nat → ClassId) (z : Nat → Nat) (en : en_T) (b : Nat → Nat) (mu : Mu) (g : St) (n : Int) (hn : iB n) (hI : IB g) (hR : Rl g mu) (hE : EM dA b mu en) : Met l yX4_got wsX4_got ({ frames := 0, cells := 0, slots := 0, locals := 0 }) (gP D dA z en [.ref (b 0), .int (iZ (n))]) (va_Qi (fun (r8 : Int32) (u : en_T × Mu) => r8 = iZ (if 0 ≤ n ∧ n < g 1 2 0 then g 40 0 n else 0) ∧ EM dA b u.2 u.1 ∧ FM en u.1 ∧ Rl g u.2 ∧ u.2 0 0 = (if 0 ≤ n ∧ n < g 1 2 0 then 0 else 1)) (fun u t9 => Wd D (z 0) u.1 t9.heap) (fun q => z 0 ≤ q)) (0) (0) (fun q => z 0 ≤ q) := by
  refine gMet (own := RX4) (cc := cX4_got) (maxL := 2) (ret := (some .byte)) (by decide) rfl rfl (Nat.le_of_ble_eq_true rfl) ?_
  intro p e s m below meth c hx hb hml hown hts hr hlocks hnm hg hW ls hl
  have hK := hg.1
  have hS : va_S (fun q => z 0 ≤ q) s.heap s.heap [] := va_S.rf
  have hi6 : ∀ w ∈ u_ws RX4 TX4 43, w ∈ wsX4_got := by decide +kernel
  have hl : lv_has ls 2 [(0, .ref (b 0)), (1, .int (iZ (n)))] := hl
  have hx0 := hI.1
  unfold IX at hx0
  have hL0 := hI.2.1
  unfold IL at hL0
  have hrg := hR.2.2.1.1
  have hIg := hI.2.2.2.2.2.1
  have fM : en 20 0 = some (b 0, .inr (6, [.int (iZ (mu 0 0)), .int (iZ (mu 1 0)), .long (lZ (mu 2 0)), .int (iZ (mu 3 0)), .ref (b 4), .ref (b 5), .ref (b 6), .ref (b 7), .ref (b 8), .ref (b 9), .ref (b 10), .ref (b 11), .ref (b 12), .ref (b 13), .ref (b 14), .ref (b 15), .ref (b 16), .ref (b 17), .ref (b 18), .ref (b 19), .ref (b 20), .ref (b 21), .ref (b 22), .ref (b 23), .ref (b 24), .ref (b 25), .int (iZ (mu 26 0)), .ref (b 27), .ref (b 28), .ref (b 29), .ref (b 30), .ref (b 31), .ref (b 32), .ref (b 33), .ref (b 34), .int (iZ (mu 35 0)), .int (iZ (mu 36 0)), .int (iZ (mu 37 0)), .int (iZ (mu 38 0)), .int (iZ (mu 39 0)), .int (iZ (mu 40 0)), .ref (b 41), .ref (b 42)])) := hE.1
  have f41_ : en 61 0 = some (b 41, aB dA (10000) (mu 41)) := hE.2 41 (by decide)
  have t0_0 : mu 0 (0) = mu 0 (0) := rfl
  have t40_0 : mu 40 (0) = mu 40 (0) := rfl
  refine lv_aload_n hx hb dX4_got_0 rfl (lv_at hl 0 rfl) ?_
  refine lv_iload_n hx hb dX4_got_1 rfl (lv_at hl 1 rfl) ?_
  refine z_if_lt (tgt := 13) hx hb dX4_got_2 (by decide) (by omega) (fun c_2 => ?_) (fun c_2 => ?_)
  · refine z_iconst hx hb dX4_got_13 ?_
    refine lv_goto (tgt := 18) hx hb dX4_got_14 (by decide) ?_
    refine g_put (C := RX4) (T := TX4) (N := 43) (ci := 6) (ty := .int) (v := .int (iZ (1))) (fs' := [.int (iZ (1)), .int (iZ (mu 1 0)), .long (lZ (mu 2 0)), .int (iZ (mu 3 0)), .ref (b 4), .ref (b 5), .ref (b 6), .ref (b 7), .ref (b 8), .ref (b 9), .ref (b 10), .ref (b 11), .ref (b 12), .ref (b 13), .ref (b 14), .ref (b 15), .ref (b 16), .ref (b 17), .ref (b 18), .ref (b 19), .ref (b 20), .ref (b 21), .ref (b 22), .ref (b 23), .ref (b 24), .ref (b 25), .int (iZ (mu 26 0)), .ref (b 27), .ref (b 28), .ref (b 29), .ref (b 30), .ref (b 31), .ref (b 32), .ref (b 33), .ref (b 34), .int (iZ (mu 35 0)), .int (iZ (mu 36 0)), .int (iZ (mu 37 0)), .int (iZ (mu 38 0)), .int (iZ (mu 39 0)), .int (iZ (mu 40 0)), .ref (b 41), .ref (b 42)]) hx hb hts hi6 tyX4 tyX4_ok nmX4 hown hK hW hS fM rfl 0 (by decide) (hts (.fieldLink RX4 120 "LongTransferModel" "code" "I") (by decide +kernel)) (fun _ h9 => h9) rfl (by decide +kernel) rfl rfl (Nat.le_of_ble_eq_true rfl) dX4_got_18 rfl (fun H locs hW hS => ?_)
    obtain ⟨en1w, hen1w⟩ : ∃ x : en_T, x = e2 en 20 0 (some (b 0, .inr (6, [.int (iZ (1)), .int (iZ (mu 1 0)), .long (lZ (mu 2 0)), .int (iZ (mu 3 0)), .ref (b 4), .ref (b 5), .ref (b 6), .ref (b 7), .ref (b 8), .ref (b 9), .ref (b 10), .ref (b 11), .ref (b 12), .ref (b 13), .ref (b 14), .ref (b 15), .ref (b 16), .ref (b 17), .ref (b 18), .ref (b 19), .ref (b 20), .ref (b 21), .ref (b 22), .ref (b 23), .ref (b 24), .ref (b 25), .int (iZ (mu 26 0)), .ref (b 27), .ref (b 28), .ref (b 29), .ref (b 30), .ref (b 31), .ref (b 32), .ref (b 33), .ref (b 34), .int (iZ (mu 35 0)), .int (iZ (mu 36 0)), .int (iZ (mu 37 0)), .int (iZ (mu 38 0)), .int (iZ (mu 39 0)), .int (iZ (mu 40 0)), .ref (b 41), .ref (b 42)]))) := ⟨_, rfl⟩
    rw [← hen1w] at hW
    obtain ⟨mu1w, hmu1w⟩ : ∃ x : Mu, x = u2 mu 0 (0) (1) := ⟨_, rfl⟩
    have hE1w : EM dA b mu1w en1w := by rw [hen1w, hmu1w]; exact em_f hE (k0 := 0) (v := 1) (by decide)
    have hF1w : FM en en1w := fun k i q => by rw [hen1w]; exact e2_k (fun w => q (by rw [w]; decide))
    replace t0_0 : mu1w 0 (0) = 1 := by rw [hmu1w]; exact u2_s _ _ _ _
    replace t40_0 : mu1w 40 (0) = mu 40 (0) := by rw [hmu1w]; exact (u2_n (fun q => absurd q.1 (by decide))).trans t40_0
    have fM : en1w 20 0 = some (b 0, .inr (6, [.int (iZ (mu1w 0 0)), .int (iZ (mu1w 1 0)), .long (lZ (mu1w 2 0)), .int (iZ (mu1w 3 0)), .ref (b 4), .ref (b 5), .ref (b 6), .ref (b 7), .ref (b 8), .ref (b 9), .ref (b 10), .ref (b 11), .ref (b 12), .ref (b 13), .ref (b 14), .ref (b 15), .ref (b 16), .ref (b 17), .ref (b 18), .ref (b 19), .ref (b 20), .ref (b 21), .ref (b 22), .ref (b 23), .ref (b 24), .ref (b 25), .int (iZ (mu1w 26 0)), .ref (b 27), .ref (b 28), .ref (b 29), .ref (b 30), .ref (b 31), .ref (b 32), .ref (b 33), .ref (b 34), .int (iZ (mu1w 35 0)), .int (iZ (mu1w 36 0)), .int (iZ (mu1w 37 0)), .int (iZ (mu1w 38 0)), .int (iZ (mu1w 39 0)), .int (iZ (mu1w 40 0)), .ref (b 41), .ref (b 42)])) := hE1w.1
    have f41_ : en1w 61 0 = some (b 41, aB dA (10000) (mu1w 41)) := hE1w.2 41 (by decide)
    refine lv_aload_n hx hb dX4_got_21 rfl (lv_at hl 0 rfl) ?_
    refine g_get (C := RX4) (T := TX4) (N := 43) (ci := 6) (v := .int (iZ (mu1w 0 0))) hx hb hts hi6 hown hK hW fM rfl 0 (by decide) (hts (.fieldLink RX4 120 "LongTransferModel" "code" "I") (by decide +kernel)) (fun _ h9 => h9) rfl dX4_got_22 ?_
    rw [t0_0]
    refine z_if_le (tgt := 32) hx hb dX4_got_25 (by decide) (by omega) (fun c_q => absurd c_q (by omega)) (fun _ => ?_)
    refine z_iconst hx hb dX4_got_28 ?_
    refine lv_goto (tgt := 38) hx hb dX4_got_29 (by decide) ?_
    have hR1 : Rl g mu1w := rl_m hI hR (fun t j q => by rw [hmu1w]; exact u2_n (by omega))
    have hpst : Rl g mu1w ∧ mu1w 0 0 = (if 0 ≤ n ∧ n < g 1 2 0 then 0 else 1) := ⟨hR1, by rw [if_neg (by omega)]; exact t0_0⟩
    exact W.zret hx hb hr (nz_b (by omega)) (fun t ht hw => ⟨⟨_, (en1w, mu1w), rfl, ⟨congrArg iZ (by rw [if_neg (by omega)]), hE1w, hF1w, hpst⟩, by show Wd _ _ _ t.heap; rw [ht]; exact hW⟩, hS.F ht⟩) hS.2.2 dX4_got_38
  · refine lv_iload_n hx hb dX4_got_5 rfl (lv_at hl 1 rfl) ?_
    refine lv_aload_n hx hb dX4_got_6 rfl (lv_at hl 0 rfl) ?_
    refine g_get (C := RX4) (T := TX4) (N := 43) (ci := 6) (v := .int (iZ (mu 40 0))) hx hb hts hi6 hown hK hW fM rfl 40 (by decide) (hts (.fieldLink RX4 165 "LongTransferModel" "gotten" "I") (by decide +kernel)) (fun _ h9 => h9) rfl dX4_got_7 ?_
    refine z_icmp_lt (tgt := 17) hx hb dX4_got_10 (by decide) (by omega) (by omega) (fun c_10 => ?_) (fun c_10 => ?_)
    · refine z_iconst hx hb dX4_got_17 ?_
      refine g_put (C := RX4) (T := TX4) (N := 43) (ci := 6) (ty := .int) (v := .int (iZ (0))) (fs' := [.int (iZ (0)), .int (iZ (mu 1 0)), .long (lZ (mu 2 0)), .int (iZ (mu 3 0)), .ref (b 4), .ref (b 5), .ref (b 6), .ref (b 7), .ref (b 8), .ref (b 9), .ref (b 10), .ref (b 11), .ref (b 12), .ref (b 13), .ref (b 14), .ref (b 15), .ref (b 16), .ref (b 17), .ref (b 18), .ref (b 19), .ref (b 20), .ref (b 21), .ref (b 22), .ref (b 23), .ref (b 24), .ref (b 25), .int (iZ (mu 26 0)), .ref (b 27), .ref (b 28), .ref (b 29), .ref (b 30), .ref (b 31), .ref (b 32), .ref (b 33), .ref (b 34), .int (iZ (mu 35 0)), .int (iZ (mu 36 0)), .int (iZ (mu 37 0)), .int (iZ (mu 38 0)), .int (iZ (mu 39 0)), .int (iZ (mu 40 0)), .ref (b 41), .ref (b 42)]) hx hb hts hi6 tyX4 tyX4_ok nmX4 hown hK hW hS fM rfl 0 (by decide) (hts (.fieldLink RX4 120 "LongTransferModel" "code" "I") (by decide +kernel)) (fun _ h9 => h9) rfl (by decide +kernel) rfl rfl (Nat.le_of_ble_eq_true rfl) dX4_got_18 rfl (fun H locs hW hS => ?_)
      obtain ⟨en2w, hen2w⟩ : ∃ x : en_T, x = e2 en 20 0 (some (b 0, .inr (6, [.int (iZ (0)), .int (iZ (mu 1 0)), .long (lZ (mu 2 0)), .int (iZ (mu 3 0)), .ref (b 4), .ref (b 5), .ref (b 6), .ref (b 7), .ref (b 8), .ref (b 9), .ref (b 10), .ref (b 11), .ref (b 12), .ref (b 13), .ref (b 14), .ref (b 15), .ref (b 16), .ref (b 17), .ref (b 18), .ref (b 19), .ref (b 20), .ref (b 21), .ref (b 22), .ref (b 23), .ref (b 24), .ref (b 25), .int (iZ (mu 26 0)), .ref (b 27), .ref (b 28), .ref (b 29), .ref (b 30), .ref (b 31), .ref (b 32), .ref (b 33), .ref (b 34), .int (iZ (mu 35 0)), .int (iZ (mu 36 0)), .int (iZ (mu 37 0)), .int (iZ (mu 38 0)), .int (iZ (mu 39 0)), .int (iZ (mu 40 0)), .ref (b 41), .ref (b 42)]))) := ⟨_, rfl⟩
      rw [← hen2w] at hW
      obtain ⟨mu2w, hmu2w⟩ : ∃ x : Mu, x = u2 mu 0 (0) (0) := ⟨_, rfl⟩
      have hE2w : EM dA b mu2w en2w := by rw [hen2w, hmu2w]; exact em_f hE (k0 := 0) (v := 0) (by decide)
      have hF2w : FM en en2w := fun k i q => by rw [hen2w]; exact e2_k (fun w => q (by rw [w]; decide))
      replace t0_0 : mu2w 0 (0) = 0 := by rw [hmu2w]; exact u2_s _ _ _ _
      replace t40_0 : mu2w 40 (0) = mu 40 (0) := by rw [hmu2w]; exact (u2_n (fun q => absurd q.1 (by decide))).trans t40_0
      have fM : en2w 20 0 = some (b 0, .inr (6, [.int (iZ (mu2w 0 0)), .int (iZ (mu2w 1 0)), .long (lZ (mu2w 2 0)), .int (iZ (mu2w 3 0)), .ref (b 4), .ref (b 5), .ref (b 6), .ref (b 7), .ref (b 8), .ref (b 9), .ref (b 10), .ref (b 11), .ref (b 12), .ref (b 13), .ref (b 14), .ref (b 15), .ref (b 16), .ref (b 17), .ref (b 18), .ref (b 19), .ref (b 20), .ref (b 21), .ref (b 22), .ref (b 23), .ref (b 24), .ref (b 25), .int (iZ (mu2w 26 0)), .ref (b 27), .ref (b 28), .ref (b 29), .ref (b 30), .ref (b 31), .ref (b 32), .ref (b 33), .ref (b 34), .int (iZ (mu2w 35 0)), .int (iZ (mu2w 36 0)), .int (iZ (mu2w 37 0)), .int (iZ (mu2w 38 0)), .int (iZ (mu2w 39 0)), .int (iZ (mu2w 40 0)), .ref (b 41), .ref (b 42)])) := hE2w.1
      have f41_ : en2w 61 0 = some (b 41, aB dA (10000) (mu2w 41)) := hE2w.2 41 (by decide)
      refine lv_aload_n hx hb dX4_got_21 rfl (lv_at hl 0 rfl) ?_
      refine g_get (C := RX4) (T := TX4) (N := 43) (ci := 6) (v := .int (iZ (mu2w 0 0))) hx hb hts hi6 hown hK hW fM rfl 0 (by decide) (hts (.fieldLink RX4 120 "LongTransferModel" "code" "I") (by decide +kernel)) (fun _ h9 => h9) rfl dX4_got_22 ?_
      rw [t0_0]
      refine z_if_le (tgt := 32) hx hb dX4_got_25 (by decide) (by omega) (fun _ => ?_) (fun c_q => absurd c_q (by omega))
      refine lv_aload_n hx hb dX4_got_32 rfl (lv_at hl 0 rfl) ?_
      refine g_get (C := RX4) (T := TX4) (N := 43) (ci := 6) (v := .ref (b 41)) hx hb hts hi6 hown hK hW fM rfl 41 (by decide) (hts (.fieldLink RX4 110 "LongTransferModel" "got" "[B") (by decide +kernel)) (fun _ h9 => h9) rfl dX4_got_33 ?_
      refine lv_iload_n hx hb dX4_got_36 rfl (lv_at hl 1 rfl) ?_
      refine g_bald hx hb hK hW f41_ (by omega) (by omega) (by omega) dX4_got_37 ?_
      have hR1 : Rl g mu2w := rl_m hI hR (fun t j q => by rw [hmu2w]; exact u2_n (by omega))
      have hpst : Rl g mu2w ∧ mu2w 0 0 = (if 0 ≤ n ∧ n < g 1 2 0 then 0 else 1) := ⟨hR1, by rw [if_pos (by omega)]; exact t0_0⟩
      exact W.zret hx hb hr (nz_b (hR1.2.2.2.2.2.2.2 41 n (by decide))) (fun t ht hw => ⟨⟨_, (en2w, mu2w), rfl, ⟨congrArg iZ (by rw [if_pos (by omega)]; exact hR1.2.2.1.2 n (by omega) (by omega)), hE2w, hF2w, hpst⟩, by show Wd _ _ _ t.heap; rw [ht]; exact hW⟩, hS.F ht⟩) hS.2.2 dX4_got_38
    · refine z_iconst hx hb dX4_got_13 ?_
      refine lv_goto (tgt := 18) hx hb dX4_got_14 (by decide) ?_
      refine g_put (C := RX4) (T := TX4) (N := 43) (ci := 6) (ty := .int) (v := .int (iZ (1))) (fs' := [.int (iZ (1)), .int (iZ (mu 1 0)), .long (lZ (mu 2 0)), .int (iZ (mu 3 0)), .ref (b 4), .ref (b 5), .ref (b 6), .ref (b 7), .ref (b 8), .ref (b 9), .ref (b 10), .ref (b 11), .ref (b 12), .ref (b 13), .ref (b 14), .ref (b 15), .ref (b 16), .ref (b 17), .ref (b 18), .ref (b 19), .ref (b 20), .ref (b 21), .ref (b 22), .ref (b 23), .ref (b 24), .ref (b 25), .int (iZ (mu 26 0)), .ref (b 27), .ref (b 28), .ref (b 29), .ref (b 30), .ref (b 31), .ref (b 32), .ref (b 33), .ref (b 34), .int (iZ (mu 35 0)), .int (iZ (mu 36 0)), .int (iZ (mu 37 0)), .int (iZ (mu 38 0)), .int (iZ (mu 39 0)), .int (iZ (mu 40 0)), .ref (b 41), .ref (b 42)]) hx hb hts hi6 tyX4 tyX4_ok nmX4 hown hK hW hS fM rfl 0 (by decide) (hts (.fieldLink RX4 120 "LongTransferModel" "code" "I") (by decide +kernel)) (fun _ h9 => h9) rfl (by decide +kernel) rfl rfl (Nat.le_of_ble_eq_true rfl) dX4_got_18 rfl (fun H locs hW hS => ?_)
      obtain ⟨en3w, hen3w⟩ : ∃ x : en_T, x = e2 en 20 0 (some (b 0, .inr (6, [.int (iZ (1)), .int (iZ (mu 1 0)), .long (lZ (mu 2 0)), .int (iZ (mu 3 0)), .ref (b 4), .ref (b 5), .ref (b 6), .ref (b 7), .ref (b 8), .ref (b 9), .ref (b 10), .ref (b 11), .ref (b 12), .ref (b 13), .ref (b 14), .ref (b 15), .ref (b 16), .ref (b 17), .ref (b 18), .ref (b 19), .ref (b 20), .ref (b 21), .ref (b 22), .ref (b 23), .ref (b 24), .ref (b 25), .int (iZ (mu 26 0)), .ref (b 27), .ref (b 28), .ref (b 29), .ref (b 30), .ref (b 31), .ref (b 32), .ref (b 33), .ref (b 34), .int (iZ (mu 35 0)), .int (iZ (mu 36 0)), .int (iZ (mu 37 0)), .int (iZ (mu 38 0)), .int (iZ (mu 39 0)), .int (iZ (mu 40 0)), .ref (b 41), .ref (b 42)]))) := ⟨_, rfl⟩
      rw [← hen3w] at hW
      obtain ⟨mu3w, hmu3w⟩ : ∃ x : Mu, x = u2 mu 0 (0) (1) := ⟨_, rfl⟩
      have hE3w : EM dA b mu3w en3w := by rw [hen3w, hmu3w]; exact em_f hE (k0 := 0) (v := 1) (by decide)
      have hF3w : FM en en3w := fun k i q => by rw [hen3w]; exact e2_k (fun w => q (by rw [w]; decide))
      replace t0_0 : mu3w 0 (0) = 1 := by rw [hmu3w]; exact u2_s _ _ _ _
      replace t40_0 : mu3w 40 (0) = mu 40 (0) := by rw [hmu3w]; exact (u2_n (fun q => absurd q.1 (by decide))).trans t40_0
      have fM : en3w 20 0 = some (b 0, .inr (6, [.int (iZ (mu3w 0 0)), .int (iZ (mu3w 1 0)), .long (lZ (mu3w 2 0)), .int (iZ (mu3w 3 0)), .ref (b 4), .ref (b 5), .ref (b 6), .ref (b 7), .ref (b 8), .ref (b 9), .ref (b 10), .ref (b 11), .ref (b 12), .ref (b 13), .ref (b 14), .ref (b 15), .ref (b 16), .ref (b 17), .ref (b 18), .ref (b 19), .ref (b 20), .ref (b 21), .ref (b 22), .ref (b 23), .ref (b 24), .ref (b 25), .int (iZ (mu3w 26 0)), .ref (b 27), .ref (b 28), .ref (b 29), .ref (b 30), .ref (b 31), .ref (b 32), .ref (b 33), .ref (b 34), .int (iZ (mu3w 35 0)), .int (iZ (mu3w 36 0)), .int (iZ (mu3w 37 0)), .int (iZ (mu3w 38 0)), .int (iZ (mu3w 39 0)), .int (iZ (mu3w 40 0)), .ref (b 41), .ref (b 42)])) := hE3w.1
      have f41_ : en3w 61 0 = some (b 41, aB dA (10000) (mu3w 41)) := hE3w.2 41 (by decide)
      refine lv_aload_n hx hb dX4_got_21 rfl (lv_at hl 0 rfl) ?_
      refine g_get (C := RX4) (T := TX4) (N := 43) (ci := 6) (v := .int (iZ (mu3w 0 0))) hx hb hts hi6 hown hK hW fM rfl 0 (by decide) (hts (.fieldLink RX4 120 "LongTransferModel" "code" "I") (by decide +kernel)) (fun _ h9 => h9) rfl dX4_got_22 ?_
      rw [t0_0]
      refine z_if_le (tgt := 32) hx hb dX4_got_25 (by decide) (by omega) (fun c_q => absurd c_q (by omega)) (fun _ => ?_)
      refine z_iconst hx hb dX4_got_28 ?_
      refine lv_goto (tgt := 38) hx hb dX4_got_29 (by decide) ?_
      have hR1 : Rl g mu3w := rl_m hI hR (fun t j q => by rw [hmu3w]; exact u2_n (by omega))
      have hpst : Rl g mu3w ∧ mu3w 0 0 = (if 0 ≤ n ∧ n < g 1 2 0 then 0 else 1) := ⟨hR1, by rw [if_neg (by omega)]; exact t0_0⟩
      exact W.zret hx hb hr (nz_b (by omega)) (fun t ht hw => ⟨⟨_, (en3w, mu3w), rfl, ⟨congrArg iZ (by rw [if_neg (by omega)]), hE3w, hF3w, hpst⟩, by show Wd _ _ _ t.heap; rw [ht]; exact hW⟩, hS.F ht⟩) hS.2.2 dX4_got_38
set_option maxHeartbeats 4000000 in
set_option maxRecDepth 100000 in
theorem c_X4_thrown (l : Launch) (D : va_G) (dA : Nat → ClassId) (z : Nat → Nat) (en : en_T) (b : Nat → Nat) (mu : Mu)  (hE : EM dA b mu en) : Met l yX4_thrown wsX4_thrown ({ frames := 0, cells := 0, slots := 0, locals := 0 }) (gP D dA z en [.ref (b 0)]) (va_Qi (fun (r8 : Int32) (_ : Unit) => r8 = iZ (mu 0 0)) (fun _ t9 => Wd D (z 0) en t9.heap) (fun q => z 0 ≤ q)) (0) (0) (fun q => z 0 ≤ q) := by
  refine gMet (own := RX4) (cc := cX4_thrown) (maxL := 1) (ret := (some .int)) (by decide) rfl rfl (Nat.le_of_ble_eq_true rfl) ?_
  intro p e s m below meth c hx hb hml hown hts hr hlocks hnm hg hW ls hl
  have hK := hg.1
  have hS : va_S (fun q => z 0 ≤ q) s.heap s.heap [] := va_S.rf
  have hi6 : ∀ w ∈ u_ws RX4 TX4 43, w ∈ wsX4_thrown := by decide +kernel
  have hl : lv_has ls 1 [(0, .ref (b 0))] := hl
  have fM : en 20 0 = some (b 0, .inr (6, [.int (iZ (mu 0 0)), .int (iZ (mu 1 0)), .long (lZ (mu 2 0)), .int (iZ (mu 3 0)), .ref (b 4), .ref (b 5), .ref (b 6), .ref (b 7), .ref (b 8), .ref (b 9), .ref (b 10), .ref (b 11), .ref (b 12), .ref (b 13), .ref (b 14), .ref (b 15), .ref (b 16), .ref (b 17), .ref (b 18), .ref (b 19), .ref (b 20), .ref (b 21), .ref (b 22), .ref (b 23), .ref (b 24), .ref (b 25), .int (iZ (mu 26 0)), .ref (b 27), .ref (b 28), .ref (b 29), .ref (b 30), .ref (b 31), .ref (b 32), .ref (b 33), .ref (b 34), .int (iZ (mu 35 0)), .int (iZ (mu 36 0)), .int (iZ (mu 37 0)), .int (iZ (mu 38 0)), .int (iZ (mu 39 0)), .int (iZ (mu 40 0)), .ref (b 41), .ref (b 42)])) := hE.1
  refine lv_aload_n hx hb dX4_thrown_0 rfl (lv_at hl 0 rfl) ?_
  refine g_get (C := RX4) (T := TX4) (N := 43) (ci := 6) (v := .int (iZ (mu 0 0))) hx hb hts hi6 hown hK hW fM rfl 0 (by decide) (hts (.fieldLink RX4 120 "LongTransferModel" "code" "I") (by decide +kernel)) (fun _ h9 => h9) rfl dX4_thrown_1 ?_
  exact W.iret hx hb hr (fun t ht hw => ⟨⟨_, (), rfl, rfl, by show Wd _ _ _ t.heap; rw [ht]; exact hW⟩, hS.F ht⟩) hS.2.2 dX4_thrown_4
set_option maxHeartbeats 4000000 in
set_option maxRecDepth 100000 in
theorem c_X4_octet (l : Launch) (D : va_G) (dA : Nat → ClassId) (z : Nat → Nat) (en : en_T) (b : Nat → Nat) (mu : Mu) (g : St) (mm i9 b9 : Int) (hm : iB mm) (hi : iB i9) (hb9 : -128 ≤ b9 ∧ b9 ≤ 127) (hI : IB g) (hR : Rl g mu) (hE : EM dA b mu en) : Met l yX4_octet wsX4_octet ({ frames := 1, cells := 0, slots := 0, locals := 30 }) (gP D dA z en [.ref (b 0), .int (iZ (mm)), .int (iZ (i9)), .int (iZ (b9))]) (va_Qv (fun u : en_T × Mu => EM dA b u.2 u.1 ∧ FM en u.1 ∧ Rl (sOct g mm i9 b9) u.2) (fun u t9 => Wd D (z 0) u.1 t9.heap) (fun q => z 0 ≤ q)) (0) (0) (fun q => z 0 ≤ q) := by
  refine gMet (own := RX4) (cc := cX4_octet) (maxL := 4) (ret := none) (by decide) rfl rfl (Nat.le_of_ble_eq_true rfl) ?_
  intro p e s m below meth c hx hb hml hown hts hr hlocks hnm hg hW ls hl
  have hK := hg.1
  have hS : va_S (fun q => z 0 ≤ q) s.heap s.heap [] := va_S.rf
  have hi6 : ∀ w ∈ u_ws RX4 TX4 43, w ∈ wsX4_octet := by decide +kernel
  have hl : lv_has ls 4 [(0, .ref (b 0)), (1, .int (iZ (mm))), (2, .int (iZ (i9))), (3, .int (iZ (b9)))] := hl
  have hx0 := hI.1
  unfold IX at hx0
  have hL0 := hI.2.1
  unfold IL at hL0
  have fM : en 20 0 = some (b 0, .inr (6, [.int (iZ (mu 0 0)), .int (iZ (mu 1 0)), .long (lZ (mu 2 0)), .int (iZ (mu 3 0)), .ref (b 4), .ref (b 5), .ref (b 6), .ref (b 7), .ref (b 8), .ref (b 9), .ref (b 10), .ref (b 11), .ref (b 12), .ref (b 13), .ref (b 14), .ref (b 15), .ref (b 16), .ref (b 17), .ref (b 18), .ref (b 19), .ref (b 20), .ref (b 21), .ref (b 22), .ref (b 23), .ref (b 24), .ref (b 25), .int (iZ (mu 26 0)), .ref (b 27), .ref (b 28), .ref (b 29), .ref (b 30), .ref (b 31), .ref (b 32), .ref (b 33), .ref (b 34), .int (iZ (mu 35 0)), .int (iZ (mu 36 0)), .int (iZ (mu 37 0)), .int (iZ (mu 38 0)), .int (iZ (mu 39 0)), .int (iZ (mu 40 0)), .ref (b 41), .ref (b 42)])) := hE.1
  have f4_ : en 24 0 = some (b 4, aI dA (102) (mu 4)) := hE.2 4 (by decide)
  have f5_ : en 25 0 = some (b 5, aB dA (1000000) (mu 5)) := hE.2 5 (by decide)
  refine lv_aload_n hx hb dX4_octet_0 rfl (lv_at hl 0 rfl) ?_
  refine z_iconst hx hb dX4_octet_1 ?_
  refine g_put (C := RX4) (T := TX4) (N := 43) (ci := 6) (ty := .int) (v := .int (iZ (0))) (fs' := [.int (iZ (0)), .int (iZ (mu 1 0)), .long (lZ (mu 2 0)), .int (iZ (mu 3 0)), .ref (b 4), .ref (b 5), .ref (b 6), .ref (b 7), .ref (b 8), .ref (b 9), .ref (b 10), .ref (b 11), .ref (b 12), .ref (b 13), .ref (b 14), .ref (b 15), .ref (b 16), .ref (b 17), .ref (b 18), .ref (b 19), .ref (b 20), .ref (b 21), .ref (b 22), .ref (b 23), .ref (b 24), .ref (b 25), .int (iZ (mu 26 0)), .ref (b 27), .ref (b 28), .ref (b 29), .ref (b 30), .ref (b 31), .ref (b 32), .ref (b 33), .ref (b 34), .int (iZ (mu 35 0)), .int (iZ (mu 36 0)), .int (iZ (mu 37 0)), .int (iZ (mu 38 0)), .int (iZ (mu 39 0)), .int (iZ (mu 40 0)), .ref (b 41), .ref (b 42)]) hx hb hts hi6 tyX4 tyX4_ok nmX4 hown hK hW hS fM rfl 0 (by decide) (hts (.fieldLink RX4 120 "LongTransferModel" "code" "I") (by decide +kernel)) (fun _ h9 => h9) rfl (by decide +kernel) rfl rfl (Nat.le_of_ble_eq_true rfl) dX4_octet_2 rfl (fun H locs hW hS => ?_)
  obtain ⟨en1w, hen1w⟩ : ∃ x : en_T, x = e2 en 20 0 (some (b 0, .inr (6, [.int (iZ (0)), .int (iZ (mu 1 0)), .long (lZ (mu 2 0)), .int (iZ (mu 3 0)), .ref (b 4), .ref (b 5), .ref (b 6), .ref (b 7), .ref (b 8), .ref (b 9), .ref (b 10), .ref (b 11), .ref (b 12), .ref (b 13), .ref (b 14), .ref (b 15), .ref (b 16), .ref (b 17), .ref (b 18), .ref (b 19), .ref (b 20), .ref (b 21), .ref (b 22), .ref (b 23), .ref (b 24), .ref (b 25), .int (iZ (mu 26 0)), .ref (b 27), .ref (b 28), .ref (b 29), .ref (b 30), .ref (b 31), .ref (b 32), .ref (b 33), .ref (b 34), .int (iZ (mu 35 0)), .int (iZ (mu 36 0)), .int (iZ (mu 37 0)), .int (iZ (mu 38 0)), .int (iZ (mu 39 0)), .int (iZ (mu 40 0)), .ref (b 41), .ref (b 42)]))) := ⟨_, rfl⟩
  rw [← hen1w] at hW
  obtain ⟨mu1w, hmu1w⟩ : ∃ x : Mu, x = u2 mu 0 (0) (0) := ⟨_, rfl⟩
  have hE1w : EM dA b mu1w en1w := by rw [hen1w, hmu1w]; exact em_f hE (k0 := 0) (v := 0) (by decide)
  have hF1w : FM en en1w := fun k i q => by rw [hen1w]; exact e2_k (fun w => q (by rw [w]; decide))
  have fM : en1w 20 0 = some (b 0, .inr (6, [.int (iZ (mu1w 0 0)), .int (iZ (mu1w 1 0)), .long (lZ (mu1w 2 0)), .int (iZ (mu1w 3 0)), .ref (b 4), .ref (b 5), .ref (b 6), .ref (b 7), .ref (b 8), .ref (b 9), .ref (b 10), .ref (b 11), .ref (b 12), .ref (b 13), .ref (b 14), .ref (b 15), .ref (b 16), .ref (b 17), .ref (b 18), .ref (b 19), .ref (b 20), .ref (b 21), .ref (b 22), .ref (b 23), .ref (b 24), .ref (b 25), .int (iZ (mu1w 26 0)), .ref (b 27), .ref (b 28), .ref (b 29), .ref (b 30), .ref (b 31), .ref (b 32), .ref (b 33), .ref (b 34), .int (iZ (mu1w 35 0)), .int (iZ (mu1w 36 0)), .int (iZ (mu1w 37 0)), .int (iZ (mu1w 38 0)), .int (iZ (mu1w 39 0)), .int (iZ (mu1w 40 0)), .ref (b 41), .ref (b 42)])) := hE1w.1
  have f4_ : en1w 24 0 = some (b 4, aI dA (102) (mu1w 4)) := hE1w.2 4 (by decide)
  have f5_ : en1w 25 0 = some (b 5, aB dA (1000000) (mu1w 5)) := hE1w.2 5 (by decide)
  have hR1 : Rl g mu1w := rl_m hI hR (fun t j q => by rw [hmu1w]; exact u2_n (by omega))
  have rX0 := hR1.1
  unfold RX at rX0
  refine lv_iload_n hx hb dX4_octet_5 rfl (lv_at hl 1 rfl) ?_
  refine z_iconst hx hb dX4_octet_6 ?_
  refine z_icmp_lt (tgt := 31) hx hb dX4_octet_7 (by decide) (by omega) (by omega) (fun c_7 => ?_) (fun c_7 => ?_)
  · have hpst : Rl (sOct g mm i9 b9) mu1w := by unfold sOct; rw [if_neg (by omega)]; exact hR1
    exact W.vret hx hb hr (fun t ht hw => ⟨⟨(en1w, mu1w), rfl, ⟨hE1w, hF1w, hpst⟩, by show Wd _ _ _ t.heap; rw [ht]; exact hW⟩, hS.F ht⟩) hS.2.2 dX4_octet_31
  · refine lv_iload_n hx hb dX4_octet_10 rfl (lv_at hl 1 rfl) ?_
    refine lv_aload_n hx hb dX4_octet_11 rfl (lv_at hl 0 rfl) ?_
    refine g_get (C := RX4) (T := TX4) (N := 43) (ci := 6) (v := .int (iZ (mu1w 3 0))) hx hb hts hi6 hown hK hW fM rfl 3 (by decide) (hts (.fieldLink RX4 123 "LongTransferModel" "messages" "I") (by decide +kernel)) (fun _ h9 => h9) rfl dX4_octet_12 ?_
    refine z_icmp_gt (tgt := 31) hx hb dX4_octet_15 (by decide) (by omega) (by omega) (fun c_15 => ?_) (fun c_15 => ?_)
    · have hpst : Rl (sOct g mm i9 b9) mu1w := by unfold sOct; rw [if_neg (by omega)]; exact hR1
      exact W.vret hx hb hr (fun t ht hw => ⟨⟨(en1w, mu1w), rfl, ⟨hE1w, hF1w, hpst⟩, by show Wd _ _ _ t.heap; rw [ht]; exact hW⟩, hS.F ht⟩) hS.2.2 dX4_octet_31
    · refine lv_iload_n hx hb dX4_octet_18 rfl (lv_at hl 2 rfl) ?_
      refine z_if_lt (tgt := 31) hx hb dX4_octet_19 (by decide) (by omega) (fun c_19 => ?_) (fun c_19 => ?_)
      · have hpst : Rl (sOct g mm i9 b9) mu1w := by unfold sOct; rw [if_neg (by omega)]; exact hR1
        exact W.vret hx hb hr (fun t ht hw => ⟨⟨(en1w, mu1w), rfl, ⟨hE1w, hF1w, hpst⟩, by show Wd _ _ _ t.heap; rw [ht]; exact hW⟩, hS.F ht⟩) hS.2.2 dX4_octet_31
      · refine lv_iload_n hx hb dX4_octet_22 rfl (lv_at hl 2 rfl) ?_
        refine lv_aload_n hx hb dX4_octet_23 rfl (lv_at hl 0 rfl) ?_
        refine lv_iload_n hx hb dX4_octet_24 rfl (lv_at hl 1 rfl) ?_
        have hsz := sz_m hR1 (m := mm) (by omega) (by omega)
        have hSm := hI.2.2.1 mm (by omega) (by omega)
        unfold IS at hSm
        obtain ⟨hS11, -⟩ := hSm
        refine va_calli (va_runV (As := [.int (iZ (mm))]) (rest := [.int (iZ (i9))]) ⟨hx, hb, hml, hown, hts⟩ (c_X4_size l D dA z en1w b mu1w mm (by omega) (by omega) hE1w) (cwV 1 hts gX4_octet_X4_size rfl rfl rfl (by decide +kernel) ⟨Nat.le_of_ble_eq_true rfl, Nat.le_of_ble_eq_true rfl⟩) ⟨gBl, gRecv hK hW (ci := 6) rfl fM, gPre _ hg hS hW⟩ rfl rfl hl.1 rfl (lv_room (Nat.le_of_ble_eq_true rfl)) dX4_octet_25 ⟨(show 0 + 0 ≤ 0 by omega), (show 0 + 0 ≤ 0 by omega)⟩) hS (fun _ _ h => h) (fun _ h => h) (fun r9 u9 t9 H locs ht9 hvm9 hw9 hB9 hz9 hk9 hS => ?_)
        have hW : Wd D (z 0) en1w H := by rw [← ht9]; exact hB9
        subst hw9
        refine z_icmp_lt (tgt := 32) hx hb dX4_octet_28 (by decide) (by omega) (by omega) (fun c_28 => ?_) (fun c_28 => ?_)
        · refine lv_aload_n hx hb dX4_octet_32 rfl (lv_at hl 0 rfl) ?_
          refine g_get (C := RX4) (T := TX4) (N := 43) (ci := 6) (v := .ref (b 5)) hx hb hts hi6 hown hK hW fM rfl 5 (by decide) (hts (.fieldLink RX4 14 "LongTransferModel" "data" "[B") (by decide +kernel)) (fun _ h9 => h9) rfl dX4_octet_33 ?_
          refine lv_aload_n hx hb dX4_octet_36 rfl (lv_at hl 0 rfl) ?_
          refine g_get (C := RX4) (T := TX4) (N := 43) (ci := 6) (v := .ref (b 4)) hx hb hts hi6 hown hK hW fM rfl 4 (by decide) (hts (.fieldLink RX4 7 "LongTransferModel" "begin" "[I") (by decide +kernel)) (fun _ h9 => h9) rfl dX4_octet_37 ?_
          refine lv_iload_n hx hb dX4_octet_40 rfl (lv_at hl 1 rfl) ?_
          refine g_iald hx hb hK hW f4_ (by omega) (by omega) (by omega) dX4_octet_41 ?_
          refine lv_iload_n hx hb dX4_octet_42 rfl (lv_at hl 2 rfl) ?_
          refine z_iadd hx hb dX4_octet_43 ?_
          refine lv_iload_n hx hb dX4_octet_44 rfl (lv_at hl 3 rfl) ?_
          refine g_bast (x := b9) hx hb hK hW hS f5_ (by omega) (by omega) (by omega) (by omega) dX4_octet_45 (fun H locs hW hS => ?_)
          obtain ⟨en2w, hen2w⟩ : ∃ x : en_T, x = e2 en1w 25 0 (some (b 5, aB dA (1000000) (uF (mu1w 5) (((mu1w 4) (mm)) + i9) (b9)))) := ⟨_, rfl⟩
          rw [← hen2w] at hW
          obtain ⟨mu2w, hmu2w⟩ : ∃ x : Mu, x = u2 mu1w 5 (((mu1w 4) (mm)) + i9) (b9) := ⟨_, rfl⟩
          have hE2w : EM dA b mu2w en2w := by rw [hen2w, hmu2w]; exact em_w hE1w (k0 := 5) (j := ((mu1w 4) (mm)) + i9) (v := b9) (by decide)
          have hF2w : FM en1w en2w := fun k i q => by rw [hen2w]; exact e2_k (fun w => q (by rw [w]; decide))
          have hF2w := FM.tr hF1w hF2w
          have fM : en2w 20 0 = some (b 0, .inr (6, [.int (iZ (mu2w 0 0)), .int (iZ (mu2w 1 0)), .long (lZ (mu2w 2 0)), .int (iZ (mu2w 3 0)), .ref (b 4), .ref (b 5), .ref (b 6), .ref (b 7), .ref (b 8), .ref (b 9), .ref (b 10), .ref (b 11), .ref (b 12), .ref (b 13), .ref (b 14), .ref (b 15), .ref (b 16), .ref (b 17), .ref (b 18), .ref (b 19), .ref (b 20), .ref (b 21), .ref (b 22), .ref (b 23), .ref (b 24), .ref (b 25), .int (iZ (mu2w 26 0)), .ref (b 27), .ref (b 28), .ref (b 29), .ref (b 30), .ref (b 31), .ref (b 32), .ref (b 33), .ref (b 34), .int (iZ (mu2w 35 0)), .int (iZ (mu2w 36 0)), .int (iZ (mu2w 37 0)), .int (iZ (mu2w 38 0)), .int (iZ (mu2w 39 0)), .int (iZ (mu2w 40 0)), .ref (b 41), .ref (b 42)])) := hE2w.1
          have f4_ : en2w 24 0 = some (b 4, aI dA (102) (mu2w 4)) := hE2w.2 4 (by decide)
          have f5_ : en2w 25 0 = some (b 5, aB dA (1000000) (mu2w 5)) := hE2w.2 5 (by decide)
          have hpst : Rl (sOct g mm i9 b9) mu2w := rl_oct hI hR1 (by omega) (by omega) (by omega) (by omega) hb9 (fun t j q => by rw [hmu2w]; exact u2_n (by omega)) (by rw [hmu2w]; exact u2_s _ _ _ _)
          exact W.vret hx hb hr (fun t ht hw => ⟨⟨(en2w, mu2w), rfl, ⟨hE2w, hF2w, hpst⟩, by show Wd _ _ _ t.heap; rw [ht]; exact hW⟩, hS.F ht⟩) hS.2.2 dX4_octet_46
        · have hpst : Rl (sOct g mm i9 b9) mu1w := by unfold sOct; rw [if_neg (by omega)]; exact hR1
          exact W.vret hx hb hr (fun t ht hw => ⟨⟨(en1w, mu1w), rfl, ⟨hE1w, hF1w, hpst⟩, by show Wd _ _ _ t.heap; rw [ht]; exact hW⟩, hS.F ht⟩) hS.2.2 dX4_octet_31
set_option maxHeartbeats 4000000 in
set_option maxRecDepth 100000 in
theorem c_X4_send (l : Launch) (D : va_G) (dA : Nat → ClassId) (z : Nat → Nat) (en : en_T) (b : Nat → Nat) (mu : Mu) (g : St) (n : Int) (hn : iB n) (hI : IB g) (hR : Rl g mu) (hE : EM dA b mu en) : Met l yX4_send wsX4_send ({ frames := 0, cells := 0, slots := 0, locals := 0 }) (gP D dA z en [.ref (b 0), .int (iZ (n))]) (va_Qi (fun (r8 : Int32) (u : en_T × Mu) => r8 = iZ (aSend g n) ∧ EM dA b u.2 u.1 ∧ FM en u.1 ∧ Rl (sSend g n) u.2) (fun u t9 => Wd D (z 0) u.1 t9.heap) (fun q => z 0 ≤ q)) (0) (0) (fun q => z 0 ≤ q) := by
  refine gMet (own := RX4) (cc := cX4_send) (maxL := 2) (ret := (some .int)) (by decide) rfl rfl (Nat.le_of_ble_eq_true rfl) ?_
  intro p e s m below meth c hx hb hml hown hts hr hlocks hnm hg hW ls hl
  have hK := hg.1
  have hS : va_S (fun q => z 0 ≤ q) s.heap s.heap [] := va_S.rf
  have hi6 : ∀ w ∈ u_ws RX4 TX4 43, w ∈ wsX4_send := by decide +kernel
  have hl : lv_has ls 2 [(0, .ref (b 0)), (1, .int (iZ (n)))] := hl
  have hx0 := hI.1
  unfold IX at hx0
  have hL0 := hI.2.1
  unfold IL at hL0
  have fM : en 20 0 = some (b 0, .inr (6, [.int (iZ (mu 0 0)), .int (iZ (mu 1 0)), .long (lZ (mu 2 0)), .int (iZ (mu 3 0)), .ref (b 4), .ref (b 5), .ref (b 6), .ref (b 7), .ref (b 8), .ref (b 9), .ref (b 10), .ref (b 11), .ref (b 12), .ref (b 13), .ref (b 14), .ref (b 15), .ref (b 16), .ref (b 17), .ref (b 18), .ref (b 19), .ref (b 20), .ref (b 21), .ref (b 22), .ref (b 23), .ref (b 24), .ref (b 25), .int (iZ (mu 26 0)), .ref (b 27), .ref (b 28), .ref (b 29), .ref (b 30), .ref (b 31), .ref (b 32), .ref (b 33), .ref (b 34), .int (iZ (mu 35 0)), .int (iZ (mu 36 0)), .int (iZ (mu 37 0)), .int (iZ (mu 38 0)), .int (iZ (mu 39 0)), .int (iZ (mu 40 0)), .ref (b 41), .ref (b 42)])) := hE.1
  have f4_ : en 24 0 = some (b 4, aI dA (102) (mu 4)) := hE.2 4 (by decide)
  refine lv_aload_n hx hb dX4_send_0 rfl (lv_at hl 0 rfl) ?_
  refine z_iconst hx hb dX4_send_1 ?_
  refine g_put (C := RX4) (T := TX4) (N := 43) (ci := 6) (ty := .int) (v := .int (iZ (0))) (fs' := [.int (iZ (0)), .int (iZ (mu 1 0)), .long (lZ (mu 2 0)), .int (iZ (mu 3 0)), .ref (b 4), .ref (b 5), .ref (b 6), .ref (b 7), .ref (b 8), .ref (b 9), .ref (b 10), .ref (b 11), .ref (b 12), .ref (b 13), .ref (b 14), .ref (b 15), .ref (b 16), .ref (b 17), .ref (b 18), .ref (b 19), .ref (b 20), .ref (b 21), .ref (b 22), .ref (b 23), .ref (b 24), .ref (b 25), .int (iZ (mu 26 0)), .ref (b 27), .ref (b 28), .ref (b 29), .ref (b 30), .ref (b 31), .ref (b 32), .ref (b 33), .ref (b 34), .int (iZ (mu 35 0)), .int (iZ (mu 36 0)), .int (iZ (mu 37 0)), .int (iZ (mu 38 0)), .int (iZ (mu 39 0)), .int (iZ (mu 40 0)), .ref (b 41), .ref (b 42)]) hx hb hts hi6 tyX4 tyX4_ok nmX4 hown hK hW hS fM rfl 0 (by decide) (hts (.fieldLink RX4 120 "LongTransferModel" "code" "I") (by decide +kernel)) (fun _ h9 => h9) rfl (by decide +kernel) rfl rfl (Nat.le_of_ble_eq_true rfl) dX4_send_2 rfl (fun H locs hW hS => ?_)
  obtain ⟨en1w, hen1w⟩ : ∃ x : en_T, x = e2 en 20 0 (some (b 0, .inr (6, [.int (iZ (0)), .int (iZ (mu 1 0)), .long (lZ (mu 2 0)), .int (iZ (mu 3 0)), .ref (b 4), .ref (b 5), .ref (b 6), .ref (b 7), .ref (b 8), .ref (b 9), .ref (b 10), .ref (b 11), .ref (b 12), .ref (b 13), .ref (b 14), .ref (b 15), .ref (b 16), .ref (b 17), .ref (b 18), .ref (b 19), .ref (b 20), .ref (b 21), .ref (b 22), .ref (b 23), .ref (b 24), .ref (b 25), .int (iZ (mu 26 0)), .ref (b 27), .ref (b 28), .ref (b 29), .ref (b 30), .ref (b 31), .ref (b 32), .ref (b 33), .ref (b 34), .int (iZ (mu 35 0)), .int (iZ (mu 36 0)), .int (iZ (mu 37 0)), .int (iZ (mu 38 0)), .int (iZ (mu 39 0)), .int (iZ (mu 40 0)), .ref (b 41), .ref (b 42)]))) := ⟨_, rfl⟩
  rw [← hen1w] at hW
  obtain ⟨mu1w, hmu1w⟩ : ∃ x : Mu, x = u2 mu 0 (0) (0) := ⟨_, rfl⟩
  have hE1w : EM dA b mu1w en1w := by rw [hen1w, hmu1w]; exact em_f hE (k0 := 0) (v := 0) (by decide)
  have hF1w : FM en en1w := fun k i q => by rw [hen1w]; exact e2_k (fun w => q (by rw [w]; decide))
  have fM : en1w 20 0 = some (b 0, .inr (6, [.int (iZ (mu1w 0 0)), .int (iZ (mu1w 1 0)), .long (lZ (mu1w 2 0)), .int (iZ (mu1w 3 0)), .ref (b 4), .ref (b 5), .ref (b 6), .ref (b 7), .ref (b 8), .ref (b 9), .ref (b 10), .ref (b 11), .ref (b 12), .ref (b 13), .ref (b 14), .ref (b 15), .ref (b 16), .ref (b 17), .ref (b 18), .ref (b 19), .ref (b 20), .ref (b 21), .ref (b 22), .ref (b 23), .ref (b 24), .ref (b 25), .int (iZ (mu1w 26 0)), .ref (b 27), .ref (b 28), .ref (b 29), .ref (b 30), .ref (b 31), .ref (b 32), .ref (b 33), .ref (b 34), .int (iZ (mu1w 35 0)), .int (iZ (mu1w 36 0)), .int (iZ (mu1w 37 0)), .int (iZ (mu1w 38 0)), .int (iZ (mu1w 39 0)), .int (iZ (mu1w 40 0)), .ref (b 41), .ref (b 42)])) := hE1w.1
  have f4_ : en1w 24 0 = some (b 4, aI dA (102) (mu1w 4)) := hE1w.2 4 (by decide)
  have hR1 : Rl g mu1w := rl_m hI hR (fun t j q => by rw [hmu1w]; exact u2_n (by omega))
  have rX0 := hR1.1
  unfold RX at rX0
  refine lv_iload_n hx hb dX4_send_5 rfl (lv_at hl 1 rfl) ?_
  refine z_if_lt (tgt := 16) hx hb dX4_send_6 (by decide) (by omega) (fun c_6 => ?_) (fun c_6 => ?_)
  · refine z_bipush hx hb dX4_send_16 (by decide) ?_
    have hpst : Rl (sSend g n) mu1w := by unfold sSend; rw [if_pos (by omega)]; exact hR1
    exact W.iret hx hb hr (fun t ht hw => ⟨⟨_, (en1w, mu1w), rfl, ⟨congrArg iZ (by unfold aSend; rw [if_pos (by omega)]), hE1w, hF1w, hpst⟩, by show Wd _ _ _ t.heap; rw [ht]; exact hW⟩, hS.F ht⟩) hS.2.2 dX4_send_18
  · refine lv_iload_n hx hb dX4_send_9 rfl (lv_at hl 1 rfl) ?_
    refine z_sipush hx hb dX4_send_10 (by decide) ?_
    refine z_icmp_le (tgt := 19) hx hb dX4_send_13 (by decide) (by omega) (by omega) (fun c_13 => ?_) (fun c_13 => ?_)
    · refine lv_aload_n hx hb dX4_send_19 rfl (lv_at hl 0 rfl) ?_
      refine g_get (C := RX4) (T := TX4) (N := 43) (ci := 6) (v := .int (iZ (mu1w 3 0))) hx hb hts hi6 hown hK hW fM rfl 3 (by decide) (hts (.fieldLink RX4 123 "LongTransferModel" "messages" "I") (by decide +kernel)) (fun _ h9 => h9) rfl dX4_send_20 ?_
      refine z_bipush hx hb dX4_send_23 (by decide) ?_
      refine z_icmp_ne (tgt := 31) hx hb dX4_send_25 (by decide) (by omega) (by omega) (fun c_25 => ?_) (fun c_25 => ?_)
      · refine lv_iload_n hx hb dX4_send_31 rfl (lv_at hl 1 rfl) ?_
        refine z_if_eq (tgt := 48) hx hb dX4_send_32 (by decide) (by omega) (fun c_32 => ?_) (fun c_32 => ?_)
        · refine z_iconst hx hb dX4_send_48 ?_
          have hpst : Rl (sSend g n) mu1w := by unfold sSend; rw [if_neg (by omega), if_neg (by omega), if_pos (by omega)]; exact hR1
          exact W.iret hx hb hr (fun t ht hw => ⟨⟨_, (en1w, mu1w), rfl, ⟨congrArg iZ (by unfold aSend; rw [if_neg (by omega), if_neg (by omega), if_pos (by omega)]), hE1w, hF1w, hpst⟩, by show Wd _ _ _ t.heap; rw [ht]; exact hW⟩, hS.F ht⟩) hS.2.2 dX4_send_49
        · refine lv_aload_n hx hb dX4_send_35 rfl (lv_at hl 0 rfl) ?_
          refine g_get (C := RX4) (T := TX4) (N := 43) (ci := 6) (v := .int (iZ (mu1w 39 0))) hx hb hts hi6 hown hK hW fM rfl 39 (by decide) (hts (.fieldLink RX4 126 "LongTransferModel" "functional" "Z") (by decide +kernel)) (fun _ h9 => h9) rfl dX4_send_36 ?_
          refine z_if_eq (tgt := 50) hx hb dX4_send_39 (by decide) (by omega) (fun c_39 => ?_) (fun c_39 => ?_)
          · have t3_0 : mu1w 3 (0) = mu1w 3 (0) := rfl
            refine lv_aload_n hx hb dX4_send_50 rfl (lv_at hl 0 rfl) ?_
            refine lv_dup hx hb dX4_send_51 rfl ?_
            refine g_get (C := RX4) (T := TX4) (N := 43) (ci := 6) (v := .int (iZ (mu1w 3 0))) hx hb hts hi6 hown hK hW fM rfl 3 (by decide) (hts (.fieldLink RX4 123 "LongTransferModel" "messages" "I") (by decide +kernel)) (fun _ h9 => h9) rfl dX4_send_52 ?_
            refine z_iconst hx hb dX4_send_55 ?_
            refine z_iadd hx hb dX4_send_56 ?_
            refine g_put (C := RX4) (T := TX4) (N := 43) (ci := 6) (ty := .int) (v := .int (iZ ((mu1w 3 (0)) + 1))) (fs' := [.int (iZ (mu1w 0 0)), .int (iZ (mu1w 1 0)), .long (lZ (mu1w 2 0)), .int (iZ ((mu1w 3 (0)) + 1)), .ref (b 4), .ref (b 5), .ref (b 6), .ref (b 7), .ref (b 8), .ref (b 9), .ref (b 10), .ref (b 11), .ref (b 12), .ref (b 13), .ref (b 14), .ref (b 15), .ref (b 16), .ref (b 17), .ref (b 18), .ref (b 19), .ref (b 20), .ref (b 21), .ref (b 22), .ref (b 23), .ref (b 24), .ref (b 25), .int (iZ (mu1w 26 0)), .ref (b 27), .ref (b 28), .ref (b 29), .ref (b 30), .ref (b 31), .ref (b 32), .ref (b 33), .ref (b 34), .int (iZ (mu1w 35 0)), .int (iZ (mu1w 36 0)), .int (iZ (mu1w 37 0)), .int (iZ (mu1w 38 0)), .int (iZ (mu1w 39 0)), .int (iZ (mu1w 40 0)), .ref (b 41), .ref (b 42)]) hx hb hts hi6 tyX4 tyX4_ok nmX4 hown hK hW hS fM rfl 3 (by decide) (hts (.fieldLink RX4 123 "LongTransferModel" "messages" "I") (by decide +kernel)) (fun _ h9 => h9) rfl (by decide +kernel) rfl rfl (Nat.le_of_ble_eq_true rfl) dX4_send_57 rfl (fun H locs hW hS => ?_)
            obtain ⟨en2w, hen2w⟩ : ∃ x : en_T, x = e2 en1w 20 0 (some (b 0, .inr (6, [.int (iZ (mu1w 0 0)), .int (iZ (mu1w 1 0)), .long (lZ (mu1w 2 0)), .int (iZ ((mu1w 3 (0)) + 1)), .ref (b 4), .ref (b 5), .ref (b 6), .ref (b 7), .ref (b 8), .ref (b 9), .ref (b 10), .ref (b 11), .ref (b 12), .ref (b 13), .ref (b 14), .ref (b 15), .ref (b 16), .ref (b 17), .ref (b 18), .ref (b 19), .ref (b 20), .ref (b 21), .ref (b 22), .ref (b 23), .ref (b 24), .ref (b 25), .int (iZ (mu1w 26 0)), .ref (b 27), .ref (b 28), .ref (b 29), .ref (b 30), .ref (b 31), .ref (b 32), .ref (b 33), .ref (b 34), .int (iZ (mu1w 35 0)), .int (iZ (mu1w 36 0)), .int (iZ (mu1w 37 0)), .int (iZ (mu1w 38 0)), .int (iZ (mu1w 39 0)), .int (iZ (mu1w 40 0)), .ref (b 41), .ref (b 42)]))) := ⟨_, rfl⟩
            rw [← hen2w] at hW
            obtain ⟨mu2w, hmu2w⟩ : ∃ x : Mu, x = u2 mu1w 3 (0) ((mu1w 3 (0)) + 1) := ⟨_, rfl⟩
            have hE2w : EM dA b mu2w en2w := by rw [hen2w, hmu2w]; exact em_f hE1w (k0 := 3) (v := (mu1w 3 (0)) + 1) (by decide)
            have hF2w : FM en1w en2w := fun k i q => by rw [hen2w]; exact e2_k (fun w => q (by rw [w]; decide))
            have hF2w := FM.tr hF1w hF2w
            replace t3_0 : mu2w 3 (0) = (mu1w 3 (0)) + 1 := by rw [hmu2w]; exact u2_s _ _ _ _
            have fM : en2w 20 0 = some (b 0, .inr (6, [.int (iZ (mu2w 0 0)), .int (iZ (mu2w 1 0)), .long (lZ (mu2w 2 0)), .int (iZ (mu2w 3 0)), .ref (b 4), .ref (b 5), .ref (b 6), .ref (b 7), .ref (b 8), .ref (b 9), .ref (b 10), .ref (b 11), .ref (b 12), .ref (b 13), .ref (b 14), .ref (b 15), .ref (b 16), .ref (b 17), .ref (b 18), .ref (b 19), .ref (b 20), .ref (b 21), .ref (b 22), .ref (b 23), .ref (b 24), .ref (b 25), .int (iZ (mu2w 26 0)), .ref (b 27), .ref (b 28), .ref (b 29), .ref (b 30), .ref (b 31), .ref (b 32), .ref (b 33), .ref (b 34), .int (iZ (mu2w 35 0)), .int (iZ (mu2w 36 0)), .int (iZ (mu2w 37 0)), .int (iZ (mu2w 38 0)), .int (iZ (mu2w 39 0)), .int (iZ (mu2w 40 0)), .ref (b 41), .ref (b 42)])) := hE2w.1
            have f4_ : en2w 24 0 = some (b 4, aI dA (102) (mu2w 4)) := hE2w.2 4 (by decide)
            refine lv_aload_n hx hb dX4_send_60 rfl (lv_at hl 0 rfl) ?_
            refine g_get (C := RX4) (T := TX4) (N := 43) (ci := 6) (v := .ref (b 4)) hx hb hts hi6 hown hK hW fM rfl 4 (by decide) (hts (.fieldLink RX4 7 "LongTransferModel" "begin" "[I") (by decide +kernel)) (fun _ h9 => h9) rfl dX4_send_61 ?_
            refine lv_aload_n hx hb dX4_send_64 rfl (lv_at hl 0 rfl) ?_
            refine g_get (C := RX4) (T := TX4) (N := 43) (ci := 6) (v := .int (iZ (mu2w 3 0))) hx hb hts hi6 hown hK hW fM rfl 3 (by decide) (hts (.fieldLink RX4 123 "LongTransferModel" "messages" "I") (by decide +kernel)) (fun _ h9 => h9) rfl dX4_send_65 ?_
            rw [t3_0]
            refine z_iconst hx hb dX4_send_68 ?_
            refine z_iadd hx hb dX4_send_69 ?_
            refine lv_aload_n hx hb dX4_send_70 rfl (lv_at hl 0 rfl) ?_
            refine g_get (C := RX4) (T := TX4) (N := 43) (ci := 6) (v := .ref (b 4)) hx hb hts hi6 hown hK hW fM rfl 4 (by decide) (hts (.fieldLink RX4 7 "LongTransferModel" "begin" "[I") (by decide +kernel)) (fun _ h9 => h9) rfl dX4_send_71 ?_
            refine lv_aload_n hx hb dX4_send_74 rfl (lv_at hl 0 rfl) ?_
            refine g_get (C := RX4) (T := TX4) (N := 43) (ci := 6) (v := .int (iZ (mu2w 3 0))) hx hb hts hi6 hown hK hW fM rfl 3 (by decide) (hts (.fieldLink RX4 123 "LongTransferModel" "messages" "I") (by decide +kernel)) (fun _ h9 => h9) rfl dX4_send_75 ?_
            rw [t3_0]
            refine g_iald hx hb hK hW f4_ (by omega) (by omega) (by omega) dX4_send_78 ?_
            refine lv_iload_n hx hb dX4_send_79 rfl (lv_at hl 1 rfl) ?_
            refine z_iadd hx hb dX4_send_80 ?_
            refine g_iast (x := ((mu2w 4) ((mu1w 3 (0)) + 1)) + n) hx hb hK hW hS f4_ (by omega) (by omega) (by omega) dX4_send_81 (fun H locs hW hS => ?_)
            obtain ⟨en3w, hen3w⟩ : ∃ x : en_T, x = e2 en2w 24 0 (some (b 4, aI dA (102) (uF (mu2w 4) (((mu1w 3 (0)) + 1) + 1) (((mu2w 4) ((mu1w 3 (0)) + 1)) + n)))) := ⟨_, rfl⟩
            rw [← hen3w] at hW
            obtain ⟨mu3w, hmu3w⟩ : ∃ x : Mu, x = u2 mu2w 4 (((mu1w 3 (0)) + 1) + 1) (((mu2w 4) ((mu1w 3 (0)) + 1)) + n) := ⟨_, rfl⟩
            have hE3w : EM dA b mu3w en3w := by rw [hen3w, hmu3w]; exact em_w hE2w (k0 := 4) (j := ((mu1w 3 (0)) + 1) + 1) (v := ((mu2w 4) ((mu1w 3 (0)) + 1)) + n) (by decide)
            have hF3w : FM en2w en3w := fun k i q => by rw [hen3w]; exact e2_k (fun w => q (by rw [w]; decide))
            have hF3w := FM.tr hF2w hF3w
            replace t3_0 : mu3w 3 (0) = (mu1w 3 (0)) + 1 := by rw [hmu3w]; exact (u2_n (fun q => absurd q.1 (by decide))).trans t3_0
            have fM : en3w 20 0 = some (b 0, .inr (6, [.int (iZ (mu3w 0 0)), .int (iZ (mu3w 1 0)), .long (lZ (mu3w 2 0)), .int (iZ (mu3w 3 0)), .ref (b 4), .ref (b 5), .ref (b 6), .ref (b 7), .ref (b 8), .ref (b 9), .ref (b 10), .ref (b 11), .ref (b 12), .ref (b 13), .ref (b 14), .ref (b 15), .ref (b 16), .ref (b 17), .ref (b 18), .ref (b 19), .ref (b 20), .ref (b 21), .ref (b 22), .ref (b 23), .ref (b 24), .ref (b 25), .int (iZ (mu3w 26 0)), .ref (b 27), .ref (b 28), .ref (b 29), .ref (b 30), .ref (b 31), .ref (b 32), .ref (b 33), .ref (b 34), .int (iZ (mu3w 35 0)), .int (iZ (mu3w 36 0)), .int (iZ (mu3w 37 0)), .int (iZ (mu3w 38 0)), .int (iZ (mu3w 39 0)), .int (iZ (mu3w 40 0)), .ref (b 41), .ref (b 42)])) := hE3w.1
            have f4_ : en3w 24 0 = some (b 4, aI dA (102) (mu3w 4)) := hE3w.2 4 (by decide)
            refine lv_aload_n hx hb dX4_send_82 rfl (lv_at hl 0 rfl) ?_
            refine g_get (C := RX4) (T := TX4) (N := 43) (ci := 6) (v := .int (iZ (mu3w 3 0))) hx hb hts hi6 hown hK hW fM rfl 3 (by decide) (hts (.fieldLink RX4 123 "LongTransferModel" "messages" "I") (by decide +kernel)) (fun _ h9 => h9) rfl dX4_send_83 ?_
            rw [t3_0]
            have e4 : mu2w 4 (mu1w 3 (0) + 1) = mu1w 4 (g 1 0 0 + 1) := by rw [hmu2w, u2_n (by omega)]; congr 1; omega
            have hfin : Rl (sSend g n) mu3w := by
              unfold sSend
              rw [if_neg (by omega), if_neg (by omega), if_neg (by omega)]
              exact rl_push hI hR1 (by omega) (by omega) (fun t j q => by rw [hmu3w, u2_n (by omega), hmu2w, u2_n (by omega)]) (by rw [t3_0]; omega) (by rw [show g 1 0 0 + 2 = mu1w 3 0 + 1 + 1 by omega, hmu3w, u2_s, e4])
            have hpst : Rl (sSend g n) mu3w := hfin
            exact W.iret hx hb hr (fun t ht hw => ⟨⟨_, (en3w, mu3w), rfl, ⟨congrArg iZ (by unfold aSend; rw [if_neg (by omega), if_neg (by omega), if_neg (by omega)]; omega), hE3w, hF3w, hpst⟩, by show Wd _ _ _ t.heap; rw [ht]; exact hW⟩, hS.F ht⟩) hS.2.2 dX4_send_86
          · refine lv_iload_n hx hb dX4_send_42 rfl (lv_at hl 1 rfl) ?_
            refine z_bipush hx hb dX4_send_43 (by decide) ?_
            refine z_icmp_le (tgt := 50) hx hb dX4_send_45 (by decide) (by omega) (by omega) (fun c_45 => ?_) (fun c_45 => ?_)
            · have t3_0 : mu1w 3 (0) = mu1w 3 (0) := rfl
              refine lv_aload_n hx hb dX4_send_50 rfl (lv_at hl 0 rfl) ?_
              refine lv_dup hx hb dX4_send_51 rfl ?_
              refine g_get (C := RX4) (T := TX4) (N := 43) (ci := 6) (v := .int (iZ (mu1w 3 0))) hx hb hts hi6 hown hK hW fM rfl 3 (by decide) (hts (.fieldLink RX4 123 "LongTransferModel" "messages" "I") (by decide +kernel)) (fun _ h9 => h9) rfl dX4_send_52 ?_
              refine z_iconst hx hb dX4_send_55 ?_
              refine z_iadd hx hb dX4_send_56 ?_
              refine g_put (C := RX4) (T := TX4) (N := 43) (ci := 6) (ty := .int) (v := .int (iZ ((mu1w 3 (0)) + 1))) (fs' := [.int (iZ (mu1w 0 0)), .int (iZ (mu1w 1 0)), .long (lZ (mu1w 2 0)), .int (iZ ((mu1w 3 (0)) + 1)), .ref (b 4), .ref (b 5), .ref (b 6), .ref (b 7), .ref (b 8), .ref (b 9), .ref (b 10), .ref (b 11), .ref (b 12), .ref (b 13), .ref (b 14), .ref (b 15), .ref (b 16), .ref (b 17), .ref (b 18), .ref (b 19), .ref (b 20), .ref (b 21), .ref (b 22), .ref (b 23), .ref (b 24), .ref (b 25), .int (iZ (mu1w 26 0)), .ref (b 27), .ref (b 28), .ref (b 29), .ref (b 30), .ref (b 31), .ref (b 32), .ref (b 33), .ref (b 34), .int (iZ (mu1w 35 0)), .int (iZ (mu1w 36 0)), .int (iZ (mu1w 37 0)), .int (iZ (mu1w 38 0)), .int (iZ (mu1w 39 0)), .int (iZ (mu1w 40 0)), .ref (b 41), .ref (b 42)]) hx hb hts hi6 tyX4 tyX4_ok nmX4 hown hK hW hS fM rfl 3 (by decide) (hts (.fieldLink RX4 123 "LongTransferModel" "messages" "I") (by decide +kernel)) (fun _ h9 => h9) rfl (by decide +kernel) rfl rfl (Nat.le_of_ble_eq_true rfl) dX4_send_57 rfl (fun H locs hW hS => ?_)
              obtain ⟨en4w, hen4w⟩ : ∃ x : en_T, x = e2 en1w 20 0 (some (b 0, .inr (6, [.int (iZ (mu1w 0 0)), .int (iZ (mu1w 1 0)), .long (lZ (mu1w 2 0)), .int (iZ ((mu1w 3 (0)) + 1)), .ref (b 4), .ref (b 5), .ref (b 6), .ref (b 7), .ref (b 8), .ref (b 9), .ref (b 10), .ref (b 11), .ref (b 12), .ref (b 13), .ref (b 14), .ref (b 15), .ref (b 16), .ref (b 17), .ref (b 18), .ref (b 19), .ref (b 20), .ref (b 21), .ref (b 22), .ref (b 23), .ref (b 24), .ref (b 25), .int (iZ (mu1w 26 0)), .ref (b 27), .ref (b 28), .ref (b 29), .ref (b 30), .ref (b 31), .ref (b 32), .ref (b 33), .ref (b 34), .int (iZ (mu1w 35 0)), .int (iZ (mu1w 36 0)), .int (iZ (mu1w 37 0)), .int (iZ (mu1w 38 0)), .int (iZ (mu1w 39 0)), .int (iZ (mu1w 40 0)), .ref (b 41), .ref (b 42)]))) := ⟨_, rfl⟩
              rw [← hen4w] at hW
              obtain ⟨mu4w, hmu4w⟩ : ∃ x : Mu, x = u2 mu1w 3 (0) ((mu1w 3 (0)) + 1) := ⟨_, rfl⟩
              have hE4w : EM dA b mu4w en4w := by rw [hen4w, hmu4w]; exact em_f hE1w (k0 := 3) (v := (mu1w 3 (0)) + 1) (by decide)
              have hF4w : FM en1w en4w := fun k i q => by rw [hen4w]; exact e2_k (fun w => q (by rw [w]; decide))
              have hF4w := FM.tr hF1w hF4w
              replace t3_0 : mu4w 3 (0) = (mu1w 3 (0)) + 1 := by rw [hmu4w]; exact u2_s _ _ _ _
              have fM : en4w 20 0 = some (b 0, .inr (6, [.int (iZ (mu4w 0 0)), .int (iZ (mu4w 1 0)), .long (lZ (mu4w 2 0)), .int (iZ (mu4w 3 0)), .ref (b 4), .ref (b 5), .ref (b 6), .ref (b 7), .ref (b 8), .ref (b 9), .ref (b 10), .ref (b 11), .ref (b 12), .ref (b 13), .ref (b 14), .ref (b 15), .ref (b 16), .ref (b 17), .ref (b 18), .ref (b 19), .ref (b 20), .ref (b 21), .ref (b 22), .ref (b 23), .ref (b 24), .ref (b 25), .int (iZ (mu4w 26 0)), .ref (b 27), .ref (b 28), .ref (b 29), .ref (b 30), .ref (b 31), .ref (b 32), .ref (b 33), .ref (b 34), .int (iZ (mu4w 35 0)), .int (iZ (mu4w 36 0)), .int (iZ (mu4w 37 0)), .int (iZ (mu4w 38 0)), .int (iZ (mu4w 39 0)), .int (iZ (mu4w 40 0)), .ref (b 41), .ref (b 42)])) := hE4w.1
              have f4_ : en4w 24 0 = some (b 4, aI dA (102) (mu4w 4)) := hE4w.2 4 (by decide)
              refine lv_aload_n hx hb dX4_send_60 rfl (lv_at hl 0 rfl) ?_
              refine g_get (C := RX4) (T := TX4) (N := 43) (ci := 6) (v := .ref (b 4)) hx hb hts hi6 hown hK hW fM rfl 4 (by decide) (hts (.fieldLink RX4 7 "LongTransferModel" "begin" "[I") (by decide +kernel)) (fun _ h9 => h9) rfl dX4_send_61 ?_
              refine lv_aload_n hx hb dX4_send_64 rfl (lv_at hl 0 rfl) ?_
              refine g_get (C := RX4) (T := TX4) (N := 43) (ci := 6) (v := .int (iZ (mu4w 3 0))) hx hb hts hi6 hown hK hW fM rfl 3 (by decide) (hts (.fieldLink RX4 123 "LongTransferModel" "messages" "I") (by decide +kernel)) (fun _ h9 => h9) rfl dX4_send_65 ?_
              rw [t3_0]
              refine z_iconst hx hb dX4_send_68 ?_
              refine z_iadd hx hb dX4_send_69 ?_
              refine lv_aload_n hx hb dX4_send_70 rfl (lv_at hl 0 rfl) ?_
              refine g_get (C := RX4) (T := TX4) (N := 43) (ci := 6) (v := .ref (b 4)) hx hb hts hi6 hown hK hW fM rfl 4 (by decide) (hts (.fieldLink RX4 7 "LongTransferModel" "begin" "[I") (by decide +kernel)) (fun _ h9 => h9) rfl dX4_send_71 ?_
              refine lv_aload_n hx hb dX4_send_74 rfl (lv_at hl 0 rfl) ?_
              refine g_get (C := RX4) (T := TX4) (N := 43) (ci := 6) (v := .int (iZ (mu4w 3 0))) hx hb hts hi6 hown hK hW fM rfl 3 (by decide) (hts (.fieldLink RX4 123 "LongTransferModel" "messages" "I") (by decide +kernel)) (fun _ h9 => h9) rfl dX4_send_75 ?_
              rw [t3_0]
              refine g_iald hx hb hK hW f4_ (by omega) (by omega) (by omega) dX4_send_78 ?_
              refine lv_iload_n hx hb dX4_send_79 rfl (lv_at hl 1 rfl) ?_
              refine z_iadd hx hb dX4_send_80 ?_
              refine g_iast (x := ((mu4w 4) ((mu1w 3 (0)) + 1)) + n) hx hb hK hW hS f4_ (by omega) (by omega) (by omega) dX4_send_81 (fun H locs hW hS => ?_)
              obtain ⟨en5w, hen5w⟩ : ∃ x : en_T, x = e2 en4w 24 0 (some (b 4, aI dA (102) (uF (mu4w 4) (((mu1w 3 (0)) + 1) + 1) (((mu4w 4) ((mu1w 3 (0)) + 1)) + n)))) := ⟨_, rfl⟩
              rw [← hen5w] at hW
              obtain ⟨mu5w, hmu5w⟩ : ∃ x : Mu, x = u2 mu4w 4 (((mu1w 3 (0)) + 1) + 1) (((mu4w 4) ((mu1w 3 (0)) + 1)) + n) := ⟨_, rfl⟩
              have hE5w : EM dA b mu5w en5w := by rw [hen5w, hmu5w]; exact em_w hE4w (k0 := 4) (j := ((mu1w 3 (0)) + 1) + 1) (v := ((mu4w 4) ((mu1w 3 (0)) + 1)) + n) (by decide)
              have hF5w : FM en4w en5w := fun k i q => by rw [hen5w]; exact e2_k (fun w => q (by rw [w]; decide))
              have hF5w := FM.tr hF4w hF5w
              replace t3_0 : mu5w 3 (0) = (mu1w 3 (0)) + 1 := by rw [hmu5w]; exact (u2_n (fun q => absurd q.1 (by decide))).trans t3_0
              have fM : en5w 20 0 = some (b 0, .inr (6, [.int (iZ (mu5w 0 0)), .int (iZ (mu5w 1 0)), .long (lZ (mu5w 2 0)), .int (iZ (mu5w 3 0)), .ref (b 4), .ref (b 5), .ref (b 6), .ref (b 7), .ref (b 8), .ref (b 9), .ref (b 10), .ref (b 11), .ref (b 12), .ref (b 13), .ref (b 14), .ref (b 15), .ref (b 16), .ref (b 17), .ref (b 18), .ref (b 19), .ref (b 20), .ref (b 21), .ref (b 22), .ref (b 23), .ref (b 24), .ref (b 25), .int (iZ (mu5w 26 0)), .ref (b 27), .ref (b 28), .ref (b 29), .ref (b 30), .ref (b 31), .ref (b 32), .ref (b 33), .ref (b 34), .int (iZ (mu5w 35 0)), .int (iZ (mu5w 36 0)), .int (iZ (mu5w 37 0)), .int (iZ (mu5w 38 0)), .int (iZ (mu5w 39 0)), .int (iZ (mu5w 40 0)), .ref (b 41), .ref (b 42)])) := hE5w.1
              have f4_ : en5w 24 0 = some (b 4, aI dA (102) (mu5w 4)) := hE5w.2 4 (by decide)
              refine lv_aload_n hx hb dX4_send_82 rfl (lv_at hl 0 rfl) ?_
              refine g_get (C := RX4) (T := TX4) (N := 43) (ci := 6) (v := .int (iZ (mu5w 3 0))) hx hb hts hi6 hown hK hW fM rfl 3 (by decide) (hts (.fieldLink RX4 123 "LongTransferModel" "messages" "I") (by decide +kernel)) (fun _ h9 => h9) rfl dX4_send_83 ?_
              rw [t3_0]
              have e4 : mu4w 4 (mu1w 3 (0) + 1) = mu1w 4 (g 1 0 0 + 1) := by rw [hmu4w, u2_n (by omega)]; congr 1; omega
              have hfin : Rl (sSend g n) mu5w := by
                unfold sSend
                rw [if_neg (by omega), if_neg (by omega), if_neg (by omega)]
                exact rl_push hI hR1 (by omega) (by omega) (fun t j q => by rw [hmu5w, u2_n (by omega), hmu4w, u2_n (by omega)]) (by rw [t3_0]; omega) (by rw [show g 1 0 0 + 2 = mu1w 3 0 + 1 + 1 by omega, hmu5w, u2_s, e4])
              have hpst : Rl (sSend g n) mu5w := hfin
              exact W.iret hx hb hr (fun t ht hw => ⟨⟨_, (en5w, mu5w), rfl, ⟨congrArg iZ (by unfold aSend; rw [if_neg (by omega), if_neg (by omega), if_neg (by omega)]; omega), hE5w, hF5w, hpst⟩, by show Wd _ _ _ t.heap; rw [ht]; exact hW⟩, hS.F ht⟩) hS.2.2 dX4_send_86
            · refine z_iconst hx hb dX4_send_48 ?_
              have hpst : Rl (sSend g n) mu1w := by unfold sSend; rw [if_neg (by omega), if_neg (by omega), if_pos (by omega)]; exact hR1
              exact W.iret hx hb hr (fun t ht hw => ⟨⟨_, (en1w, mu1w), rfl, ⟨congrArg iZ (by unfold aSend; rw [if_neg (by omega), if_neg (by omega), if_pos (by omega)]), hE1w, hF1w, hpst⟩, by show Wd _ _ _ t.heap; rw [ht]; exact hW⟩, hS.F ht⟩) hS.2.2 dX4_send_49
      · refine z_bipush hx hb dX4_send_28 (by decide) ?_
        have hpst : Rl (sSend g n) mu1w := by unfold sSend; rw [if_neg (by omega), if_pos (by omega)]; exact hR1
        exact W.iret hx hb hr (fun t ht hw => ⟨⟨_, (en1w, mu1w), rfl, ⟨congrArg iZ (by unfold aSend; rw [if_neg (by omega), if_pos (by omega)]), hE1w, hF1w, hpst⟩, by show Wd _ _ _ t.heap; rw [ht]; exact hW⟩, hS.F ht⟩) hS.2.2 dX4_send_30
    · refine z_bipush hx hb dX4_send_16 (by decide) ?_
      have hpst : Rl (sSend g n) mu1w := by unfold sSend; rw [if_pos (by omega)]; exact hR1
      exact W.iret hx hb hr (fun t ht hw => ⟨⟨_, (en1w, mu1w), rfl, ⟨congrArg iZ (by unfold aSend; rw [if_pos (by omega)]), hE1w, hF1w, hpst⟩, by show Wd _ _ _ t.heap; rw [ht]; exact hW⟩, hS.F ht⟩) hS.2.2 dX4_send_18
set_option maxHeartbeats 4000000 in
set_option maxRecDepth 100000 in
theorem c_X4_frame (l : Launch) (D : va_G) (dA : Nat → ClassId) (z : Nat → Nat) (en : en_T) (b : Nat → Nat) (mu : Mu) (g : St) (ff w9 : Int) (hff : iB ff) (hw9 : iB w9) (hI : IB g) (hR : Rl g mu) (hE : EM dA b mu en) : Met l yX4_frame wsX4_frame ({ frames := 0, cells := 0, slots := 0, locals := 0 }) (gP D dA z en [.ref (b 0), .int (iZ (ff)), .int (iZ (w9))]) (va_Qi (fun (r8 : Int32) (u : en_T × Mu) => r8 = iZ (aFrm g ff w9) ∧ EM dA b u.2 u.1 ∧ FM en u.1 ∧ Rl g u.2) (fun u t9 => Wd D (z 0) u.1 t9.heap) (fun q => z 0 ≤ q)) (0) (0) (fun q => z 0 ≤ q) := by
  refine gMet (own := RX4) (cc := cX4_frame) (maxL := 3) (ret := (some .int)) (by decide) rfl rfl (Nat.le_of_ble_eq_true rfl) ?_
  intro p e s m below meth c hx hb hml hown hts hr hlocks hnm hg hW ls hl
  have hK := hg.1
  have hS : va_S (fun q => z 0 ≤ q) s.heap s.heap [] := va_S.rf
  have hi6 : ∀ w ∈ u_ws RX4 TX4 43, w ∈ wsX4_frame := by decide +kernel
  have hl : lv_has ls 3 [(0, .ref (b 0)), (1, .int (iZ (ff))), (2, .int (iZ (w9)))] := hl
  have hx0 := hI.1
  unfold IX at hx0
  have hL0 := hI.2.1
  unfold IL at hL0
  have fM : en 20 0 = some (b 0, .inr (6, [.int (iZ (mu 0 0)), .int (iZ (mu 1 0)), .long (lZ (mu 2 0)), .int (iZ (mu 3 0)), .ref (b 4), .ref (b 5), .ref (b 6), .ref (b 7), .ref (b 8), .ref (b 9), .ref (b 10), .ref (b 11), .ref (b 12), .ref (b 13), .ref (b 14), .ref (b 15), .ref (b 16), .ref (b 17), .ref (b 18), .ref (b 19), .ref (b 20), .ref (b 21), .ref (b 22), .ref (b 23), .ref (b 24), .ref (b 25), .int (iZ (mu 26 0)), .ref (b 27), .ref (b 28), .ref (b 29), .ref (b 30), .ref (b 31), .ref (b 32), .ref (b 33), .ref (b 34), .int (iZ (mu 35 0)), .int (iZ (mu 36 0)), .int (iZ (mu 37 0)), .int (iZ (mu 38 0)), .int (iZ (mu 39 0)), .int (iZ (mu 40 0)), .ref (b 41), .ref (b 42)])) := hE.1
  have f27_ : en 47 0 = some (b 27, aI dA (6001) (mu 27)) := hE.2 27 (by decide)
  have f28_ : en 48 0 = some (b 28, aI dA (6001) (mu 28)) := hE.2 28 (by decide)
  have f29_ : en 49 0 = some (b 29, aI dA (6001) (mu 29)) := hE.2 29 (by decide)
  have f30_ : en 50 0 = some (b 30, aI dA (6001) (mu 30)) := hE.2 30 (by decide)
  have f31_ : en 51 0 = some (b 31, aI dA (6001) (mu 31)) := hE.2 31 (by decide)
  have f32_ : en 52 0 = some (b 32, aJ dA (6001) (mu 32)) := hE.2 32 (by decide)
  have f34_ : en 54 0 = some (b 34, aB dA (42007) (mu 34)) := hE.2 34 (by decide)
  refine lv_aload_n hx hb dX4_frame_0 rfl (lv_at hl 0 rfl) ?_
  refine z_iconst hx hb dX4_frame_1 ?_
  refine g_put (C := RX4) (T := TX4) (N := 43) (ci := 6) (ty := .int) (v := .int (iZ (0))) (fs' := [.int (iZ (0)), .int (iZ (mu 1 0)), .long (lZ (mu 2 0)), .int (iZ (mu 3 0)), .ref (b 4), .ref (b 5), .ref (b 6), .ref (b 7), .ref (b 8), .ref (b 9), .ref (b 10), .ref (b 11), .ref (b 12), .ref (b 13), .ref (b 14), .ref (b 15), .ref (b 16), .ref (b 17), .ref (b 18), .ref (b 19), .ref (b 20), .ref (b 21), .ref (b 22), .ref (b 23), .ref (b 24), .ref (b 25), .int (iZ (mu 26 0)), .ref (b 27), .ref (b 28), .ref (b 29), .ref (b 30), .ref (b 31), .ref (b 32), .ref (b 33), .ref (b 34), .int (iZ (mu 35 0)), .int (iZ (mu 36 0)), .int (iZ (mu 37 0)), .int (iZ (mu 38 0)), .int (iZ (mu 39 0)), .int (iZ (mu 40 0)), .ref (b 41), .ref (b 42)]) hx hb hts hi6 tyX4 tyX4_ok nmX4 hown hK hW hS fM rfl 0 (by decide) (hts (.fieldLink RX4 120 "LongTransferModel" "code" "I") (by decide +kernel)) (fun _ h9 => h9) rfl (by decide +kernel) rfl rfl (Nat.le_of_ble_eq_true rfl) dX4_frame_2 rfl (fun H locs hW hS => ?_)
  obtain ⟨en1w, hen1w⟩ : ∃ x : en_T, x = e2 en 20 0 (some (b 0, .inr (6, [.int (iZ (0)), .int (iZ (mu 1 0)), .long (lZ (mu 2 0)), .int (iZ (mu 3 0)), .ref (b 4), .ref (b 5), .ref (b 6), .ref (b 7), .ref (b 8), .ref (b 9), .ref (b 10), .ref (b 11), .ref (b 12), .ref (b 13), .ref (b 14), .ref (b 15), .ref (b 16), .ref (b 17), .ref (b 18), .ref (b 19), .ref (b 20), .ref (b 21), .ref (b 22), .ref (b 23), .ref (b 24), .ref (b 25), .int (iZ (mu 26 0)), .ref (b 27), .ref (b 28), .ref (b 29), .ref (b 30), .ref (b 31), .ref (b 32), .ref (b 33), .ref (b 34), .int (iZ (mu 35 0)), .int (iZ (mu 36 0)), .int (iZ (mu 37 0)), .int (iZ (mu 38 0)), .int (iZ (mu 39 0)), .int (iZ (mu 40 0)), .ref (b 41), .ref (b 42)]))) := ⟨_, rfl⟩
  rw [← hen1w] at hW
  obtain ⟨mu1w, hmu1w⟩ : ∃ x : Mu, x = u2 mu 0 (0) (0) := ⟨_, rfl⟩
  have hE1w : EM dA b mu1w en1w := by rw [hen1w, hmu1w]; exact em_f hE (k0 := 0) (v := 0) (by decide)
  have hF1w : FM en en1w := fun k i q => by rw [hen1w]; exact e2_k (fun w => q (by rw [w]; decide))
  have fM : en1w 20 0 = some (b 0, .inr (6, [.int (iZ (mu1w 0 0)), .int (iZ (mu1w 1 0)), .long (lZ (mu1w 2 0)), .int (iZ (mu1w 3 0)), .ref (b 4), .ref (b 5), .ref (b 6), .ref (b 7), .ref (b 8), .ref (b 9), .ref (b 10), .ref (b 11), .ref (b 12), .ref (b 13), .ref (b 14), .ref (b 15), .ref (b 16), .ref (b 17), .ref (b 18), .ref (b 19), .ref (b 20), .ref (b 21), .ref (b 22), .ref (b 23), .ref (b 24), .ref (b 25), .int (iZ (mu1w 26 0)), .ref (b 27), .ref (b 28), .ref (b 29), .ref (b 30), .ref (b 31), .ref (b 32), .ref (b 33), .ref (b 34), .int (iZ (mu1w 35 0)), .int (iZ (mu1w 36 0)), .int (iZ (mu1w 37 0)), .int (iZ (mu1w 38 0)), .int (iZ (mu1w 39 0)), .int (iZ (mu1w 40 0)), .ref (b 41), .ref (b 42)])) := hE1w.1
  have f27_ : en1w 47 0 = some (b 27, aI dA (6001) (mu1w 27)) := hE1w.2 27 (by decide)
  have f28_ : en1w 48 0 = some (b 28, aI dA (6001) (mu1w 28)) := hE1w.2 28 (by decide)
  have f29_ : en1w 49 0 = some (b 29, aI dA (6001) (mu1w 29)) := hE1w.2 29 (by decide)
  have f30_ : en1w 50 0 = some (b 30, aI dA (6001) (mu1w 30)) := hE1w.2 30 (by decide)
  have f31_ : en1w 51 0 = some (b 31, aI dA (6001) (mu1w 31)) := hE1w.2 31 (by decide)
  have f32_ : en1w 52 0 = some (b 32, aJ dA (6001) (mu1w 32)) := hE1w.2 32 (by decide)
  have f34_ : en1w 54 0 = some (b 34, aB dA (42007) (mu1w 34)) := hE1w.2 34 (by decide)
  have hR1 : Rl g mu1w := rl_m hI hR (fun t j q => by rw [hmu1w]; exact u2_n (by omega))
  have rX0 := hR1.1
  unfold RX at rX0
  refine lv_iload_n hx hb dX4_frame_5 rfl (lv_at hl 1 rfl) ?_
  refine z_if_ne (tgt := 18) hx hb dX4_frame_6 (by decide) (by omega) (fun c_6 => ?_) (fun c_6 => ?_)
  · refine lv_iload_n hx hb dX4_frame_18 rfl (lv_at hl 1 rfl) ?_
    refine z_iconst hx hb dX4_frame_19 ?_
    refine z_icmp_lt (tgt := 31) hx hb dX4_frame_20 (by decide) (by omega) (by omega) (fun c_20 => ?_) (fun c_20 => ?_)
    · refine z_iconst hx hb dX4_frame_31 ?_
      have hpst : Rl g mu1w := hR1
      exact W.iret hx hb hr (fun t ht hw => ⟨⟨_, (en1w, mu1w), rfl, ⟨congrArg iZ (by unfold aFrm; rw [if_neg (by omega), if_neg (by omega)]), hE1w, hF1w, hpst⟩, by show Wd _ _ _ t.heap; rw [ht]; exact hW⟩, hS.F ht⟩) hS.2.2 dX4_frame_32
    · refine lv_iload_n hx hb dX4_frame_23 rfl (lv_at hl 1 rfl) ?_
      refine lv_aload_n hx hb dX4_frame_24 rfl (lv_at hl 0 rfl) ?_
      refine g_get (C := RX4) (T := TX4) (N := 43) (ci := 6) (v := .int (iZ (mu1w 26 0))) hx hb hts hi6 hown hK hW fM rfl 26 (by decide) (hts (.fieldLink RX4 134 "LongTransferModel" "frames" "I") (by decide +kernel)) (fun _ h9 => h9) rfl dX4_frame_25 ?_
      refine z_icmp_le (tgt := 33) hx hb dX4_frame_28 (by decide) (by omega) (by omega) (fun c_28 => ?_) (fun c_28 => ?_)
      · have hf0 : 1 ≤ ff ∧ ff ≤ g 1 1 0 := by omega
        obtain ⟨⟨r27, r28, r29, r30, r31, r32⟩, -, r34⟩ := hR1.2.2.2.2.2.1.1 ff hf0.1 hf0.2
        have hIFf := hI.2.2.2.1 ff hf0.1 hf0.2
        unfold IF at hIFf
        obtain ⟨f20, f21, f22, f23, f24, f25, f27, f26, f263, -⟩ := hIFf
        have hfr : aFrm g ff w9 = (if 8 ≤ w9 ∧ w9 ≤ 14 then (if 0 ≤ w9 - 8 ∧ w9 - 8 < g 26 ff 0 then g 28 ff (w9 - 8) % 256 else 0) else if w9 = 0 then g 20 ff 0 else if w9 = 1 then g 21 ff 0 else if w9 = 2 then g 22 ff 0 else if w9 = 3 then g 23 ff 0 else if w9 = 4 then g 25 ff 0 else if w9 = 5 then g 24 ff 0 else -2) := by unfold aFrm; rw [if_neg (by omega), if_pos hf0]
        refine lv_iload_n hx hb dX4_frame_33 rfl (lv_at hl 2 rfl) ?_
        refine z_bipush hx hb dX4_frame_34 (by decide) ?_
        refine z_icmp_lt (tgt := 91) hx hb dX4_frame_36 (by decide) (by omega) (by omega) (fun c_36 => ?_) (fun c_36 => ?_)
        · refine lv_iload_n hx hb dX4_frame_91 rfl (lv_at hl 2 rfl) ?_
          refine z_if_ne (tgt := 102) hx hb dX4_frame_92 (by decide) (by omega) (fun c_92 => ?_) (fun c_92 => ?_)
          · refine lv_iload_n hx hb dX4_frame_102 rfl (lv_at hl 2 rfl) ?_
            refine z_iconst hx hb dX4_frame_103 ?_
            refine z_icmp_ne (tgt := 114) hx hb dX4_frame_104 (by decide) (by omega) (by omega) (fun c_104 => ?_) (fun c_104 => ?_)
            · refine lv_iload_n hx hb dX4_frame_114 rfl (lv_at hl 2 rfl) ?_
              refine z_iconst hx hb dX4_frame_115 ?_
              refine z_icmp_ne (tgt := 126) hx hb dX4_frame_116 (by decide) (by omega) (by omega) (fun c_116 => ?_) (fun c_116 => ?_)
              · refine lv_iload_n hx hb dX4_frame_126 rfl (lv_at hl 2 rfl) ?_
                refine z_iconst hx hb dX4_frame_127 ?_
                refine z_icmp_ne (tgt := 138) hx hb dX4_frame_128 (by decide) (by omega) (by omega) (fun c_128 => ?_) (fun c_128 => ?_)
                · refine lv_iload_n hx hb dX4_frame_138 rfl (lv_at hl 2 rfl) ?_
                  refine z_iconst hx hb dX4_frame_139 ?_
                  refine z_icmp_ne (tgt := 151) hx hb dX4_frame_140 (by decide) (by omega) (by omega) (fun c_140 => ?_) (fun c_140 => ?_)
                  · refine lv_iload_n hx hb dX4_frame_151 rfl (lv_at hl 2 rfl) ?_
                    refine z_iconst hx hb dX4_frame_152 ?_
                    refine z_icmp_ne (tgt := 165) hx hb dX4_frame_153 (by decide) (by omega) (by omega) (fun c_153 => ?_) (fun c_153 => ?_)
                    · refine z_bipush hx hb dX4_frame_165 (by decide) ?_
                      have hpst : Rl g mu1w := hR1
                      exact W.iret hx hb hr (fun t ht hw => ⟨⟨_, (en1w, mu1w), rfl, ⟨congrArg iZ (by rw [hfr, if_neg (by omega), if_neg (by omega), if_neg (by omega), if_neg (by omega), if_neg (by omega), if_neg (by omega), if_neg (by omega)]), hE1w, hF1w, hpst⟩, by show Wd _ _ _ t.heap; rw [ht]; exact hW⟩, hS.F ht⟩) hS.2.2 dX4_frame_167
                    · refine lv_aload_n hx hb dX4_frame_156 rfl (lv_at hl 0 rfl) ?_
                      refine g_get (C := RX4) (T := TX4) (N := 43) (ci := 6) (v := .ref (b 31)) hx hb hts hi6 hown hK hW fM rfl 31 (by decide) (hts (.fieldLink RX4 93 "LongTransferModel" "apart" "[I") (by decide +kernel)) (fun _ h9 => h9) rfl dX4_frame_157 ?_
                      refine lv_iload_n hx hb dX4_frame_160 rfl (lv_at hl 1 rfl) ?_
                      refine g_iald hx hb hK hW f31_ (by omega) (by omega) (by omega) dX4_frame_161 ?_
                      refine lv_goto (tgt := 167) hx hb dX4_frame_162 (by decide) ?_
                      have hpst : Rl g mu1w := hR1
                      exact W.iret hx hb hr (fun t ht hw => ⟨⟨_, (en1w, mu1w), rfl, ⟨congrArg iZ (by rw [hfr, if_neg (by omega), if_neg (by omega), if_neg (by omega), if_neg (by omega), if_neg (by omega), if_neg (by omega), if_pos (by omega)]; omega), hE1w, hF1w, hpst⟩, by show Wd _ _ _ t.heap; rw [ht]; exact hW⟩, hS.F ht⟩) hS.2.2 dX4_frame_167
                  · refine lv_aload_n hx hb dX4_frame_143 rfl (lv_at hl 0 rfl) ?_
                    refine g_get (C := RX4) (T := TX4) (N := 43) (ci := 6) (v := .ref (b 32)) hx hb hts hi6 hown hK hW fM rfl 32 (by decide) (hts (.fieldLink RX4 96 "LongTransferModel" "time" "[J") (by decide +kernel)) (fun _ h9 => h9) rfl dX4_frame_144 ?_
                    refine lv_iload_n hx hb dX4_frame_147 rfl (lv_at hl 1 rfl) ?_
                    refine g_lald hx hb hK hW f32_ (by omega) (by omega) (by omega) dX4_frame_148 ?_
                    refine z_l2i hx hb dX4_frame_149 ?_
                    have hpst : Rl g mu1w := hR1
                    exact W.iret hx hb hr (fun t ht hw => ⟨⟨_, (en1w, mu1w), rfl, ⟨congrArg iZ (by rw [hfr, if_neg (by omega), if_neg (by omega), if_neg (by omega), if_neg (by omega), if_neg (by omega), if_pos (by omega)]; omega), hE1w, hF1w, hpst⟩, by show Wd _ _ _ t.heap; rw [ht]; exact hW⟩, hS.F ht⟩) hS.2.2 dX4_frame_150
                · refine lv_aload_n hx hb dX4_frame_131 rfl (lv_at hl 0 rfl) ?_
                  refine g_get (C := RX4) (T := TX4) (N := 43) (ci := 6) (v := .ref (b 30)) hx hb hts hi6 hown hK hW fM rfl 30 (by decide) (hts (.fieldLink RX4 90 "LongTransferModel" "count" "[I") (by decide +kernel)) (fun _ h9 => h9) rfl dX4_frame_132 ?_
                  refine lv_iload_n hx hb dX4_frame_135 rfl (lv_at hl 1 rfl) ?_
                  refine g_iald hx hb hK hW f30_ (by omega) (by omega) (by omega) dX4_frame_136 ?_
                  have hpst : Rl g mu1w := hR1
                  exact W.iret hx hb hr (fun t ht hw => ⟨⟨_, (en1w, mu1w), rfl, ⟨congrArg iZ (by rw [hfr, if_neg (by omega), if_neg (by omega), if_neg (by omega), if_neg (by omega), if_pos (by omega)]; omega), hE1w, hF1w, hpst⟩, by show Wd _ _ _ t.heap; rw [ht]; exact hW⟩, hS.F ht⟩) hS.2.2 dX4_frame_137
              · refine lv_aload_n hx hb dX4_frame_119 rfl (lv_at hl 0 rfl) ?_
                refine g_get (C := RX4) (T := TX4) (N := 43) (ci := 6) (v := .ref (b 29)) hx hb hts hi6 hown hK hW fM rfl 29 (by decide) (hts (.fieldLink RX4 87 "LongTransferModel" "number" "[I") (by decide +kernel)) (fun _ h9 => h9) rfl dX4_frame_120 ?_
                refine lv_iload_n hx hb dX4_frame_123 rfl (lv_at hl 1 rfl) ?_
                refine g_iald hx hb hK hW f29_ (by omega) (by omega) (by omega) dX4_frame_124 ?_
                have hpst : Rl g mu1w := hR1
                exact W.iret hx hb hr (fun t ht hw => ⟨⟨_, (en1w, mu1w), rfl, ⟨congrArg iZ (by rw [hfr, if_neg (by omega), if_neg (by omega), if_neg (by omega), if_pos (by omega)]; omega), hE1w, hF1w, hpst⟩, by show Wd _ _ _ t.heap; rw [ht]; exact hW⟩, hS.F ht⟩) hS.2.2 dX4_frame_125
            · refine lv_aload_n hx hb dX4_frame_107 rfl (lv_at hl 0 rfl) ?_
              refine g_get (C := RX4) (T := TX4) (N := 43) (ci := 6) (v := .ref (b 28)) hx hb hts hi6 hown hK hW fM rfl 28 (by decide) (hts (.fieldLink RX4 84 "LongTransferModel" "of" "[I") (by decide +kernel)) (fun _ h9 => h9) rfl dX4_frame_108 ?_
              refine lv_iload_n hx hb dX4_frame_111 rfl (lv_at hl 1 rfl) ?_
              refine g_iald hx hb hK hW f28_ (by omega) (by omega) (by omega) dX4_frame_112 ?_
              have hpst : Rl g mu1w := hR1
              exact W.iret hx hb hr (fun t ht hw => ⟨⟨_, (en1w, mu1w), rfl, ⟨congrArg iZ (by rw [hfr, if_neg (by omega), if_neg (by omega), if_pos (by omega)]; omega), hE1w, hF1w, hpst⟩, by show Wd _ _ _ t.heap; rw [ht]; exact hW⟩, hS.F ht⟩) hS.2.2 dX4_frame_113
          · refine lv_aload_n hx hb dX4_frame_95 rfl (lv_at hl 0 rfl) ?_
            refine g_get (C := RX4) (T := TX4) (N := 43) (ci := 6) (v := .ref (b 27)) hx hb hts hi6 hown hK hW fM rfl 27 (by decide) (hts (.fieldLink RX4 81 "LongTransferModel" "kind" "[I") (by decide +kernel)) (fun _ h9 => h9) rfl dX4_frame_96 ?_
            refine lv_iload_n hx hb dX4_frame_99 rfl (lv_at hl 1 rfl) ?_
            refine g_iald hx hb hK hW f27_ (by omega) (by omega) (by omega) dX4_frame_100 ?_
            have hpst : Rl g mu1w := hR1
            exact W.iret hx hb hr (fun t ht hw => ⟨⟨_, (en1w, mu1w), rfl, ⟨congrArg iZ (by rw [hfr, if_neg (by omega), if_pos (by omega)]; omega), hE1w, hF1w, hpst⟩, by show Wd _ _ _ t.heap; rw [ht]; exact hW⟩, hS.F ht⟩) hS.2.2 dX4_frame_101
        · refine lv_iload_n hx hb dX4_frame_39 rfl (lv_at hl 2 rfl) ?_
          refine z_bipush hx hb dX4_frame_40 (by decide) ?_
          refine z_icmp_ge (tgt := 91) hx hb dX4_frame_42 (by decide) (by omega) (by omega) (fun c_42 => ?_) (fun c_42 => ?_)
          · refine lv_iload_n hx hb dX4_frame_91 rfl (lv_at hl 2 rfl) ?_
            refine z_if_ne (tgt := 102) hx hb dX4_frame_92 (by decide) (by omega) (fun c_92 => ?_) (fun c_92 => ?_)
            · refine lv_iload_n hx hb dX4_frame_102 rfl (lv_at hl 2 rfl) ?_
              refine z_iconst hx hb dX4_frame_103 ?_
              refine z_icmp_ne (tgt := 114) hx hb dX4_frame_104 (by decide) (by omega) (by omega) (fun c_104 => ?_) (fun c_104 => ?_)
              · refine lv_iload_n hx hb dX4_frame_114 rfl (lv_at hl 2 rfl) ?_
                refine z_iconst hx hb dX4_frame_115 ?_
                refine z_icmp_ne (tgt := 126) hx hb dX4_frame_116 (by decide) (by omega) (by omega) (fun c_116 => ?_) (fun c_116 => ?_)
                · refine lv_iload_n hx hb dX4_frame_126 rfl (lv_at hl 2 rfl) ?_
                  refine z_iconst hx hb dX4_frame_127 ?_
                  refine z_icmp_ne (tgt := 138) hx hb dX4_frame_128 (by decide) (by omega) (by omega) (fun c_128 => ?_) (fun c_128 => ?_)
                  · refine lv_iload_n hx hb dX4_frame_138 rfl (lv_at hl 2 rfl) ?_
                    refine z_iconst hx hb dX4_frame_139 ?_
                    refine z_icmp_ne (tgt := 151) hx hb dX4_frame_140 (by decide) (by omega) (by omega) (fun c_140 => ?_) (fun c_140 => ?_)
                    · refine lv_iload_n hx hb dX4_frame_151 rfl (lv_at hl 2 rfl) ?_
                      refine z_iconst hx hb dX4_frame_152 ?_
                      refine z_icmp_ne (tgt := 165) hx hb dX4_frame_153 (by decide) (by omega) (by omega) (fun c_153 => ?_) (fun c_153 => ?_)
                      · refine z_bipush hx hb dX4_frame_165 (by decide) ?_
                        have hpst : Rl g mu1w := hR1
                        exact W.iret hx hb hr (fun t ht hw => ⟨⟨_, (en1w, mu1w), rfl, ⟨congrArg iZ (by rw [hfr, if_neg (by omega), if_neg (by omega), if_neg (by omega), if_neg (by omega), if_neg (by omega), if_neg (by omega), if_neg (by omega)]), hE1w, hF1w, hpst⟩, by show Wd _ _ _ t.heap; rw [ht]; exact hW⟩, hS.F ht⟩) hS.2.2 dX4_frame_167
                      · refine lv_aload_n hx hb dX4_frame_156 rfl (lv_at hl 0 rfl) ?_
                        refine g_get (C := RX4) (T := TX4) (N := 43) (ci := 6) (v := .ref (b 31)) hx hb hts hi6 hown hK hW fM rfl 31 (by decide) (hts (.fieldLink RX4 93 "LongTransferModel" "apart" "[I") (by decide +kernel)) (fun _ h9 => h9) rfl dX4_frame_157 ?_
                        refine lv_iload_n hx hb dX4_frame_160 rfl (lv_at hl 1 rfl) ?_
                        refine g_iald hx hb hK hW f31_ (by omega) (by omega) (by omega) dX4_frame_161 ?_
                        refine lv_goto (tgt := 167) hx hb dX4_frame_162 (by decide) ?_
                        have hpst : Rl g mu1w := hR1
                        exact W.iret hx hb hr (fun t ht hw => ⟨⟨_, (en1w, mu1w), rfl, ⟨congrArg iZ (by rw [hfr, if_neg (by omega), if_neg (by omega), if_neg (by omega), if_neg (by omega), if_neg (by omega), if_neg (by omega), if_pos (by omega)]; omega), hE1w, hF1w, hpst⟩, by show Wd _ _ _ t.heap; rw [ht]; exact hW⟩, hS.F ht⟩) hS.2.2 dX4_frame_167
                    · refine lv_aload_n hx hb dX4_frame_143 rfl (lv_at hl 0 rfl) ?_
                      refine g_get (C := RX4) (T := TX4) (N := 43) (ci := 6) (v := .ref (b 32)) hx hb hts hi6 hown hK hW fM rfl 32 (by decide) (hts (.fieldLink RX4 96 "LongTransferModel" "time" "[J") (by decide +kernel)) (fun _ h9 => h9) rfl dX4_frame_144 ?_
                      refine lv_iload_n hx hb dX4_frame_147 rfl (lv_at hl 1 rfl) ?_
                      refine g_lald hx hb hK hW f32_ (by omega) (by omega) (by omega) dX4_frame_148 ?_
                      refine z_l2i hx hb dX4_frame_149 ?_
                      have hpst : Rl g mu1w := hR1
                      exact W.iret hx hb hr (fun t ht hw => ⟨⟨_, (en1w, mu1w), rfl, ⟨congrArg iZ (by rw [hfr, if_neg (by omega), if_neg (by omega), if_neg (by omega), if_neg (by omega), if_neg (by omega), if_pos (by omega)]; omega), hE1w, hF1w, hpst⟩, by show Wd _ _ _ t.heap; rw [ht]; exact hW⟩, hS.F ht⟩) hS.2.2 dX4_frame_150
                  · refine lv_aload_n hx hb dX4_frame_131 rfl (lv_at hl 0 rfl) ?_
                    refine g_get (C := RX4) (T := TX4) (N := 43) (ci := 6) (v := .ref (b 30)) hx hb hts hi6 hown hK hW fM rfl 30 (by decide) (hts (.fieldLink RX4 90 "LongTransferModel" "count" "[I") (by decide +kernel)) (fun _ h9 => h9) rfl dX4_frame_132 ?_
                    refine lv_iload_n hx hb dX4_frame_135 rfl (lv_at hl 1 rfl) ?_
                    refine g_iald hx hb hK hW f30_ (by omega) (by omega) (by omega) dX4_frame_136 ?_
                    have hpst : Rl g mu1w := hR1
                    exact W.iret hx hb hr (fun t ht hw => ⟨⟨_, (en1w, mu1w), rfl, ⟨congrArg iZ (by rw [hfr, if_neg (by omega), if_neg (by omega), if_neg (by omega), if_neg (by omega), if_pos (by omega)]; omega), hE1w, hF1w, hpst⟩, by show Wd _ _ _ t.heap; rw [ht]; exact hW⟩, hS.F ht⟩) hS.2.2 dX4_frame_137
                · refine lv_aload_n hx hb dX4_frame_119 rfl (lv_at hl 0 rfl) ?_
                  refine g_get (C := RX4) (T := TX4) (N := 43) (ci := 6) (v := .ref (b 29)) hx hb hts hi6 hown hK hW fM rfl 29 (by decide) (hts (.fieldLink RX4 87 "LongTransferModel" "number" "[I") (by decide +kernel)) (fun _ h9 => h9) rfl dX4_frame_120 ?_
                  refine lv_iload_n hx hb dX4_frame_123 rfl (lv_at hl 1 rfl) ?_
                  refine g_iald hx hb hK hW f29_ (by omega) (by omega) (by omega) dX4_frame_124 ?_
                  have hpst : Rl g mu1w := hR1
                  exact W.iret hx hb hr (fun t ht hw => ⟨⟨_, (en1w, mu1w), rfl, ⟨congrArg iZ (by rw [hfr, if_neg (by omega), if_neg (by omega), if_neg (by omega), if_pos (by omega)]; omega), hE1w, hF1w, hpst⟩, by show Wd _ _ _ t.heap; rw [ht]; exact hW⟩, hS.F ht⟩) hS.2.2 dX4_frame_125
              · refine lv_aload_n hx hb dX4_frame_107 rfl (lv_at hl 0 rfl) ?_
                refine g_get (C := RX4) (T := TX4) (N := 43) (ci := 6) (v := .ref (b 28)) hx hb hts hi6 hown hK hW fM rfl 28 (by decide) (hts (.fieldLink RX4 84 "LongTransferModel" "of" "[I") (by decide +kernel)) (fun _ h9 => h9) rfl dX4_frame_108 ?_
                refine lv_iload_n hx hb dX4_frame_111 rfl (lv_at hl 1 rfl) ?_
                refine g_iald hx hb hK hW f28_ (by omega) (by omega) (by omega) dX4_frame_112 ?_
                have hpst : Rl g mu1w := hR1
                exact W.iret hx hb hr (fun t ht hw => ⟨⟨_, (en1w, mu1w), rfl, ⟨congrArg iZ (by rw [hfr, if_neg (by omega), if_neg (by omega), if_pos (by omega)]; omega), hE1w, hF1w, hpst⟩, by show Wd _ _ _ t.heap; rw [ht]; exact hW⟩, hS.F ht⟩) hS.2.2 dX4_frame_113
            · refine lv_aload_n hx hb dX4_frame_95 rfl (lv_at hl 0 rfl) ?_
              refine g_get (C := RX4) (T := TX4) (N := 43) (ci := 6) (v := .ref (b 27)) hx hb hts hi6 hown hK hW fM rfl 27 (by decide) (hts (.fieldLink RX4 81 "LongTransferModel" "kind" "[I") (by decide +kernel)) (fun _ h9 => h9) rfl dX4_frame_96 ?_
              refine lv_iload_n hx hb dX4_frame_99 rfl (lv_at hl 1 rfl) ?_
              refine g_iald hx hb hK hW f27_ (by omega) (by omega) (by omega) dX4_frame_100 ?_
              have hpst : Rl g mu1w := hR1
              exact W.iret hx hb hr (fun t ht hw => ⟨⟨_, (en1w, mu1w), rfl, ⟨congrArg iZ (by rw [hfr, if_neg (by omega), if_pos (by omega)]; omega), hE1w, hF1w, hpst⟩, by show Wd _ _ _ t.heap; rw [ht]; exact hW⟩, hS.F ht⟩) hS.2.2 dX4_frame_101
          · refine lv_aload_n hx hb dX4_frame_45 rfl (lv_at hl 0 rfl) ?_
            refine g_get (C := RX4) (T := TX4) (N := 43) (ci := 6) (v := .ref (b 27)) hx hb hts hi6 hown hK hW fM rfl 27 (by decide) (hts (.fieldLink RX4 81 "LongTransferModel" "kind" "[I") (by decide +kernel)) (fun _ h9 => h9) rfl dX4_frame_46 ?_
            refine lv_iload_n hx hb dX4_frame_49 rfl (lv_at hl 1 rfl) ?_
            refine g_iald hx hb hK hW f27_ (by omega) (by omega) (by omega) dX4_frame_50 ?_
            refine z_iconst hx hb dX4_frame_51 ?_
            refine z_icmp_ge (tgt := 89) hx hb dX4_frame_52 (by decide) (by omega) (by omega) (fun c_52 => ?_) (fun c_52 => ?_)
            · refine z_iconst hx hb dX4_frame_89 ?_
              have hpst : Rl g mu1w := hR1
              exact W.iret hx hb hr (fun t ht hw => ⟨⟨_, (en1w, mu1w), rfl, ⟨congrArg iZ (by rw [hfr, if_pos (by omega), if_neg (by omega)]), hE1w, hF1w, hpst⟩, by show Wd _ _ _ t.heap; rw [ht]; exact hW⟩, hS.F ht⟩) hS.2.2 dX4_frame_90
            · refine lv_iload_n hx hb dX4_frame_55 rfl (lv_at hl 2 rfl) ?_
              refine z_bipush hx hb dX4_frame_56 (by decide) ?_
              refine z_isub hx hb dX4_frame_58 ?_
              refine lv_aload_n hx hb dX4_frame_59 rfl (lv_at hl 0 rfl) ?_
              refine g_get (C := RX4) (T := TX4) (N := 43) (ci := 6) (v := .ref (b 30)) hx hb hts hi6 hown hK hW fM rfl 30 (by decide) (hts (.fieldLink RX4 90 "LongTransferModel" "count" "[I") (by decide +kernel)) (fun _ h9 => h9) rfl dX4_frame_60 ?_
              refine lv_iload_n hx hb dX4_frame_63 rfl (lv_at hl 1 rfl) ?_
              refine g_iald hx hb hK hW f30_ (by omega) (by omega) (by omega) dX4_frame_64 ?_
              refine z_icmp_ge (tgt := 89) hx hb dX4_frame_65 (by decide) (by omega) (by omega) (fun c_65 => ?_) (fun c_65 => ?_)
              · refine z_iconst hx hb dX4_frame_89 ?_
                have hpst : Rl g mu1w := hR1
                exact W.iret hx hb hr (fun t ht hw => ⟨⟨_, (en1w, mu1w), rfl, ⟨congrArg iZ (by rw [hfr, if_pos (by omega), if_neg (by omega)]), hE1w, hF1w, hpst⟩, by show Wd _ _ _ t.heap; rw [ht]; exact hW⟩, hS.F ht⟩) hS.2.2 dX4_frame_90
              · refine lv_aload_n hx hb dX4_frame_68 rfl (lv_at hl 0 rfl) ?_
                refine g_get (C := RX4) (T := TX4) (N := 43) (ci := 6) (v := .ref (b 34)) hx hb hts hi6 hown hK hW fM rfl 34 (by decide) (hts (.fieldLink RX4 103 "LongTransferModel" "octets" "[B") (by decide +kernel)) (fun _ h9 => h9) rfl dX4_frame_69 ?_
                refine z_bipush hx hb dX4_frame_72 (by decide) ?_
                refine lv_iload_n hx hb dX4_frame_74 rfl (lv_at hl 1 rfl) ?_
                refine z_imul hx hb dX4_frame_75 ?_
                refine lv_iload_n hx hb dX4_frame_76 rfl (lv_at hl 2 rfl) ?_
                refine z_iadd hx hb dX4_frame_77 ?_
                refine z_bipush hx hb dX4_frame_78 (by decide) ?_
                refine z_isub hx hb dX4_frame_80 ?_
                refine g_bald hx hb hK hW f34_ (by omega) (by omega) (by omega) dX4_frame_81 ?_
                refine z_sipush hx hb dX4_frame_82 (by decide) ?_
                refine lv_iand hx hb dX4_frame_85 ?_
                rw [an_255]
                refine lv_goto (tgt := 90) hx hb dX4_frame_86 (by decide) ?_
                have hpst : Rl g mu1w := hR1
                exact W.iret hx hb hr (fun t ht hw => ⟨⟨_, (en1w, mu1w), rfl, ⟨congrArg iZ (by rw [hfr, if_pos (by omega), if_pos (by omega), ← r34 (by omega) (w9 - 8) (by omega) (by omega)]; congr 2; omega), hE1w, hF1w, hpst⟩, by show Wd _ _ _ t.heap; rw [ht]; exact hW⟩, hS.F ht⟩) hS.2.2 dX4_frame_90
      · refine z_iconst hx hb dX4_frame_31 ?_
        have hpst : Rl g mu1w := hR1
        exact W.iret hx hb hr (fun t ht hw => ⟨⟨_, (en1w, mu1w), rfl, ⟨congrArg iZ (by unfold aFrm; rw [if_neg (by omega), if_neg (by omega)]), hE1w, hF1w, hpst⟩, by show Wd _ _ _ t.heap; rw [ht]; exact hW⟩, hS.F ht⟩) hS.2.2 dX4_frame_32
  · refine lv_iload_n hx hb dX4_frame_9 rfl (lv_at hl 2 rfl) ?_
    refine z_if_ne (tgt := 18) hx hb dX4_frame_10 (by decide) (by omega) (fun c_10 => ?_) (fun c_10 => ?_)
    · refine lv_iload_n hx hb dX4_frame_18 rfl (lv_at hl 1 rfl) ?_
      refine z_iconst hx hb dX4_frame_19 ?_
      refine z_icmp_lt (tgt := 31) hx hb dX4_frame_20 (by decide) (by omega) (by omega) (fun c_20 => ?_) (fun c_20 => ?_)
      · refine z_iconst hx hb dX4_frame_31 ?_
        have hpst : Rl g mu1w := hR1
        exact W.iret hx hb hr (fun t ht hw => ⟨⟨_, (en1w, mu1w), rfl, ⟨congrArg iZ (by unfold aFrm; rw [if_neg (by omega), if_neg (by omega)]), hE1w, hF1w, hpst⟩, by show Wd _ _ _ t.heap; rw [ht]; exact hW⟩, hS.F ht⟩) hS.2.2 dX4_frame_32
      · refine lv_iload_n hx hb dX4_frame_23 rfl (lv_at hl 1 rfl) ?_
        refine lv_aload_n hx hb dX4_frame_24 rfl (lv_at hl 0 rfl) ?_
        refine g_get (C := RX4) (T := TX4) (N := 43) (ci := 6) (v := .int (iZ (mu1w 26 0))) hx hb hts hi6 hown hK hW fM rfl 26 (by decide) (hts (.fieldLink RX4 134 "LongTransferModel" "frames" "I") (by decide +kernel)) (fun _ h9 => h9) rfl dX4_frame_25 ?_
        refine z_icmp_le (tgt := 33) hx hb dX4_frame_28 (by decide) (by omega) (by omega) (fun c_28 => ?_) (fun c_28 => ?_)
        · have hf0 : 1 ≤ ff ∧ ff ≤ g 1 1 0 := by omega
          obtain ⟨⟨r27, r28, r29, r30, r31, r32⟩, -, r34⟩ := hR1.2.2.2.2.2.1.1 ff hf0.1 hf0.2
          have hIFf := hI.2.2.2.1 ff hf0.1 hf0.2
          unfold IF at hIFf
          obtain ⟨f20, f21, f22, f23, f24, f25, f27, f26, f263, -⟩ := hIFf
          have hfr : aFrm g ff w9 = (if 8 ≤ w9 ∧ w9 ≤ 14 then (if 0 ≤ w9 - 8 ∧ w9 - 8 < g 26 ff 0 then g 28 ff (w9 - 8) % 256 else 0) else if w9 = 0 then g 20 ff 0 else if w9 = 1 then g 21 ff 0 else if w9 = 2 then g 22 ff 0 else if w9 = 3 then g 23 ff 0 else if w9 = 4 then g 25 ff 0 else if w9 = 5 then g 24 ff 0 else -2) := by unfold aFrm; rw [if_neg (by omega), if_pos hf0]
          refine lv_iload_n hx hb dX4_frame_33 rfl (lv_at hl 2 rfl) ?_
          refine z_bipush hx hb dX4_frame_34 (by decide) ?_
          refine z_icmp_lt (tgt := 91) hx hb dX4_frame_36 (by decide) (by omega) (by omega) (fun c_36 => ?_) (fun c_36 => ?_)
          · refine lv_iload_n hx hb dX4_frame_91 rfl (lv_at hl 2 rfl) ?_
            refine z_if_ne (tgt := 102) hx hb dX4_frame_92 (by decide) (by omega) (fun c_92 => ?_) (fun c_92 => ?_)
            · refine lv_iload_n hx hb dX4_frame_102 rfl (lv_at hl 2 rfl) ?_
              refine z_iconst hx hb dX4_frame_103 ?_
              refine z_icmp_ne (tgt := 114) hx hb dX4_frame_104 (by decide) (by omega) (by omega) (fun c_104 => ?_) (fun c_104 => ?_)
              · refine lv_iload_n hx hb dX4_frame_114 rfl (lv_at hl 2 rfl) ?_
                refine z_iconst hx hb dX4_frame_115 ?_
                refine z_icmp_ne (tgt := 126) hx hb dX4_frame_116 (by decide) (by omega) (by omega) (fun c_116 => ?_) (fun c_116 => ?_)
                · refine lv_iload_n hx hb dX4_frame_126 rfl (lv_at hl 2 rfl) ?_
                  refine z_iconst hx hb dX4_frame_127 ?_
                  refine z_icmp_ne (tgt := 138) hx hb dX4_frame_128 (by decide) (by omega) (by omega) (fun c_128 => ?_) (fun c_128 => ?_)
                  · refine lv_iload_n hx hb dX4_frame_138 rfl (lv_at hl 2 rfl) ?_
                    refine z_iconst hx hb dX4_frame_139 ?_
                    refine z_icmp_ne (tgt := 151) hx hb dX4_frame_140 (by decide) (by omega) (by omega) (fun c_140 => ?_) (fun c_140 => ?_)
                    · refine lv_iload_n hx hb dX4_frame_151 rfl (lv_at hl 2 rfl) ?_
                      refine z_iconst hx hb dX4_frame_152 ?_
                      refine z_icmp_ne (tgt := 165) hx hb dX4_frame_153 (by decide) (by omega) (by omega) (fun c_153 => ?_) (fun c_153 => ?_)
                      · refine z_bipush hx hb dX4_frame_165 (by decide) ?_
                        have hpst : Rl g mu1w := hR1
                        exact W.iret hx hb hr (fun t ht hw => ⟨⟨_, (en1w, mu1w), rfl, ⟨congrArg iZ (by rw [hfr, if_neg (by omega), if_neg (by omega), if_neg (by omega), if_neg (by omega), if_neg (by omega), if_neg (by omega), if_neg (by omega)]), hE1w, hF1w, hpst⟩, by show Wd _ _ _ t.heap; rw [ht]; exact hW⟩, hS.F ht⟩) hS.2.2 dX4_frame_167
                      · refine lv_aload_n hx hb dX4_frame_156 rfl (lv_at hl 0 rfl) ?_
                        refine g_get (C := RX4) (T := TX4) (N := 43) (ci := 6) (v := .ref (b 31)) hx hb hts hi6 hown hK hW fM rfl 31 (by decide) (hts (.fieldLink RX4 93 "LongTransferModel" "apart" "[I") (by decide +kernel)) (fun _ h9 => h9) rfl dX4_frame_157 ?_
                        refine lv_iload_n hx hb dX4_frame_160 rfl (lv_at hl 1 rfl) ?_
                        refine g_iald hx hb hK hW f31_ (by omega) (by omega) (by omega) dX4_frame_161 ?_
                        refine lv_goto (tgt := 167) hx hb dX4_frame_162 (by decide) ?_
                        have hpst : Rl g mu1w := hR1
                        exact W.iret hx hb hr (fun t ht hw => ⟨⟨_, (en1w, mu1w), rfl, ⟨congrArg iZ (by rw [hfr, if_neg (by omega), if_neg (by omega), if_neg (by omega), if_neg (by omega), if_neg (by omega), if_neg (by omega), if_pos (by omega)]; omega), hE1w, hF1w, hpst⟩, by show Wd _ _ _ t.heap; rw [ht]; exact hW⟩, hS.F ht⟩) hS.2.2 dX4_frame_167
                    · refine lv_aload_n hx hb dX4_frame_143 rfl (lv_at hl 0 rfl) ?_
                      refine g_get (C := RX4) (T := TX4) (N := 43) (ci := 6) (v := .ref (b 32)) hx hb hts hi6 hown hK hW fM rfl 32 (by decide) (hts (.fieldLink RX4 96 "LongTransferModel" "time" "[J") (by decide +kernel)) (fun _ h9 => h9) rfl dX4_frame_144 ?_
                      refine lv_iload_n hx hb dX4_frame_147 rfl (lv_at hl 1 rfl) ?_
                      refine g_lald hx hb hK hW f32_ (by omega) (by omega) (by omega) dX4_frame_148 ?_
                      refine z_l2i hx hb dX4_frame_149 ?_
                      have hpst : Rl g mu1w := hR1
                      exact W.iret hx hb hr (fun t ht hw => ⟨⟨_, (en1w, mu1w), rfl, ⟨congrArg iZ (by rw [hfr, if_neg (by omega), if_neg (by omega), if_neg (by omega), if_neg (by omega), if_neg (by omega), if_pos (by omega)]; omega), hE1w, hF1w, hpst⟩, by show Wd _ _ _ t.heap; rw [ht]; exact hW⟩, hS.F ht⟩) hS.2.2 dX4_frame_150
                  · refine lv_aload_n hx hb dX4_frame_131 rfl (lv_at hl 0 rfl) ?_
                    refine g_get (C := RX4) (T := TX4) (N := 43) (ci := 6) (v := .ref (b 30)) hx hb hts hi6 hown hK hW fM rfl 30 (by decide) (hts (.fieldLink RX4 90 "LongTransferModel" "count" "[I") (by decide +kernel)) (fun _ h9 => h9) rfl dX4_frame_132 ?_
                    refine lv_iload_n hx hb dX4_frame_135 rfl (lv_at hl 1 rfl) ?_
                    refine g_iald hx hb hK hW f30_ (by omega) (by omega) (by omega) dX4_frame_136 ?_
                    have hpst : Rl g mu1w := hR1
                    exact W.iret hx hb hr (fun t ht hw => ⟨⟨_, (en1w, mu1w), rfl, ⟨congrArg iZ (by rw [hfr, if_neg (by omega), if_neg (by omega), if_neg (by omega), if_neg (by omega), if_pos (by omega)]; omega), hE1w, hF1w, hpst⟩, by show Wd _ _ _ t.heap; rw [ht]; exact hW⟩, hS.F ht⟩) hS.2.2 dX4_frame_137
                · refine lv_aload_n hx hb dX4_frame_119 rfl (lv_at hl 0 rfl) ?_
                  refine g_get (C := RX4) (T := TX4) (N := 43) (ci := 6) (v := .ref (b 29)) hx hb hts hi6 hown hK hW fM rfl 29 (by decide) (hts (.fieldLink RX4 87 "LongTransferModel" "number" "[I") (by decide +kernel)) (fun _ h9 => h9) rfl dX4_frame_120 ?_
                  refine lv_iload_n hx hb dX4_frame_123 rfl (lv_at hl 1 rfl) ?_
                  refine g_iald hx hb hK hW f29_ (by omega) (by omega) (by omega) dX4_frame_124 ?_
                  have hpst : Rl g mu1w := hR1
                  exact W.iret hx hb hr (fun t ht hw => ⟨⟨_, (en1w, mu1w), rfl, ⟨congrArg iZ (by rw [hfr, if_neg (by omega), if_neg (by omega), if_neg (by omega), if_pos (by omega)]; omega), hE1w, hF1w, hpst⟩, by show Wd _ _ _ t.heap; rw [ht]; exact hW⟩, hS.F ht⟩) hS.2.2 dX4_frame_125
              · refine lv_aload_n hx hb dX4_frame_107 rfl (lv_at hl 0 rfl) ?_
                refine g_get (C := RX4) (T := TX4) (N := 43) (ci := 6) (v := .ref (b 28)) hx hb hts hi6 hown hK hW fM rfl 28 (by decide) (hts (.fieldLink RX4 84 "LongTransferModel" "of" "[I") (by decide +kernel)) (fun _ h9 => h9) rfl dX4_frame_108 ?_
                refine lv_iload_n hx hb dX4_frame_111 rfl (lv_at hl 1 rfl) ?_
                refine g_iald hx hb hK hW f28_ (by omega) (by omega) (by omega) dX4_frame_112 ?_
                have hpst : Rl g mu1w := hR1
                exact W.iret hx hb hr (fun t ht hw => ⟨⟨_, (en1w, mu1w), rfl, ⟨congrArg iZ (by rw [hfr, if_neg (by omega), if_neg (by omega), if_pos (by omega)]; omega), hE1w, hF1w, hpst⟩, by show Wd _ _ _ t.heap; rw [ht]; exact hW⟩, hS.F ht⟩) hS.2.2 dX4_frame_113
            · refine lv_aload_n hx hb dX4_frame_95 rfl (lv_at hl 0 rfl) ?_
              refine g_get (C := RX4) (T := TX4) (N := 43) (ci := 6) (v := .ref (b 27)) hx hb hts hi6 hown hK hW fM rfl 27 (by decide) (hts (.fieldLink RX4 81 "LongTransferModel" "kind" "[I") (by decide +kernel)) (fun _ h9 => h9) rfl dX4_frame_96 ?_
              refine lv_iload_n hx hb dX4_frame_99 rfl (lv_at hl 1 rfl) ?_
              refine g_iald hx hb hK hW f27_ (by omega) (by omega) (by omega) dX4_frame_100 ?_
              have hpst : Rl g mu1w := hR1
              exact W.iret hx hb hr (fun t ht hw => ⟨⟨_, (en1w, mu1w), rfl, ⟨congrArg iZ (by rw [hfr, if_neg (by omega), if_pos (by omega)]; omega), hE1w, hF1w, hpst⟩, by show Wd _ _ _ t.heap; rw [ht]; exact hW⟩, hS.F ht⟩) hS.2.2 dX4_frame_101
          · refine lv_iload_n hx hb dX4_frame_39 rfl (lv_at hl 2 rfl) ?_
            refine z_bipush hx hb dX4_frame_40 (by decide) ?_
            refine z_icmp_ge (tgt := 91) hx hb dX4_frame_42 (by decide) (by omega) (by omega) (fun c_42 => ?_) (fun c_42 => ?_)
            · refine lv_iload_n hx hb dX4_frame_91 rfl (lv_at hl 2 rfl) ?_
              refine z_if_ne (tgt := 102) hx hb dX4_frame_92 (by decide) (by omega) (fun c_92 => ?_) (fun c_92 => ?_)
              · refine lv_iload_n hx hb dX4_frame_102 rfl (lv_at hl 2 rfl) ?_
                refine z_iconst hx hb dX4_frame_103 ?_
                refine z_icmp_ne (tgt := 114) hx hb dX4_frame_104 (by decide) (by omega) (by omega) (fun c_104 => ?_) (fun c_104 => ?_)
                · refine lv_iload_n hx hb dX4_frame_114 rfl (lv_at hl 2 rfl) ?_
                  refine z_iconst hx hb dX4_frame_115 ?_
                  refine z_icmp_ne (tgt := 126) hx hb dX4_frame_116 (by decide) (by omega) (by omega) (fun c_116 => ?_) (fun c_116 => ?_)
                  · refine lv_iload_n hx hb dX4_frame_126 rfl (lv_at hl 2 rfl) ?_
                    refine z_iconst hx hb dX4_frame_127 ?_
                    refine z_icmp_ne (tgt := 138) hx hb dX4_frame_128 (by decide) (by omega) (by omega) (fun c_128 => ?_) (fun c_128 => ?_)
                    · refine lv_iload_n hx hb dX4_frame_138 rfl (lv_at hl 2 rfl) ?_
                      refine z_iconst hx hb dX4_frame_139 ?_
                      refine z_icmp_ne (tgt := 151) hx hb dX4_frame_140 (by decide) (by omega) (by omega) (fun c_140 => ?_) (fun c_140 => ?_)
                      · refine lv_iload_n hx hb dX4_frame_151 rfl (lv_at hl 2 rfl) ?_
                        refine z_iconst hx hb dX4_frame_152 ?_
                        refine z_icmp_ne (tgt := 165) hx hb dX4_frame_153 (by decide) (by omega) (by omega) (fun c_153 => ?_) (fun c_153 => ?_)
                        · refine z_bipush hx hb dX4_frame_165 (by decide) ?_
                          have hpst : Rl g mu1w := hR1
                          exact W.iret hx hb hr (fun t ht hw => ⟨⟨_, (en1w, mu1w), rfl, ⟨congrArg iZ (by rw [hfr, if_neg (by omega), if_neg (by omega), if_neg (by omega), if_neg (by omega), if_neg (by omega), if_neg (by omega), if_neg (by omega)]), hE1w, hF1w, hpst⟩, by show Wd _ _ _ t.heap; rw [ht]; exact hW⟩, hS.F ht⟩) hS.2.2 dX4_frame_167
                        · refine lv_aload_n hx hb dX4_frame_156 rfl (lv_at hl 0 rfl) ?_
                          refine g_get (C := RX4) (T := TX4) (N := 43) (ci := 6) (v := .ref (b 31)) hx hb hts hi6 hown hK hW fM rfl 31 (by decide) (hts (.fieldLink RX4 93 "LongTransferModel" "apart" "[I") (by decide +kernel)) (fun _ h9 => h9) rfl dX4_frame_157 ?_
                          refine lv_iload_n hx hb dX4_frame_160 rfl (lv_at hl 1 rfl) ?_
                          refine g_iald hx hb hK hW f31_ (by omega) (by omega) (by omega) dX4_frame_161 ?_
                          refine lv_goto (tgt := 167) hx hb dX4_frame_162 (by decide) ?_
                          have hpst : Rl g mu1w := hR1
                          exact W.iret hx hb hr (fun t ht hw => ⟨⟨_, (en1w, mu1w), rfl, ⟨congrArg iZ (by rw [hfr, if_neg (by omega), if_neg (by omega), if_neg (by omega), if_neg (by omega), if_neg (by omega), if_neg (by omega), if_pos (by omega)]; omega), hE1w, hF1w, hpst⟩, by show Wd _ _ _ t.heap; rw [ht]; exact hW⟩, hS.F ht⟩) hS.2.2 dX4_frame_167
                      · refine lv_aload_n hx hb dX4_frame_143 rfl (lv_at hl 0 rfl) ?_
                        refine g_get (C := RX4) (T := TX4) (N := 43) (ci := 6) (v := .ref (b 32)) hx hb hts hi6 hown hK hW fM rfl 32 (by decide) (hts (.fieldLink RX4 96 "LongTransferModel" "time" "[J") (by decide +kernel)) (fun _ h9 => h9) rfl dX4_frame_144 ?_
                        refine lv_iload_n hx hb dX4_frame_147 rfl (lv_at hl 1 rfl) ?_
                        refine g_lald hx hb hK hW f32_ (by omega) (by omega) (by omega) dX4_frame_148 ?_
                        refine z_l2i hx hb dX4_frame_149 ?_
                        have hpst : Rl g mu1w := hR1
                        exact W.iret hx hb hr (fun t ht hw => ⟨⟨_, (en1w, mu1w), rfl, ⟨congrArg iZ (by rw [hfr, if_neg (by omega), if_neg (by omega), if_neg (by omega), if_neg (by omega), if_neg (by omega), if_pos (by omega)]; omega), hE1w, hF1w, hpst⟩, by show Wd _ _ _ t.heap; rw [ht]; exact hW⟩, hS.F ht⟩) hS.2.2 dX4_frame_150
                    · refine lv_aload_n hx hb dX4_frame_131 rfl (lv_at hl 0 rfl) ?_
                      refine g_get (C := RX4) (T := TX4) (N := 43) (ci := 6) (v := .ref (b 30)) hx hb hts hi6 hown hK hW fM rfl 30 (by decide) (hts (.fieldLink RX4 90 "LongTransferModel" "count" "[I") (by decide +kernel)) (fun _ h9 => h9) rfl dX4_frame_132 ?_
                      refine lv_iload_n hx hb dX4_frame_135 rfl (lv_at hl 1 rfl) ?_
                      refine g_iald hx hb hK hW f30_ (by omega) (by omega) (by omega) dX4_frame_136 ?_
                      have hpst : Rl g mu1w := hR1
                      exact W.iret hx hb hr (fun t ht hw => ⟨⟨_, (en1w, mu1w), rfl, ⟨congrArg iZ (by rw [hfr, if_neg (by omega), if_neg (by omega), if_neg (by omega), if_neg (by omega), if_pos (by omega)]; omega), hE1w, hF1w, hpst⟩, by show Wd _ _ _ t.heap; rw [ht]; exact hW⟩, hS.F ht⟩) hS.2.2 dX4_frame_137
                  · refine lv_aload_n hx hb dX4_frame_119 rfl (lv_at hl 0 rfl) ?_
                    refine g_get (C := RX4) (T := TX4) (N := 43) (ci := 6) (v := .ref (b 29)) hx hb hts hi6 hown hK hW fM rfl 29 (by decide) (hts (.fieldLink RX4 87 "LongTransferModel" "number" "[I") (by decide +kernel)) (fun _ h9 => h9) rfl dX4_frame_120 ?_
                    refine lv_iload_n hx hb dX4_frame_123 rfl (lv_at hl 1 rfl) ?_
                    refine g_iald hx hb hK hW f29_ (by omega) (by omega) (by omega) dX4_frame_124 ?_
                    have hpst : Rl g mu1w := hR1
                    exact W.iret hx hb hr (fun t ht hw => ⟨⟨_, (en1w, mu1w), rfl, ⟨congrArg iZ (by rw [hfr, if_neg (by omega), if_neg (by omega), if_neg (by omega), if_pos (by omega)]; omega), hE1w, hF1w, hpst⟩, by show Wd _ _ _ t.heap; rw [ht]; exact hW⟩, hS.F ht⟩) hS.2.2 dX4_frame_125
                · refine lv_aload_n hx hb dX4_frame_107 rfl (lv_at hl 0 rfl) ?_
                  refine g_get (C := RX4) (T := TX4) (N := 43) (ci := 6) (v := .ref (b 28)) hx hb hts hi6 hown hK hW fM rfl 28 (by decide) (hts (.fieldLink RX4 84 "LongTransferModel" "of" "[I") (by decide +kernel)) (fun _ h9 => h9) rfl dX4_frame_108 ?_
                  refine lv_iload_n hx hb dX4_frame_111 rfl (lv_at hl 1 rfl) ?_
                  refine g_iald hx hb hK hW f28_ (by omega) (by omega) (by omega) dX4_frame_112 ?_
                  have hpst : Rl g mu1w := hR1
                  exact W.iret hx hb hr (fun t ht hw => ⟨⟨_, (en1w, mu1w), rfl, ⟨congrArg iZ (by rw [hfr, if_neg (by omega), if_neg (by omega), if_pos (by omega)]; omega), hE1w, hF1w, hpst⟩, by show Wd _ _ _ t.heap; rw [ht]; exact hW⟩, hS.F ht⟩) hS.2.2 dX4_frame_113
              · refine lv_aload_n hx hb dX4_frame_95 rfl (lv_at hl 0 rfl) ?_
                refine g_get (C := RX4) (T := TX4) (N := 43) (ci := 6) (v := .ref (b 27)) hx hb hts hi6 hown hK hW fM rfl 27 (by decide) (hts (.fieldLink RX4 81 "LongTransferModel" "kind" "[I") (by decide +kernel)) (fun _ h9 => h9) rfl dX4_frame_96 ?_
                refine lv_iload_n hx hb dX4_frame_99 rfl (lv_at hl 1 rfl) ?_
                refine g_iald hx hb hK hW f27_ (by omega) (by omega) (by omega) dX4_frame_100 ?_
                have hpst : Rl g mu1w := hR1
                exact W.iret hx hb hr (fun t ht hw => ⟨⟨_, (en1w, mu1w), rfl, ⟨congrArg iZ (by rw [hfr, if_neg (by omega), if_pos (by omega)]; omega), hE1w, hF1w, hpst⟩, by show Wd _ _ _ t.heap; rw [ht]; exact hW⟩, hS.F ht⟩) hS.2.2 dX4_frame_101
            · refine lv_aload_n hx hb dX4_frame_45 rfl (lv_at hl 0 rfl) ?_
              refine g_get (C := RX4) (T := TX4) (N := 43) (ci := 6) (v := .ref (b 27)) hx hb hts hi6 hown hK hW fM rfl 27 (by decide) (hts (.fieldLink RX4 81 "LongTransferModel" "kind" "[I") (by decide +kernel)) (fun _ h9 => h9) rfl dX4_frame_46 ?_
              refine lv_iload_n hx hb dX4_frame_49 rfl (lv_at hl 1 rfl) ?_
              refine g_iald hx hb hK hW f27_ (by omega) (by omega) (by omega) dX4_frame_50 ?_
              refine z_iconst hx hb dX4_frame_51 ?_
              refine z_icmp_ge (tgt := 89) hx hb dX4_frame_52 (by decide) (by omega) (by omega) (fun c_52 => ?_) (fun c_52 => ?_)
              · refine z_iconst hx hb dX4_frame_89 ?_
                have hpst : Rl g mu1w := hR1
                exact W.iret hx hb hr (fun t ht hw => ⟨⟨_, (en1w, mu1w), rfl, ⟨congrArg iZ (by rw [hfr, if_pos (by omega), if_neg (by omega)]), hE1w, hF1w, hpst⟩, by show Wd _ _ _ t.heap; rw [ht]; exact hW⟩, hS.F ht⟩) hS.2.2 dX4_frame_90
              · refine lv_iload_n hx hb dX4_frame_55 rfl (lv_at hl 2 rfl) ?_
                refine z_bipush hx hb dX4_frame_56 (by decide) ?_
                refine z_isub hx hb dX4_frame_58 ?_
                refine lv_aload_n hx hb dX4_frame_59 rfl (lv_at hl 0 rfl) ?_
                refine g_get (C := RX4) (T := TX4) (N := 43) (ci := 6) (v := .ref (b 30)) hx hb hts hi6 hown hK hW fM rfl 30 (by decide) (hts (.fieldLink RX4 90 "LongTransferModel" "count" "[I") (by decide +kernel)) (fun _ h9 => h9) rfl dX4_frame_60 ?_
                refine lv_iload_n hx hb dX4_frame_63 rfl (lv_at hl 1 rfl) ?_
                refine g_iald hx hb hK hW f30_ (by omega) (by omega) (by omega) dX4_frame_64 ?_
                refine z_icmp_ge (tgt := 89) hx hb dX4_frame_65 (by decide) (by omega) (by omega) (fun c_65 => ?_) (fun c_65 => ?_)
                · refine z_iconst hx hb dX4_frame_89 ?_
                  have hpst : Rl g mu1w := hR1
                  exact W.iret hx hb hr (fun t ht hw => ⟨⟨_, (en1w, mu1w), rfl, ⟨congrArg iZ (by rw [hfr, if_pos (by omega), if_neg (by omega)]), hE1w, hF1w, hpst⟩, by show Wd _ _ _ t.heap; rw [ht]; exact hW⟩, hS.F ht⟩) hS.2.2 dX4_frame_90
                · refine lv_aload_n hx hb dX4_frame_68 rfl (lv_at hl 0 rfl) ?_
                  refine g_get (C := RX4) (T := TX4) (N := 43) (ci := 6) (v := .ref (b 34)) hx hb hts hi6 hown hK hW fM rfl 34 (by decide) (hts (.fieldLink RX4 103 "LongTransferModel" "octets" "[B") (by decide +kernel)) (fun _ h9 => h9) rfl dX4_frame_69 ?_
                  refine z_bipush hx hb dX4_frame_72 (by decide) ?_
                  refine lv_iload_n hx hb dX4_frame_74 rfl (lv_at hl 1 rfl) ?_
                  refine z_imul hx hb dX4_frame_75 ?_
                  refine lv_iload_n hx hb dX4_frame_76 rfl (lv_at hl 2 rfl) ?_
                  refine z_iadd hx hb dX4_frame_77 ?_
                  refine z_bipush hx hb dX4_frame_78 (by decide) ?_
                  refine z_isub hx hb dX4_frame_80 ?_
                  refine g_bald hx hb hK hW f34_ (by omega) (by omega) (by omega) dX4_frame_81 ?_
                  refine z_sipush hx hb dX4_frame_82 (by decide) ?_
                  refine lv_iand hx hb dX4_frame_85 ?_
                  rw [an_255]
                  refine lv_goto (tgt := 90) hx hb dX4_frame_86 (by decide) ?_
                  have hpst : Rl g mu1w := hR1
                  exact W.iret hx hb hr (fun t ht hw => ⟨⟨_, (en1w, mu1w), rfl, ⟨congrArg iZ (by rw [hfr, if_pos (by omega), if_pos (by omega), ← r34 (by omega) (w9 - 8) (by omega) (by omega)]; congr 2; omega), hE1w, hF1w, hpst⟩, by show Wd _ _ _ t.heap; rw [ht]; exact hW⟩, hS.F ht⟩) hS.2.2 dX4_frame_90
        · refine z_iconst hx hb dX4_frame_31 ?_
          have hpst : Rl g mu1w := hR1
          exact W.iret hx hb hr (fun t ht hw => ⟨⟨_, (en1w, mu1w), rfl, ⟨congrArg iZ (by unfold aFrm; rw [if_neg (by omega), if_neg (by omega)]), hE1w, hF1w, hpst⟩, by show Wd _ _ _ t.heap; rw [ht]; exact hW⟩, hS.F ht⟩) hS.2.2 dX4_frame_32
    · refine lv_aload_n hx hb dX4_frame_13 rfl (lv_at hl 0 rfl) ?_
      refine g_get (C := RX4) (T := TX4) (N := 43) (ci := 6) (v := .int (iZ (mu1w 26 0))) hx hb hts hi6 hown hK hW fM rfl 26 (by decide) (hts (.fieldLink RX4 134 "LongTransferModel" "frames" "I") (by decide +kernel)) (fun _ h9 => h9) rfl dX4_frame_14 ?_
      have hpst : Rl g mu1w := hR1
      exact W.iret hx hb hr (fun t ht hw => ⟨⟨_, (en1w, mu1w), rfl, ⟨congrArg iZ (by unfold aFrm; rw [if_pos (by omega)]; omega), hE1w, hF1w, hpst⟩, by show Wd _ _ _ t.heap; rw [ht]; exact hW⟩, hS.F ht⟩) hS.2.2 dX4_frame_17
