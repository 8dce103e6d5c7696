def sR1 (g : St) (r : Int) : St := if g 37 r 0 ≤ g 0 7 0 then sAns g r else g
theorem sActR_e (g : St) (r : Int) : sActR g r = if sR1 g r 38 r 0 ≤ sR1 g r 0 7 0 then sEndR (sR1 g r) r 2 else sR1 g r := rfl
theorem pd_r1 {g : St} (hI : IJ g) (h : PD g) {r : Int} (h0 : 0 ≤ r) (h1 : r < 4) : IJ (sR1 g r) ∧ PD (sR1 g r) := by
  refine ⟨(ij_r1 hI h0 h1).1, ?_⟩
  unfold sR1
  split
  · have q := w_an hI.1.1 (r := r)
    unfold PD
    rw [q.1 0 7 (by omega)]
    exact wu_r (r := r) (fun t i k => q.1 t i (by omega)) ⟨by omega, by omega⟩ h
  · exact h
theorem pd_actR {g : St} (hI : IJ g) (h : PD g) {r : Int} (h0 : 0 ≤ r) (h1 : r < 4) : IJ (sActR g r) ∧ PD (sActR g r) := by
  refine ⟨(ij_actR hI h0 h1).1, ?_⟩
  have q := w_actR hI.1.1 (r := r)
  unfold PD
  rw [q.1 0 7 (by omega)]
  exact wu_r (r := r) (fun t i k => q.1 t i (by omega)) ⟨by omega, by omega⟩ h
theorem pd_a1 {g : St} (hI : IJ g) (h : PD g) {m : Int} (h1 : 1 ≤ m) (h2 : m ≤ g 1 0 0) (h3 : g 18 m 0 ≤ g 0 7 0) : IJ (sA1 g m) ∧ PD (sA1 g m) ∧ sA1 g m 1 0 0 = g 1 0 0 := by
  have q := w_a1 hI h1 h2
  refine ⟨ij_a1 hI h1 h2 h3, ?_, q.1 1 0 (by omega)⟩
  unfold PD
  rw [q.1 0 7 (by omega)]
  exact wu_s (m := m) (fun t i k => q.1 t i (by omega)) q.2.1 h
theorem fu_a1 {g : St} (hI : IJ g) {m : Int} (h1 : 1 ≤ m) (h2 : m ≤ g 1 0 0) {n : Nat} (h : 6000 - g 1 1 0 < ((n + 1 : Nat) : Int)) : sA1 g m 18 m 0 ≤ sA1 g m 0 7 0 → 6000 - sA1 g m 1 1 0 < (n : Int) := by
  have q := w_a1 hI h1 h2
  have e := q.1 0 7 (by omega)
  intro w
  omega
theorem due_m {g : St} {mu : Mu} (hI : IB g) (hR : Rl g mu) (hd : PD g) {m : Int} (h1 : 1 ≤ m) (h2 : m ≤ g 1 0 0) : ((mu 7 m = 2 ∧ mu 15 m = mu 2 0) ∨ (mu 7 m = 1 ∧ mu 2 0 - mu 14 m = 1000)) ↔ g 18 m 0 ≤ g 0 7 0 := by
  have q := hR.2.2.2.2.1.1 m h1 h2
  have hx := hR.1
  have hi := hI.1
  have hs := hI.2.2.1 m h1 h2
  have hp := hd.1 m h1 h2
  unfold IS at hs
  unfold IX at hi
  unfold RX at hx
  unfold RN at q
  have q7 := q.2.1
  have qa : g 12 m 0 = 2 → g 18 m 0 = mu 15 m := fun w => (q.2.2.2.1 w).2.1
  have qb := q.2.2.2.2.1
  have qc := q.2.2.2.2.2
  obtain ⟨-, hs12, -⟩ := hs
  have x2 := hx.1.2.1
  clear q hx
  omega
theorem due_b {g : St} {mu : Mu} (hI : IB g) (hR : Rl g mu) {m : Int} (h1 : 1 ≤ m) (h2 : m ≤ g 1 0 0) : (0 ≤ mu 7 m ∧ mu 7 m ≤ 4) ∧ (mu 7 m = 2 → lB (mu 15 m)) ∧ (0 ≤ mu 2 0 ∧ mu 2 0 ≤ 4000000) ∧ (mu 7 m = 1 → -1000 ≤ mu 14 m ∧ mu 14 m ≤ 9223372036854775807) ∧ mu 7 m = g 12 m 0 := by
  have q := hR.2.2.2.2.1.1 m h1 h2
  have hx := hR.1
  have hi := hI.1
  have hs := hI.2.2.1 m h1 h2
  unfold IS at hs
  unfold IX at hi
  unfold RX at hx
  unfold RN at q
  have q7 := q.2.1
  have qa : g 12 m 0 = 2 → g 18 m 0 = mu 15 m := fun w => (q.2.2.2.1 w).2.1
  have qb := q.2.2.2.2.1
  obtain ⟨-, hs12, -, -, -, -, -, hs18, -⟩ := hs
  have x2 := hx.1.2.1
  clear q hx
  refine ⟨by omega, fun w => by have := qa (by omega); omega, by omega, fun w => by have := qb (by omega); omega, q7⟩
theorem rq_d {g : St} {mu : Mu} (hI : IB g) (hR : Rl g mu) (hd : PD g) {r : Int} (h1 : 0 ≤ r) (h2 : r < 4) : ((mu 16 r = 1 ∧ mu 24 r ≠ 0 ∧ mu 2 0 - mu 23 r = 500) ↔ g 37 r 0 ≤ g 0 7 0) ∧ ((mu 16 r = 1 ∧ mu 2 0 - mu 23 r = 1000) ↔ g 38 r 0 ≤ g 0 7 0) ∧ (mu 16 r = 1 → (-1000 ≤ mu 23 r ∧ mu 23 r ≤ 9223372036854775807) ∧ 0 ≤ mu 24 r ∧ mu 24 r ≤ 1) ∧ (0 ≤ mu 16 r ∧ mu 16 r ≤ 3) ∧ (0 ≤ mu 2 0 ∧ mu 2 0 ≤ 4000000) ∧ mu 16 r = g 30 r 0 := by
  have q := hR.2.2.2.2.2.2.1 r h1 h2
  have hx := hR.1
  have hi := hI.1
  have hs := hI.2.2.2.2.1 r h1 h2
  have hp := hd.2 r h1 h2
  unfold IR at hs
  unfold IX at hi
  unfold RX at hx
  unfold RQ at q
  obtain ⟨q16, qa, qb⟩ := q
  obtain ⟨i30, -, -, -, -, -, -, i37, i38, -⟩ := hs
  have x2 := hx.1.2.1
  clear hx
  by_cases z : g 30 r 0 = 1
  · obtain ⟨-, -, a38, a37, -⟩ := qa z
    clear qa qb
    refine ⟨?_, ?_, fun w => ?_, ?_, ?_, q16⟩ <;> omega
  · obtain ⟨b37, b38⟩ := qb z
    clear qa qb
    refine ⟨?_, ?_, fun w => ?_, ?_, ?_, q16⟩ <;> omega
set_option maxHeartbeats 4000000 in
set_option maxRecDepth 100000 in
theorem c_X4_moment (l : Launch) (D : va_G) (dA : Nat → ClassId) (z : Nat → Nat) (en : en_T) (b : Nat → Nat) (mu : Mu) (g : St) (fu : Nat) (hfu : 6000 < fu) (hIJ : IJ g) (hd : PD g) (hR : Rl g mu) (hE : EM dA b mu en) : Met l yX4_moment wsX4_moment ({ frames := 3, cells := 0, slots := 0, locals := 90 }) (gP D dA z en [.ref (b 0)]) (va_Qv (fun u : en_T × Mu => EM dA b u.2 u.1 ∧ FM en u.1 ∧ Rl (sMom fu g) u.2) (fun u t9 => Wd D (z 0) u.1 t9.heap) (fun q => z 0 ≤ q)) (0) (0) (fun q => z 0 ≤ q) := by
  refine gMet (own := RX4) (cc := cX4_moment) (maxL := 3) (ret := none) (by decide) rfl rfl (Nat.le_of_ble_eq_true rfl) ?_
  intro p e s m below meth c hx hb hml hown hts hr hlocks hnm hg hW ls hl
  have hK := hg.1
  have hS : va_S (fun q => z 0 ≤ q) s.heap s.heap [] := va_S.rf
  have hi6 : ∀ w ∈ u_ws RX4 TX4 43, w ∈ wsX4_moment := by decide +kernel
  have hl : lv_has ls 3 [(0, .ref (b 0))] := hl
  have kR : ∀ (n : Nat) (muR : Mu) (enR : en_T) (H : Heap) (locs : List Loc) (ls : Array Slot) (kk : Int) (gR : St), EM dA b muR enR → Wd D (z 0) enR H → va_S (fun q => z 0 ≤ q) s.heap H locs → lv_has ls 3 [(1, .int (iZ (kk))), (0, .ref (b 0))] → FM en enR → Rl gR muR → IJ gR → PD gR → 1 ≤ kk → kk + (n : Int) = 5 → sMom fu g = sRcvs n kk gR → W p l e ({ frames := 3, cells := 0, slots := 0, locals := 90 }) s m (([.ref (b 0)] : List Value).toArray) below meth c H locs 0 0 (MQ below (va_Qv (fun u : en_T × Mu => EM dA b u.2 u.1 ∧ FM en u.1 ∧ Rl (sMom fu g) u.2) (fun u t9 => Wd D (z 0) u.1 t9.heap) (fun q => z 0 ≤ q)) ([.ref (b 0)] : List Value).toArray s (0) (0) (fun q => z 0 ≤ q)) (F0 m 53 ls []) := by
    intro n
    induction n with
    | zero =>
      intro muR enR H locs ls kk gR hER hW hS hl hFR hRR hIR9 hdR hk1 hkn heR
      have fM : enR 20 0 = some (b 0, .inr (6, [.int (iZ (muR 0 0)), .int (iZ (muR 1 0)), .long (lZ (muR 2 0)), .int (iZ (muR 3 0)), .ref (b 4), .ref (b 5), .ref (b 6), .ref (b 7), .ref (b 8), .ref (b 9), .ref (b 10), .ref (b 11), .ref (b 12), .ref (b 13), .ref (b 14), .ref (b 15), .ref (b 16), .ref (b 17), .ref (b 18), .ref (b 19), .ref (b 20), .ref (b 21), .ref (b 22), .ref (b 23), .ref (b 24), .ref (b 25), .int (iZ (muR 26 0)), .ref (b 27), .ref (b 28), .ref (b 29), .ref (b 30), .ref (b 31), .ref (b 32), .ref (b 33), .ref (b 34), .int (iZ (muR 35 0)), .int (iZ (muR 36 0)), .int (iZ (muR 37 0)), .int (iZ (muR 38 0)), .int (iZ (muR 39 0)), .int (iZ (muR 40 0)), .ref (b 41), .ref (b 42)])) := hER.1
      have f7_ : enR 27 0 = some (b 7, aI dA (101) (muR 7)) := hER.2 7 (by decide)
      have f16_ : enR 36 0 = some (b 16, aI dA (4) (muR 16)) := hER.2 16 (by decide)
      have f23_ : enR 43 0 = some (b 23, aJ dA (4) (muR 23)) := hER.2 23 (by decide)
      have f24_ : enR 44 0 = some (b 24, aZ dA (4) (muR 24)) := hER.2 24 (by decide)
      refine lv_iload_n hx hb dX4_moment_53 rfl (lv_at hl 0 rfl) ?_
      refine z_iconst hx hb dX4_moment_54 ?_
      refine z_icmp_ge (tgt := 144) hx hb dX4_moment_55 (by decide) (by omega) (by omega) (fun _ => ?_) (fun c_q => absurd c_q (by omega))
      have hpst : Rl (sMom fu g) muR := by rw [heR, sRcvs_0]; exact hRR
      exact W.vret hx hb hr (fun t ht hw => ⟨⟨(enR, muR), rfl, ⟨hER, hFR, hpst⟩, by show Wd _ _ _ t.heap; rw [ht]; exact hW⟩, hS.F ht⟩) hS.2.2 dX4_moment_144
    | succ n ih =>
      intro muR enR H locs ls kk gR hER hW hS hl hFR hRR hIR9 hdR hk1 hkn heR
      have fM : enR 20 0 = some (b 0, .inr (6, [.int (iZ (muR 0 0)), .int (iZ (muR 1 0)), .long (lZ (muR 2 0)), .int (iZ (muR 3 0)), .ref (b 4), .ref (b 5), .ref (b 6), .ref (b 7), .ref (b 8), .ref (b 9), .ref (b 10), .ref (b 11), .ref (b 12), .ref (b 13), .ref (b 14), .ref (b 15), .ref (b 16), .ref (b 17), .ref (b 18), .ref (b 19), .ref (b 20), .ref (b 21), .ref (b 22), .ref (b 23), .ref (b 24), .ref (b 25), .int (iZ (muR 26 0)), .ref (b 27), .ref (b 28), .ref (b 29), .ref (b 30), .ref (b 31), .ref (b 32), .ref (b 33), .ref (b 34), .int (iZ (muR 35 0)), .int (iZ (muR 36 0)), .int (iZ (muR 37 0)), .int (iZ (muR 38 0)), .int (iZ (muR 39 0)), .int (iZ (muR 40 0)), .ref (b 41), .ref (b 42)])) := hER.1
      have f7_ : enR 27 0 = some (b 7, aI dA (101) (muR 7)) := hER.2 7 (by decide)
      have f16_ : enR 36 0 = some (b 16, aI dA (4) (muR 16)) := hER.2 16 (by decide)
      have f23_ : enR 43 0 = some (b 23, aJ dA (4) (muR 23)) := hER.2 23 (by decide)
      have f24_ : enR 44 0 = some (b 24, aZ dA (4) (muR 24)) := hER.2 24 (by decide)
      refine lv_iload_n hx hb dX4_moment_53 rfl (lv_at hl 0 rfl) ?_
      refine z_iconst hx hb dX4_moment_54 ?_
      refine z_icmp_ge (tgt := 144) hx hb dX4_moment_55 (by decide) (by omega) (by omega) (fun c_q => absurd c_q (by omega)) (fun _ => ?_)
      refine lv_iload_n hx hb dX4_moment_58 rfl (lv_at hl 0 rfl) ?_
      refine z_iconst hx hb dX4_moment_59 ?_
      refine z_irem hx hb (by omega) (by omega) (by omega) (by omega) dX4_moment_60 ?_
      obtain ⟨r, hrd⟩ : ∃ x : Int, x = kk % 4 := ⟨_, rfl⟩
      have hr0 : 0 ≤ r := by omega
      have hr1 : r < 4 := by omega
      rw [← hrd]
      rw [sRcvs_s, ← hrd] at heR
      obtain ⟨g1, hg1v⟩ : ∃ x : St, x = sR1 gR r := ⟨_, rfl⟩
      have hp1 := pd_r1 hIR9 hdR hr0 hr1
      rw [← hg1v] at hp1
      obtain ⟨hI1, hd1⟩ := hp1
      have hp2 := pd_actR hIR9 hdR hr0 hr1
      have haR : sActR gR r = if g1 38 r 0 ≤ g1 0 7 0 then sEndR g1 r 2 else g1 := by rw [hg1v]; exact sActR_e gR r
      have hjr := hIR9.2.2 r hr0 hr1
      unfold JR at hjr
      have hj30 := hjr.2
      clear hjr
      refine lv_istore_n (lv' := [(2, .int (iZ (r))), (1, .int (iZ (kk))), (0, .ref (b 0))]) hx hb dX4_moment_61 rfl hl (by decide) rfl (fun ls hl => ?_)
      have k104 : ∀ (muB : Mu) (enB : en_T) (H : Heap) (locs : List Loc) (ls : Array Slot), EM dA b muB enB → Wd D (z 0) enB H → va_S (fun q => z 0 ≤ q) s.heap H locs → lv_has ls 3 [(2, .int (iZ (r))), (1, .int (iZ (kk))), (0, .ref (b 0))] → FM en enB → Rl g1 muB → W p l e ({ frames := 3, cells := 0, slots := 0, locals := 90 }) s m (([.ref (b 0)] : List Value).toArray) below meth c H locs 0 0 (MQ below (va_Qv (fun u : en_T × Mu => EM dA b u.2 u.1 ∧ FM en u.1 ∧ Rl (sMom fu g) u.2) (fun u t9 => Wd D (z 0) u.1 t9.heap) (fun q => z 0 ≤ q)) ([.ref (b 0)] : List Value).toArray s (0) (0) (fun q => z 0 ≤ q)) (F0 m 104 ls []) := by
        intro muB enB H locs ls hEB hW hS hl hFB hRB
        obtain ⟨-, d38, d23, d16, d2, -⟩ := rq_d hI1.1 hRB hd1 hr0 hr1
        have fM : enB 20 0 = some (b 0, .inr (6, [.int (iZ (muB 0 0)), .int (iZ (muB 1 0)), .long (lZ (muB 2 0)), .int (iZ (muB 3 0)), .ref (b 4), .ref (b 5), .ref (b 6), .ref (b 7), .ref (b 8), .ref (b 9), .ref (b 10), .ref (b 11), .ref (b 12), .ref (b 13), .ref (b 14), .ref (b 15), .ref (b 16), .ref (b 17), .ref (b 18), .ref (b 19), .ref (b 20), .ref (b 21), .ref (b 22), .ref (b 23), .ref (b 24), .ref (b 25), .int (iZ (muB 26 0)), .ref (b 27), .ref (b 28), .ref (b 29), .ref (b 30), .ref (b 31), .ref (b 32), .ref (b 33), .ref (b 34), .int (iZ (muB 35 0)), .int (iZ (muB 36 0)), .int (iZ (muB 37 0)), .int (iZ (muB 38 0)), .int (iZ (muB 39 0)), .int (iZ (muB 40 0)), .ref (b 41), .ref (b 42)])) := hEB.1
        have f7_ : enB 27 0 = some (b 7, aI dA (101) (muB 7)) := hEB.2 7 (by decide)
        have f16_ : enB 36 0 = some (b 16, aI dA (4) (muB 16)) := hEB.2 16 (by decide)
        have f23_ : enB 43 0 = some (b 23, aJ dA (4) (muB 23)) := hEB.2 23 (by decide)
        have f24_ : enB 44 0 = some (b 24, aZ dA (4) (muB 24)) := hEB.2 24 (by decide)
        refine lv_aload_n hx hb dX4_moment_104 rfl (lv_at hl 2 rfl) ?_
        refine g_get (C := RX4) (T := TX4) (N := 43) (ci := 6) (v := .ref (b 16)) hx hb hts hi6 hown hK hW fM rfl 16 (by decide) (hts (.fieldLink RX4 50 "LongTransferModel" "place" "[I") (by decide +kernel)) (fun _ h9 => h9) rfl dX4_moment_105 ?_
        refine lv_iload_n hx hb dX4_moment_108 rfl (lv_at hl 0 rfl) ?_
        refine g_iald hx hb hK hW f16_ (by omega) (by omega) (by omega) dX4_moment_109 ?_
        refine z_iconst hx hb dX4_moment_110 ?_
        refine z_icmp_ne (tgt := 138) hx hb dX4_moment_111 (by decide) (by omega) (by omega) (fun c_111 => ?_) (fun c_111 => ?_)
        · refine lv_iinc (v := iZ (kk + 1)) (lv' := [(1, .int (iZ (kk + 1))), (2, .int (iZ (r))), (0, .ref (b 0))]) hx hb dX4_moment_138 hl (k := 1) rfl (iZ_add _ _) (by decide) rfl (fun ls hl => ?_)
          refine lv_goto (tgt := 53) hx hb dX4_moment_141 (by decide) ?_
          have hf9 : Rl (sActR gR r) muB := by rw [haR, if_neg (by omega)]; exact hRB
          refine W.widen (k := 0) (n := 0) (by omega) (by omega) ?_
          exact ih  muB enB _ _ _ (kk + 1) (sActR gR r) hEB hW hS (lv_sub hl [0, 2] rfl) hFB hf9 hp2.1 hp2.2 (by omega) (by omega) heR
        · refine lv_aload_n hx hb dX4_moment_114 rfl (lv_at hl 2 rfl) ?_
          refine g_get (C := RX4) (T := TX4) (N := 43) (ci := 6) (v := .long (lZ (muB 2 0))) hx hb hts hi6 hown hK hW fM rfl 2 (by decide) (hts (.fieldLink RX4 137 "LongTransferModel" "now" "J") (by decide +kernel)) (fun _ h9 => h9) rfl dX4_moment_115 ?_
          refine lv_aload_n hx hb dX4_moment_118 rfl (lv_at hl 2 rfl) ?_
          refine g_get (C := RX4) (T := TX4) (N := 43) (ci := 6) (v := .ref (b 23)) hx hb hts hi6 hown hK hW fM rfl 23 (by decide) (hts (.fieldLink RX4 71 "LongTransferModel" "heard" "[J") (by decide +kernel)) (fun _ h9 => h9) rfl dX4_moment_119 ?_
          refine lv_iload_n hx hb dX4_moment_122 rfl (lv_at hl 0 rfl) ?_
          refine g_lald hx hb hK hW f23_ (by omega) (by omega) (by omega) dX4_moment_123 ?_
          refine z_lsub hx hb dX4_moment_124 ?_
          refine z_ldc2 hx hb 1000 hown (hts (.constantLong RX4 181 (1000)) (by decide +kernel)) (by decide) dX4_moment_125 ?_
          refine z_lc_ne (tgt := 138) hx hb dX4_moment_128 dX4_moment_129 (by decide) (by omega) (by omega) (fun c_128 => ?_) (fun c_128 => ?_)
          · refine lv_iinc (v := iZ (kk + 1)) (lv' := [(1, .int (iZ (kk + 1))), (2, .int (iZ (r))), (0, .ref (b 0))]) hx hb dX4_moment_138 hl (k := 1) rfl (iZ_add _ _) (by decide) rfl (fun ls hl => ?_)
            refine lv_goto (tgt := 53) hx hb dX4_moment_141 (by decide) ?_
            have hf9 : Rl (sActR gR r) muB := by rw [haR, if_neg (by omega)]; exact hRB
            refine W.widen (k := 0) (n := 0) (by omega) (by omega) ?_
            exact ih  muB enB _ _ _ (kk + 1) (sActR gR r) hEB hW hS (lv_sub hl [0, 2] rfl) hFB hf9 hp2.1 hp2.2 (by omega) (by omega) heR
          · refine lv_aload_n hx hb dX4_moment_132 rfl (lv_at hl 2 rfl) ?_
            refine lv_iload_n hx hb dX4_moment_133 rfl (lv_at hl 0 rfl) ?_
            refine z_iconst hx hb dX4_moment_134 ?_
            refine va_callv (va_runV (As := [.int (iZ (r)), .int (iZ (2))]) (rest := []) ⟨hx, hb, hml, hown, hts⟩ (c_X4_endReceiver l D dA z enB b muB r 2 (by omega) (by omega) (by omega) (by omega) hEB) (cwV 2 hts gX4_moment_X4_endReceiver rfl rfl rfl (by decide +kernel) ⟨Nat.le_of_ble_eq_true rfl, Nat.le_of_ble_eq_true rfl⟩) ⟨gBl, gRecv hK hW (ci := 6) rfl fM, gPre _ hg hS hW⟩ rfl rfl hl.1 rfl (lv_room (Nat.le_of_ble_eq_true rfl)) dX4_moment_135 ⟨(show 0 + 0 ≤ 0 by omega), (show 0 + 0 ≤ 0 by omega)⟩) hS (fun _ _ h => h) (fun _ h => h) (fun u9 t9 H locs ht9 hvm9 hw9 hB9 hz9 hk9 hS => ?_)
            obtain ⟨en1w, mu1w⟩ := u9
            obtain ⟨hE1w, hF1w, hmu1w⟩ := hw9
            have hW : Wd D (z 0) en1w H := by rw [← ht9]; exact hB9
            dsimp only at hE1w hF1w hmu1w
            have hF1w := FM.tr hFB hF1w
            have fM : en1w 20 0 = some (b 0, .inr (6, [.int (iZ (mu1w 0 0)), .int (iZ (mu1w 1 0)), .long (lZ (mu1w 2 0)), .int (iZ (mu1w 3 0)), .ref (b 4), .ref (b 5), .ref (b 6), .ref (b 7), .ref (b 8), .ref (b 9), .ref (b 10), .ref (b 11), .ref (b 12), .ref (b 13), .ref (b 14), .ref (b 15), .ref (b 16), .ref (b 17), .ref (b 18), .ref (b 19), .ref (b 20), .ref (b 21), .ref (b 22), .ref (b 23), .ref (b 24), .ref (b 25), .int (iZ (mu1w 26 0)), .ref (b 27), .ref (b 28), .ref (b 29), .ref (b 30), .ref (b 31), .ref (b 32), .ref (b 33), .ref (b 34), .int (iZ (mu1w 35 0)), .int (iZ (mu1w 36 0)), .int (iZ (mu1w 37 0)), .int (iZ (mu1w 38 0)), .int (iZ (mu1w 39 0)), .int (iZ (mu1w 40 0)), .ref (b 41), .ref (b 42)])) := hE1w.1
            have f7_ : en1w 27 0 = some (b 7, aI dA (101) (mu1w 7)) := hE1w.2 7 (by decide)
            have f16_ : en1w 36 0 = some (b 16, aI dA (4) (mu1w 16)) := hE1w.2 16 (by decide)
            have f23_ : en1w 43 0 = some (b 23, aJ dA (4) (mu1w 23)) := hE1w.2 23 (by decide)
            have f24_ : en1w 44 0 = some (b 24, aZ dA (4) (mu1w 24)) := hE1w.2 24 (by decide)
            refine lv_iinc (v := iZ (kk + 1)) (lv' := [(1, .int (iZ (kk + 1))), (2, .int (iZ (r))), (0, .ref (b 0))]) hx hb dX4_moment_138 hl (k := 1) rfl (iZ_add _ _) (by decide) rfl (fun ls hl => ?_)
            refine lv_goto (tgt := 53) hx hb dX4_moment_141 (by decide) ?_
            have hf9 : Rl (sActR gR r) mu1w := by rw [haR, if_pos (by omega), hmu1w]; exact rl_er hI1.1 hRB hr0 hr1 (by omega)
            refine W.widen (k := 0) (n := 0) (by omega) (by omega) ?_
            exact ih  mu1w en1w _ _ _ (kk + 1) (sActR gR r) hE1w hW hS (lv_sub hl [0, 2] rfl) hF1w hf9 hp2.1 hp2.2 (by omega) (by omega) heR
      obtain ⟨d37, -, d23, d16, d2, d30⟩ := rq_d hIR9.1 hRR hdR hr0 hr1
      refine lv_aload_n hx hb dX4_moment_62 rfl (lv_at hl 2 rfl) ?_
      refine g_get (C := RX4) (T := TX4) (N := 43) (ci := 6) (v := .ref (b 16)) hx hb hts hi6 hown hK hW fM rfl 16 (by decide) (hts (.fieldLink RX4 50 "LongTransferModel" "place" "[I") (by decide +kernel)) (fun _ h9 => h9) rfl dX4_moment_63 ?_
      refine lv_iload_n hx hb dX4_moment_66 rfl (lv_at hl 0 rfl) ?_
      refine g_iald hx hb hK hW f16_ (by omega) (by omega) (by omega) dX4_moment_67 ?_
      refine z_iconst hx hb dX4_moment_68 ?_
      refine z_icmp_ne (tgt := 104) hx hb dX4_moment_69 (by decide) (by omega) (by omega) (fun c_69 => ?_) (fun c_69 => ?_)
      · have hf8 : Rl g1 muR := by rw [hg1v]; unfold sR1; rw [if_neg (by omega)]; exact hRR
        refine W.widen (k := 0) (n := 0) (by omega) (by omega) ?_
        exact k104  muR enR _ _ _  hER hW hS (lv_sub hl [0, 1, 2] rfl) hFR hf8
      · refine lv_aload_n hx hb dX4_moment_72 rfl (lv_at hl 2 rfl) ?_
        refine g_get (C := RX4) (T := TX4) (N := 43) (ci := 6) (v := .ref (b 24)) hx hb hts hi6 hown hK hW fM rfl 24 (by decide) (hts (.fieldLink RX4 74 "LongTransferModel" "asks" "[Z") (by decide +kernel)) (fun _ h9 => h9) rfl dX4_moment_73 ?_
        refine lv_iload_n hx hb dX4_moment_76 rfl (lv_at hl 0 rfl) ?_
        refine g_zald hx hb hK hW f24_ (by omega) (by omega) (by omega) dX4_moment_77 ?_
        refine z_if_eq (tgt := 104) hx hb dX4_moment_78 (by decide) (by omega) (fun c_78 => ?_) (fun c_78 => ?_)
        · have hf8 : Rl g1 muR := by rw [hg1v]; unfold sR1; rw [if_neg (by omega)]; exact hRR
          refine W.widen (k := 0) (n := 0) (by omega) (by omega) ?_
          exact k104  muR enR _ _ _  hER hW hS (lv_sub hl [0, 1, 2] rfl) hFR hf8
        · refine lv_aload_n hx hb dX4_moment_81 rfl (lv_at hl 2 rfl) ?_
          refine g_get (C := RX4) (T := TX4) (N := 43) (ci := 6) (v := .long (lZ (muR 2 0))) hx hb hts hi6 hown hK hW fM rfl 2 (by decide) (hts (.fieldLink RX4 137 "LongTransferModel" "now" "J") (by decide +kernel)) (fun _ h9 => h9) rfl dX4_moment_82 ?_
          refine lv_aload_n hx hb dX4_moment_85 rfl (lv_at hl 2 rfl) ?_
          refine g_get (C := RX4) (T := TX4) (N := 43) (ci := 6) (v := .ref (b 23)) hx hb hts hi6 hown hK hW fM rfl 23 (by decide) (hts (.fieldLink RX4 71 "LongTransferModel" "heard" "[J") (by decide +kernel)) (fun _ h9 => h9) rfl dX4_moment_86 ?_
          refine lv_iload_n hx hb dX4_moment_89 rfl (lv_at hl 0 rfl) ?_
          refine g_lald hx hb hK hW f23_ (by omega) (by omega) (by omega) dX4_moment_90 ?_
          refine z_lsub hx hb dX4_moment_91 ?_
          refine z_ldc2 hx hb 500 hown (hts (.constantLong RX4 190 (500)) (by decide +kernel)) (by decide) dX4_moment_92 ?_
          refine z_lc_ne (tgt := 104) hx hb dX4_moment_95 dX4_moment_96 (by decide) (by omega) (by omega) (fun c_95 => ?_) (fun c_95 => ?_)
          · have hf8 : Rl g1 muR := by rw [hg1v]; unfold sR1; rw [if_neg (by omega)]; exact hRR
            refine W.widen (k := 0) (n := 0) (by omega) (by omega) ?_
            exact k104  muR enR _ _ _  hER hW hS (lv_sub hl [0, 1, 2] rfl) hFR hf8
          · refine lv_aload_n hx hb dX4_moment_99 rfl (lv_at hl 2 rfl) ?_
            refine lv_iload_n hx hb dX4_moment_100 rfl (lv_at hl 0 rfl) ?_
            refine va_callv (va_runV (As := [.int (iZ (r))]) (rest := []) ⟨hx, hb, hml, hown, hts⟩ (c_X4_answer l D dA z enR b muR gR r hr0 hr1 (hj30 (by omega)).1 hIR9.1 (hRR.r r) ((hRR.2.2.2.2.2.2.1 r hr0 hr1).w (by omega)) hER) (cwV 1 hts gX4_moment_X4_answer rfl rfl rfl (by decide +kernel) ⟨Nat.le_of_ble_eq_true rfl, Nat.le_of_ble_eq_true rfl⟩) ⟨gBl, gRecv hK hW (ci := 6) rfl fM, gPre _ hg hS hW⟩ rfl rfl hl.1 rfl (lv_room (Nat.le_of_ble_eq_true rfl)) dX4_moment_101 ⟨(show 0 + 0 ≤ 0 by omega), (show 0 + 0 ≤ 0 by omega)⟩) hS (fun _ _ h => h) (fun _ h => h) (fun u9 t9 H locs ht9 hvm9 hw9 hB9 hz9 hk9 hS => ?_)
            obtain ⟨en2w, mu2w⟩ := u9
            obtain ⟨hE2w, hF2w, hmu2w⟩ := hw9
            have hW : Wd D (z 0) en2w H := by rw [← ht9]; exact hB9
            dsimp only at hE2w hF2w hmu2w
            have hF2w := FM.tr hFR hF2w
            have fM : en2w 20 0 = some (b 0, .inr (6, [.int (iZ (mu2w 0 0)), .int (iZ (mu2w 1 0)), .long (lZ (mu2w 2 0)), .int (iZ (mu2w 3 0)), .ref (b 4), .ref (b 5), .ref (b 6), .ref (b 7), .ref (b 8), .ref (b 9), .ref (b 10), .ref (b 11), .ref (b 12), .ref (b 13), .ref (b 14), .ref (b 15), .ref (b 16), .ref (b 17), .ref (b 18), .ref (b 19), .ref (b 20), .ref (b 21), .ref (b 22), .ref (b 23), .ref (b 24), .ref (b 25), .int (iZ (mu2w 26 0)), .ref (b 27), .ref (b 28), .ref (b 29), .ref (b 30), .ref (b 31), .ref (b 32), .ref (b 33), .ref (b 34), .int (iZ (mu2w 35 0)), .int (iZ (mu2w 36 0)), .int (iZ (mu2w 37 0)), .int (iZ (mu2w 38 0)), .int (iZ (mu2w 39 0)), .int (iZ (mu2w 40 0)), .ref (b 41), .ref (b 42)])) := hE2w.1
            have f7_ : en2w 27 0 = some (b 7, aI dA (101) (mu2w 7)) := hE2w.2 7 (by decide)
            have f16_ : en2w 36 0 = some (b 16, aI dA (4) (mu2w 16)) := hE2w.2 16 (by decide)
            have f23_ : en2w 43 0 = some (b 23, aJ dA (4) (mu2w 23)) := hE2w.2 23 (by decide)
            have f24_ : en2w 44 0 = some (b 24, aZ dA (4) (mu2w 24)) := hE2w.2 24 (by decide)
            have hf8 : Rl g1 mu2w := by rw [hg1v]; unfold sR1; rw [if_pos (by omega)]; exact hmu2w
            refine W.widen (k := 0) (n := 0) (by omega) (by omega) ?_
            exact k104  mu2w en2w _ _ _  hE2w hW hS (lv_sub hl [0, 1, 2] rfl) hF2w hf8
  have kS : ∀ (n : Nat) (muS : Mu) (enS : en_T) (H : Heap) (locs : List Loc) (ls : Array Slot) (ii : Int) (gS : St), EM dA b muS enS → Wd D (z 0) enS H → va_S (fun q => z 0 ≤ q) s.heap H locs → lv_has ls 3 [(1, .int (iZ (ii))), (0, .ref (b 0))] → FM en enS → Rl gS muS → IJ gS → PD gS → 1 ≤ ii → ii - 1 + (n : Int) = gS 1 0 0 → sMom fu g = sRcvs 4 1 (sSnds fu n (ii - 1) gS) → W p l e ({ frames := 3, cells := 0, slots := 0, locals := 90 }) s m (([.ref (b 0)] : List Value).toArray) below meth c H locs 0 0 (MQ below (va_Qv (fun u : en_T × Mu => EM dA b u.2 u.1 ∧ FM en u.1 ∧ Rl (sMom fu g) u.2) (fun u t9 => Wd D (z 0) u.1 t9.heap) (fun q => z 0 ≤ q)) ([.ref (b 0)] : List Value).toArray s (0) (0) (fun q => z 0 ≤ q)) (F0 m 2 ls []) := by
    intro n
    induction n with
    | zero =>
      intro muS enS H locs ls ii gS hES hW hS hl hFS hRS hIS9 hdS hi1 hin heS
      have rX := hRS.1
      unfold RX at rX
      have hLs := hIS9.1.2.1
      unfold IL at hLs
      have fM : enS 20 0 = some (b 0, .inr (6, [.int (iZ (muS 0 0)), .int (iZ (muS 1 0)), .long (lZ (muS 2 0)), .int (iZ (muS 3 0)), .ref (b 4), .ref (b 5), .ref (b 6), .ref (b 7), .ref (b 8), .ref (b 9), .ref (b 10), .ref (b 11), .ref (b 12), .ref (b 13), .ref (b 14), .ref (b 15), .ref (b 16), .ref (b 17), .ref (b 18), .ref (b 19), .ref (b 20), .ref (b 21), .ref (b 22), .ref (b 23), .ref (b 24), .ref (b 25), .int (iZ (muS 26 0)), .ref (b 27), .ref (b 28), .ref (b 29), .ref (b 30), .ref (b 31), .ref (b 32), .ref (b 33), .ref (b 34), .int (iZ (muS 35 0)), .int (iZ (muS 36 0)), .int (iZ (muS 37 0)), .int (iZ (muS 38 0)), .int (iZ (muS 39 0)), .int (iZ (muS 40 0)), .ref (b 41), .ref (b 42)])) := hES.1
      have f7_ : enS 27 0 = some (b 7, aI dA (101) (muS 7)) := hES.2 7 (by decide)
      have f16_ : enS 36 0 = some (b 16, aI dA (4) (muS 16)) := hES.2 16 (by decide)
      have f23_ : enS 43 0 = some (b 23, aJ dA (4) (muS 23)) := hES.2 23 (by decide)
      have f24_ : enS 44 0 = some (b 24, aZ dA (4) (muS 24)) := hES.2 24 (by decide)
      refine lv_iload_n hx hb dX4_moment_2 rfl (lv_at hl 0 rfl) ?_
      refine lv_aload_n hx hb dX4_moment_3 rfl (lv_at hl 1 rfl) ?_
      refine g_get (C := RX4) (T := TX4) (N := 43) (ci := 6) (v := .int (iZ (muS 3 0))) hx hb hts hi6 hown hK hW fM rfl 3 (by decide) (hts (.fieldLink RX4 123 "LongTransferModel" "messages" "I") (by decide +kernel)) (fun _ h9 => h9) rfl dX4_moment_4 ?_
      refine z_icmp_gt (tgt := 51) hx hb dX4_moment_7 (by decide) (by omega) (by omega) (fun _ => ?_) (fun c_q => absurd c_q (by omega))
      refine z_iconst hx hb dX4_moment_51 ?_
      refine lv_istore_n (lv' := [(1, .int (iZ (1))), (0, .ref (b 0))]) hx hb dX4_moment_52 rfl hl (by decide) rfl (fun ls hl => ?_)
      refine W.widen (k := 0) (n := 0) (by omega) (by omega) ?_
      exact kR 4 muS enS _ _ _ 1 gS hES hW hS (lv_sub hl [0, 1] rfl) hFS hRS hIS9 hdS (by omega) (by omega) heS
    | succ n ih =>
      intro muS enS H locs ls ii gS hES hW hS hl hFS hRS hIS9 hdS hi1 hin heS
      have rX := hRS.1
      unfold RX at rX
      have hLs := hIS9.1.2.1
      unfold IL at hLs
      have kI : ∀ (n1 : Nat) (muI : Mu) (enI : en_T) (H : Heap) (locs : List Loc) (ls : Array Slot) (gI : St), EM dA b muI enI → Wd D (z 0) enI H → va_S (fun q => z 0 ≤ q) s.heap H locs → lv_has ls 3 [(1, .int (iZ (ii))), (0, .ref (b 0))] → FM en enI → Rl gI muI → IJ gI → PD gI → gI 1 0 0 = gS 1 0 0 → (gI 18 ii 0 ≤ gI 0 7 0 → 6000 - gI 1 1 0 < (n1 : Int)) → sMom fu g = sRcvs 4 1 (sSnds fu n ii (sAct n1 gI ii)) → W p l e ({ frames := 3, cells := 0, slots := 0, locals := 90 }) s m (([.ref (b 0)] : List Value).toArray) below meth c H locs 0 0 (MQ below (va_Qv (fun u : en_T × Mu => EM dA b u.2 u.1 ∧ FM en u.1 ∧ Rl (sMom fu g) u.2) (fun u t9 => Wd D (z 0) u.1 t9.heap) (fun q => z 0 ≤ q)) ([.ref (b 0)] : List Value).toArray s (0) (0) (fun q => z 0 ≤ q)) (F0 m 10 ls []) := by
        intro n1
        induction n1 with
        | zero =>
          intro muI enI H locs ls gI hEI hW hS hl hFI hRi hIi hdi hci hfi hei
          have hii2 : ii ≤ gI 1 0 0 := by omega
          have hdu := due_m hIi.1 hRi hdi hi1 hii2
          obtain ⟨u7, u15, u2b, u14, u12⟩ := due_b hIi.1 hRi hi1 hii2
          have hLi := hIi.1.2.1
          unfold IL at hLi
          have fM : enI 20 0 = some (b 0, .inr (6, [.int (iZ (muI 0 0)), .int (iZ (muI 1 0)), .long (lZ (muI 2 0)), .int (iZ (muI 3 0)), .ref (b 4), .ref (b 5), .ref (b 6), .ref (b 7), .ref (b 8), .ref (b 9), .ref (b 10), .ref (b 11), .ref (b 12), .ref (b 13), .ref (b 14), .ref (b 15), .ref (b 16), .ref (b 17), .ref (b 18), .ref (b 19), .ref (b 20), .ref (b 21), .ref (b 22), .ref (b 23), .ref (b 24), .ref (b 25), .int (iZ (muI 26 0)), .ref (b 27), .ref (b 28), .ref (b 29), .ref (b 30), .ref (b 31), .ref (b 32), .ref (b 33), .ref (b 34), .int (iZ (muI 35 0)), .int (iZ (muI 36 0)), .int (iZ (muI 37 0)), .int (iZ (muI 38 0)), .int (iZ (muI 39 0)), .int (iZ (muI 40 0)), .ref (b 41), .ref (b 42)])) := hEI.1
          have f7_ : enI 27 0 = some (b 7, aI dA (101) (muI 7)) := hEI.2 7 (by decide)
          have f16_ : enI 36 0 = some (b 16, aI dA (4) (muI 16)) := hEI.2 16 (by decide)
          have f23_ : enI 43 0 = some (b 23, aJ dA (4) (muI 23)) := hEI.2 23 (by decide)
          have f24_ : enI 44 0 = some (b 24, aZ dA (4) (muI 24)) := hEI.2 24 (by decide)
          refine lv_aload_n hx hb dX4_moment_10 rfl (lv_at hl 1 rfl) ?_
          refine lv_iload_n hx hb dX4_moment_11 rfl (lv_at hl 0 rfl) ?_
          refine va_calli (va_runV (As := [.int (iZ (ii))]) (rest := []) ⟨hx, hb, hml, hown, hts⟩ (c_X4_senderDue l D dA z enI b muI ii (by omega) (by omega) u7 u15 u2b u14 hEI) (cwV 1 hts gX4_moment_X4_senderDue rfl rfl rfl (by decide +kernel) ⟨Nat.le_of_ble_eq_true rfl, Nat.le_of_ble_eq_true rfl⟩) ⟨gBl, gRecv hK hW (ci := 6) rfl fM, gPre _ hg hS hW⟩ rfl rfl hl.1 rfl (lv_room (Nat.le_of_ble_eq_true rfl)) dX4_moment_12 ⟨(show 0 + 0 ≤ 0 by omega), (show 0 + 0 ≤ 0 by omega)⟩) hS (fun _ _ h => h) (fun _ h => h) (fun r9 u9 t9 H locs ht9 hvm9 hw9 hB9 hz9 hk9 hS => ?_)
          have hW : Wd D (z 0) enI H := by rw [← ht9]; exact hB9
          subst hw9
          obtain ⟨dv, hdv⟩ : ∃ x : Int, x = if (muI 7 ii = 2 ∧ muI 15 ii = muI 2 0) ∨ (muI 7 ii = 1 ∧ muI 2 0 - muI 14 ii = 1000) then 1 else 0 := ⟨_, rfl⟩
          rw [← hdv]
          have hdw : (dv = 1 ∧ gI 18 ii 0 ≤ gI 0 7 0) ∨ (dv = 0 ∧ ¬ gI 18 ii 0 ≤ gI 0 7 0) := by
            by_cases q : gI 18 ii 0 ≤ gI 0 7 0
            · exact Or.inl ⟨hdv.trans (if_pos (hdu.2 q)), q⟩
            · exact Or.inr ⟨hdv.trans (if_neg (fun w => q (hdu.1 w))), q⟩
          clear hdv
          refine z_if_eq (tgt := 45) hx hb dX4_moment_15 (by decide) (by omega) (fun c_15 => ?_) (fun c_15 => ?_)
          · refine lv_iinc (v := iZ (ii + 1)) (lv' := [(1, .int (iZ (ii + 1))), (0, .ref (b 0))]) hx hb dX4_moment_45 hl (k := 0) rfl (iZ_add _ _) (by decide) rfl (fun ls hl => ?_)
            refine lv_goto (tgt := 2) hx hb dX4_moment_48 (by decide) ?_
            have hs9 : sMom fu g = sRcvs 4 1 (sSnds fu n (ii + 1 - 1) gI) := by rw [hei, sAct_id _ (by omega), show ii + 1 - 1 = ii by omega]
            refine W.widen (k := 0) (n := 0) (by omega) (by omega) ?_
            exact ih  muI enI _ _ _ (ii + 1) gI hEI hW hS (lv_sub hl [0, 1] rfl) hFI hRi hIi hdi (by omega) (by omega) hs9
          · exact absurd (hfi (by omega)) (by omega)
        | succ n1 ih1 =>
          intro muI enI H locs ls gI hEI hW hS hl hFI hRi hIi hdi hci hfi hei
          have hii2 : ii ≤ gI 1 0 0 := by omega
          have hdu := due_m hIi.1 hRi hdi hi1 hii2
          obtain ⟨u7, u15, u2b, u14, u12⟩ := due_b hIi.1 hRi hi1 hii2
          have hLi := hIi.1.2.1
          unfold IL at hLi
          have fM : enI 20 0 = some (b 0, .inr (6, [.int (iZ (muI 0 0)), .int (iZ (muI 1 0)), .long (lZ (muI 2 0)), .int (iZ (muI 3 0)), .ref (b 4), .ref (b 5), .ref (b 6), .ref (b 7), .ref (b 8), .ref (b 9), .ref (b 10), .ref (b 11), .ref (b 12), .ref (b 13), .ref (b 14), .ref (b 15), .ref (b 16), .ref (b 17), .ref (b 18), .ref (b 19), .ref (b 20), .ref (b 21), .ref (b 22), .ref (b 23), .ref (b 24), .ref (b 25), .int (iZ (muI 26 0)), .ref (b 27), .ref (b 28), .ref (b 29), .ref (b 30), .ref (b 31), .ref (b 32), .ref (b 33), .ref (b 34), .int (iZ (muI 35 0)), .int (iZ (muI 36 0)), .int (iZ (muI 37 0)), .int (iZ (muI 38 0)), .int (iZ (muI 39 0)), .int (iZ (muI 40 0)), .ref (b 41), .ref (b 42)])) := hEI.1
          have f7_ : enI 27 0 = some (b 7, aI dA (101) (muI 7)) := hEI.2 7 (by decide)
          have f16_ : enI 36 0 = some (b 16, aI dA (4) (muI 16)) := hEI.2 16 (by decide)
          have f23_ : enI 43 0 = some (b 23, aJ dA (4) (muI 23)) := hEI.2 23 (by decide)
          have f24_ : enI 44 0 = some (b 24, aZ dA (4) (muI 24)) := hEI.2 24 (by decide)
          refine lv_aload_n hx hb dX4_moment_10 rfl (lv_at hl 1 rfl) ?_
          refine lv_iload_n hx hb dX4_moment_11 rfl (lv_at hl 0 rfl) ?_
          refine va_calli (va_runV (As := [.int (iZ (ii))]) (rest := []) ⟨hx, hb, hml, hown, hts⟩ (c_X4_senderDue l D dA z enI b muI ii (by omega) (by omega) u7 u15 u2b u14 hEI) (cwV 1 hts gX4_moment_X4_senderDue rfl rfl rfl (by decide +kernel) ⟨Nat.le_of_ble_eq_true rfl, Nat.le_of_ble_eq_true rfl⟩) ⟨gBl, gRecv hK hW (ci := 6) rfl fM, gPre _ hg hS hW⟩ rfl rfl hl.1 rfl (lv_room (Nat.le_of_ble_eq_true rfl)) dX4_moment_12 ⟨(show 0 + 0 ≤ 0 by omega), (show 0 + 0 ≤ 0 by omega)⟩) hS (fun _ _ h => h) (fun _ h => h) (fun r9 u9 t9 H locs ht9 hvm9 hw9 hB9 hz9 hk9 hS => ?_)
          have hW : Wd D (z 0) enI H := by rw [← ht9]; exact hB9
          subst hw9
          obtain ⟨dv, hdv⟩ : ∃ x : Int, x = if (muI 7 ii = 2 ∧ muI 15 ii = muI 2 0) ∨ (muI 7 ii = 1 ∧ muI 2 0 - muI 14 ii = 1000) then 1 else 0 := ⟨_, rfl⟩
          rw [← hdv]
          have hdw : (dv = 1 ∧ gI 18 ii 0 ≤ gI 0 7 0) ∨ (dv = 0 ∧ ¬ gI 18 ii 0 ≤ gI 0 7 0) := by
            by_cases q : gI 18 ii 0 ≤ gI 0 7 0
            · exact Or.inl ⟨hdv.trans (if_pos (hdu.2 q)), q⟩
            · exact Or.inr ⟨hdv.trans (if_neg (fun w => q (hdu.1 w))), q⟩
          clear hdv
          refine z_if_eq (tgt := 45) hx hb dX4_moment_15 (by decide) (by omega) (fun c_15 => ?_) (fun c_15 => ?_)
          · refine lv_iinc (v := iZ (ii + 1)) (lv' := [(1, .int (iZ (ii + 1))), (0, .ref (b 0))]) hx hb dX4_moment_45 hl (k := 0) rfl (iZ_add _ _) (by decide) rfl (fun ls hl => ?_)
            refine lv_goto (tgt := 2) hx hb dX4_moment_48 (by decide) ?_
            have hs9 : sMom fu g = sRcvs 4 1 (sSnds fu n (ii + 1 - 1) gI) := by rw [hei, sAct_id _ (by omega), show ii + 1 - 1 = ii by omega]
            refine W.widen (k := 0) (n := 0) (by omega) (by omega) ?_
            exact ih  muI enI _ _ _ (ii + 1) gI hEI hW hS (lv_sub hl [0, 1] rfl) hFI hRi hIi hdi (by omega) (by omega) hs9
          · refine lv_aload_n hx hb dX4_moment_18 rfl (lv_at hl 1 rfl) ?_
            refine g_get (C := RX4) (T := TX4) (N := 43) (ci := 6) (v := .ref (b 7)) hx hb hts hi6 hown hK hW fM rfl 7 (by decide) (hts (.fieldLink RX4 22 "LongTransferModel" "state" "[I") (by decide +kernel)) (fun _ h9 => h9) rfl dX4_moment_19 ?_
            refine lv_iload_n hx hb dX4_moment_22 rfl (lv_at hl 0 rfl) ?_
            refine g_iald hx hb hK hW f7_ (by omega) (by omega) (by omega) dX4_moment_23 ?_
            refine z_iconst hx hb dX4_moment_24 ?_
            refine z_icmp_ne (tgt := 37) hx hb dX4_moment_25 (by decide) (by omega) (by omega) (fun c_25 => ?_) (fun c_25 => ?_)
            · refine lv_aload_n hx hb dX4_moment_37 rfl (lv_at hl 1 rfl) ?_
              refine lv_iload_n hx hb dX4_moment_38 rfl (lv_at hl 0 rfl) ?_
              have hduw : gI 12 ii 0 = 2 := by omega
              refine va_callv (va_runV (As := [.int (iZ (ii))]) (rest := []) ⟨hx, hb, hml, hown, hts⟩ (c_X4_sendNext l D dA z enI b muI gI ii hi1 hii2 hduw hIi.1 hIi.2 hRi hEI) (cwV 1 hts gX4_moment_X4_sendNext rfl rfl rfl (by decide +kernel) ⟨Nat.le_of_ble_eq_true rfl, Nat.le_of_ble_eq_true rfl⟩) ⟨gBl, gRecv hK hW (ci := 6) rfl fM, gPre _ hg hS hW⟩ rfl rfl hl.1 rfl (lv_room (Nat.le_of_ble_eq_true rfl)) dX4_moment_39 ⟨(show 0 + 0 + 0 ≤ 0 by omega), (show 0 + 0 + 0 ≤ 0 by omega)⟩) hS (fun _ _ h => h) (fun _ h => h) (fun u9 t9 H locs ht9 hvm9 hw9 hB9 hz9 hk9 hS => ?_)
              obtain ⟨en3w, mu3w⟩ := u9
              obtain ⟨hE3w, hF3w, hmu3w⟩ := hw9
              have hW : Wd D (z 0) en3w H := by rw [← ht9]; exact hB9
              dsimp only at hE3w hF3w hmu3w
              have hF3w := FM.tr hFI hF3w
              have fM : en3w 20 0 = some (b 0, .inr (6, [.int (iZ (mu3w 0 0)), .int (iZ (mu3w 1 0)), .long (lZ (mu3w 2 0)), .int (iZ (mu3w 3 0)), .ref (b 4), .ref (b 5), .ref (b 6), .ref (b 7), .ref (b 8), .ref (b 9), .ref (b 10), .ref (b 11), .ref (b 12), .ref (b 13), .ref (b 14), .ref (b 15), .ref (b 16), .ref (b 17), .ref (b 18), .ref (b 19), .ref (b 20), .ref (b 21), .ref (b 22), .ref (b 23), .ref (b 24), .ref (b 25), .int (iZ (mu3w 26 0)), .ref (b 27), .ref (b 28), .ref (b 29), .ref (b 30), .ref (b 31), .ref (b 32), .ref (b 33), .ref (b 34), .int (iZ (mu3w 35 0)), .int (iZ (mu3w 36 0)), .int (iZ (mu3w 37 0)), .int (iZ (mu3w 38 0)), .int (iZ (mu3w 39 0)), .int (iZ (mu3w 40 0)), .ref (b 41), .ref (b 42)])) := hE3w.1
              have f7_ : en3w 27 0 = some (b 7, aI dA (101) (mu3w 7)) := hE3w.2 7 (by decide)
              have f16_ : en3w 36 0 = some (b 16, aI dA (4) (mu3w 16)) := hE3w.2 16 (by decide)
              have f23_ : en3w 43 0 = some (b 23, aJ dA (4) (mu3w 23)) := hE3w.2 23 (by decide)
              have f24_ : en3w 44 0 = some (b 24, aZ dA (4) (mu3w 24)) := hE3w.2 24 (by decide)
              have hf9 : Rl (sA1 gI ii) mu3w := by unfold sA1; rw [if_pos hduw]; exact hmu3w
              refine lv_goto (tgt := 10) hx hb dX4_moment_42 (by decide) ?_
              have hdue : gI 18 ii 0 ≤ gI 0 7 0 := by omega
              obtain ⟨a1, a2, a3⟩ := pd_a1 hIi hdi hi1 hii2 hdue
              have hfu9 := fu_a1 hIi hi1 hii2 (hfi hdue)
              rw [sAct_p hdue] at hei
              refine W.widen (k := 0) (n := 0) (by omega) (by omega) ?_
              exact ih1  mu3w en3w _ _ _ (sA1 gI ii) hE3w hW hS (lv_sub hl [0, 1] rfl) hF3w hf9 a1 a2 (by omega) hfu9 hei
            · refine lv_aload_n hx hb dX4_moment_28 rfl (lv_at hl 1 rfl) ?_
              refine lv_iload_n hx hb dX4_moment_29 rfl (lv_at hl 0 rfl) ?_
              refine z_iconst hx hb dX4_moment_30 ?_
              refine va_callv (va_runV (As := [.int (iZ (ii)), .int (iZ (1))]) (rest := []) ⟨hx, hb, hml, hown, hts⟩ (c_X4_endSender l D dA z enI b muI ii 1 (by omega) (by omega) (by omega) (by omega) hEI) (cwV 2 hts gX4_moment_X4_endSender rfl rfl rfl (by decide +kernel) ⟨Nat.le_of_ble_eq_true rfl, Nat.le_of_ble_eq_true rfl⟩) ⟨gBl, gRecv hK hW (ci := 6) rfl fM, gPre _ hg hS hW⟩ rfl rfl hl.1 rfl (lv_room (Nat.le_of_ble_eq_true rfl)) dX4_moment_31 ⟨(show 0 + 0 + 0 ≤ 0 by omega), (show 0 + 0 + 0 ≤ 0 by omega)⟩) hS (fun _ _ h => h) (fun _ h => h) (fun u9 t9 H locs ht9 hvm9 hw9 hB9 hz9 hk9 hS => ?_)
              obtain ⟨en4w, mu4w⟩ := u9
              obtain ⟨hE4w, hF4w, hmu4w⟩ := hw9
              have hW : Wd D (z 0) en4w H := by rw [← ht9]; exact hB9
              dsimp only at hE4w hF4w hmu4w
              have hF4w := FM.tr hFI hF4w
              have fM : en4w 20 0 = some (b 0, .inr (6, [.int (iZ (mu4w 0 0)), .int (iZ (mu4w 1 0)), .long (lZ (mu4w 2 0)), .int (iZ (mu4w 3 0)), .ref (b 4), .ref (b 5), .ref (b 6), .ref (b 7), .ref (b 8), .ref (b 9), .ref (b 10), .ref (b 11), .ref (b 12), .ref (b 13), .ref (b 14), .ref (b 15), .ref (b 16), .ref (b 17), .ref (b 18), .ref (b 19), .ref (b 20), .ref (b 21), .ref (b 22), .ref (b 23), .ref (b 24), .ref (b 25), .int (iZ (mu4w 26 0)), .ref (b 27), .ref (b 28), .ref (b 29), .ref (b 30), .ref (b 31), .ref (b 32), .ref (b 33), .ref (b 34), .int (iZ (mu4w 35 0)), .int (iZ (mu4w 36 0)), .int (iZ (mu4w 37 0)), .int (iZ (mu4w 38 0)), .int (iZ (mu4w 39 0)), .int (iZ (mu4w 40 0)), .ref (b 41), .ref (b 42)])) := hE4w.1
              have f7_ : en4w 27 0 = some (b 7, aI dA (101) (mu4w 7)) := hE4w.2 7 (by decide)
              have f16_ : en4w 36 0 = some (b 16, aI dA (4) (mu4w 16)) := hE4w.2 16 (by decide)
              have f23_ : en4w 43 0 = some (b 23, aJ dA (4) (mu4w 23)) := hE4w.2 23 (by decide)
              have f24_ : en4w 44 0 = some (b 24, aZ dA (4) (mu4w 24)) := hE4w.2 24 (by decide)
              have hf9 : Rl (sA1 gI ii) mu4w := by unfold sA1; rw [if_neg (by omega), hmu4w]; exact rl_es hIi.1 hRi hi1 hii2 (by omega)
              refine lv_goto (tgt := 10) hx hb dX4_moment_34 (by decide) ?_
              have hdue : gI 18 ii 0 ≤ gI 0 7 0 := by omega
              obtain ⟨a1, a2, a3⟩ := pd_a1 hIi hdi hi1 hii2 hdue
              have hfu9 := fu_a1 hIi hi1 hii2 (hfi hdue)
              rw [sAct_p hdue] at hei
              refine W.widen (k := 0) (n := 0) (by omega) (by omega) ?_
              exact ih1  mu4w en4w _ _ _ (sA1 gI ii) hE4w hW hS (lv_sub hl [0, 1] rfl) hF4w hf9 a1 a2 (by omega) hfu9 hei
      have fM : enS 20 0 = some (b 0, .inr (6, [.int (iZ (muS 0 0)), .int (iZ (muS 1 0)), .long (lZ (muS 2 0)), .int (iZ (muS 3 0)), .ref (b 4), .ref (b 5), .ref (b 6), .ref (b 7), .ref (b 8), .ref (b 9), .ref (b 10), .ref (b 11), .ref (b 12), .ref (b 13), .ref (b 14), .ref (b 15), .ref (b 16), .ref (b 17), .ref (b 18), .ref (b 19), .ref (b 20), .ref (b 21), .ref (b 22), .ref (b 23), .ref (b 24), .ref (b 25), .int (iZ (muS 26 0)), .ref (b 27), .ref (b 28), .ref (b 29), .ref (b 30), .ref (b 31), .ref (b 32), .ref (b 33), .ref (b 34), .int (iZ (muS 35 0)), .int (iZ (muS 36 0)), .int (iZ (muS 37 0)), .int (iZ (muS 38 0)), .int (iZ (muS 39 0)), .int (iZ (muS 40 0)), .ref (b 41), .ref (b 42)])) := hES.1
      have f7_ : enS 27 0 = some (b 7, aI dA (101) (muS 7)) := hES.2 7 (by decide)
      have f16_ : enS 36 0 = some (b 16, aI dA (4) (muS 16)) := hES.2 16 (by decide)
      have f23_ : enS 43 0 = some (b 23, aJ dA (4) (muS 23)) := hES.2 23 (by decide)
      have f24_ : enS 44 0 = some (b 24, aZ dA (4) (muS 24)) := hES.2 24 (by decide)
      refine lv_iload_n hx hb dX4_moment_2 rfl (lv_at hl 0 rfl) ?_
      refine lv_aload_n hx hb dX4_moment_3 rfl (lv_at hl 1 rfl) ?_
      refine g_get (C := RX4) (T := TX4) (N := 43) (ci := 6) (v := .int (iZ (muS 3 0))) hx hb hts hi6 hown hK hW fM rfl 3 (by decide) (hts (.fieldLink RX4 123 "LongTransferModel" "messages" "I") (by decide +kernel)) (fun _ h9 => h9) rfl dX4_moment_4 ?_
      refine z_icmp_gt (tgt := 51) hx hb dX4_moment_7 (by decide) (by omega) (by omega) (fun c_q => absurd c_q (by omega)) (fun _ => ?_)
      have hs9 : sMom fu g = sRcvs 4 1 (sSnds fu n ii (sAct fu gS ii)) := by rw [heS, sSnds_s, show ii - 1 + 1 = ii by omega]
      refine W.widen (k := 0) (n := 0) (by omega) (by omega) ?_
      exact kI fu muS enS _ _ _ gS hES hW hS (lv_sub hl [0, 1] rfl) hFS hRS hIS9 hdS rfl (fun _ => by omega) hs9
  have hLt := hIJ.1.2.1
  unfold IL at hLt
  have fM : en 20 0 = some (b 0, .inr (6, [.int (iZ (mu 0 0)), .int (iZ (mu 1 0)), .long (lZ (mu 2 0)), .int (iZ (mu 3 0)), .ref (b 4), .ref (b 5), .ref (b 6), .ref (b 7), .ref (b 8), .ref (b 9), .ref (b 10), .ref (b 11), .ref (b 12), .ref (b 13), .ref (b 14), .ref (b 15), .ref (b 16), .ref (b 17), .ref (b 18), .ref (b 19), .ref (b 20), .ref (b 21), .ref (b 22), .ref (b 23), .ref (b 24), .ref (b 25), .int (iZ (mu 26 0)), .ref (b 27), .ref (b 28), .ref (b 29), .ref (b 30), .ref (b 31), .ref (b 32), .ref (b 33), .ref (b 34), .int (iZ (mu 35 0)), .int (iZ (mu 36 0)), .int (iZ (mu 37 0)), .int (iZ (mu 38 0)), .int (iZ (mu 39 0)), .int (iZ (mu 40 0)), .ref (b 41), .ref (b 42)])) := hE.1
  have f7_ : en 27 0 = some (b 7, aI dA (101) (mu 7)) := hE.2 7 (by decide)
  have f16_ : en 36 0 = some (b 16, aI dA (4) (mu 16)) := hE.2 16 (by decide)
  have f23_ : en 43 0 = some (b 23, aJ dA (4) (mu 23)) := hE.2 23 (by decide)
  have f24_ : en 44 0 = some (b 24, aZ dA (4) (mu 24)) := hE.2 24 (by decide)
  refine z_iconst hx hb dX4_moment_0 ?_
  refine lv_istore_n (lv' := [(1, .int (iZ (1))), (0, .ref (b 0))]) hx hb dX4_moment_1 rfl hl (by decide) rfl (fun ls hl => ?_)
  refine W.widen (k := 0) (n := 0) (by omega) (by omega) ?_
  exact kS (g 1 0 0).toNat mu en _ _ _ 1 g hE hW hS (lv_sub hl [0, 1] rfl) (FM.rf _) hR hIJ hd (by omega) (by omega) (by unfold sMom; rfl)
