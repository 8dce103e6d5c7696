theorem eA_some {g : St} {al : Al} {li j : Int} {y : Nat} (h : eA g al li j = some y) : (0 ≤ j ∧ j < g 1 li 0) ∧ y = al (if li = 0 then 5 else 7) (j + 1) := by
  unfold eA at h
  by_cases q : 0 ≤ j ∧ j < g 1 li 0
  · rw [if_pos q] at h
    exact ⟨q, (Option.some.inj h).symm⟩
  · rw [if_neg q] at h; cases h
theorem eA_push {g g' : St} {al al' : Al} {li n : Int} {q : Nat} (hn : n = g 1 li 0) (h0 : 0 ≤ n) (h1 : g' 1 li 0 = n + 1) (hq : al' (if li = 0 then 5 else 7) (n + 1) = q) (ho : ∀ j : Int, j ≤ n → al' (if li = 0 then 5 else 7) j = al (if li = 0 then 5 else 7) j) : uF (eA g al li) n (some q) = eA g' al' li := by
  funext j
  unfold uF eA
  rw [h1]
  generalize (if li = 0 then 5 else 7) = K at hq ho ⊢
  by_cases q1 : j = n
  · subst q1
    rw [if_pos rfl, if_pos (by omega), hq]
  · rw [if_neg q1]
    by_cases q2 : 0 ≤ j ∧ j < g 1 li 0
    · rw [if_pos q2, if_pos (by omega), ho (j + 1) (by omega)]
    · rw [if_neg q2, if_neg (by omega)]
theorem sl_b {F : Int → Int} {f n : Int} (h : ∀ j : Int, -128 ≤ F j ∧ F j ≤ 127) (j : Int) : -128 ≤ slF F f n j ∧ slF F f n j ≤ 127 := by
  unfold slF
  split
  · exact h _
  · omega
theorem il_grow {g : St} (h : IB g) (hf : ¬ 6000 ≤ g 1 1 0) : g 1 1 0 + 1 ≤ (if g 1 1 0 < g 4 1 0 then g 4 1 0 else lcap (g 4 1 0)) ∧ (if g 1 1 0 < g 4 1 0 then g 4 1 0 else lcap (g 4 1 0)) ≤ 20000 := by
  have q := h.2.1
  unfold IL at q
  have hl := lc_pos (cap := g 4 1 0) (by omega)
  split <;> omega
theorem ib_fr {g : St} (h : IB g) (hf : ¬ 6000 ≤ g 1 1 0) {kd mg nu sz sp ln : Int} {F : Int → Int} (hs : (0 ≤ kd ∧ kd ≤ 3) ∧ (1 ≤ mg ∧ mg ≤ g 1 0 0) ∧ (0 ≤ nu ∧ nu ≤ 10000) ∧ (0 ≤ sz ∧ sz ≤ 255) ∧ (0 ≤ sp ∧ sp ≤ 255) ∧ (kd < 3 → ln = sz ∧ 1 ≤ sz ∧ sz ≤ 7) ∧ (kd = 3 → ln = 0)) (hF : ∀ j : Int, -128 ≤ F j ∧ F j ≤ 127) : IB (sFrame g kd mg nu sz sp ln F) := by
  have hq := il_grow h hf
  have hx := h.1
  have hL := h.2.1
  unfold IX at hx
  unfold IL at hL
  refine ib_nf (n := g 1 1 0) h rfl (fun t i j w => by simp only [sFrame, lGrow]; rw [wR_n (by omega)]; repeat rw [wr_n (by omega)]) (by simp [sFrame, lGrow, wr, wR]) ?_ ?_
  · unfold IL
    simp only [sFrame, lGrow, wr, wR]
    simp
    omega
  · unfold IF
    simp [sFrame, lGrow, wr, wR]
    exact ⟨by omega, by omega, by omega, by omega, by omega, by omega, hs.2.2.2.2.2.1, hs.2.2.2.2.2.2, hF⟩
theorem ib_fm {g : St} (h : IB g) {m v : Int} (h1 : 1 ≤ m) (h2 : m ≤ g 1 0 0) (h3 : 0 ≤ v) (h4 : v ≤ g 11 m 0) : IB (wr g 13 m v) := by
  have q := h.2.2.1 m h1 h2
  refine ib_s (m := m) h (fun t i j w => by rw [wr_n (by omega)]) ?_
  unfold IS at q ⊢
  obtain ⟨q1, q2, q3, q4, q5, q6, q7, q8, q9⟩ := q
  refine ⟨?_, ?_, ?_, ?_, ?_, ?_, ?_, ?_, ?_⟩ <;> simp [wr] <;> first | omega | exact q9
theorem ib_da {g : St} (h : IB g) (hf : ¬ 6000 ≤ g 1 1 0) {m kd nu mo : Int} (h1 : 1 ≤ m) (h2 : m ≤ g 1 0 0) (h3 : 0 ≤ kd ∧ kd ≤ 2) (h4 : 0 ≤ nu ∧ nu ≤ 10000) (h5 : 1 ≤ mo ∧ mo ≤ 7) (h6 : g 13 m 0 < g 11 m 0) : IB (sData g m kd nu mo) := by
  have q := h.2.2.1 m h1 h2
  unfold IS at q
  have hto : sTo g m mo = min (g 13 m 0 + mo) (g 11 m 0) := rfl
  unfold sData
  refine ib_fm (ib_fr h hf (by omega) (fun j => sl_b q.2.2.2.2.2.2.2.2 j)) h1 h2 (by omega) ?_
  show sTo g m mo ≤ g 11 m 0
  omega
theorem kC_f {g : St} (h : IB g) {kd mg nu sz sp ln : Int} {F : Int → Int} : kC (sFrame g kd mg nu sz sp ln F) = kC g + 3 := by
  have hL := h.2.1
  unfold IL at hL
  have e : sFrame g kd mg nu sz sp ln F 1 1 0 = g 1 1 0 + 1 := by simp [sFrame, lGrow, wr, wR]
  unfold kC
  rw [e]
  omega
theorem kS_f {g : St} (h : IB g) (hc : g 4 1 0 = 0 ∨ 10 ≤ g 4 1 0) {kd mg nu sz sp ln : Int} {F : Int → Int} : kS g + 15 + (if g 1 1 0 < g 4 1 0 then 0 else (lcap (g 4 1 0)).toNat) ≤ kS (sFrame g kd mg nu sz sp ln F) := by
  have hL := h.2.1
  unfold IL at hL
  have e : sFrame g kd mg nu sz sp ln F 1 1 0 = g 1 1 0 + 1 := by simp [sFrame, lGrow, wr, wR]
  have e4 : sFrame g kd mg nu sz sp ln F 4 1 0 = (if g 1 1 0 < g 4 1 0 then g 4 1 0 else lcap (g 4 1 0)) := by simp [sFrame, lGrow, wr, wR]
  have h4 := lc4 hc
  have hl := lc_pos (cap := g 4 1 0) (by omega)
  unfold kS
  rw [e, e4]
  split <;> omega
theorem kC_d {g : St} (h : IB g) {m kd nu mo : Int} : kC (sData g m kd nu mo) = kC g + 3 := (kC_f h : kC (sFrame g kd m nu (sTo g m mo - g 13 m 0) 0 (sTo g m mo - g 13 m 0) (slF (g 19 m) (g 13 m 0) (sTo g m mo - g 13 m 0))) = kC g + 3)
theorem kS_d {g : St} (h : IB g) (hc : g 4 1 0 = 0 ∨ 10 ≤ g 4 1 0) {m kd nu mo : Int} : kS g + 15 + (if g 1 1 0 < g 4 1 0 then 0 else (lcap (g 4 1 0)).toNat) ≤ kS (sData g m kd nu mo) := (kS_f h hc : _ ≤ kS (sFrame g kd m nu (sTo g m mo - g 13 m 0) 0 (sTo g m mo - g 13 m 0) (slF (g 19 m) (g 13 m 0) (sTo g m mo - g 13 m 0))))
theorem ec_cap {dA : Nat → ClassId} {z : Nat → Nat} {g : St} {al : Al} {en : en_T} (h : EC dA z g al en) : g 4 1 0 = 0 ∨ 10 ≤ g 4 1 0 := by
  rcases h.2.2.2.1 1 (Or.inr rfl) with q | q
  · exact Or.inl q.1
  · exact Or.inr q.1
set_option maxHeartbeats 4000000 in
set_option maxRecDepth 100000 in
theorem c_X3_mkD (l : Launch) (D : va_G) (dA : Nat → ClassId) (z : Nat → Nat) (en : en_T) (g : St) (al : Al) (mm kd nu mo : Int) (h0 : 1 ≤ mm) (h1 : mm ≤ g 1 0 0) (h2 : 0 ≤ mo) (h3 : mo ≤ 7) (hE : EC dA z g al en) (hI : IB g) : Met l yX3_makeDataFrame wsX3_makeDataFrame ({ frames := 7, cells := kC (sMkD g mm kd nu mo) - kC g, slots := kS (sMkD g mm kd nu mo) - kS g, locals := 173 }) (gP D dA z en [.ref (al 0 0), .ref (al 5 mm), .int (iZ (kd)), .int (iZ (nu)), .int (iZ (mo))]) (va_Qi (fun (r8 : Int32) (u : en_T × Al) => r8 = iZ (if 6000 ≤ g 1 1 0 then 0 else 1) ∧ CP dA z (sMkD g mm kd nu mo) g al en u) (fun u t9 => Wd D (z 0) u.1 t9.heap) (fun q => z 0 ≤ q)) (kC (sMkD g mm kd nu mo) - kC g) (kS (sMkD g mm kd nu mo) - kS g) (fun q => z 0 ≤ q) := by
  refine gMet (own := RX3) (cc := cX3_makeDataFrame) (maxL := 5) (ret := (some .boolean)) (by decide) rfl rfl (Nat.le_of_ble_eq_true rfl) ?_
  intro p e s m below meth c hx hb hml hown hts hr hlocks hnm hg hW ls hl
  have hK := hg.1
  have hS : va_S (fun q => z 0 ≤ q) s.heap s.heap [] := va_S.rf
  have hi2 : ∀ w ∈ u_ws RX0 TX0 8, w ∈ wsX3_makeDataFrame := by decide +kernel
  have hi4 : ∀ w ∈ u_ws RX2 TX2 9, w ∈ wsX3_makeDataFrame := by decide +kernel
  have hi5 : ∀ w ∈ u_ws RX3 TX3 14, w ∈ wsX3_makeDataFrame := by decide +kernel
  have hl : lv_has ls 5 [(0, .ref (al 0 0)), (1, .ref (al 5 mm)), (2, .int (iZ (kd))), (3, .int (iZ (nu))), (4, .int (iZ (mo)))] := hl
  obtain ⟨hIX, hIL, hIS, hIF, hIR, hIG⟩ := id hI
  unfold IL at hIL
  unfold IX at hIX
  have hISm := hIS mm (by omega) (by omega)
  unfold IS at hISm
  have fX : en 0 0 = some (al 0 0, .inr (5, [.int (iZ (g 0 0 0)), .ref (al 1 0), .ref (al 1 1), .ref (al 3 0), .ref (al 4 0), .int (iZ (g 0 5 0)), .ref (al 11 0), .long (lZ (g 0 7 0)), .int (iZ (g 0 8 0)), .int (iZ (g 0 9 0)), .int (iZ (g 0 10 0)), .int (iZ (g 0 11 0)), .int (iZ (g 0 12 0)), .int (iZ (g 0 13 0))])) := ec_X hE
  have fL0 : en 1 0 = some (al 1 0, .inr (1, [.int (iZ (g 3 0 0)), .ref (al 2 0), .int (iZ (g 1 0 0))])) := ec_L0 hE
  have fL1 : en 1 1 = some (al 1 1, .inr (1, [.int (iZ (g 3 1 0)), .ref (al 2 1), .int (iZ (g 1 1 0))])) := ec_L1 hE
  have fQ : en 3 0 = some (al 3 0, aR dA (4) (fun j => some (al 9 j))) := ec_Q hE
  have fC : en 4 0 = some (al 4 0, aI dA (8) (fun j => g 2 j 0)) := ec_C hE
  have fS : en 5 mm = some (al 5 mm, .inr (4, [.int (iZ (mm)), .ref (al 6 mm), .int (iZ (g 12 mm 0)), .int (iZ (g 13 mm 0)), .int (iZ (g 14 mm 0)), .int (iZ (g 15 mm 0)), .int (iZ (g 16 mm 0)), .int (iZ (g 17 mm 0)), .long (lZ (g 18 mm 0))])) := ec_S hE (by omega)
  have fO : en 6 mm = some (al 6 mm, aB dA (g 11 mm 0) (g 19 mm)) := ec_SO hE (by omega)
  refine lv_aload_n hx hb dX3_makeDataFrame_0 rfl (lv_at hl 0 rfl) ?_
  refine va_calli (va_runV (As := []) (rest := []) ⟨hx, hb, hml, hown, hts⟩ (c_X3_areFramesFull l D dA z en g al hE hI) (cwV 0 hts gX3_makeDataFrame_X3_areFramesFull rfl rfl rfl (by decide +kernel) ⟨Nat.le_of_ble_eq_true rfl, Nat.le_of_ble_eq_true rfl⟩) ⟨gBl, gRecv hK hW (ci := 5) rfl fX, gPre _ hg hS hW⟩ rfl rfl hl.1 rfl (lv_room (Nat.le_of_ble_eq_true rfl)) dX3_makeDataFrame_1 ⟨(show 0 + 0 ≤ kC (sMkD g mm kd nu mo) - kC g by omega), (show 0 + 0 ≤ kS (sMkD g mm kd nu mo) - kS g by omega)⟩) hS (fun _ _ h => h) (fun _ h => h) (fun r9 u9 t9 H locs ht9 hvm9 hw9 hB9 hz9 hk9 hS => ?_)
  have hW : Wd D (z 0) en H := by rw [← ht9]; exact hB9
  subst hw9
  by_cases hfull : 6000 ≤ g 1 1 0
  · rw [if_pos hfull]
    have hgoal : sMkD g mm kd nu mo = sEndS g mm 7 := by unfold sMkD; rw [if_pos hfull]
    refine z_if_eq (tgt := 16) hx hb dX3_makeDataFrame_4 (by decide) (by omega) (fun c_4 => ?_) (fun c_4 => ?_)
    · exact absurd c_4 (by omega)
    · refine lv_aload_n hx hb dX3_makeDataFrame_7 rfl (lv_at hl 0 rfl) ?_
      refine lv_aload_n hx hb dX3_makeDataFrame_8 rfl (lv_at hl 1 rfl) ?_
      refine z_bipush hx hb dX3_makeDataFrame_9 (by decide) ?_
      refine va_callv (va_runV (As := [.ref (al 5 mm), .int (iZ (7))]) (rest := []) ⟨hx, hb, hml, hown, hts⟩ (c_X3_endSender l D dA z en g al mm 7 (by omega) (by omega) (by omega) (by omega) hE hI) (cwV 2 hts gX3_makeDataFrame_X3_endSender rfl rfl rfl (by decide +kernel) ⟨Nat.le_of_ble_eq_true rfl, Nat.le_of_ble_eq_true rfl⟩) ⟨gBl, gRecv hK hW (ci := 5) rfl fX, gPre _ hg hS hW⟩ rfl rfl hl.1 rfl (lv_room (Nat.le_of_ble_eq_true rfl)) dX3_makeDataFrame_11 ⟨(show 0 + 0 + 0 ≤ kC (sMkD g mm kd nu mo) - kC g by omega), (show 0 + 0 + 0 ≤ kS (sMkD g mm kd nu mo) - kS g by omega)⟩) hS (fun _ _ h => h) (fun _ h => h) (fun u9 t9 H locs ht9 hvm9 hw9 hB9 hz9 hk9 hS => ?_)
      obtain ⟨en1, al1⟩ := u9
      obtain ⟨hE1, hFR1, hAS1⟩ := hw9
      have hW : Wd D (z 0) en1 H := by rw [← ht9]; exact hB9
      obtain ⟨g1, hg1⟩ : ∃ x : St, x = sEndS g mm 7 := ⟨_, rfl⟩
      rw [← hg1] at hE1 hAS1
      dsimp only at hE1 hFR1 hAS1
      have hl : lv_has ls 5 [(0, .ref (al1 0 0)), (1, .ref (al1 5 mm)), (2, .int (iZ (kd))), (3, .int (iZ (nu))), (4, .int (iZ (mo)))] := by rw [hAS1.2 0 0 (by omega), hAS1.2 5 mm (by omega)]; exact hl
      have hN1 := hAS1.1
      have fX : en1 0 0 = some (al1 0 0, .inr (5, [.int (iZ (g1 0 0 0)), .ref (al1 1 0), .ref (al1 1 1), .ref (al1 3 0), .ref (al1 4 0), .int (iZ (g1 0 5 0)), .ref (al1 11 0), .long (lZ (g1 0 7 0)), .int (iZ (g1 0 8 0)), .int (iZ (g1 0 9 0)), .int (iZ (g1 0 10 0)), .int (iZ (g1 0 11 0)), .int (iZ (g1 0 12 0)), .int (iZ (g1 0 13 0))])) := ec_X hE1
      have fL0 : en1 1 0 = some (al1 1 0, .inr (1, [.int (iZ (g1 3 0 0)), .ref (al1 2 0), .int (iZ (g1 1 0 0))])) := ec_L0 hE1
      have fL1 : en1 1 1 = some (al1 1 1, .inr (1, [.int (iZ (g1 3 1 0)), .ref (al1 2 1), .int (iZ (g1 1 1 0))])) := ec_L1 hE1
      have fQ : en1 3 0 = some (al1 3 0, aR dA (4) (fun j => some (al1 9 j))) := ec_Q hE1
      have fC : en1 4 0 = some (al1 4 0, aI dA (8) (fun j => g1 2 j 0)) := ec_C hE1
      have fS : en1 5 mm = some (al1 5 mm, .inr (4, [.int (iZ (mm)), .ref (al1 6 mm), .int (iZ (g1 12 mm 0)), .int (iZ (g1 13 mm 0)), .int (iZ (g1 14 mm 0)), .int (iZ (g1 15 mm 0)), .int (iZ (g1 16 mm 0)), .int (iZ (g1 17 mm 0)), .long (lZ (g1 18 mm 0))])) := ec_S hE1 (by omega)
      have fO : en1 6 mm = some (al1 6 mm, aB dA (g1 11 mm 0) (g1 19 mm)) := ec_SO hE1 (by omega)
      refine z_iconst hx hb dX3_makeDataFrame_14 ?_
      refine W.widen (k := kC (sMkD g mm kd nu mo) - kC g) (n := kS (sMkD g mm kd nu mo) - kS g) (show 0 + 0 + 0 ≤ kC (sMkD g mm kd nu mo) - kC g by omega) (show 0 + 0 + 0 ≤ kS (sMkD g mm kd nu mo) - kS g by omega) ?_
      have hgz : g1 = sMkD g mm kd nu mo := by subst hg1; rw [hgoal]
      rw [hgz] at hE1 hAS1
      exact W.zret hx hb hr (by decide) (fun t ht hw => ⟨⟨_, (en1, al1), rfl, ⟨by first | rfl | rw [if_pos hfull], hE1, hFR1, hAS1⟩, by show Wd _ _ _ t.heap; rw [ht]; exact hW⟩, hS.F ht⟩) hS.2.2 dX3_makeDataFrame_15
  · rw [if_neg hfull]
    have hgoal : sMkD g mm kd nu mo = sData g mm kd nu mo := by unfold sMkD; rw [if_neg hfull]
    have hkc : kC (sMkD g mm kd nu mo) = kC g + 3 := by rw [hgoal]; exact kC_d hI
    have hks : kS g + 15 + (if g 1 1 0 < g 4 1 0 then 0 else (lcap (g 4 1 0)).toNat) ≤ kS (sMkD g mm kd nu mo) := by rw [hgoal]; exact kS_d hI (ec_cap hE)
    have hto : sTo g mm mo = min (g 13 mm 0 + mo) (g 11 mm 0) := rfl
    have hin : (if g 1 1 0 < g 4 1 0 then 0 else 1) ≤ 1 := by split <;> omega
    refine z_if_eq (tgt := 16) hx hb dX3_makeDataFrame_4 (by decide) (by omega) (fun c_4 => ?_) (fun c_4 => ?_)
    · refine lv_aload_n hx hb dX3_makeDataFrame_16 rfl (lv_at hl 0 rfl) ?_
      refine g_get (C := RX3) (T := TX3) (N := 14) (ci := 5) (v := .ref (al 1 1)) hx hb hts hi5 hown hK hW fX rfl 2 (by decide) (hts (.fieldLink RX3 16 "LongTransfer" "frames" "Ljava/util/ArrayList;") (by decide +kernel)) (fun _ h9 => h9) rfl dX3_makeDataFrame_17 ?_
      refine g_new (C := RX0) (T := TX0) (N := 8) (ci := 2) (fs := [.int (iZ (0)), .int (iZ (0)), .int (iZ (0)), .int (iZ (0)), .int (iZ (0)), .long (lZ (0)), .null, .int (iZ (0))]) hx hb hts hi2 tyX0 tyX0_ok hown (hts (.classLink RX3 77 RX0) (by decide +kernel)) (hts (.instantiable RX0 8) (by decide +kernel)) (hts (.initialized RX0) (by decide +kernel)) hK hW hS hg.2.1 rfl (fun j hj => by match j, hj with | 0, _ => rfl | 1, _ => rfl | 2, _ => rfl | 3, _ => rfl | 4, _ => rfl | 5, _ => rfl | 6, _ => rfl | 7, _ => rfl | j + 8, h => omega) (show 0 + 0 + 1 ≤ kC (sMkD g mm kd nu mo) - kC g by omega) (show 0 + 0 + 8 ≤ kS (sMkD g mm kd nu mo) - kS g by omega) dX3_makeDataFrame_20 7 (g 1 1 0 + 1) (fun fq H hW hS => ?_)
      have fX : (e2 en 7 (g 1 1 0 + 1) (some (fq, .inr (2, [.int (iZ (0)), .int (iZ (0)), .int (iZ (0)), .int (iZ (0)), .int (iZ (0)), .long (lZ (0)), .null, .int (iZ (0))])))) 0 0 = some (al 0 0, .inr (5, [.int (iZ (g 0 0 0)), .ref (al 1 0), .ref (al 1 1), .ref (al 3 0), .ref (al 4 0), .int (iZ (g 0 5 0)), .ref (al 11 0), .long (lZ (g 0 7 0)), .int (iZ (g 0 8 0)), .int (iZ (g 0 9 0)), .int (iZ (g 0 10 0)), .int (iZ (g 0 11 0)), .int (iZ (g 0 12 0)), .int (iZ (g 0 13 0))])) := (e2_k (by decide)).trans fX
      have fL0 : (e2 en 7 (g 1 1 0 + 1) (some (fq, .inr (2, [.int (iZ (0)), .int (iZ (0)), .int (iZ (0)), .int (iZ (0)), .int (iZ (0)), .long (lZ (0)), .null, .int (iZ (0))])))) 1 0 = some (al 1 0, .inr (1, [.int (iZ (g 3 0 0)), .ref (al 2 0), .int (iZ (g 1 0 0))])) := (e2_k (by decide)).trans fL0
      have fL1 : (e2 en 7 (g 1 1 0 + 1) (some (fq, .inr (2, [.int (iZ (0)), .int (iZ (0)), .int (iZ (0)), .int (iZ (0)), .int (iZ (0)), .long (lZ (0)), .null, .int (iZ (0))])))) 1 1 = some (al 1 1, .inr (1, [.int (iZ (g 3 1 0)), .ref (al 2 1), .int (iZ (g 1 1 0))])) := (e2_k (by decide)).trans fL1
      have fQ : (e2 en 7 (g 1 1 0 + 1) (some (fq, .inr (2, [.int (iZ (0)), .int (iZ (0)), .int (iZ (0)), .int (iZ (0)), .int (iZ (0)), .long (lZ (0)), .null, .int (iZ (0))])))) 3 0 = some (al 3 0, aR dA (4) (fun j => some (al 9 j))) := (e2_k (by decide)).trans fQ
      have fC : (e2 en 7 (g 1 1 0 + 1) (some (fq, .inr (2, [.int (iZ (0)), .int (iZ (0)), .int (iZ (0)), .int (iZ (0)), .int (iZ (0)), .long (lZ (0)), .null, .int (iZ (0))])))) 4 0 = some (al 4 0, aI dA (8) (fun j => g 2 j 0)) := (e2_k (by decide)).trans fC
      have fS : (e2 en 7 (g 1 1 0 + 1) (some (fq, .inr (2, [.int (iZ (0)), .int (iZ (0)), .int (iZ (0)), .int (iZ (0)), .int (iZ (0)), .long (lZ (0)), .null, .int (iZ (0))])))) 5 mm = some (al 5 mm, .inr (4, [.int (iZ (mm)), .ref (al 6 mm), .int (iZ (g 12 mm 0)), .int (iZ (g 13 mm 0)), .int (iZ (g 14 mm 0)), .int (iZ (g 15 mm 0)), .int (iZ (g 16 mm 0)), .int (iZ (g 17 mm 0)), .long (lZ (g 18 mm 0))])) := (e2_k (by decide)).trans fS
      have fO : (e2 en 7 (g 1 1 0 + 1) (some (fq, .inr (2, [.int (iZ (0)), .int (iZ (0)), .int (iZ (0)), .int (iZ (0)), .int (iZ (0)), .long (lZ (0)), .null, .int (iZ (0))])))) 6 mm = some (al 6 mm, aB dA (g 11 mm 0) (g 19 mm)) := (e2_k (by decide)).trans fO
      have fN : (e2 en 7 (g 1 1 0 + 1) (some (fq, .inr (2, [.int (iZ (0)), .int (iZ (0)), .int (iZ (0)), .int (iZ (0)), .int (iZ (0)), .long (lZ (0)), .null, .int (iZ (0))])))) 7 (g 1 1 0 + 1) = some (fq, .inr (2, [.int (iZ (0)), .int (iZ (0)), .int (iZ (0)), .int (iZ (0)), .int (iZ (0)), .long (lZ (0)), .null, .int (iZ (0))])) := e2_s _ _ _ _
      refine lv_dup hx hb dX3_makeDataFrame_23 rfl ?_
      refine lv_iload_n hx hb dX3_makeDataFrame_24 rfl (lv_at hl 2 rfl) ?_
      refine lv_aload_n hx hb dX3_makeDataFrame_25 rfl (lv_at hl 1 rfl) ?_
      refine g_get (C := RX2) (T := TX2) (N := 9) (ci := 4) (v := .int (iZ (mm))) hx hb hts hi4 hown hK hW fS rfl 0 (by decide) (hts (.fieldLink RX3 182 "LongTransfer$Sender" "message" "I") (by decide +kernel)) (fun _ h9 => h9) rfl dX3_makeDataFrame_26 ?_
      refine lv_iload_n hx hb dX3_makeDataFrame_29 rfl (lv_at hl 3 rfl) ?_
      refine lv_aload_n hx hb dX3_makeDataFrame_30 rfl (lv_at hl 1 rfl) ?_
      refine lv_iload hx hb dX3_makeDataFrame_31 (lv_at hl 4 rfl) ?_
      refine va_callr (va_runV (As := [.int (iZ (mo))]) (rest := [.int (iZ (nu)), .int (iZ (mm)), .int (iZ (kd)), .ref fq, .ref fq, .ref (al 1 1)]) ⟨hx, hb, hml, hown, hts⟩ (c_X2_cutNext l D dA z (e2 en 7 (g 1 1 0 + 1) (some (fq, .inr (2, [.int (iZ (0)), .int (iZ (0)), .int (iZ (0)), .int (iZ (0)), .int (iZ (0)), .long (lZ (0)), .null, .int (iZ (0))])))) 5 mm (al 5 mm) (al 6 mm) mm (g 12 mm 0) (g 13 mm 0) (g 14 mm 0) (g 15 mm 0) (g 16 mm 0) (g 17 mm 0) (g 18 mm 0) mo (g 11 mm 0) (g 19 mm) 6 mm 8 (g 1 1 0 + 1) (by decide) (by decide) (by decide) (by omega) (by omega) (by omega) (by omega) (by omega) hISm.2.2.2.2.2.2.2.2 fS fO) (cwV 1 hts gX3_makeDataFrame_X2_cutNext rfl rfl rfl (by decide +kernel) ⟨Nat.le_of_ble_eq_true rfl, Nat.le_of_ble_eq_true rfl⟩) ⟨gBl, gRecv hK hW (ci := 4) rfl fS, gPre _ hg hS hW⟩ rfl rfl hl.1 rfl (lv_room (Nat.le_of_ble_eq_true rfl)) dX3_makeDataFrame_33 ⟨(show 0 + 0 + 1 + 1 ≤ kC (sMkD g mm kd nu mo) - kC g by omega), (show 0 + 0 + 8 + ((min (g 13 mm 0 + mo) (g 11 mm 0) - g 13 mm 0).toNat) ≤ kS (sMkD g mm kd nu mo) - kS g by omega)⟩) hS (fun _ _ h => h) (fun _ h => h) (fun u9 r9 t9 H locs ht9 hvm9 hw9 hB9 hz9 hk9 hS => ?_)
      obtain ⟨bq, hq9⟩ : ∃ y : Nat, y = r9 := ⟨_, rfl⟩
      subst hq9
      have hW : Wd D (z 0) (e2 (e2 (e2 en 7 (g 1 1 0 + 1) (some (fq, .inr (2, [.int (iZ (0)), .int (iZ (0)), .int (iZ (0)), .int (iZ (0)), .int (iZ (0)), .long (lZ (0)), .null, .int (iZ (0))])))) 5 mm (some (al 5 mm, .inr (4, [.int (iZ (mm)), .ref (al 6 mm), .int (iZ (g 12 mm 0)), .int (iZ (min (g 13 mm 0 + mo) (g 11 mm 0))), .int (iZ (g 14 mm 0)), .int (iZ (g 15 mm 0)), .int (iZ (g 16 mm 0)), .int (iZ (g 17 mm 0)), .long (lZ (g 18 mm 0))])))) 8 (g 1 1 0 + 1) (some (bq, aB dA (min (g 13 mm 0 + mo) (g 11 mm 0) - g 13 mm 0) (slF (g 19 mm) (g 13 mm 0) (min (g 13 mm 0 + mo) (g 11 mm 0) - g 13 mm 0))))) H := by rw [← ht9]; exact hB9
      have fX : (e2 (e2 en 7 (g 1 1 0 + 1) (some (fq, .inr (2, [.int (iZ (0)), .int (iZ (0)), .int (iZ (0)), .int (iZ (0)), .int (iZ (0)), .long (lZ (0)), .null, .int (iZ (0))])))) 5 mm (some (al 5 mm, .inr (4, [.int (iZ (mm)), .ref (al 6 mm), .int (iZ (g 12 mm 0)), .int (iZ (min (g 13 mm 0 + mo) (g 11 mm 0))), .int (iZ (g 14 mm 0)), .int (iZ (g 15 mm 0)), .int (iZ (g 16 mm 0)), .int (iZ (g 17 mm 0)), .long (lZ (g 18 mm 0))])))) 0 0 = some (al 0 0, .inr (5, [.int (iZ (g 0 0 0)), .ref (al 1 0), .ref (al 1 1), .ref (al 3 0), .ref (al 4 0), .int (iZ (g 0 5 0)), .ref (al 11 0), .long (lZ (g 0 7 0)), .int (iZ (g 0 8 0)), .int (iZ (g 0 9 0)), .int (iZ (g 0 10 0)), .int (iZ (g 0 11 0)), .int (iZ (g 0 12 0)), .int (iZ (g 0 13 0))])) := (e2_k (by decide)).trans fX
      have fL0 : (e2 (e2 en 7 (g 1 1 0 + 1) (some (fq, .inr (2, [.int (iZ (0)), .int (iZ (0)), .int (iZ (0)), .int (iZ (0)), .int (iZ (0)), .long (lZ (0)), .null, .int (iZ (0))])))) 5 mm (some (al 5 mm, .inr (4, [.int (iZ (mm)), .ref (al 6 mm), .int (iZ (g 12 mm 0)), .int (iZ (min (g 13 mm 0 + mo) (g 11 mm 0))), .int (iZ (g 14 mm 0)), .int (iZ (g 15 mm 0)), .int (iZ (g 16 mm 0)), .int (iZ (g 17 mm 0)), .long (lZ (g 18 mm 0))])))) 1 0 = some (al 1 0, .inr (1, [.int (iZ (g 3 0 0)), .ref (al 2 0), .int (iZ (g 1 0 0))])) := (e2_k (by decide)).trans fL0
      have fL1 : (e2 (e2 en 7 (g 1 1 0 + 1) (some (fq, .inr (2, [.int (iZ (0)), .int (iZ (0)), .int (iZ (0)), .int (iZ (0)), .int (iZ (0)), .long (lZ (0)), .null, .int (iZ (0))])))) 5 mm (some (al 5 mm, .inr (4, [.int (iZ (mm)), .ref (al 6 mm), .int (iZ (g 12 mm 0)), .int (iZ (min (g 13 mm 0 + mo) (g 11 mm 0))), .int (iZ (g 14 mm 0)), .int (iZ (g 15 mm 0)), .int (iZ (g 16 mm 0)), .int (iZ (g 17 mm 0)), .long (lZ (g 18 mm 0))])))) 1 1 = some (al 1 1, .inr (1, [.int (iZ (g 3 1 0)), .ref (al 2 1), .int (iZ (g 1 1 0))])) := (e2_k (by decide)).trans fL1
      have fQ : (e2 (e2 en 7 (g 1 1 0 + 1) (some (fq, .inr (2, [.int (iZ (0)), .int (iZ (0)), .int (iZ (0)), .int (iZ (0)), .int (iZ (0)), .long (lZ (0)), .null, .int (iZ (0))])))) 5 mm (some (al 5 mm, .inr (4, [.int (iZ (mm)), .ref (al 6 mm), .int (iZ (g 12 mm 0)), .int (iZ (min (g 13 mm 0 + mo) (g 11 mm 0))), .int (iZ (g 14 mm 0)), .int (iZ (g 15 mm 0)), .int (iZ (g 16 mm 0)), .int (iZ (g 17 mm 0)), .long (lZ (g 18 mm 0))])))) 3 0 = some (al 3 0, aR dA (4) (fun j => some (al 9 j))) := (e2_k (by decide)).trans fQ
      have fC : (e2 (e2 en 7 (g 1 1 0 + 1) (some (fq, .inr (2, [.int (iZ (0)), .int (iZ (0)), .int (iZ (0)), .int (iZ (0)), .int (iZ (0)), .long (lZ (0)), .null, .int (iZ (0))])))) 5 mm (some (al 5 mm, .inr (4, [.int (iZ (mm)), .ref (al 6 mm), .int (iZ (g 12 mm 0)), .int (iZ (min (g 13 mm 0 + mo) (g 11 mm 0))), .int (iZ (g 14 mm 0)), .int (iZ (g 15 mm 0)), .int (iZ (g 16 mm 0)), .int (iZ (g 17 mm 0)), .long (lZ (g 18 mm 0))])))) 4 0 = some (al 4 0, aI dA (8) (fun j => g 2 j 0)) := (e2_k (by decide)).trans fC
      have fO : (e2 (e2 en 7 (g 1 1 0 + 1) (some (fq, .inr (2, [.int (iZ (0)), .int (iZ (0)), .int (iZ (0)), .int (iZ (0)), .int (iZ (0)), .long (lZ (0)), .null, .int (iZ (0))])))) 5 mm (some (al 5 mm, .inr (4, [.int (iZ (mm)), .ref (al 6 mm), .int (iZ (g 12 mm 0)), .int (iZ (min (g 13 mm 0 + mo) (g 11 mm 0))), .int (iZ (g 14 mm 0)), .int (iZ (g 15 mm 0)), .int (iZ (g 16 mm 0)), .int (iZ (g 17 mm 0)), .long (lZ (g 18 mm 0))])))) 6 mm = some (al 6 mm, aB dA (g 11 mm 0) (g 19 mm)) := (e2_k (by decide)).trans fO
      have fN : (e2 (e2 en 7 (g 1 1 0 + 1) (some (fq, .inr (2, [.int (iZ (0)), .int (iZ (0)), .int (iZ (0)), .int (iZ (0)), .int (iZ (0)), .long (lZ (0)), .null, .int (iZ (0))])))) 5 mm (some (al 5 mm, .inr (4, [.int (iZ (mm)), .ref (al 6 mm), .int (iZ (g 12 mm 0)), .int (iZ (min (g 13 mm 0 + mo) (g 11 mm 0))), .int (iZ (g 14 mm 0)), .int (iZ (g 15 mm 0)), .int (iZ (g 16 mm 0)), .int (iZ (g 17 mm 0)), .long (lZ (g 18 mm 0))])))) 7 (g 1 1 0 + 1) = some (fq, .inr (2, [.int (iZ (0)), .int (iZ (0)), .int (iZ (0)), .int (iZ (0)), .int (iZ (0)), .long (lZ (0)), .null, .int (iZ (0))])) := (e2_k (by decide)).trans fN
      have fS : (e2 (e2 en 7 (g 1 1 0 + 1) (some (fq, .inr (2, [.int (iZ (0)), .int (iZ (0)), .int (iZ (0)), .int (iZ (0)), .int (iZ (0)), .long (lZ (0)), .null, .int (iZ (0))])))) 5 mm (some (al 5 mm, .inr (4, [.int (iZ (mm)), .ref (al 6 mm), .int (iZ (g 12 mm 0)), .int (iZ (min (g 13 mm 0 + mo) (g 11 mm 0))), .int (iZ (g 14 mm 0)), .int (iZ (g 15 mm 0)), .int (iZ (g 16 mm 0)), .int (iZ (g 17 mm 0)), .long (lZ (g 18 mm 0))])))) 5 mm = some (al 5 mm, .inr (4, [.int (iZ (mm)), .ref (al 6 mm), .int (iZ (g 12 mm 0)), .int (iZ (min (g 13 mm 0 + mo) (g 11 mm 0))), .int (iZ (g 14 mm 0)), .int (iZ (g 15 mm 0)), .int (iZ (g 16 mm 0)), .int (iZ (g 17 mm 0)), .long (lZ (g 18 mm 0))])) := e2_s _ _ _ _
      have fX : (e2 (e2 (e2 en 7 (g 1 1 0 + 1) (some (fq, .inr (2, [.int (iZ (0)), .int (iZ (0)), .int (iZ (0)), .int (iZ (0)), .int (iZ (0)), .long (lZ (0)), .null, .int (iZ (0))])))) 5 mm (some (al 5 mm, .inr (4, [.int (iZ (mm)), .ref (al 6 mm), .int (iZ (g 12 mm 0)), .int (iZ (min (g 13 mm 0 + mo) (g 11 mm 0))), .int (iZ (g 14 mm 0)), .int (iZ (g 15 mm 0)), .int (iZ (g 16 mm 0)), .int (iZ (g 17 mm 0)), .long (lZ (g 18 mm 0))])))) 8 (g 1 1 0 + 1) (some (bq, aB dA (min (g 13 mm 0 + mo) (g 11 mm 0) - g 13 mm 0) (slF (g 19 mm) (g 13 mm 0) (min (g 13 mm 0 + mo) (g 11 mm 0) - g 13 mm 0))))) 0 0 = some (al 0 0, .inr (5, [.int (iZ (g 0 0 0)), .ref (al 1 0), .ref (al 1 1), .ref (al 3 0), .ref (al 4 0), .int (iZ (g 0 5 0)), .ref (al 11 0), .long (lZ (g 0 7 0)), .int (iZ (g 0 8 0)), .int (iZ (g 0 9 0)), .int (iZ (g 0 10 0)), .int (iZ (g 0 11 0)), .int (iZ (g 0 12 0)), .int (iZ (g 0 13 0))])) := (e2_k (by decide)).trans fX
      have fL0 : (e2 (e2 (e2 en 7 (g 1 1 0 + 1) (some (fq, .inr (2, [.int (iZ (0)), .int (iZ (0)), .int (iZ (0)), .int (iZ (0)), .int (iZ (0)), .long (lZ (0)), .null, .int (iZ (0))])))) 5 mm (some (al 5 mm, .inr (4, [.int (iZ (mm)), .ref (al 6 mm), .int (iZ (g 12 mm 0)), .int (iZ (min (g 13 mm 0 + mo) (g 11 mm 0))), .int (iZ (g 14 mm 0)), .int (iZ (g 15 mm 0)), .int (iZ (g 16 mm 0)), .int (iZ (g 17 mm 0)), .long (lZ (g 18 mm 0))])))) 8 (g 1 1 0 + 1) (some (bq, aB dA (min (g 13 mm 0 + mo) (g 11 mm 0) - g 13 mm 0) (slF (g 19 mm) (g 13 mm 0) (min (g 13 mm 0 + mo) (g 11 mm 0) - g 13 mm 0))))) 1 0 = some (al 1 0, .inr (1, [.int (iZ (g 3 0 0)), .ref (al 2 0), .int (iZ (g 1 0 0))])) := (e2_k (by decide)).trans fL0
      have fL1 : (e2 (e2 (e2 en 7 (g 1 1 0 + 1) (some (fq, .inr (2, [.int (iZ (0)), .int (iZ (0)), .int (iZ (0)), .int (iZ (0)), .int (iZ (0)), .long (lZ (0)), .null, .int (iZ (0))])))) 5 mm (some (al 5 mm, .inr (4, [.int (iZ (mm)), .ref (al 6 mm), .int (iZ (g 12 mm 0)), .int (iZ (min (g 13 mm 0 + mo) (g 11 mm 0))), .int (iZ (g 14 mm 0)), .int (iZ (g 15 mm 0)), .int (iZ (g 16 mm 0)), .int (iZ (g 17 mm 0)), .long (lZ (g 18 mm 0))])))) 8 (g 1 1 0 + 1) (some (bq, aB dA (min (g 13 mm 0 + mo) (g 11 mm 0) - g 13 mm 0) (slF (g 19 mm) (g 13 mm 0) (min (g 13 mm 0 + mo) (g 11 mm 0) - g 13 mm 0))))) 1 1 = some (al 1 1, .inr (1, [.int (iZ (g 3 1 0)), .ref (al 2 1), .int (iZ (g 1 1 0))])) := (e2_k (by decide)).trans fL1
      have fQ : (e2 (e2 (e2 en 7 (g 1 1 0 + 1) (some (fq, .inr (2, [.int (iZ (0)), .int (iZ (0)), .int (iZ (0)), .int (iZ (0)), .int (iZ (0)), .long (lZ (0)), .null, .int (iZ (0))])))) 5 mm (some (al 5 mm, .inr (4, [.int (iZ (mm)), .ref (al 6 mm), .int (iZ (g 12 mm 0)), .int (iZ (min (g 13 mm 0 + mo) (g 11 mm 0))), .int (iZ (g 14 mm 0)), .int (iZ (g 15 mm 0)), .int (iZ (g 16 mm 0)), .int (iZ (g 17 mm 0)), .long (lZ (g 18 mm 0))])))) 8 (g 1 1 0 + 1) (some (bq, aB dA (min (g 13 mm 0 + mo) (g 11 mm 0) - g 13 mm 0) (slF (g 19 mm) (g 13 mm 0) (min (g 13 mm 0 + mo) (g 11 mm 0) - g 13 mm 0))))) 3 0 = some (al 3 0, aR dA (4) (fun j => some (al 9 j))) := (e2_k (by decide)).trans fQ
      have fC : (e2 (e2 (e2 en 7 (g 1 1 0 + 1) (some (fq, .inr (2, [.int (iZ (0)), .int (iZ (0)), .int (iZ (0)), .int (iZ (0)), .int (iZ (0)), .long (lZ (0)), .null, .int (iZ (0))])))) 5 mm (some (al 5 mm, .inr (4, [.int (iZ (mm)), .ref (al 6 mm), .int (iZ (g 12 mm 0)), .int (iZ (min (g 13 mm 0 + mo) (g 11 mm 0))), .int (iZ (g 14 mm 0)), .int (iZ (g 15 mm 0)), .int (iZ (g 16 mm 0)), .int (iZ (g 17 mm 0)), .long (lZ (g 18 mm 0))])))) 8 (g 1 1 0 + 1) (some (bq, aB dA (min (g 13 mm 0 + mo) (g 11 mm 0) - g 13 mm 0) (slF (g 19 mm) (g 13 mm 0) (min (g 13 mm 0 + mo) (g 11 mm 0) - g 13 mm 0))))) 4 0 = some (al 4 0, aI dA (8) (fun j => g 2 j 0)) := (e2_k (by decide)).trans fC
      have fS : (e2 (e2 (e2 en 7 (g 1 1 0 + 1) (some (fq, .inr (2, [.int (iZ (0)), .int (iZ (0)), .int (iZ (0)), .int (iZ (0)), .int (iZ (0)), .long (lZ (0)), .null, .int (iZ (0))])))) 5 mm (some (al 5 mm, .inr (4, [.int (iZ (mm)), .ref (al 6 mm), .int (iZ (g 12 mm 0)), .int (iZ (min (g 13 mm 0 + mo) (g 11 mm 0))), .int (iZ (g 14 mm 0)), .int (iZ (g 15 mm 0)), .int (iZ (g 16 mm 0)), .int (iZ (g 17 mm 0)), .long (lZ (g 18 mm 0))])))) 8 (g 1 1 0 + 1) (some (bq, aB dA (min (g 13 mm 0 + mo) (g 11 mm 0) - g 13 mm 0) (slF (g 19 mm) (g 13 mm 0) (min (g 13 mm 0 + mo) (g 11 mm 0) - g 13 mm 0))))) 5 mm = some (al 5 mm, .inr (4, [.int (iZ (mm)), .ref (al 6 mm), .int (iZ (g 12 mm 0)), .int (iZ (min (g 13 mm 0 + mo) (g 11 mm 0))), .int (iZ (g 14 mm 0)), .int (iZ (g 15 mm 0)), .int (iZ (g 16 mm 0)), .int (iZ (g 17 mm 0)), .long (lZ (g 18 mm 0))])) := (e2_k (by decide)).trans fS
      have fO : (e2 (e2 (e2 en 7 (g 1 1 0 + 1) (some (fq, .inr (2, [.int (iZ (0)), .int (iZ (0)), .int (iZ (0)), .int (iZ (0)), .int (iZ (0)), .long (lZ (0)), .null, .int (iZ (0))])))) 5 mm (some (al 5 mm, .inr (4, [.int (iZ (mm)), .ref (al 6 mm), .int (iZ (g 12 mm 0)), .int (iZ (min (g 13 mm 0 + mo) (g 11 mm 0))), .int (iZ (g 14 mm 0)), .int (iZ (g 15 mm 0)), .int (iZ (g 16 mm 0)), .int (iZ (g 17 mm 0)), .long (lZ (g 18 mm 0))])))) 8 (g 1 1 0 + 1) (some (bq, aB dA (min (g 13 mm 0 + mo) (g 11 mm 0) - g 13 mm 0) (slF (g 19 mm) (g 13 mm 0) (min (g 13 mm 0 + mo) (g 11 mm 0) - g 13 mm 0))))) 6 mm = some (al 6 mm, aB dA (g 11 mm 0) (g 19 mm)) := (e2_k (by decide)).trans fO
      have fN : (e2 (e2 (e2 en 7 (g 1 1 0 + 1) (some (fq, .inr (2, [.int (iZ (0)), .int (iZ (0)), .int (iZ (0)), .int (iZ (0)), .int (iZ (0)), .long (lZ (0)), .null, .int (iZ (0))])))) 5 mm (some (al 5 mm, .inr (4, [.int (iZ (mm)), .ref (al 6 mm), .int (iZ (g 12 mm 0)), .int (iZ (min (g 13 mm 0 + mo) (g 11 mm 0))), .int (iZ (g 14 mm 0)), .int (iZ (g 15 mm 0)), .int (iZ (g 16 mm 0)), .int (iZ (g 17 mm 0)), .long (lZ (g 18 mm 0))])))) 8 (g 1 1 0 + 1) (some (bq, aB dA (min (g 13 mm 0 + mo) (g 11 mm 0) - g 13 mm 0) (slF (g 19 mm) (g 13 mm 0) (min (g 13 mm 0 + mo) (g 11 mm 0) - g 13 mm 0))))) 7 (g 1 1 0 + 1) = some (fq, .inr (2, [.int (iZ (0)), .int (iZ (0)), .int (iZ (0)), .int (iZ (0)), .int (iZ (0)), .long (lZ (0)), .null, .int (iZ (0))])) := (e2_k (by decide)).trans fN
      have fB : (e2 (e2 (e2 en 7 (g 1 1 0 + 1) (some (fq, .inr (2, [.int (iZ (0)), .int (iZ (0)), .int (iZ (0)), .int (iZ (0)), .int (iZ (0)), .long (lZ (0)), .null, .int (iZ (0))])))) 5 mm (some (al 5 mm, .inr (4, [.int (iZ (mm)), .ref (al 6 mm), .int (iZ (g 12 mm 0)), .int (iZ (min (g 13 mm 0 + mo) (g 11 mm 0))), .int (iZ (g 14 mm 0)), .int (iZ (g 15 mm 0)), .int (iZ (g 16 mm 0)), .int (iZ (g 17 mm 0)), .long (lZ (g 18 mm 0))])))) 8 (g 1 1 0 + 1) (some (bq, aB dA (min (g 13 mm 0 + mo) (g 11 mm 0) - g 13 mm 0) (slF (g 19 mm) (g 13 mm 0) (min (g 13 mm 0 + mo) (g 11 mm 0) - g 13 mm 0))))) 8 (g 1 1 0 + 1) = some (bq, aB dA (min (g 13 mm 0 + mo) (g 11 mm 0) - g 13 mm 0) (slF (g 19 mm) (g 13 mm 0) (min (g 13 mm 0 + mo) (g 11 mm 0) - g 13 mm 0))) := e2_s _ _ _ _
      refine lv_aload_n hx hb dX3_makeDataFrame_36 rfl (lv_at hl 0 rfl) ?_
      refine g_get (C := RX3) (T := TX3) (N := 14) (ci := 5) (v := .long (lZ (g 0 7 0))) hx hb hts hi5 hown hK hW fX rfl 7 (by decide) (hts (.fieldLink RX3 120 "LongTransfer" "now" "J") (by decide +kernel)) (fun _ h9 => h9) rfl dX3_makeDataFrame_37 ?_
      refine va_callv (va_runI (As := [.int (iZ (kd)), .int (iZ (mm)), .int (iZ (nu)), .ref bq, .long (lZ (g 0 7 0))]) (rest := [.ref fq, .ref (al 1 1)]) ⟨hx, hb, hml, hown, hts⟩ (c_X0_init l D dA z (e2 (e2 (e2 en 7 (g 1 1 0 + 1) (some (fq, .inr (2, [.int (iZ (0)), .int (iZ (0)), .int (iZ (0)), .int (iZ (0)), .int (iZ (0)), .long (lZ (0)), .null, .int (iZ (0))])))) 5 mm (some (al 5 mm, .inr (4, [.int (iZ (mm)), .ref (al 6 mm), .int (iZ (g 12 mm 0)), .int (iZ (min (g 13 mm 0 + mo) (g 11 mm 0))), .int (iZ (g 14 mm 0)), .int (iZ (g 15 mm 0)), .int (iZ (g 16 mm 0)), .int (iZ (g 17 mm 0)), .long (lZ (g 18 mm 0))])))) 8 (g 1 1 0 + 1) (some (bq, aB dA (min (g 13 mm 0 + mo) (g 11 mm 0) - g 13 mm 0) (slF (g 19 mm) (g 13 mm 0) (min (g 13 mm 0 + mo) (g 11 mm 0) - g 13 mm 0))))) 7 (g 1 1 0 + 1) fq bq kd mm nu (g 0 7 0) (min (g 13 mm 0 + mo) (g 11 mm 0) - g 13 mm 0) (slF (g 19 mm) (g 13 mm 0) (min (g 13 mm 0 + mo) (g 11 mm 0) - g 13 mm 0)) 8 (g 1 1 0 + 1) (by decide) (by omega) fN fB) (cwI 5 hts gX3_makeDataFrame_X0_init rfl rfl rfl (hts (.initialized RX0) (by decide +kernel)) (hts (.methodLink RX3 187 yX0_init) (by decide +kernel)) (hts (.instanceMethod yX0_init) (by decide +kernel)) rfl (by decide +kernel) ⟨Nat.le_of_ble_eq_true rfl, Nat.le_of_ble_eq_true rfl⟩) ⟨gBl, gPre _ hg hS hW⟩ rfl rfl hl.1 rfl (lv_room (Nat.le_of_ble_eq_true rfl)) dX3_makeDataFrame_40 ⟨(show 0 + 0 + 1 + 1 + 0 ≤ kC (sMkD g mm kd nu mo) - kC g by omega), (show 0 + 0 + 8 + ((min (g 13 mm 0 + mo) (g 11 mm 0) - g 13 mm 0).toNat) + 0 ≤ kS (sMkD g mm kd nu mo) - kS g by omega)⟩) hS (fun _ _ h => h) (fun _ h => h) (fun u9 t9 H locs ht9 hvm9 hw9 hB9 hz9 hk9 hS => ?_)
      have hW : Wd D (z 0) (e2 (e2 (e2 (e2 en 7 (g 1 1 0 + 1) (some (fq, .inr (2, [.int (iZ (0)), .int (iZ (0)), .int (iZ (0)), .int (iZ (0)), .int (iZ (0)), .long (lZ (0)), .null, .int (iZ (0))])))) 5 mm (some (al 5 mm, .inr (4, [.int (iZ (mm)), .ref (al 6 mm), .int (iZ (g 12 mm 0)), .int (iZ (min (g 13 mm 0 + mo) (g 11 mm 0))), .int (iZ (g 14 mm 0)), .int (iZ (g 15 mm 0)), .int (iZ (g 16 mm 0)), .int (iZ (g 17 mm 0)), .long (lZ (g 18 mm 0))])))) 8 (g 1 1 0 + 1) (some (bq, aB dA (min (g 13 mm 0 + mo) (g 11 mm 0) - g 13 mm 0) (slF (g 19 mm) (g 13 mm 0) (min (g 13 mm 0 + mo) (g 11 mm 0) - g 13 mm 0))))) 7 (g 1 1 0 + 1) (some (fq, .inr (2, [.int (iZ (kd)), .int (iZ (mm)), .int (iZ (nu)), .int (iZ (min (g 13 mm 0 + mo) (g 11 mm 0) - g 13 mm 0)), .int (iZ (0)), .long (lZ (g 0 7 0)), .ref bq, .int (iZ (1))])))) H := by rw [← ht9]; exact hB9
      have fX : (e2 (e2 (e2 (e2 en 7 (g 1 1 0 + 1) (some (fq, .inr (2, [.int (iZ (0)), .int (iZ (0)), .int (iZ (0)), .int (iZ (0)), .int (iZ (0)), .long (lZ (0)), .null, .int (iZ (0))])))) 5 mm (some (al 5 mm, .inr (4, [.int (iZ (mm)), .ref (al 6 mm), .int (iZ (g 12 mm 0)), .int (iZ (min (g 13 mm 0 + mo) (g 11 mm 0))), .int (iZ (g 14 mm 0)), .int (iZ (g 15 mm 0)), .int (iZ (g 16 mm 0)), .int (iZ (g 17 mm 0)), .long (lZ (g 18 mm 0))])))) 8 (g 1 1 0 + 1) (some (bq, aB dA (min (g 13 mm 0 + mo) (g 11 mm 0) - g 13 mm 0) (slF (g 19 mm) (g 13 mm 0) (min (g 13 mm 0 + mo) (g 11 mm 0) - g 13 mm 0))))) 7 (g 1 1 0 + 1) (some (fq, .inr (2, [.int (iZ (kd)), .int (iZ (mm)), .int (iZ (nu)), .int (iZ (min (g 13 mm 0 + mo) (g 11 mm 0) - g 13 mm 0)), .int (iZ (0)), .long (lZ (g 0 7 0)), .ref bq, .int (iZ (1))])))) 0 0 = some (al 0 0, .inr (5, [.int (iZ (g 0 0 0)), .ref (al 1 0), .ref (al 1 1), .ref (al 3 0), .ref (al 4 0), .int (iZ (g 0 5 0)), .ref (al 11 0), .long (lZ (g 0 7 0)), .int (iZ (g 0 8 0)), .int (iZ (g 0 9 0)), .int (iZ (g 0 10 0)), .int (iZ (g 0 11 0)), .int (iZ (g 0 12 0)), .int (iZ (g 0 13 0))])) := (e2_k (by decide)).trans fX
      have fL0 : (e2 (e2 (e2 (e2 en 7 (g 1 1 0 + 1) (some (fq, .inr (2, [.int (iZ (0)), .int (iZ (0)), .int (iZ (0)), .int (iZ (0)), .int (iZ (0)), .long (lZ (0)), .null, .int (iZ (0))])))) 5 mm (some (al 5 mm, .inr (4, [.int (iZ (mm)), .ref (al 6 mm), .int (iZ (g 12 mm 0)), .int (iZ (min (g 13 mm 0 + mo) (g 11 mm 0))), .int (iZ (g 14 mm 0)), .int (iZ (g 15 mm 0)), .int (iZ (g 16 mm 0)), .int (iZ (g 17 mm 0)), .long (lZ (g 18 mm 0))])))) 8 (g 1 1 0 + 1) (some (bq, aB dA (min (g 13 mm 0 + mo) (g 11 mm 0) - g 13 mm 0) (slF (g 19 mm) (g 13 mm 0) (min (g 13 mm 0 + mo) (g 11 mm 0) - g 13 mm 0))))) 7 (g 1 1 0 + 1) (some (fq, .inr (2, [.int (iZ (kd)), .int (iZ (mm)), .int (iZ (nu)), .int (iZ (min (g 13 mm 0 + mo) (g 11 mm 0) - g 13 mm 0)), .int (iZ (0)), .long (lZ (g 0 7 0)), .ref bq, .int (iZ (1))])))) 1 0 = some (al 1 0, .inr (1, [.int (iZ (g 3 0 0)), .ref (al 2 0), .int (iZ (g 1 0 0))])) := (e2_k (by decide)).trans fL0
      have fL1 : (e2 (e2 (e2 (e2 en 7 (g 1 1 0 + 1) (some (fq, .inr (2, [.int (iZ (0)), .int (iZ (0)), .int (iZ (0)), .int (iZ (0)), .int (iZ (0)), .long (lZ (0)), .null, .int (iZ (0))])))) 5 mm (some (al 5 mm, .inr (4, [.int (iZ (mm)), .ref (al 6 mm), .int (iZ (g 12 mm 0)), .int (iZ (min (g 13 mm 0 + mo) (g 11 mm 0))), .int (iZ (g 14 mm 0)), .int (iZ (g 15 mm 0)), .int (iZ (g 16 mm 0)), .int (iZ (g 17 mm 0)), .long (lZ (g 18 mm 0))])))) 8 (g 1 1 0 + 1) (some (bq, aB dA (min (g 13 mm 0 + mo) (g 11 mm 0) - g 13 mm 0) (slF (g 19 mm) (g 13 mm 0) (min (g 13 mm 0 + mo) (g 11 mm 0) - g 13 mm 0))))) 7 (g 1 1 0 + 1) (some (fq, .inr (2, [.int (iZ (kd)), .int (iZ (mm)), .int (iZ (nu)), .int (iZ (min (g 13 mm 0 + mo) (g 11 mm 0) - g 13 mm 0)), .int (iZ (0)), .long (lZ (g 0 7 0)), .ref bq, .int (iZ (1))])))) 1 1 = some (al 1 1, .inr (1, [.int (iZ (g 3 1 0)), .ref (al 2 1), .int (iZ (g 1 1 0))])) := (e2_k (by decide)).trans fL1
      have fQ : (e2 (e2 (e2 (e2 en 7 (g 1 1 0 + 1) (some (fq, .inr (2, [.int (iZ (0)), .int (iZ (0)), .int (iZ (0)), .int (iZ (0)), .int (iZ (0)), .long (lZ (0)), .null, .int (iZ (0))])))) 5 mm (some (al 5 mm, .inr (4, [.int (iZ (mm)), .ref (al 6 mm), .int (iZ (g 12 mm 0)), .int (iZ (min (g 13 mm 0 + mo) (g 11 mm 0))), .int (iZ (g 14 mm 0)), .int (iZ (g 15 mm 0)), .int (iZ (g 16 mm 0)), .int (iZ (g 17 mm 0)), .long (lZ (g 18 mm 0))])))) 8 (g 1 1 0 + 1) (some (bq, aB dA (min (g 13 mm 0 + mo) (g 11 mm 0) - g 13 mm 0) (slF (g 19 mm) (g 13 mm 0) (min (g 13 mm 0 + mo) (g 11 mm 0) - g 13 mm 0))))) 7 (g 1 1 0 + 1) (some (fq, .inr (2, [.int (iZ (kd)), .int (iZ (mm)), .int (iZ (nu)), .int (iZ (min (g 13 mm 0 + mo) (g 11 mm 0) - g 13 mm 0)), .int (iZ (0)), .long (lZ (g 0 7 0)), .ref bq, .int (iZ (1))])))) 3 0 = some (al 3 0, aR dA (4) (fun j => some (al 9 j))) := (e2_k (by decide)).trans fQ
      have fC : (e2 (e2 (e2 (e2 en 7 (g 1 1 0 + 1) (some (fq, .inr (2, [.int (iZ (0)), .int (iZ (0)), .int (iZ (0)), .int (iZ (0)), .int (iZ (0)), .long (lZ (0)), .null, .int (iZ (0))])))) 5 mm (some (al 5 mm, .inr (4, [.int (iZ (mm)), .ref (al 6 mm), .int (iZ (g 12 mm 0)), .int (iZ (min (g 13 mm 0 + mo) (g 11 mm 0))), .int (iZ (g 14 mm 0)), .int (iZ (g 15 mm 0)), .int (iZ (g 16 mm 0)), .int (iZ (g 17 mm 0)), .long (lZ (g 18 mm 0))])))) 8 (g 1 1 0 + 1) (some (bq, aB dA (min (g 13 mm 0 + mo) (g 11 mm 0) - g 13 mm 0) (slF (g 19 mm) (g 13 mm 0) (min (g 13 mm 0 + mo) (g 11 mm 0) - g 13 mm 0))))) 7 (g 1 1 0 + 1) (some (fq, .inr (2, [.int (iZ (kd)), .int (iZ (mm)), .int (iZ (nu)), .int (iZ (min (g 13 mm 0 + mo) (g 11 mm 0) - g 13 mm 0)), .int (iZ (0)), .long (lZ (g 0 7 0)), .ref bq, .int (iZ (1))])))) 4 0 = some (al 4 0, aI dA (8) (fun j => g 2 j 0)) := (e2_k (by decide)).trans fC
      have fS : (e2 (e2 (e2 (e2 en 7 (g 1 1 0 + 1) (some (fq, .inr (2, [.int (iZ (0)), .int (iZ (0)), .int (iZ (0)), .int (iZ (0)), .int (iZ (0)), .long (lZ (0)), .null, .int (iZ (0))])))) 5 mm (some (al 5 mm, .inr (4, [.int (iZ (mm)), .ref (al 6 mm), .int (iZ (g 12 mm 0)), .int (iZ (min (g 13 mm 0 + mo) (g 11 mm 0))), .int (iZ (g 14 mm 0)), .int (iZ (g 15 mm 0)), .int (iZ (g 16 mm 0)), .int (iZ (g 17 mm 0)), .long (lZ (g 18 mm 0))])))) 8 (g 1 1 0 + 1) (some (bq, aB dA (min (g 13 mm 0 + mo) (g 11 mm 0) - g 13 mm 0) (slF (g 19 mm) (g 13 mm 0) (min (g 13 mm 0 + mo) (g 11 mm 0) - g 13 mm 0))))) 7 (g 1 1 0 + 1) (some (fq, .inr (2, [.int (iZ (kd)), .int (iZ (mm)), .int (iZ (nu)), .int (iZ (min (g 13 mm 0 + mo) (g 11 mm 0) - g 13 mm 0)), .int (iZ (0)), .long (lZ (g 0 7 0)), .ref bq, .int (iZ (1))])))) 5 mm = some (al 5 mm, .inr (4, [.int (iZ (mm)), .ref (al 6 mm), .int (iZ (g 12 mm 0)), .int (iZ (min (g 13 mm 0 + mo) (g 11 mm 0))), .int (iZ (g 14 mm 0)), .int (iZ (g 15 mm 0)), .int (iZ (g 16 mm 0)), .int (iZ (g 17 mm 0)), .long (lZ (g 18 mm 0))])) := (e2_k (by decide)).trans fS
      have fO : (e2 (e2 (e2 (e2 en 7 (g 1 1 0 + 1) (some (fq, .inr (2, [.int (iZ (0)), .int (iZ (0)), .int (iZ (0)), .int (iZ (0)), .int (iZ (0)), .long (lZ (0)), .null, .int (iZ (0))])))) 5 mm (some (al 5 mm, .inr (4, [.int (iZ (mm)), .ref (al 6 mm), .int (iZ (g 12 mm 0)), .int (iZ (min (g 13 mm 0 + mo) (g 11 mm 0))), .int (iZ (g 14 mm 0)), .int (iZ (g 15 mm 0)), .int (iZ (g 16 mm 0)), .int (iZ (g 17 mm 0)), .long (lZ (g 18 mm 0))])))) 8 (g 1 1 0 + 1) (some (bq, aB dA (min (g 13 mm 0 + mo) (g 11 mm 0) - g 13 mm 0) (slF (g 19 mm) (g 13 mm 0) (min (g 13 mm 0 + mo) (g 11 mm 0) - g 13 mm 0))))) 7 (g 1 1 0 + 1) (some (fq, .inr (2, [.int (iZ (kd)), .int (iZ (mm)), .int (iZ (nu)), .int (iZ (min (g 13 mm 0 + mo) (g 11 mm 0) - g 13 mm 0)), .int (iZ (0)), .long (lZ (g 0 7 0)), .ref bq, .int (iZ (1))])))) 6 mm = some (al 6 mm, aB dA (g 11 mm 0) (g 19 mm)) := (e2_k (by decide)).trans fO
      have fB : (e2 (e2 (e2 (e2 en 7 (g 1 1 0 + 1) (some (fq, .inr (2, [.int (iZ (0)), .int (iZ (0)), .int (iZ (0)), .int (iZ (0)), .int (iZ (0)), .long (lZ (0)), .null, .int (iZ (0))])))) 5 mm (some (al 5 mm, .inr (4, [.int (iZ (mm)), .ref (al 6 mm), .int (iZ (g 12 mm 0)), .int (iZ (min (g 13 mm 0 + mo) (g 11 mm 0))), .int (iZ (g 14 mm 0)), .int (iZ (g 15 mm 0)), .int (iZ (g 16 mm 0)), .int (iZ (g 17 mm 0)), .long (lZ (g 18 mm 0))])))) 8 (g 1 1 0 + 1) (some (bq, aB dA (min (g 13 mm 0 + mo) (g 11 mm 0) - g 13 mm 0) (slF (g 19 mm) (g 13 mm 0) (min (g 13 mm 0 + mo) (g 11 mm 0) - g 13 mm 0))))) 7 (g 1 1 0 + 1) (some (fq, .inr (2, [.int (iZ (kd)), .int (iZ (mm)), .int (iZ (nu)), .int (iZ (min (g 13 mm 0 + mo) (g 11 mm 0) - g 13 mm 0)), .int (iZ (0)), .long (lZ (g 0 7 0)), .ref bq, .int (iZ (1))])))) 8 (g 1 1 0 + 1) = some (bq, aB dA (min (g 13 mm 0 + mo) (g 11 mm 0) - g 13 mm 0) (slF (g 19 mm) (g 13 mm 0) (min (g 13 mm 0 + mo) (g 11 mm 0) - g 13 mm 0))) := (e2_k (by decide)).trans fB
      have fN : (e2 (e2 (e2 (e2 en 7 (g 1 1 0 + 1) (some (fq, .inr (2, [.int (iZ (0)), .int (iZ (0)), .int (iZ (0)), .int (iZ (0)), .int (iZ (0)), .long (lZ (0)), .null, .int (iZ (0))])))) 5 mm (some (al 5 mm, .inr (4, [.int (iZ (mm)), .ref (al 6 mm), .int (iZ (g 12 mm 0)), .int (iZ (min (g 13 mm 0 + mo) (g 11 mm 0))), .int (iZ (g 14 mm 0)), .int (iZ (g 15 mm 0)), .int (iZ (g 16 mm 0)), .int (iZ (g 17 mm 0)), .long (lZ (g 18 mm 0))])))) 8 (g 1 1 0 + 1) (some (bq, aB dA (min (g 13 mm 0 + mo) (g 11 mm 0) - g 13 mm 0) (slF (g 19 mm) (g 13 mm 0) (min (g 13 mm 0 + mo) (g 11 mm 0) - g 13 mm 0))))) 7 (g 1 1 0 + 1) (some (fq, .inr (2, [.int (iZ (kd)), .int (iZ (mm)), .int (iZ (nu)), .int (iZ (min (g 13 mm 0 + mo) (g 11 mm 0) - g 13 mm 0)), .int (iZ (0)), .long (lZ (g 0 7 0)), .ref bq, .int (iZ (1))])))) 7 (g 1 1 0 + 1) = some (fq, .inr (2, [.int (iZ (kd)), .int (iZ (mm)), .int (iZ (nu)), .int (iZ (min (g 13 mm 0 + mo) (g 11 mm 0) - g 13 mm 0)), .int (iZ (0)), .long (lZ (g 0 7 0)), .ref bq, .int (iZ (1))])) := e2_s _ _ _ _
      refine va_calli (va_runV (As := [.ref fq]) (rest := []) ⟨hx, hb, hml, hown, hts⟩ (c_AL_add l D dA z (e2 (e2 (e2 (e2 en 7 (g 1 1 0 + 1) (some (fq, .inr (2, [.int (iZ (0)), .int (iZ (0)), .int (iZ (0)), .int (iZ (0)), .int (iZ (0)), .long (lZ (0)), .null, .int (iZ (0))])))) 5 mm (some (al 5 mm, .inr (4, [.int (iZ (mm)), .ref (al 6 mm), .int (iZ (g 12 mm 0)), .int (iZ (min (g 13 mm 0 + mo) (g 11 mm 0))), .int (iZ (g 14 mm 0)), .int (iZ (g 15 mm 0)), .int (iZ (g 16 mm 0)), .int (iZ (g 17 mm 0)), .long (lZ (g 18 mm 0))])))) 8 (g 1 1 0 + 1) (some (bq, aB dA (min (g 13 mm 0 + mo) (g 11 mm 0) - g 13 mm 0) (slF (g 19 mm) (g 13 mm 0) (min (g 13 mm 0 + mo) (g 11 mm 0) - g 13 mm 0))))) 7 (g 1 1 0 + 1) (some (fq, .inr (2, [.int (iZ (kd)), .int (iZ (mm)), .int (iZ (nu)), .int (iZ (min (g 13 mm 0 + mo) (g 11 mm 0) - g 13 mm 0)), .int (iZ (0)), .long (lZ (g 0 7 0)), .ref bq, .int (iZ (1))])))) 1 (al 1 1) (al 2 1) (g 3 1 0) (g 1 1 0) (g 4 1 0) (eA g al 1) (by omega) (by omega) (by omega) (fun j hj => eA_out hj) fL1 ((hE.2.2.2.1 1 (Or.inr rfl)).imp id (fun q => ⟨q.1, (e2_k (by decide)).trans ((e2_k (by decide)).trans ((e2_k (by decide)).trans ((e2_k (by decide)).trans (q.2))))⟩)) (fun j y hy => by obtain ⟨hj, rfl⟩ := eA_some hy; exact ⟨7, j + 1, 2, _, (e2_n (by omega)).trans ((e2_n (by omega)).trans ((e2_n (by omega)).trans ((e2_n (by omega)).trans (ec_F hE (f := j + 1) (by omega))))), Or.inl rfl, by decide, by decide⟩) fq 7 2 (g 1 1 0 + 1) [.int (iZ (kd)), .int (iZ (mm)), .int (iZ (nu)), .int (iZ (min (g 13 mm 0 + mo) (g 11 mm 0) - g 13 mm 0)), .int (iZ (0)), .long (lZ (g 0 7 0)), .ref bq, .int (iZ (1))] (Or.inl rfl) (by decide) (by decide) (by decide) fN) (cwV 1 hts gX3_makeDataFrame_Jx4a65c_add_9ea2d rfl rfl rfl (by decide +kernel) ⟨Nat.le_of_ble_eq_true rfl, Nat.le_of_ble_eq_true rfl⟩) ⟨gBl, gRecv hK hW (ci := 1) rfl fL1, gPre _ hg hS hW⟩ rfl rfl hl.1 rfl (lv_room (Nat.le_of_ble_eq_true rfl)) dX3_makeDataFrame_43 ⟨(show 0 + 0 + 1 + 1 + 0 + (if g 1 1 0 < g 4 1 0 then 0 else 1) ≤ kC (sMkD g mm kd nu mo) - kC g by omega), (show 0 + 0 + 8 + ((min (g 13 mm 0 + mo) (g 11 mm 0) - g 13 mm 0).toNat) + 0 + (if g 1 1 0 < g 4 1 0 then 0 else (lcap (g 4 1 0)).toNat) ≤ kS (sMkD g mm kd nu mo) - kS g by omega)⟩) hS (fun _ _ h => h) (fun _ h => h) (fun r9 u9 t9 H locs ht9 hvm9 hw9 hB9 hz9 hk9 hS => ?_)
      obtain ⟨rfl, ⟨q9, hu1, hu2⟩, hu3⟩ := hw9
      have hW : Wd D (z 0) u9 H := by rw [← ht9]; exact hB9
      refine lv_pop hx hb dX3_makeDataFrame_46 rfl ?_
      refine z_iconst hx hb dX3_makeDataFrame_47 ?_
      obtain ⟨enS, henS⟩ : ∃ x : en_T, x = e2 en 5 mm (some (al 5 mm, .inr (4, [.int (iZ (mm)), .ref (al 6 mm), .int (iZ (g 12 mm 0)), .int (iZ (min (g 13 mm 0 + mo) (g 11 mm 0))), .int (iZ (g 14 mm 0)), .int (iZ (g 15 mm 0)), .int (iZ (g 16 mm 0)), .int (iZ (g 17 mm 0)), .long (lZ (g 18 mm 0))]))) := ⟨_, rfl⟩
      have hES : EC dA z (wr g 13 mm (sTo g mm mo)) al enS := ec_s hE (m := mm) (by omega) (fun t i j h => by rw [wr_n (by omega)]) (fun _ _ _ => rfl) (fun k i h => by rw [henS]; exact e2_n (by omega)) (by rw [henS]; refine (e2_s _ _ _ _).trans ?_; simp [wr, sTo])
      obtain ⟨gF, hgF⟩ : ∃ x : St, x = sData g mm kd nu mo := ⟨_, rfl⟩
      obtain ⟨alF, halF⟩ : ∃ x : Al, x = wa (wa (wa al 2 1 q9) 7 (g 1 1 0 + 1) fq) 8 (g 1 1 0 + 1) bq := ⟨_, rfl⟩
      have hc1 : gF 1 1 0 = g 1 1 0 + 1 := by rw [hgF]; simp [sFrame, lGrow, wr, wR, sData, sTo]
      have hc4 : gF 4 1 0 = (if g 1 1 0 < g 4 1 0 then g 4 1 0 else lcap (g 4 1 0)) := by rw [hgF]; simp [sFrame, lGrow, wr, wR, sData, sTo]
      have ha7 : alF 7 (g 1 1 0 + 1) = fq := by rw [halF]; simp [wa]
      have ha8 : alF 8 (g 1 1 0 + 1) = bq := by rw [halF]; simp [wa]
      have ha2 : alF 2 1 = q9 := by rw [halF]; simp [wa]
      have haO : ∀ (k : Nat) (i : Int), ¬ ((k = 2 ∧ i = 1) ∨ ((k = 7 ∨ k = 8) ∧ i = g 1 1 0 + 1)) → alF k i = al k i := fun k i h => by rw [halF, wa_n (by omega), wa_n (by omega), wa_n (by omega)]
      have h26 : gF 26 (g 1 1 0 + 1) 0 = min (g 13 mm 0 + mo) (g 11 mm 0) - g 13 mm 0 := by rw [hgF]; simp [sFrame, lGrow, wr, wR, sData, sTo]
      have h28 : gF 28 (g 1 1 0 + 1) = slF (g 19 mm) (g 13 mm 0) (min (g 13 mm 0 + mo) (g 11 mm 0) - g 13 mm 0) := by rw [hgF]; funext j; simp [sFrame, lGrow, wr, wR, sData, sTo]
      have hlp := lc_pos (cap := g 4 1 0) (by omega)
      have h10 : 10 ≤ gF 4 1 0 := by rw [hc4]; rcases ec_cap hE with q | q <;> (split <;> first | omega | (unfold lcap; split <;> omega))
      have heA : uF (eA g al 1) (g 1 1 0) (some fq) = eA gF alF 1 := eA_push (li := 1) rfl (by omega) hc1 ha7 (fun j hj => haO 7 j (by omega))
      have hgz : ∀ (t : Nat) (i j : Int), ¬ (((t = 1 ∨ t = 3 ∨ t = 4) ∧ i = 1) ∨ (20 ≤ t ∧ t ≤ 28 ∧ i = g 1 1 0 + 1)) → gF t i j = wr g 13 mm (sTo g mm mo) t i j := by
        intro t i j h
        rw [hgF]
        by_cases q : t = 13 ∧ i = mm ∧ j = 0
        · obtain ⟨rfl, rfl, rfl⟩ := q
          simp only [sData]
          rw [wr_s, wr_s]
        · simp only [sData]
          rw [wr_n q, wr_n q]
          simp only [sFrame, lGrow]
          rw [wR_n (by omega)]
          repeat rw [wr_n (by omega)]
      have hez : ∀ (k : Nat) (i : Int), ¬ (((k = 1 ∨ k = 2) ∧ i = 1) ∨ (k = 7 ∧ i = g 1 1 0 + 1) ∨ (k = 8 ∧ i = g 1 1 0 + 1) ∨ k = 99) → u9 k i = enS k i := by
        intro k i h
        rw [hu3 k i (by omega) (by omega) (by omega), henS]
        by_cases q : k = 5 ∧ i = mm
        · obtain ⟨rfl, rfl⟩ := q
          rw [fS, e2_s]
        · rw [e2_n q]
          exact (e2_n (by omega)).trans ((e2_n (by omega)).trans ((e2_n (by omega)).trans ((e2_n (by omega)).trans (rfl))))
      have hEF : EC dA z gF alF u9 := by
        refine ec_nf hES (n := g 1 1 0) rfl (by omega) hgz haO hez hc1 ?_ ⟨h10, ?_⟩ ?_ ?_
        · show u9 1 1 = some (al 1 1, .inr (1, [.int (iZ (gF 3 1 0)), .ref (alF 2 1), .int (iZ (gF 1 1 0))]))
          rw [hu1, hc1, ha2, hgF]; simp [sFrame, lGrow, wr, wR, sData, sTo]
        · rw [hu2, ha2, hc4, heA]
        · show u9 7 (g 1 1 0 + 1) = some (alF 7 (g 1 1 0 + 1), .inr (2, [.int (iZ (gF 20 (g 1 1 0 + 1) 0)), .int (iZ (gF 21 (g 1 1 0 + 1) 0)), .int (iZ (gF 22 (g 1 1 0 + 1) 0)), .int (iZ (gF 23 (g 1 1 0 + 1) 0)), .int (iZ (gF 24 (g 1 1 0 + 1) 0)), .long (lZ (gF 25 (g 1 1 0 + 1) 0)), .ref (alF 8 (g 1 1 0 + 1)), .int (iZ (gF 27 (g 1 1 0 + 1) 0))]))
          rw [hu3 7 _ (by omega) (by omega) (by omega), fN, ha7, ha8, hgF]; simp [sFrame, lGrow, wr, wR, sData, sTo]
        · exact Or.inr ⟨by rw [hgF]; simp [sFrame, lGrow, wr, wR, sData, sTo]; omega, by rw [hu3 8 _ (by omega) (by omega) (by omega), fB, ha8, h28, h26]⟩
      have hFRF : FR en u9 := fun k i h1 h2 => by rw [hu3 k i h2 (by omega) (by omega)]; exact (e2_n (by omega)).trans ((e2_n (by omega)).trans ((e2_n (by omega)).trans ((e2_n (by omega)).trans (rfl))))
      have hnS : gF 1 0 0 = g 1 0 0 := by rw [hgF]; simp [sFrame, lGrow, wr, wR, sData, sTo]
      have hcc : g 4 1 0 ≤ gF 4 1 0 := by rw [hc4]; split <;> omega
      have hASF : AS g gF al alF := ⟨⟨by omega, by omega, hcc⟩, fun k i h => haO k i (by omega)⟩
      rw [hgF, ← hgoal] at hEF hASF
      refine W.widen (k := kC (sMkD g mm kd nu mo) - kC g) (n := kS (sMkD g mm kd nu mo) - kS g) (show 0 + 0 + 1 + 1 + 0 + (if g 1 1 0 < g 4 1 0 then 0 else 1) ≤ kC (sMkD g mm kd nu mo) - kC g by omega) (show 0 + 0 + 8 + ((min (g 13 mm 0 + mo) (g 11 mm 0) - g 13 mm 0).toNat) + 0 + (if g 1 1 0 < g 4 1 0 then 0 else (lcap (g 4 1 0)).toNat) ≤ kS (sMkD g mm kd nu mo) - kS g by omega) ?_
      exact W.zret hx hb hr (by decide) (fun t ht hw => ⟨⟨_, (u9, alF), rfl, ⟨by first | rfl | rw [if_neg hfull], hEF, hFRF, hASF⟩, by show Wd _ _ _ t.heap; rw [ht]; exact hW⟩, hS.F ht⟩) hS.2.2 dX3_makeDataFrame_48
    · exact absurd c_4 (by omega)
set_option maxHeartbeats 4000000 in
set_option maxRecDepth 100000 in
theorem c_X3_mkF (l : Launch) (D : va_G) (dA : Nat → ClassId) (z : Nat → Nat) (en : en_T) (g : St) (al : Al) (r mg fk bk sp : Int) (h0 : 0 ≤ r) (h1 : r < 4) (hE : EC dA z g al en) (hI : IB g) : Met l yX3_makeFlowFrame wsX3_makeFlowFrame ({ frames := 7, cells := kC (sMkF g r mg fk bk sp) - kC g, slots := kS (sMkF g r mg fk bk sp) - kS g, locals := 173 }) (gP D dA z en [.ref (al 0 0), .ref (al 9 r), .int (iZ (mg)), .int (iZ (fk)), .int (iZ (bk)), .int (iZ (sp))]) (va_Qi (fun (r8 : Int32) (u : en_T × Al) => r8 = iZ (if 6000 ≤ g 1 1 0 then 0 else 1) ∧ CP dA z (sMkF g r mg fk bk sp) g al en u) (fun u t9 => Wd D (z 0) u.1 t9.heap) (fun q => z 0 ≤ q)) (kC (sMkF g r mg fk bk sp) - kC g) (kS (sMkF g r mg fk bk sp) - kS g) (fun q => z 0 ≤ q) := by
  refine gMet (own := RX3) (cc := cX3_makeFlowFrame) (maxL := 6) (ret := (some .boolean)) (by decide) rfl rfl (Nat.le_of_ble_eq_true rfl) ?_
  intro p e s m below meth c hx hb hml hown hts hr hlocks hnm hg hW ls hl
  have hK := hg.1
  have hS : va_S (fun q => z 0 ≤ q) s.heap s.heap [] := va_S.rf
  have hi2 : ∀ w ∈ u_ws RX0 TX0 8, w ∈ wsX3_makeFlowFrame := by decide +kernel
  have hi5 : ∀ w ∈ u_ws RX3 TX3 14, w ∈ wsX3_makeFlowFrame := by decide +kernel
  have hl : lv_has ls 6 [(0, .ref (al 0 0)), (1, .ref (al 9 r)), (2, .int (iZ (mg))), (3, .int (iZ (fk))), (4, .int (iZ (bk))), (5, .int (iZ (sp)))] := hl
  obtain ⟨hIX, hIL, hIS, hIF, hIR, hIG⟩ := id hI
  unfold IL at hIL
  unfold IX at hIX
  have fX : en 0 0 = some (al 0 0, .inr (5, [.int (iZ (g 0 0 0)), .ref (al 1 0), .ref (al 1 1), .ref (al 3 0), .ref (al 4 0), .int (iZ (g 0 5 0)), .ref (al 11 0), .long (lZ (g 0 7 0)), .int (iZ (g 0 8 0)), .int (iZ (g 0 9 0)), .int (iZ (g 0 10 0)), .int (iZ (g 0 11 0)), .int (iZ (g 0 12 0)), .int (iZ (g 0 13 0))])) := ec_X hE
  have fL0 : en 1 0 = some (al 1 0, .inr (1, [.int (iZ (g 3 0 0)), .ref (al 2 0), .int (iZ (g 1 0 0))])) := ec_L0 hE
  have fL1 : en 1 1 = some (al 1 1, .inr (1, [.int (iZ (g 3 1 0)), .ref (al 2 1), .int (iZ (g 1 1 0))])) := ec_L1 hE
  have fQ : en 3 0 = some (al 3 0, aR dA (4) (fun j => some (al 9 j))) := ec_Q hE
  have fC : en 4 0 = some (al 4 0, aI dA (8) (fun j => g 2 j 0)) := ec_C hE
  have fR : en 9 r = some (al 9 r, .inr (3, [.int (iZ (g 30 r 0)), .int (iZ (g 31 r 0)), .ref (al 10 r), .int (iZ (g 33 r 0)), .int (iZ (g 34 r 0)), .int (iZ (g 35 r 0)), .int (iZ (g 36 r 0)), .long (lZ (g 37 r 0)), .long (lZ (g 38 r 0))])) := ec_R hE (by omega)
  refine lv_aload_n hx hb dX3_makeFlowFrame_0 rfl (lv_at hl 0 rfl) ?_
  refine va_calli (va_runV (As := []) (rest := []) ⟨hx, hb, hml, hown, hts⟩ (c_X3_areFramesFull l D dA z en g al hE hI) (cwV 0 hts gX3_makeFlowFrame_X3_areFramesFull rfl rfl rfl (by decide +kernel) ⟨Nat.le_of_ble_eq_true rfl, Nat.le_of_ble_eq_true rfl⟩) ⟨gBl, gRecv hK hW (ci := 5) rfl fX, gPre _ hg hS hW⟩ rfl rfl hl.1 rfl (lv_room (Nat.le_of_ble_eq_true rfl)) dX3_makeFlowFrame_1 ⟨(show 0 + 0 ≤ kC (sMkF g r mg fk bk sp) - kC g by omega), (show 0 + 0 ≤ kS (sMkF g r mg fk bk sp) - kS g by omega)⟩) hS (fun _ _ h => h) (fun _ h => h) (fun r9 u9 t9 H locs ht9 hvm9 hw9 hB9 hz9 hk9 hS => ?_)
  have hW : Wd D (z 0) en H := by rw [← ht9]; exact hB9
  subst hw9
  by_cases hfull : 6000 ≤ g 1 1 0
  · rw [if_pos hfull]
    have hgoal : sMkF g r mg fk bk sp = sEndR g r 7 := by unfold sMkF; rw [if_pos hfull]
    refine z_if_eq (tgt := 16) hx hb dX3_makeFlowFrame_4 (by decide) (by omega) (fun c_4 => ?_) (fun c_4 => ?_)
    · exact absurd c_4 (by omega)
    · refine lv_aload_n hx hb dX3_makeFlowFrame_7 rfl (lv_at hl 0 rfl) ?_
      refine lv_aload_n hx hb dX3_makeFlowFrame_8 rfl (lv_at hl 1 rfl) ?_
      refine z_bipush hx hb dX3_makeFlowFrame_9 (by decide) ?_
      refine va_callv (va_runV (As := [.ref (al 9 r), .int (iZ (7))]) (rest := []) ⟨hx, hb, hml, hown, hts⟩ (c_X3_endReceiver l D dA z en g al r 7 (by omega) (by omega) (by omega) (by omega) hE hI) (cwV 2 hts gX3_makeFlowFrame_X3_endReceiver rfl rfl rfl (by decide +kernel) ⟨Nat.le_of_ble_eq_true rfl, Nat.le_of_ble_eq_true rfl⟩) ⟨gBl, gRecv hK hW (ci := 5) rfl fX, gPre _ hg hS hW⟩ rfl rfl hl.1 rfl (lv_room (Nat.le_of_ble_eq_true rfl)) dX3_makeFlowFrame_11 ⟨(show 0 + 0 + 0 ≤ kC (sMkF g r mg fk bk sp) - kC g by omega), (show 0 + 0 + 0 ≤ kS (sMkF g r mg fk bk sp) - kS g by omega)⟩) hS (fun _ _ h => h) (fun _ h => h) (fun u9 t9 H locs ht9 hvm9 hw9 hB9 hz9 hk9 hS => ?_)
      obtain ⟨en1, al1⟩ := u9
      obtain ⟨hE1, hFR1, hAS1⟩ := hw9
      have hW : Wd D (z 0) en1 H := by rw [← ht9]; exact hB9
      obtain ⟨g1, hg1⟩ : ∃ x : St, x = sEndR g r 7 := ⟨_, rfl⟩
      rw [← hg1] at hE1 hAS1
      dsimp only at hE1 hFR1 hAS1
      have hl : lv_has ls 6 [(0, .ref (al1 0 0)), (1, .ref (al1 9 r)), (2, .int (iZ (mg))), (3, .int (iZ (fk))), (4, .int (iZ (bk))), (5, .int (iZ (sp)))] := by rw [hAS1.2 0 0 (by omega), hAS1.2 9 r (by omega)]; exact hl
      have hN1 := hAS1.1
      have fX : en1 0 0 = some (al1 0 0, .inr (5, [.int (iZ (g1 0 0 0)), .ref (al1 1 0), .ref (al1 1 1), .ref (al1 3 0), .ref (al1 4 0), .int (iZ (g1 0 5 0)), .ref (al1 11 0), .long (lZ (g1 0 7 0)), .int (iZ (g1 0 8 0)), .int (iZ (g1 0 9 0)), .int (iZ (g1 0 10 0)), .int (iZ (g1 0 11 0)), .int (iZ (g1 0 12 0)), .int (iZ (g1 0 13 0))])) := ec_X hE1
      have fL0 : en1 1 0 = some (al1 1 0, .inr (1, [.int (iZ (g1 3 0 0)), .ref (al1 2 0), .int (iZ (g1 1 0 0))])) := ec_L0 hE1
      have fL1 : en1 1 1 = some (al1 1 1, .inr (1, [.int (iZ (g1 3 1 0)), .ref (al1 2 1), .int (iZ (g1 1 1 0))])) := ec_L1 hE1
      have fQ : en1 3 0 = some (al1 3 0, aR dA (4) (fun j => some (al1 9 j))) := ec_Q hE1
      have fC : en1 4 0 = some (al1 4 0, aI dA (8) (fun j => g1 2 j 0)) := ec_C hE1
      have fR : en1 9 r = some (al1 9 r, .inr (3, [.int (iZ (g1 30 r 0)), .int (iZ (g1 31 r 0)), .ref (al1 10 r), .int (iZ (g1 33 r 0)), .int (iZ (g1 34 r 0)), .int (iZ (g1 35 r 0)), .int (iZ (g1 36 r 0)), .long (lZ (g1 37 r 0)), .long (lZ (g1 38 r 0))])) := ec_R hE1 (by omega)
      refine z_iconst hx hb dX3_makeFlowFrame_14 ?_
      refine W.widen (k := kC (sMkF g r mg fk bk sp) - kC g) (n := kS (sMkF g r mg fk bk sp) - kS g) (show 0 + 0 + 0 ≤ kC (sMkF g r mg fk bk sp) - kC g by omega) (show 0 + 0 + 0 ≤ kS (sMkF g r mg fk bk sp) - kS g by omega) ?_
      have hgz : g1 = sMkF g r mg fk bk sp := by subst hg1; rw [hgoal]
      rw [hgz] at hE1 hAS1
      exact W.zret hx hb hr (by decide) (fun t ht hw => ⟨⟨_, (en1, al1), rfl, ⟨by first | rfl | rw [if_pos hfull], hE1, hFR1, hAS1⟩, by show Wd _ _ _ t.heap; rw [ht]; exact hW⟩, hS.F ht⟩) hS.2.2 dX3_makeFlowFrame_15
  · rw [if_neg hfull]
    have hgoal : sMkF g r mg fk bk sp = sFlow g mg fk bk sp := by unfold sMkF; rw [if_neg hfull]
    have hkc : kC (sMkF g r mg fk bk sp) = kC g + 3 := by rw [hgoal]; exact kC_f hI
    have hks : kS g + 15 + (if g 1 1 0 < g 4 1 0 then 0 else (lcap (g 4 1 0)).toNat) ≤ kS (sMkF g r mg fk bk sp) := by rw [hgoal]; exact kS_f hI (ec_cap hE)
    have hin : (if g 1 1 0 < g 4 1 0 then 0 else 1) ≤ 1 := by split <;> omega
    refine z_if_eq (tgt := 16) hx hb dX3_makeFlowFrame_4 (by decide) (by omega) (fun c_4 => ?_) (fun c_4 => ?_)
    · refine lv_aload_n hx hb dX3_makeFlowFrame_16 rfl (lv_at hl 0 rfl) ?_
      refine g_get (C := RX3) (T := TX3) (N := 14) (ci := 5) (v := .ref (al 1 1)) hx hb hts hi5 hown hK hW fX rfl 2 (by decide) (hts (.fieldLink RX3 16 "LongTransfer" "frames" "Ljava/util/ArrayList;") (by decide +kernel)) (fun _ h9 => h9) rfl dX3_makeFlowFrame_17 ?_
      refine g_new (C := RX0) (T := TX0) (N := 8) (ci := 2) (fs := [.int (iZ (0)), .int (iZ (0)), .int (iZ (0)), .int (iZ (0)), .int (iZ (0)), .long (lZ (0)), .null, .int (iZ (0))]) hx hb hts hi2 tyX0 tyX0_ok hown (hts (.classLink RX3 77 RX0) (by decide +kernel)) (hts (.instantiable RX0 8) (by decide +kernel)) (hts (.initialized RX0) (by decide +kernel)) hK hW hS hg.2.1 rfl (fun j hj => by match j, hj with | 0, _ => rfl | 1, _ => rfl | 2, _ => rfl | 3, _ => rfl | 4, _ => rfl | 5, _ => rfl | 6, _ => rfl | 7, _ => rfl | j + 8, h => omega) (show 0 + 0 + 1 ≤ kC (sMkF g r mg fk bk sp) - kC g by omega) (show 0 + 0 + 8 ≤ kS (sMkF g r mg fk bk sp) - kS g by omega) dX3_makeFlowFrame_20 7 (g 1 1 0 + 1) (fun fq H hW hS => ?_)
      have fX : (e2 en 7 (g 1 1 0 + 1) (some (fq, .inr (2, [.int (iZ (0)), .int (iZ (0)), .int (iZ (0)), .int (iZ (0)), .int (iZ (0)), .long (lZ (0)), .null, .int (iZ (0))])))) 0 0 = some (al 0 0, .inr (5, [.int (iZ (g 0 0 0)), .ref (al 1 0), .ref (al 1 1), .ref (al 3 0), .ref (al 4 0), .int (iZ (g 0 5 0)), .ref (al 11 0), .long (lZ (g 0 7 0)), .int (iZ (g 0 8 0)), .int (iZ (g 0 9 0)), .int (iZ (g 0 10 0)), .int (iZ (g 0 11 0)), .int (iZ (g 0 12 0)), .int (iZ (g 0 13 0))])) := (e2_k (by decide)).trans fX
      have fL0 : (e2 en 7 (g 1 1 0 + 1) (some (fq, .inr (2, [.int (iZ (0)), .int (iZ (0)), .int (iZ (0)), .int (iZ (0)), .int (iZ (0)), .long (lZ (0)), .null, .int (iZ (0))])))) 1 0 = some (al 1 0, .inr (1, [.int (iZ (g 3 0 0)), .ref (al 2 0), .int (iZ (g 1 0 0))])) := (e2_k (by decide)).trans fL0
      have fL1 : (e2 en 7 (g 1 1 0 + 1) (some (fq, .inr (2, [.int (iZ (0)), .int (iZ (0)), .int (iZ (0)), .int (iZ (0)), .int (iZ (0)), .long (lZ (0)), .null, .int (iZ (0))])))) 1 1 = some (al 1 1, .inr (1, [.int (iZ (g 3 1 0)), .ref (al 2 1), .int (iZ (g 1 1 0))])) := (e2_k (by decide)).trans fL1
      have fQ : (e2 en 7 (g 1 1 0 + 1) (some (fq, .inr (2, [.int (iZ (0)), .int (iZ (0)), .int (iZ (0)), .int (iZ (0)), .int (iZ (0)), .long (lZ (0)), .null, .int (iZ (0))])))) 3 0 = some (al 3 0, aR dA (4) (fun j => some (al 9 j))) := (e2_k (by decide)).trans fQ
      have fC : (e2 en 7 (g 1 1 0 + 1) (some (fq, .inr (2, [.int (iZ (0)), .int (iZ (0)), .int (iZ (0)), .int (iZ (0)), .int (iZ (0)), .long (lZ (0)), .null, .int (iZ (0))])))) 4 0 = some (al 4 0, aI dA (8) (fun j => g 2 j 0)) := (e2_k (by decide)).trans fC
      have fR : (e2 en 7 (g 1 1 0 + 1) (some (fq, .inr (2, [.int (iZ (0)), .int (iZ (0)), .int (iZ (0)), .int (iZ (0)), .int (iZ (0)), .long (lZ (0)), .null, .int (iZ (0))])))) 9 r = some (al 9 r, .inr (3, [.int (iZ (g 30 r 0)), .int (iZ (g 31 r 0)), .ref (al 10 r), .int (iZ (g 33 r 0)), .int (iZ (g 34 r 0)), .int (iZ (g 35 r 0)), .int (iZ (g 36 r 0)), .long (lZ (g 37 r 0)), .long (lZ (g 38 r 0))])) := (e2_k (by decide)).trans fR
      have fN : (e2 en 7 (g 1 1 0 + 1) (some (fq, .inr (2, [.int (iZ (0)), .int (iZ (0)), .int (iZ (0)), .int (iZ (0)), .int (iZ (0)), .long (lZ (0)), .null, .int (iZ (0))])))) 7 (g 1 1 0 + 1) = some (fq, .inr (2, [.int (iZ (0)), .int (iZ (0)), .int (iZ (0)), .int (iZ (0)), .int (iZ (0)), .long (lZ (0)), .null, .int (iZ (0))])) := e2_s _ _ _ _
      refine lv_dup hx hb dX3_makeFlowFrame_23 rfl ?_
      refine lv_iload_n hx hb dX3_makeFlowFrame_24 rfl (lv_at hl 2 rfl) ?_
      refine lv_iload_n hx hb dX3_makeFlowFrame_25 rfl (lv_at hl 3 rfl) ?_
      refine lv_iload hx hb dX3_makeFlowFrame_26 (lv_at hl 4 rfl) ?_
      refine lv_iload hx hb dX3_makeFlowFrame_28 (lv_at hl 5 rfl) ?_
      refine lv_aload_n hx hb dX3_makeFlowFrame_30 rfl (lv_at hl 0 rfl) ?_
      refine g_get (C := RX3) (T := TX3) (N := 14) (ci := 5) (v := .long (lZ (g 0 7 0))) hx hb hts hi5 hown hK hW fX rfl 7 (by decide) (hts (.fieldLink RX3 120 "LongTransfer" "now" "J") (by decide +kernel)) (fun _ h9 => h9) rfl dX3_makeFlowFrame_31 ?_
      refine va_callv (va_runI (As := [.int (iZ (mg)), .int (iZ (fk)), .int (iZ (bk)), .int (iZ (sp)), .long (lZ (g 0 7 0))]) (rest := [.ref fq, .ref (al 1 1)]) ⟨hx, hb, hml, hown, hts⟩ (c_X0_init_ l D dA z (e2 en 7 (g 1 1 0 + 1) (some (fq, .inr (2, [.int (iZ (0)), .int (iZ (0)), .int (iZ (0)), .int (iZ (0)), .int (iZ (0)), .long (lZ (0)), .null, .int (iZ (0))])))) 7 (g 1 1 0 + 1) fq mg fk bk sp (g 0 7 0) fN) (cwI 5 hts gX3_makeFlowFrame_X0_init_ rfl rfl rfl (hts (.initialized RX0) (by decide +kernel)) (hts (.methodLink RX3 194 yX0_init_) (by decide +kernel)) (hts (.instanceMethod yX0_init_) (by decide +kernel)) rfl (by decide +kernel) ⟨Nat.le_of_ble_eq_true rfl, Nat.le_of_ble_eq_true rfl⟩) ⟨gBl, gPre _ hg hS hW⟩ rfl rfl hl.1 rfl (lv_room (Nat.le_of_ble_eq_true rfl)) dX3_makeFlowFrame_34 ⟨(show 0 + 0 + 1 + 0 ≤ kC (sMkF g r mg fk bk sp) - kC g by omega), (show 0 + 0 + 8 + 0 ≤ kS (sMkF g r mg fk bk sp) - kS g by omega)⟩) hS (fun _ _ h => h) (fun _ h => h) (fun u9 t9 H locs ht9 hvm9 hw9 hB9 hz9 hk9 hS => ?_)
      have hW : Wd D (z 0) (e2 (e2 en 7 (g 1 1 0 + 1) (some (fq, .inr (2, [.int (iZ (0)), .int (iZ (0)), .int (iZ (0)), .int (iZ (0)), .int (iZ (0)), .long (lZ (0)), .null, .int (iZ (0))])))) 7 (g 1 1 0 + 1) (some (fq, .inr (2, [.int (iZ (3)), .int (iZ (mg)), .int (iZ (fk)), .int (iZ (bk)), .int (iZ (sp)), .long (lZ (g 0 7 0)), .ref (z 1), .int (iZ (1))])))) H := by rw [← ht9]; exact hB9
      rw [e2_e] at hW
      have fX : (e2 en 7 (g 1 1 0 + 1) (some (fq, .inr (2, [.int (iZ (3)), .int (iZ (mg)), .int (iZ (fk)), .int (iZ (bk)), .int (iZ (sp)), .long (lZ (g 0 7 0)), .ref (z 1), .int (iZ (1))])))) 0 0 = some (al 0 0, .inr (5, [.int (iZ (g 0 0 0)), .ref (al 1 0), .ref (al 1 1), .ref (al 3 0), .ref (al 4 0), .int (iZ (g 0 5 0)), .ref (al 11 0), .long (lZ (g 0 7 0)), .int (iZ (g 0 8 0)), .int (iZ (g 0 9 0)), .int (iZ (g 0 10 0)), .int (iZ (g 0 11 0)), .int (iZ (g 0 12 0)), .int (iZ (g 0 13 0))])) := (e2_k (by decide)).trans ((e2_k (by decide)).symm.trans fX)
      have fL0 : (e2 en 7 (g 1 1 0 + 1) (some (fq, .inr (2, [.int (iZ (3)), .int (iZ (mg)), .int (iZ (fk)), .int (iZ (bk)), .int (iZ (sp)), .long (lZ (g 0 7 0)), .ref (z 1), .int (iZ (1))])))) 1 0 = some (al 1 0, .inr (1, [.int (iZ (g 3 0 0)), .ref (al 2 0), .int (iZ (g 1 0 0))])) := (e2_k (by decide)).trans ((e2_k (by decide)).symm.trans fL0)
      have fL1 : (e2 en 7 (g 1 1 0 + 1) (some (fq, .inr (2, [.int (iZ (3)), .int (iZ (mg)), .int (iZ (fk)), .int (iZ (bk)), .int (iZ (sp)), .long (lZ (g 0 7 0)), .ref (z 1), .int (iZ (1))])))) 1 1 = some (al 1 1, .inr (1, [.int (iZ (g 3 1 0)), .ref (al 2 1), .int (iZ (g 1 1 0))])) := (e2_k (by decide)).trans ((e2_k (by decide)).symm.trans fL1)
      have fQ : (e2 en 7 (g 1 1 0 + 1) (some (fq, .inr (2, [.int (iZ (3)), .int (iZ (mg)), .int (iZ (fk)), .int (iZ (bk)), .int (iZ (sp)), .long (lZ (g 0 7 0)), .ref (z 1), .int (iZ (1))])))) 3 0 = some (al 3 0, aR dA (4) (fun j => some (al 9 j))) := (e2_k (by decide)).trans ((e2_k (by decide)).symm.trans fQ)
      have fC : (e2 en 7 (g 1 1 0 + 1) (some (fq, .inr (2, [.int (iZ (3)), .int (iZ (mg)), .int (iZ (fk)), .int (iZ (bk)), .int (iZ (sp)), .long (lZ (g 0 7 0)), .ref (z 1), .int (iZ (1))])))) 4 0 = some (al 4 0, aI dA (8) (fun j => g 2 j 0)) := (e2_k (by decide)).trans ((e2_k (by decide)).symm.trans fC)
      have fR : (e2 en 7 (g 1 1 0 + 1) (some (fq, .inr (2, [.int (iZ (3)), .int (iZ (mg)), .int (iZ (fk)), .int (iZ (bk)), .int (iZ (sp)), .long (lZ (g 0 7 0)), .ref (z 1), .int (iZ (1))])))) 9 r = some (al 9 r, .inr (3, [.int (iZ (g 30 r 0)), .int (iZ (g 31 r 0)), .ref (al 10 r), .int (iZ (g 33 r 0)), .int (iZ (g 34 r 0)), .int (iZ (g 35 r 0)), .int (iZ (g 36 r 0)), .long (lZ (g 37 r 0)), .long (lZ (g 38 r 0))])) := (e2_k (by decide)).trans ((e2_k (by decide)).symm.trans fR)
      have fN : (e2 en 7 (g 1 1 0 + 1) (some (fq, .inr (2, [.int (iZ (3)), .int (iZ (mg)), .int (iZ (fk)), .int (iZ (bk)), .int (iZ (sp)), .long (lZ (g 0 7 0)), .ref (z 1), .int (iZ (1))])))) 7 (g 1 1 0 + 1) = some (fq, .inr (2, [.int (iZ (3)), .int (iZ (mg)), .int (iZ (fk)), .int (iZ (bk)), .int (iZ (sp)), .long (lZ (g 0 7 0)), .ref (z 1), .int (iZ (1))])) := e2_s _ _ _ _
      refine va_calli (va_runV (As := [.ref fq]) (rest := []) ⟨hx, hb, hml, hown, hts⟩ (c_AL_add l D dA z (e2 en 7 (g 1 1 0 + 1) (some (fq, .inr (2, [.int (iZ (3)), .int (iZ (mg)), .int (iZ (fk)), .int (iZ (bk)), .int (iZ (sp)), .long (lZ (g 0 7 0)), .ref (z 1), .int (iZ (1))])))) 1 (al 1 1) (al 2 1) (g 3 1 0) (g 1 1 0) (g 4 1 0) (eA g al 1) (by omega) (by omega) (by omega) (fun j hj => eA_out hj) fL1 ((hE.2.2.2.1 1 (Or.inr rfl)).imp id (fun q => ⟨q.1, (e2_k (by decide)).trans (q.2)⟩)) (fun j y hy => by obtain ⟨hj, rfl⟩ := eA_some hy; exact ⟨7, j + 1, 2, _, (e2_n (by omega)).trans (ec_F hE (f := j + 1) (by omega)), Or.inl rfl, by decide, by decide⟩) fq 7 2 (g 1 1 0 + 1) [.int (iZ (3)), .int (iZ (mg)), .int (iZ (fk)), .int (iZ (bk)), .int (iZ (sp)), .long (lZ (g 0 7 0)), .ref (z 1), .int (iZ (1))] (Or.inl rfl) (by decide) (by decide) (by decide) fN) (cwV 1 hts gX3_makeFlowFrame_Jx4a65c_add_9ea2d rfl rfl rfl (by decide +kernel) ⟨Nat.le_of_ble_eq_true rfl, Nat.le_of_ble_eq_true rfl⟩) ⟨gBl, gRecv hK hW (ci := 1) rfl fL1, gPre _ hg hS hW⟩ rfl rfl hl.1 rfl (lv_room (Nat.le_of_ble_eq_true rfl)) dX3_makeFlowFrame_37 ⟨(show 0 + 0 + 1 + 0 + (if g 1 1 0 < g 4 1 0 then 0 else 1) ≤ kC (sMkF g r mg fk bk sp) - kC g by omega), (show 0 + 0 + 8 + 0 + (if g 1 1 0 < g 4 1 0 then 0 else (lcap (g 4 1 0)).toNat) ≤ kS (sMkF g r mg fk bk sp) - kS g by omega)⟩) hS (fun _ _ h => h) (fun _ h => h) (fun r9 u9 t9 H locs ht9 hvm9 hw9 hB9 hz9 hk9 hS => ?_)
      obtain ⟨rfl, ⟨q9, hu1, hu2⟩, hu3⟩ := hw9
      have hW : Wd D (z 0) u9 H := by rw [← ht9]; exact hB9
      refine lv_pop hx hb dX3_makeFlowFrame_40 rfl ?_
      refine z_iconst hx hb dX3_makeFlowFrame_41 ?_
      have hES := hE
      have henS : en = en := rfl
      obtain ⟨gF, hgF⟩ : ∃ x : St, x = sFlow g mg fk bk sp := ⟨_, rfl⟩
      obtain ⟨alF, halF⟩ : ∃ x : Al, x = wa (wa (wa al 2 1 q9) 7 (g 1 1 0 + 1) fq) 8 (g 1 1 0 + 1) (z 1) := ⟨_, rfl⟩
      have hc1 : gF 1 1 0 = g 1 1 0 + 1 := by rw [hgF]; simp [sFrame, lGrow, wr, wR, sFlow]
      have hc4 : gF 4 1 0 = (if g 1 1 0 < g 4 1 0 then g 4 1 0 else lcap (g 4 1 0)) := by rw [hgF]; simp [sFrame, lGrow, wr, wR, sFlow]
      have ha7 : alF 7 (g 1 1 0 + 1) = fq := by rw [halF]; simp [wa]
      have ha8 : alF 8 (g 1 1 0 + 1) = z 1 := by rw [halF]; simp [wa]
      have ha2 : alF 2 1 = q9 := by rw [halF]; simp [wa]
      have haO : ∀ (k : Nat) (i : Int), ¬ ((k = 2 ∧ i = 1) ∨ ((k = 7 ∨ k = 8) ∧ i = g 1 1 0 + 1)) → alF k i = al k i := fun k i h => by rw [halF, wa_n (by omega), wa_n (by omega), wa_n (by omega)]
      have hlp := lc_pos (cap := g 4 1 0) (by omega)
      have h10 : 10 ≤ gF 4 1 0 := by rw [hc4]; rcases ec_cap hE with q | q <;> (split <;> first | omega | (unfold lcap; split <;> omega))
      have heA : uF (eA g al 1) (g 1 1 0) (some fq) = eA gF alF 1 := eA_push (li := 1) rfl (by omega) hc1 ha7 (fun j hj => haO 7 j (by omega))
      have hgz : ∀ (t : Nat) (i j : Int), ¬ (((t = 1 ∨ t = 3 ∨ t = 4) ∧ i = 1) ∨ (20 ≤ t ∧ t ≤ 28 ∧ i = g 1 1 0 + 1)) → gF t i j = g t i j := by
        intro t i j h
        rw [hgF]
        simp only [sFlow, sFrame, lGrow]
        rw [wR_n (by omega)]
        repeat rw [wr_n (by omega)]
      have hez : ∀ (k : Nat) (i : Int), ¬ (((k = 1 ∨ k = 2) ∧ i = 1) ∨ (k = 7 ∧ i = g 1 1 0 + 1) ∨ (k = 8 ∧ i = g 1 1 0 + 1) ∨ k = 99) → u9 k i = en k i := by
        intro k i h
        rw [hu3 k i (by omega) (by omega) (by omega)]
        exact (e2_n (by omega)).trans (rfl)
      have hEF : EC dA z gF alF u9 := by
        refine ec_nf hE (n := g 1 1 0) rfl (by omega) hgz haO hez hc1 ?_ ⟨h10, ?_⟩ ?_ ?_
        · show u9 1 1 = some (al 1 1, .inr (1, [.int (iZ (gF 3 1 0)), .ref (alF 2 1), .int (iZ (gF 1 1 0))]))
          rw [hu1, hc1, ha2, hgF]; simp [sFrame, lGrow, wr, wR, sFlow]
        · rw [hu2, ha2, hc4, heA]
        · show u9 7 (g 1 1 0 + 1) = some (alF 7 (g 1 1 0 + 1), .inr (2, [.int (iZ (gF 20 (g 1 1 0 + 1) 0)), .int (iZ (gF 21 (g 1 1 0 + 1) 0)), .int (iZ (gF 22 (g 1 1 0 + 1) 0)), .int (iZ (gF 23 (g 1 1 0 + 1) 0)), .int (iZ (gF 24 (g 1 1 0 + 1) 0)), .long (lZ (gF 25 (g 1 1 0 + 1) 0)), .ref (alF 8 (g 1 1 0 + 1)), .int (iZ (gF 27 (g 1 1 0 + 1) 0))]))
          rw [hu3 7 _ (by omega) (by omega) (by omega), fN, ha7, ha8, hgF]; simp [sFrame, lGrow, wr, wR, sFlow]
        · exact Or.inl ⟨ha8, by rw [hgF]; simp [sFrame, lGrow, wr, wR, sFlow]⟩
      have hFRF : FR en u9 := fun k i h1 h2 => by rw [hu3 k i h2 (by omega) (by omega)]; exact (e2_n (by omega)).trans (rfl)
      have hnS : gF 1 0 0 = g 1 0 0 := by rw [hgF]; simp [sFrame, lGrow, wr, wR, sFlow]
      have hcc : g 4 1 0 ≤ gF 4 1 0 := by rw [hc4]; split <;> omega
      have hASF : AS g gF al alF := ⟨⟨by omega, by omega, hcc⟩, fun k i h => haO k i (by omega)⟩
      rw [hgF, ← hgoal] at hEF hASF
      refine W.widen (k := kC (sMkF g r mg fk bk sp) - kC g) (n := kS (sMkF g r mg fk bk sp) - kS g) (show 0 + 0 + 1 + 0 + (if g 1 1 0 < g 4 1 0 then 0 else 1) ≤ kC (sMkF g r mg fk bk sp) - kC g by omega) (show 0 + 0 + 8 + 0 + (if g 1 1 0 < g 4 1 0 then 0 else (lcap (g 4 1 0)).toNat) ≤ kS (sMkF g r mg fk bk sp) - kS g by omega) ?_
      exact W.zret hx hb hr (by decide) (fun t ht hw => ⟨⟨_, (u9, alF), rfl, ⟨by first | rfl | rw [if_neg hfull], hEF, hFRF, hASF⟩, by show Wd _ _ _ t.heap; rw [ht]; exact hW⟩, hS.F ht⟩) hS.2.2 dX3_makeFlowFrame_42
    · exact absurd c_4 (by omega)
