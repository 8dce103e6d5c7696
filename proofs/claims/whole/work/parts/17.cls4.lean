def sStart (g : St) (m : Int) : St := if g 11 m 0 ≤ 7 then (if 6000 ≤ g 1 1 0 then sMkD g m 0 0 7 else sRest (sMkD g m 0 0 7) m 3) else if g 11 m 0 ≤ 4095 then (if 6000 ≤ g 1 1 0 then sMkD g m 1 (g 11 m 0) 6 else sAwait (sMkD g m 1 (g 11 m 0) 6) m) else (if 6000 ≤ g 1 1 0 then sMkD g m 1 (g 11 m 0) 2 else sAwait (sMkD g m 1 (g 11 m 0) 2) m)
def sNext2 (g : St) (m : Int) : St :=
  if g 11 m 0 ≤ g 13 m 0 then sRest g m 3 else if g 16 m 0 = 1 then sAwait g m else
  wr (wr g 16 m (max 0 (g 16 m 0 - 1))) 18 m (wr g 16 m (max 0 (g 16 m 0 - 1)) 0 7 0 + wr g 16 m (max 0 (g 16 m 0 - 1)) 17 m 0)
def sSeq (g : St) (m : Int) : St := wr g 14 m ((g 14 m 0 + 1) % 16)
def sNext (g : St) (m : Int) : St := if 6000 ≤ g 1 1 0 then sMkD g m 2 (g 14 m 0) 7 else sNext2 (sSeq (sMkD g m 2 (g 14 m 0) 7) m) m
def sAns0 (g : St) (r : Int) : St := sMkF g r (g 31 r 0) (g 0 9 0) (g 0 10 0) (g 0 11 0)
def sGive (g : St) (r : Int) : St := wr g 38 r (g 0 7 0 + 1000)
def sAns2 (g : St) (r : Int) : St := if g 0 9 0 = 1 then wr g 37 r (g 0 7 0 + 500) else wr (wr (wr g 37 r 9223372036854775807) 35 r (wr g 37 r 9223372036854775807 0 10 0)) 36 r 0
def sAns (g : St) (r : Int) : St := if 6000 ≤ g 1 1 0 then sAns0 g r else if sAns0 g r 0 9 0 = 2 then sEndR (sAns0 g r) r 4 else sAns2 (sGive (sAns0 g r) r) r
theorem ib_sw {g g' : St} (h : IB g) {m : Int} (h1 : 1 ≤ m) (h2 : m ≤ g 1 0 0) (hg : ∀ (t : Nat) (i j : Int), ¬ (12 ≤ t ∧ t ≤ 18 ∧ i = m) → g' t i j = g t i j) (hs : (0 ≤ g' 12 m 0 ∧ g' 12 m 0 ≤ 4) ∧ (0 ≤ g' 13 m 0 ∧ g' 13 m 0 ≤ g 11 m 0) ∧ (0 ≤ g' 14 m 0 ∧ g' 14 m 0 < 16) ∧ (0 ≤ g' 15 m 0 ∧ g' 15 m 0 ≤ 1000000) ∧ (0 ≤ g' 16 m 0 ∧ g' 16 m 0 ≤ 255) ∧ (0 ≤ g' 17 m 0 ∧ g' 17 m 0 ≤ 127) ∧ (0 ≤ g' 18 m 0 ∧ g' 18 m 0 ≤ 9223372036854775807)) : IB g' := by
  have q := h.2.2.1 m h1 h2
  refine ib_s (m := m) h (fun t i j w => hg t i j (by omega)) ?_
  unfold IS at q ⊢
  rw [hg 11 m 0 (by omega), show g' 19 m = g 19 m from funext fun j => hg 19 m j (by omega)]
  exact ⟨q.1, hs.1, hs.2.1, hs.2.2.1, hs.2.2.2.1, hs.2.2.2.2.1, hs.2.2.2.2.2.1, hs.2.2.2.2.2.2, q.2.2.2.2.2.2.2.2⟩
theorem ib_rw {g g' : St} (h : IB g) {r : Int} (h1 : 0 ≤ r) (h2 : r < 4) (hg : ∀ (t : Nat) (i j : Int), ¬ (30 ≤ t ∧ t ≤ 38 ∧ t ≠ 32 ∧ i = r) → g' t i j = g t i j) (hs : (0 ≤ g' 30 r 0 ∧ g' 30 r 0 ≤ 3) ∧ (0 ≤ g' 31 r 0 ∧ g' 31 r 0 ≤ g 1 0 0) ∧ (0 ≤ g' 33 r 0 ∧ g' 33 r 0 ≤ g 32 r 0) ∧ (0 ≤ g' 34 r 0 ∧ g' 34 r 0 < 16) ∧ (0 ≤ g' 35 r 0 ∧ g' 35 r 0 ≤ 255) ∧ (0 ≤ g' 36 r 0 ∧ g' 36 r 0 ≤ 1000000) ∧ (0 ≤ g' 37 r 0 ∧ g' 37 r 0 ≤ 9223372036854775807) ∧ (0 ≤ g' 38 r 0 ∧ g' 38 r 0 ≤ 9223372036854775807)) : IB g' := by
  have q := h.2.2.2.2.1 r h1 h2
  refine ib_r (r := r) h (fun t i j w => hg t i j (by omega)) ?_
  unfold IR at q ⊢
  rw [hg 32 r 0 (by omega), hg 1 0 0 (by omega), show g' 39 r = g 39 r from funext fun j => hg 39 r j (by omega)]
  exact ⟨hs.1, hs.2.1, q.2.2.1, hs.2.2.1, hs.2.2.2.1, hs.2.2.2.2.1, hs.2.2.2.2.2.1, hs.2.2.2.2.2.2.1, hs.2.2.2.2.2.2.2, q.2.2.2.2.2.2.2.2.2⟩
theorem ib_md {g : St} (h : IB g) {m kd nu mo : Int} (h1 : 1 ≤ m) (h2 : m ≤ g 1 0 0) (h3 : 0 ≤ kd ∧ kd ≤ 2) (h4 : 0 ≤ nu ∧ nu ≤ 10000) (h5 : 1 ≤ mo ∧ mo ≤ 7) (h6 : g 13 m 0 < g 11 m 0) : IB (sMkD g m kd nu mo) := by
  unfold sMkD
  by_cases q : 6000 ≤ g 1 1 0
  · rw [if_pos q]; exact ib_es h 7 h1 h2
  · rw [if_neg q]; exact ib_da h q h1 h2 h3 h4 h5 h6
theorem ib_mf {g : St} (h : IB g) {r mg fk bk sp : Int} (h1 : 0 ≤ r) (h2 : r < 4) (h3 : 1 ≤ mg ∧ mg ≤ g 1 0 0) (h4 : 0 ≤ fk ∧ fk ≤ 2) (h5 : 0 ≤ bk ∧ bk ≤ 255) (h6 : 0 ≤ sp ∧ sp ≤ 255) : IB (sMkF g r mg fk bk sp) := by
  unfold sMkF
  by_cases q : 6000 ≤ g 1 1 0
  · rw [if_pos q]; exact ib_er h 7 h1 h2
  · rw [if_neg q]; exact ib_fr h q (by omega) (fun _ => by omega)
theorem ib_seq {g : St} (h : IB g) {m : Int} (h1 : 1 ≤ m) (h2 : m ≤ g 1 0 0) : IB (sSeq g m) := by
  have q := h.2.2.1 m h1 h2
  unfold IS at q
  refine ib_sw h h1 h2 (fun t i j w => by unfold sSeq; rw [wr_n (by omega)]) ?_
  simp [sSeq, wr]
  omega
theorem ib_aw {g : St} (h : IB g) {m : Int} (h1 : 1 ≤ m) (h2 : m ≤ g 1 0 0) : IB (sAwait g m) := by
  have q := h.2.2.1 m h1 h2
  have q0 := h.1
  unfold IS at q
  unfold IX at q0
  refine ib_sw h h1 h2 (fun t i j w => by unfold sAwait; rw [wr_n (by omega), wr_n (by omega)]) ?_
  simp [sAwait, wr]
  omega
theorem ib_n2 {g : St} (h : IB g) {m : Int} (h1 : 1 ≤ m) (h2 : m ≤ g 1 0 0) : IB (sNext2 g m) := by
  have q := h.2.2.1 m h1 h2
  have q0 := h.1
  unfold IS at q
  unfold IX at q0
  unfold sNext2
  by_cases c1 : g 11 m 0 ≤ g 13 m 0
  · rw [if_pos c1]; exact ib_sr h h1 h2 (by omega) (by omega)
  · rw [if_neg c1]
    by_cases c2 : g 16 m 0 = 1
    · rw [if_pos c2]; exact ib_aw h h1 h2
    · rw [if_neg c2]
      refine ib_sw h h1 h2 (fun t i j w => by rw [wr_n (by omega), wr_n (by omega)]) ?_
      simp [wr]
      omega
theorem ib_next {g : St} (h : IB g) {m : Int} (h1 : 1 ≤ m) (h2 : m ≤ g 1 0 0) (h6 : g 13 m 0 < g 11 m 0) : IB (sNext g m) := by
  have q := h.2.2.1 m h1 h2
  unfold IS at q
  have hm := ib_md h h1 h2 (kd := 2) (nu := g 14 m 0) (mo := 7) (by omega) (by omega) (by omega) h6
  have e : sMkD g m 2 (g 14 m 0) 7 1 0 0 = g 1 0 0 := by unfold sMkD; split <;> rfl
  unfold sNext
  by_cases c : 6000 ≤ g 1 1 0
  · rw [if_pos c]; exact hm
  · rw [if_neg c]
    have hs := ib_seq hm (m := m) h1 (by omega)
    exact ib_n2 hs h1 (by show m ≤ sMkD g m 2 (g 14 m 0) 7 1 0 0; omega)
theorem ib_start {g : St} (h : IB g) {m : Int} (h1 : 1 ≤ m) (h2 : m ≤ g 1 0 0) (h6 : g 13 m 0 = 0) : IB (sStart g m) := by
  have q := h.2.2.1 m h1 h2
  unfold IS at q
  have e : ∀ kd nu mo : Int, sMkD g m kd nu mo 1 0 0 = g 1 0 0 := fun kd nu mo => by unfold sMkD; split <;> rfl
  have a1 := ib_md h h1 h2 (kd := 0) (nu := 0) (mo := 7) (by omega) (by omega) (by omega) (by omega)
  have a2 := ib_md h h1 h2 (kd := 1) (nu := g 11 m 0) (mo := 6) (by omega) (by omega) (by omega) (by omega)
  have a3 := ib_md h h1 h2 (kd := 1) (nu := g 11 m 0) (mo := 2) (by omega) (by omega) (by omega) (by omega)
  unfold sStart
  split
  · split
    · exact a1
    · exact ib_sr a1 h1 (by rw [e]; exact h2) (by omega) (by omega)
  · split
    · split
      · exact a2
      · exact ib_aw a2 h1 (by rw [e]; exact h2)
    · split
      · exact a3
      · exact ib_aw a3 h1 (by rw [e]; exact h2)
theorem ib_give {g : St} (h : IB g) {r : Int} (h1 : 0 ≤ r) (h2 : r < 4) : IB (sGive g r) := by
  have q := h.2.2.2.2.1 r h1 h2
  have q0 := h.1
  unfold IR at q
  unfold IX at q0
  refine ib_rw h h1 h2 (fun t i j w => by unfold sGive; rw [wr_n (by omega)]) ?_
  simp [sGive, wr]
  omega
theorem ib_a2 {g : St} (h : IB g) {r : Int} (h1 : 0 ≤ r) (h2 : r < 4) : IB (sAns2 g r) := by
  have q := h.2.2.2.2.1 r h1 h2
  have q0 := h.1
  unfold IR at q
  unfold IX at q0
  unfold sAns2
  split
  · refine ib_rw h h1 h2 (fun t i j w => by rw [wr_n (by omega)]) ?_
    simp [wr]
    omega
  · refine ib_rw h h1 h2 (fun t i j w => by rw [wr_n (by omega), wr_n (by omega), wr_n (by omega)]) ?_
    simp [wr]
    omega
theorem ib_ans {g : St} (h : IB g) {r : Int} (h1 : 0 ≤ r) (h2 : r < 4) (h3 : 1 ≤ g 31 r 0) : IB (sAns g r) := by
  have q := h.2.2.2.2.1 r h1 h2
  have q0 := h.1
  unfold IR at q
  unfold IX at q0
  have hm : IB (sAns0 g r) := ib_mf h h1 h2 (by omega) (by omega) (by omega) (by omega)
  unfold sAns
  split
  · exact hm
  · split
    · exact ib_er hm 4 h1 h2
    · exact ib_a2 (ib_give hm h1 h2) h1 h2
set_option maxHeartbeats 4000000 in
set_option maxRecDepth 100000 in
theorem c_X3_startMessage (l : Launch) (D : va_G) (dA : Nat → ClassId) (z : Nat → Nat) (en : en_T) (g : St) (al : Al) (mm : Int) (h0 : 1 ≤ mm) (h1 : mm ≤ g 1 0 0) (hE : EC dA z g al en) (hI : IB g) : Met l yX3_startMessage wsX3_startMessage ({ frames := 8, cells := kC (sStart g mm) - kC g, slots := kS (sStart g mm) - kS g, locals := 197 }) (gP D dA z en [.ref (al 0 0), .ref (al 5 mm)]) (va_Qv (fun u : en_T × Al => CP dA z (sStart g mm) g al en u) (fun u t9 => Wd D (z 0) u.1 t9.heap) (fun q => z 0 ≤ q)) (kC (sStart g mm) - kC g) (kS (sStart g mm) - kS g) (fun q => z 0 ≤ q) := by
  refine gMet (own := RX3) (cc := cX3_startMessage) (maxL := 4) (ret := none) (by decide) rfl rfl (Nat.le_of_ble_eq_true rfl) ?_
  intro p e s m below meth c hx hb hml hown hts hr hlocks hnm hg hW ls hl
  have hK := hg.1
  have hS : va_S (fun q => z 0 ≤ q) s.heap s.heap [] := va_S.rf
  have hi4 : ∀ w ∈ u_ws RX2 TX2 9, w ∈ wsX3_startMessage := by decide +kernel
  have hi5 : ∀ w ∈ u_ws RX3 TX3 14, w ∈ wsX3_startMessage := by decide +kernel
  have hl : lv_has ls 4 [(0, .ref (al 0 0)), (1, .ref (al 5 mm))] := hl
  obtain ⟨hIX, hIL, hIS, hIF, hIR, hIG⟩ := id hI
  unfold IL at hIL
  unfold IX at hIX
  have hISm := hIS mm (by omega) (by omega)
  unfold IS at hISm
  have fX : en 0 0 = some (al 0 0, .inr (5, [.int (iZ (g 0 0 0)), .ref (al 1 0), .ref (al 1 1), .ref (al 3 0), .ref (al 4 0), .int (iZ (g 0 5 0)), .ref (al 11 0), .long (lZ (g 0 7 0)), .int (iZ (g 0 8 0)), .int (iZ (g 0 9 0)), .int (iZ (g 0 10 0)), .int (iZ (g 0 11 0)), .int (iZ (g 0 12 0)), .int (iZ (g 0 13 0))])) := ec_X hE
  have fL0 : en 1 0 = some (al 1 0, .inr (1, [.int (iZ (g 3 0 0)), .ref (al 2 0), .int (iZ (g 1 0 0))])) := ec_L0 hE
  have fL1 : en 1 1 = some (al 1 1, .inr (1, [.int (iZ (g 3 1 0)), .ref (al 2 1), .int (iZ (g 1 1 0))])) := ec_L1 hE
  have fQ : en 3 0 = some (al 3 0, aR dA (4) (fun j => some (al 9 j))) := ec_Q hE
  have fC : en 4 0 = some (al 4 0, aI dA (8) (fun j => g 2 j 0)) := ec_C hE
  have fS : en 5 mm = some (al 5 mm, .inr (4, [.int (iZ (mm)), .ref (al 6 mm), .int (iZ (g 12 mm 0)), .int (iZ (g 13 mm 0)), .int (iZ (g 14 mm 0)), .int (iZ (g 15 mm 0)), .int (iZ (g 16 mm 0)), .int (iZ (g 17 mm 0)), .long (lZ (g 18 mm 0))])) := ec_S hE (by omega)
  have fO : en 6 mm = some (al 6 mm, aB dA (g 11 mm 0) (g 19 mm)) := ec_SO hE (by omega)
  refine lv_aload_n hx hb dX3_startMessage_0 rfl (lv_at hl 1 rfl) ?_
  refine g_get (C := RX2) (T := TX2) (N := 9) (ci := 4) (v := .ref (al 6 mm)) hx hb hts hi4 hown hK hW fS rfl 1 (by decide) (hts (.fieldLink RX3 69 "LongTransfer$Sender" "octets" "[B") (by decide +kernel)) (fun _ h9 => h9) rfl dX3_startMessage_1 ?_
  refine g_len_aB hx hb hK hW fO (by omega) dX3_startMessage_4 ?_
  refine lv_istore_n (lv' := [(2, .int (iZ (g 11 mm 0))), (0, .ref (al 0 0)), (1, .ref (al 5 mm))]) hx hb dX3_startMessage_5 rfl hl (by decide) rfl (fun ls hl => ?_)
  refine lv_iload_n hx hb dX3_startMessage_6 rfl (lv_at hl 0 rfl) ?_
  refine z_bipush hx hb dX3_startMessage_7 (by decide) ?_
  refine z_icmp_gt (tgt := 30) hx hb dX3_startMessage_9 (by decide) (by omega) (by omega) (fun c_9 => ?_) (fun c_9 => ?_)
  · refine lv_iload_n hx hb dX3_startMessage_30 rfl (lv_at hl 0 rfl) ?_
    refine z_sipush hx hb dX3_startMessage_31 (by decide) ?_
    refine z_icmp_le (tgt := 41) hx hb dX3_startMessage_34 (by decide) (by omega) (by omega) (fun c_34 => ?_) (fun c_34 => ?_)
    · refine z_bipush hx hb dX3_startMessage_41 (by decide) ?_
      refine lv_istore_n (lv' := [(3, .int (iZ (6))), (2, .int (iZ (g 11 mm 0))), (0, .ref (al 0 0)), (1, .ref (al 5 mm))]) hx hb dX3_startMessage_43 rfl hl (by decide) rfl (fun ls hl => ?_)
      refine lv_aload_n hx hb dX3_startMessage_44 rfl (lv_at hl 2 rfl) ?_
      refine lv_aload_n hx hb dX3_startMessage_45 rfl (lv_at hl 3 rfl) ?_
      refine z_iconst hx hb dX3_startMessage_46 ?_
      refine lv_iload_n hx hb dX3_startMessage_47 rfl (lv_at hl 1 rfl) ?_
      refine lv_iload_n hx hb dX3_startMessage_48 rfl (lv_at hl 0 rfl) ?_
      have hst : sStart g mm = if 6000 ≤ g 1 1 0 then sMkD g mm (1) (g 11 mm 0) (6) else sAwait (sMkD g mm (1) (g 11 mm 0) (6)) mm := by unfold sStart; rw [if_neg (by omega : ¬ g 11 mm 0 ≤ 7), if_pos (by omega : g 11 mm 0 ≤ 4095)]
      have hkc : kC (sStart g mm) = kC (sMkD g mm (1) (g 11 mm 0) (6)) := by rw [hst]; split <;> rfl
      have hks : kS (sStart g mm) = kS (sMkD g mm (1) (g 11 mm 0) (6)) := by rw [hst]; split <;> rfl
      refine va_calli (va_runV (As := [.ref (al 5 mm), .int (iZ (1)), .int (iZ (g 11 mm 0)), .int (iZ (6))]) (rest := []) ⟨hx, hb, hml, hown, hts⟩ (c_X3_mkD l D dA z en g al mm (1) (g 11 mm 0) (6) (by omega) (by omega) (by omega) (by omega) hE hI) (cwV 4 hts gX3_startMessage_X3_makeDataFrame rfl rfl rfl (by decide +kernel) ⟨Nat.le_of_ble_eq_true rfl, Nat.le_of_ble_eq_true rfl⟩) ⟨gBl, gRecv hK hW (ci := 5) rfl fX, gPre _ hg hS hW⟩ rfl rfl hl.1 rfl (lv_room (Nat.le_of_ble_eq_true rfl)) dX3_startMessage_49 ⟨(show 0 + (kC (sMkD g mm (1) (g 11 mm 0) (6)) - kC g) ≤ kC (sStart g mm) - kC g by omega), (show 0 + (kS (sMkD g mm (1) (g 11 mm 0) (6)) - kS g) ≤ kS (sStart g mm) - kS g by omega)⟩) hS (fun _ _ h => h) (fun _ h => h) (fun r9 u9 t9 H locs ht9 hvm9 hw9 hB9 hz9 hk9 hS => ?_)
      obtain ⟨en1, al1⟩ := u9
      obtain ⟨hr9, hE1, hFR1, hAS1⟩ := hw9
      have hW : Wd D (z 0) en1 H := by rw [← ht9]; exact hB9
      obtain ⟨g1, hg1⟩ : ∃ x : St, x = sMkD g mm (1) (g 11 mm 0) (6) := ⟨_, rfl⟩
      rw [← hg1] at hE1 hAS1
      dsimp only at hE1 hFR1 hAS1
      subst hr9
      have hl : lv_has ls 4 [(3, .int (iZ (6))), (2, .int (iZ (g 11 mm 0))), (0, .ref (al1 0 0)), (1, .ref (al1 5 mm))] := by rw [hAS1.2 0 0 (by omega), hAS1.2 5 mm (by omega)]; exact hl
      have hN1 := hAS1.1
      have fX : en1 0 0 = some (al1 0 0, .inr (5, [.int (iZ (g1 0 0 0)), .ref (al1 1 0), .ref (al1 1 1), .ref (al1 3 0), .ref (al1 4 0), .int (iZ (g1 0 5 0)), .ref (al1 11 0), .long (lZ (g1 0 7 0)), .int (iZ (g1 0 8 0)), .int (iZ (g1 0 9 0)), .int (iZ (g1 0 10 0)), .int (iZ (g1 0 11 0)), .int (iZ (g1 0 12 0)), .int (iZ (g1 0 13 0))])) := ec_X hE1
      have fL0 : en1 1 0 = some (al1 1 0, .inr (1, [.int (iZ (g1 3 0 0)), .ref (al1 2 0), .int (iZ (g1 1 0 0))])) := ec_L0 hE1
      have fL1 : en1 1 1 = some (al1 1 1, .inr (1, [.int (iZ (g1 3 1 0)), .ref (al1 2 1), .int (iZ (g1 1 1 0))])) := ec_L1 hE1
      have fQ : en1 3 0 = some (al1 3 0, aR dA (4) (fun j => some (al1 9 j))) := ec_Q hE1
      have fC : en1 4 0 = some (al1 4 0, aI dA (8) (fun j => g1 2 j 0)) := ec_C hE1
      have fS : en1 5 mm = some (al1 5 mm, .inr (4, [.int (iZ (mm)), .ref (al1 6 mm), .int (iZ (g1 12 mm 0)), .int (iZ (g1 13 mm 0)), .int (iZ (g1 14 mm 0)), .int (iZ (g1 15 mm 0)), .int (iZ (g1 16 mm 0)), .int (iZ (g1 17 mm 0)), .long (lZ (g1 18 mm 0))])) := ec_S hE1 (by omega)
      have fO : en1 6 mm = some (al1 6 mm, aB dA (g1 11 mm 0) (g1 19 mm)) := ec_SO hE1 (by omega)
      by_cases hfull : 6000 ≤ g 1 1 0
      · rw [if_pos hfull]
        refine z_if_eq (tgt := 63) hx hb dX3_startMessage_52 (by decide) (by omega) (fun c_52 => ?_) (fun c_52 => ?_)
        · refine W.widen (k := kC (sStart g mm) - kC g) (n := kS (sStart g mm) - kS g) (show 0 + (kC (sMkD g mm (1) (g 11 mm 0) (6)) - kC g) ≤ kC (sStart g mm) - kC g by omega) (show 0 + (kS (sMkD g mm (1) (g 11 mm 0) (6)) - kS g) ≤ kS (sStart g mm) - kS g by omega) ?_
          have hgz : g1 = sStart g mm := by subst hg1; rw [hst]; first | rw [if_pos hfull] | rw [if_neg hfull]
          rw [hgz] at hE1 hAS1
          exact W.vret hx hb hr (fun t ht hw => ⟨⟨(en1, al1), rfl, ⟨hE1, hFR1, hAS1⟩, by show Wd _ _ _ t.heap; rw [ht]; exact hW⟩, hS.F ht⟩) hS.2.2 dX3_startMessage_63
        · exact absurd c_52 (by omega)
      · rw [if_neg hfull]
        refine z_if_eq (tgt := 63) hx hb dX3_startMessage_52 (by decide) (by omega) (fun c_52 => ?_) (fun c_52 => ?_)
        · exact absurd c_52 (by omega)
        · refine lv_aload_n hx hb dX3_startMessage_55 rfl (lv_at hl 3 rfl) ?_
          refine lv_aload_n hx hb dX3_startMessage_56 rfl (lv_at hl 2 rfl) ?_
          refine g_get (C := RX3) (T := TX3) (N := 14) (ci := 5) (v := .long (lZ (g1 0 7 0))) hx hb hts hi5 hown hK hW fX rfl 7 (by decide) (hts (.fieldLink RX3 120 "LongTransfer" "now" "J") (by decide +kernel)) (fun _ h9 => h9) rfl dX3_startMessage_57 ?_
          refine va_callv (va_runV (As := [.long (lZ (g1 0 7 0))]) (rest := []) ⟨hx, hb, hml, hown, hts⟩ (c_X2_awaitFlow l D dA z en1 5 mm (al1 5 mm) (al1 6 mm) mm (g1 12 mm 0) (g1 13 mm 0) (g1 14 mm 0) (g1 15 mm 0) (g1 16 mm 0) (g1 17 mm 0) (g1 18 mm 0) (g1 0 7 0) fS) (cwV 1 hts gX3_startMessage_X2_awaitFlow rfl rfl rfl (by decide +kernel) ⟨Nat.le_of_ble_eq_true rfl, Nat.le_of_ble_eq_true rfl⟩) ⟨gBl, gRecv hK hW (ci := 4) rfl fS, gPre _ hg hS hW⟩ rfl rfl hl.1 rfl (lv_room (Nat.le_of_ble_eq_true rfl)) dX3_startMessage_60 ⟨(show 0 + (kC (sMkD g mm (1) (g 11 mm 0) (6)) - kC g) + 0 ≤ kC (sStart g mm) - kC g by omega), (show 0 + (kS (sMkD g mm (1) (g 11 mm 0) (6)) - kS g) + 0 ≤ kS (sStart g mm) - kS g by omega)⟩) hS (fun _ _ h => h) (fun _ h => h) (fun u9 t9 H locs ht9 hvm9 hw9 hB9 hz9 hk9 hS => ?_)
          have hW : Wd D (z 0) (e2 en1 5 mm (some (al1 5 mm, .inr (4, [.int (iZ (mm)), .ref (al1 6 mm), .int (iZ (1)), .int (iZ (g1 13 mm 0)), .int (iZ (g1 14 mm 0)), .int (iZ (g1 15 mm 0)), .int (iZ (g1 16 mm 0)), .int (iZ (g1 17 mm 0)), .long (lZ (g1 0 7 0 + 1000))])))) H := by rw [← ht9]; exact hB9
          have fX : (e2 en1 5 mm (some (al1 5 mm, .inr (4, [.int (iZ (mm)), .ref (al1 6 mm), .int (iZ (1)), .int (iZ (g1 13 mm 0)), .int (iZ (g1 14 mm 0)), .int (iZ (g1 15 mm 0)), .int (iZ (g1 16 mm 0)), .int (iZ (g1 17 mm 0)), .long (lZ (g1 0 7 0 + 1000))])))) 0 0 = some (al1 0 0, .inr (5, [.int (iZ (g1 0 0 0)), .ref (al1 1 0), .ref (al1 1 1), .ref (al1 3 0), .ref (al1 4 0), .int (iZ (g1 0 5 0)), .ref (al1 11 0), .long (lZ (g1 0 7 0)), .int (iZ (g1 0 8 0)), .int (iZ (g1 0 9 0)), .int (iZ (g1 0 10 0)), .int (iZ (g1 0 11 0)), .int (iZ (g1 0 12 0)), .int (iZ (g1 0 13 0))])) := (e2_k (by decide)).trans fX
          have fL0 : (e2 en1 5 mm (some (al1 5 mm, .inr (4, [.int (iZ (mm)), .ref (al1 6 mm), .int (iZ (1)), .int (iZ (g1 13 mm 0)), .int (iZ (g1 14 mm 0)), .int (iZ (g1 15 mm 0)), .int (iZ (g1 16 mm 0)), .int (iZ (g1 17 mm 0)), .long (lZ (g1 0 7 0 + 1000))])))) 1 0 = some (al1 1 0, .inr (1, [.int (iZ (g1 3 0 0)), .ref (al1 2 0), .int (iZ (g1 1 0 0))])) := (e2_k (by decide)).trans fL0
          have fL1 : (e2 en1 5 mm (some (al1 5 mm, .inr (4, [.int (iZ (mm)), .ref (al1 6 mm), .int (iZ (1)), .int (iZ (g1 13 mm 0)), .int (iZ (g1 14 mm 0)), .int (iZ (g1 15 mm 0)), .int (iZ (g1 16 mm 0)), .int (iZ (g1 17 mm 0)), .long (lZ (g1 0 7 0 + 1000))])))) 1 1 = some (al1 1 1, .inr (1, [.int (iZ (g1 3 1 0)), .ref (al1 2 1), .int (iZ (g1 1 1 0))])) := (e2_k (by decide)).trans fL1
          have fQ : (e2 en1 5 mm (some (al1 5 mm, .inr (4, [.int (iZ (mm)), .ref (al1 6 mm), .int (iZ (1)), .int (iZ (g1 13 mm 0)), .int (iZ (g1 14 mm 0)), .int (iZ (g1 15 mm 0)), .int (iZ (g1 16 mm 0)), .int (iZ (g1 17 mm 0)), .long (lZ (g1 0 7 0 + 1000))])))) 3 0 = some (al1 3 0, aR dA (4) (fun j => some (al1 9 j))) := (e2_k (by decide)).trans fQ
          have fC : (e2 en1 5 mm (some (al1 5 mm, .inr (4, [.int (iZ (mm)), .ref (al1 6 mm), .int (iZ (1)), .int (iZ (g1 13 mm 0)), .int (iZ (g1 14 mm 0)), .int (iZ (g1 15 mm 0)), .int (iZ (g1 16 mm 0)), .int (iZ (g1 17 mm 0)), .long (lZ (g1 0 7 0 + 1000))])))) 4 0 = some (al1 4 0, aI dA (8) (fun j => g1 2 j 0)) := (e2_k (by decide)).trans fC
          have fO : (e2 en1 5 mm (some (al1 5 mm, .inr (4, [.int (iZ (mm)), .ref (al1 6 mm), .int (iZ (1)), .int (iZ (g1 13 mm 0)), .int (iZ (g1 14 mm 0)), .int (iZ (g1 15 mm 0)), .int (iZ (g1 16 mm 0)), .int (iZ (g1 17 mm 0)), .long (lZ (g1 0 7 0 + 1000))])))) 6 mm = some (al1 6 mm, aB dA (g1 11 mm 0) (g1 19 mm)) := (e2_k (by decide)).trans fO
          have fS : (e2 en1 5 mm (some (al1 5 mm, .inr (4, [.int (iZ (mm)), .ref (al1 6 mm), .int (iZ (1)), .int (iZ (g1 13 mm 0)), .int (iZ (g1 14 mm 0)), .int (iZ (g1 15 mm 0)), .int (iZ (g1 16 mm 0)), .int (iZ (g1 17 mm 0)), .long (lZ (g1 0 7 0 + 1000))])))) 5 mm = some (al1 5 mm, .inr (4, [.int (iZ (mm)), .ref (al1 6 mm), .int (iZ (1)), .int (iZ (g1 13 mm 0)), .int (iZ (g1 14 mm 0)), .int (iZ (g1 15 mm 0)), .int (iZ (g1 16 mm 0)), .int (iZ (g1 17 mm 0)), .long (lZ (g1 0 7 0 + 1000))])) := e2_s _ _ _ _
          obtain ⟨en2, hen2⟩ : ∃ x : en_T, x = (e2 en1 5 mm (some (al1 5 mm, .inr (4, [.int (iZ (mm)), .ref (al1 6 mm), .int (iZ (1)), .int (iZ (g1 13 mm 0)), .int (iZ (g1 14 mm 0)), .int (iZ (g1 15 mm 0)), .int (iZ (g1 16 mm 0)), .int (iZ (g1 17 mm 0)), .long (lZ (g1 0 7 0 + 1000))])))) := ⟨_, rfl⟩
          rw [← hen2] at hW
          obtain ⟨g2, hg2⟩ : ∃ x : St, x = sAwait g1 mm := ⟨_, rfl⟩
          have hE2 : EC dA z g2 al1 en2 := ec_s hE1 (m := mm) (by omega) (fun t i j h => by rw [hg2]; simp only [sAwait]; repeat rw [wr_n (by omega)]) (fun _ _ _ => rfl) (fun k i h => by rw [hen2]; exact e2_n (by omega)) (by rw [hen2, hg2]; refine (e2_s _ _ _ _).trans ?_; simp [sAwait, wr])
          have hFR2 : FR en1 en2 := fun k i h1 h2 => by rw [hen2]; exact e2_n (by omega)
          have hAS2 : AS g1 g2 al1 al1 := AS_e (by rw [hg2]; rfl) (by rw [hg2]; rfl) (by rw [hg2]; rfl)
          have hFR2 := FR.tr hFR1 hFR2
          have hAS2 := AS.tr hAS1 hAS2
          have hN2 := hAS2.1
          have fX : en2 0 0 = some (al1 0 0, .inr (5, [.int (iZ (g2 0 0 0)), .ref (al1 1 0), .ref (al1 1 1), .ref (al1 3 0), .ref (al1 4 0), .int (iZ (g2 0 5 0)), .ref (al1 11 0), .long (lZ (g2 0 7 0)), .int (iZ (g2 0 8 0)), .int (iZ (g2 0 9 0)), .int (iZ (g2 0 10 0)), .int (iZ (g2 0 11 0)), .int (iZ (g2 0 12 0)), .int (iZ (g2 0 13 0))])) := ec_X hE2
          have fL0 : en2 1 0 = some (al1 1 0, .inr (1, [.int (iZ (g2 3 0 0)), .ref (al1 2 0), .int (iZ (g2 1 0 0))])) := ec_L0 hE2
          have fL1 : en2 1 1 = some (al1 1 1, .inr (1, [.int (iZ (g2 3 1 0)), .ref (al1 2 1), .int (iZ (g2 1 1 0))])) := ec_L1 hE2
          have fQ : en2 3 0 = some (al1 3 0, aR dA (4) (fun j => some (al1 9 j))) := ec_Q hE2
          have fC : en2 4 0 = some (al1 4 0, aI dA (8) (fun j => g2 2 j 0)) := ec_C hE2
          have fS : en2 5 mm = some (al1 5 mm, .inr (4, [.int (iZ (mm)), .ref (al1 6 mm), .int (iZ (g2 12 mm 0)), .int (iZ (g2 13 mm 0)), .int (iZ (g2 14 mm 0)), .int (iZ (g2 15 mm 0)), .int (iZ (g2 16 mm 0)), .int (iZ (g2 17 mm 0)), .long (lZ (g2 18 mm 0))])) := ec_S hE2 (by omega)
          have fO : en2 6 mm = some (al1 6 mm, aB dA (g2 11 mm 0) (g2 19 mm)) := ec_SO hE2 (by omega)
          refine W.widen (k := kC (sStart g mm) - kC g) (n := kS (sStart g mm) - kS g) (show 0 + (kC (sMkD g mm (1) (g 11 mm 0) (6)) - kC g) + 0 ≤ kC (sStart g mm) - kC g by omega) (show 0 + (kS (sMkD g mm (1) (g 11 mm 0) (6)) - kS g) + 0 ≤ kS (sStart g mm) - kS g by omega) ?_
          have hgz : g2 = sStart g mm := by subst hg2; subst hg1; rw [hst]; first | rw [if_pos hfull] | rw [if_neg hfull]
          rw [hgz] at hE2 hAS2
          exact W.vret hx hb hr (fun t ht hw => ⟨⟨(en2, al1), rfl, ⟨hE2, hFR2, hAS2⟩, by show Wd _ _ _ t.heap; rw [ht]; exact hW⟩, hS.F ht⟩) hS.2.2 dX3_startMessage_63
    · refine z_iconst hx hb dX3_startMessage_37 ?_
      refine lv_goto (tgt := 43) hx hb dX3_startMessage_38 (by decide) ?_
      refine lv_istore_n (lv' := [(3, .int (iZ (2))), (2, .int (iZ (g 11 mm 0))), (0, .ref (al 0 0)), (1, .ref (al 5 mm))]) hx hb dX3_startMessage_43 rfl hl (by decide) rfl (fun ls hl => ?_)
      refine lv_aload_n hx hb dX3_startMessage_44 rfl (lv_at hl 2 rfl) ?_
      refine lv_aload_n hx hb dX3_startMessage_45 rfl (lv_at hl 3 rfl) ?_
      refine z_iconst hx hb dX3_startMessage_46 ?_
      refine lv_iload_n hx hb dX3_startMessage_47 rfl (lv_at hl 1 rfl) ?_
      refine lv_iload_n hx hb dX3_startMessage_48 rfl (lv_at hl 0 rfl) ?_
      have hst : sStart g mm = if 6000 ≤ g 1 1 0 then sMkD g mm (1) (g 11 mm 0) (2) else sAwait (sMkD g mm (1) (g 11 mm 0) (2)) mm := by unfold sStart; rw [if_neg (by omega : ¬ g 11 mm 0 ≤ 7), if_neg (by omega : ¬ g 11 mm 0 ≤ 4095)]
      have hkc : kC (sStart g mm) = kC (sMkD g mm (1) (g 11 mm 0) (2)) := by rw [hst]; split <;> rfl
      have hks : kS (sStart g mm) = kS (sMkD g mm (1) (g 11 mm 0) (2)) := by rw [hst]; split <;> rfl
      refine va_calli (va_runV (As := [.ref (al 5 mm), .int (iZ (1)), .int (iZ (g 11 mm 0)), .int (iZ (2))]) (rest := []) ⟨hx, hb, hml, hown, hts⟩ (c_X3_mkD l D dA z en g al mm (1) (g 11 mm 0) (2) (by omega) (by omega) (by omega) (by omega) hE hI) (cwV 4 hts gX3_startMessage_X3_makeDataFrame rfl rfl rfl (by decide +kernel) ⟨Nat.le_of_ble_eq_true rfl, Nat.le_of_ble_eq_true rfl⟩) ⟨gBl, gRecv hK hW (ci := 5) rfl fX, gPre _ hg hS hW⟩ rfl rfl hl.1 rfl (lv_room (Nat.le_of_ble_eq_true rfl)) dX3_startMessage_49 ⟨(show 0 + (kC (sMkD g mm (1) (g 11 mm 0) (2)) - kC g) ≤ kC (sStart g mm) - kC g by omega), (show 0 + (kS (sMkD g mm (1) (g 11 mm 0) (2)) - kS g) ≤ kS (sStart g mm) - kS g by omega)⟩) hS (fun _ _ h => h) (fun _ h => h) (fun r9 u9 t9 H locs ht9 hvm9 hw9 hB9 hz9 hk9 hS => ?_)
      obtain ⟨en3, al3⟩ := u9
      obtain ⟨hr9, hE3, hFR3, hAS3⟩ := hw9
      have hW : Wd D (z 0) en3 H := by rw [← ht9]; exact hB9
      obtain ⟨g3, hg3⟩ : ∃ x : St, x = sMkD g mm (1) (g 11 mm 0) (2) := ⟨_, rfl⟩
      rw [← hg3] at hE3 hAS3
      dsimp only at hE3 hFR3 hAS3
      subst hr9
      have hl : lv_has ls 4 [(3, .int (iZ (2))), (2, .int (iZ (g 11 mm 0))), (0, .ref (al3 0 0)), (1, .ref (al3 5 mm))] := by rw [hAS3.2 0 0 (by omega), hAS3.2 5 mm (by omega)]; exact hl
      have hN3 := hAS3.1
      have fX : en3 0 0 = some (al3 0 0, .inr (5, [.int (iZ (g3 0 0 0)), .ref (al3 1 0), .ref (al3 1 1), .ref (al3 3 0), .ref (al3 4 0), .int (iZ (g3 0 5 0)), .ref (al3 11 0), .long (lZ (g3 0 7 0)), .int (iZ (g3 0 8 0)), .int (iZ (g3 0 9 0)), .int (iZ (g3 0 10 0)), .int (iZ (g3 0 11 0)), .int (iZ (g3 0 12 0)), .int (iZ (g3 0 13 0))])) := ec_X hE3
      have fL0 : en3 1 0 = some (al3 1 0, .inr (1, [.int (iZ (g3 3 0 0)), .ref (al3 2 0), .int (iZ (g3 1 0 0))])) := ec_L0 hE3
      have fL1 : en3 1 1 = some (al3 1 1, .inr (1, [.int (iZ (g3 3 1 0)), .ref (al3 2 1), .int (iZ (g3 1 1 0))])) := ec_L1 hE3
      have fQ : en3 3 0 = some (al3 3 0, aR dA (4) (fun j => some (al3 9 j))) := ec_Q hE3
      have fC : en3 4 0 = some (al3 4 0, aI dA (8) (fun j => g3 2 j 0)) := ec_C hE3
      have fS : en3 5 mm = some (al3 5 mm, .inr (4, [.int (iZ (mm)), .ref (al3 6 mm), .int (iZ (g3 12 mm 0)), .int (iZ (g3 13 mm 0)), .int (iZ (g3 14 mm 0)), .int (iZ (g3 15 mm 0)), .int (iZ (g3 16 mm 0)), .int (iZ (g3 17 mm 0)), .long (lZ (g3 18 mm 0))])) := ec_S hE3 (by omega)
      have fO : en3 6 mm = some (al3 6 mm, aB dA (g3 11 mm 0) (g3 19 mm)) := ec_SO hE3 (by omega)
      by_cases hfull : 6000 ≤ g 1 1 0
      · rw [if_pos hfull]
        refine z_if_eq (tgt := 63) hx hb dX3_startMessage_52 (by decide) (by omega) (fun c_52 => ?_) (fun c_52 => ?_)
        · refine W.widen (k := kC (sStart g mm) - kC g) (n := kS (sStart g mm) - kS g) (show 0 + (kC (sMkD g mm (1) (g 11 mm 0) (2)) - kC g) ≤ kC (sStart g mm) - kC g by omega) (show 0 + (kS (sMkD g mm (1) (g 11 mm 0) (2)) - kS g) ≤ kS (sStart g mm) - kS g by omega) ?_
          have hgz : g3 = sStart g mm := by subst hg3; rw [hst]; first | rw [if_pos hfull] | rw [if_neg hfull]
          rw [hgz] at hE3 hAS3
          exact W.vret hx hb hr (fun t ht hw => ⟨⟨(en3, al3), rfl, ⟨hE3, hFR3, hAS3⟩, by show Wd _ _ _ t.heap; rw [ht]; exact hW⟩, hS.F ht⟩) hS.2.2 dX3_startMessage_63
        · exact absurd c_52 (by omega)
      · rw [if_neg hfull]
        refine z_if_eq (tgt := 63) hx hb dX3_startMessage_52 (by decide) (by omega) (fun c_52 => ?_) (fun c_52 => ?_)
        · exact absurd c_52 (by omega)
        · refine lv_aload_n hx hb dX3_startMessage_55 rfl (lv_at hl 3 rfl) ?_
          refine lv_aload_n hx hb dX3_startMessage_56 rfl (lv_at hl 2 rfl) ?_
          refine g_get (C := RX3) (T := TX3) (N := 14) (ci := 5) (v := .long (lZ (g3 0 7 0))) hx hb hts hi5 hown hK hW fX rfl 7 (by decide) (hts (.fieldLink RX3 120 "LongTransfer" "now" "J") (by decide +kernel)) (fun _ h9 => h9) rfl dX3_startMessage_57 ?_
          refine va_callv (va_runV (As := [.long (lZ (g3 0 7 0))]) (rest := []) ⟨hx, hb, hml, hown, hts⟩ (c_X2_awaitFlow l D dA z en3 5 mm (al3 5 mm) (al3 6 mm) mm (g3 12 mm 0) (g3 13 mm 0) (g3 14 mm 0) (g3 15 mm 0) (g3 16 mm 0) (g3 17 mm 0) (g3 18 mm 0) (g3 0 7 0) fS) (cwV 1 hts gX3_startMessage_X2_awaitFlow rfl rfl rfl (by decide +kernel) ⟨Nat.le_of_ble_eq_true rfl, Nat.le_of_ble_eq_true rfl⟩) ⟨gBl, gRecv hK hW (ci := 4) rfl fS, gPre _ hg hS hW⟩ rfl rfl hl.1 rfl (lv_room (Nat.le_of_ble_eq_true rfl)) dX3_startMessage_60 ⟨(show 0 + (kC (sMkD g mm (1) (g 11 mm 0) (2)) - kC g) + 0 ≤ kC (sStart g mm) - kC g by omega), (show 0 + (kS (sMkD g mm (1) (g 11 mm 0) (2)) - kS g) + 0 ≤ kS (sStart g mm) - kS g by omega)⟩) hS (fun _ _ h => h) (fun _ h => h) (fun u9 t9 H locs ht9 hvm9 hw9 hB9 hz9 hk9 hS => ?_)
          have hW : Wd D (z 0) (e2 en3 5 mm (some (al3 5 mm, .inr (4, [.int (iZ (mm)), .ref (al3 6 mm), .int (iZ (1)), .int (iZ (g3 13 mm 0)), .int (iZ (g3 14 mm 0)), .int (iZ (g3 15 mm 0)), .int (iZ (g3 16 mm 0)), .int (iZ (g3 17 mm 0)), .long (lZ (g3 0 7 0 + 1000))])))) H := by rw [← ht9]; exact hB9
          have fX : (e2 en3 5 mm (some (al3 5 mm, .inr (4, [.int (iZ (mm)), .ref (al3 6 mm), .int (iZ (1)), .int (iZ (g3 13 mm 0)), .int (iZ (g3 14 mm 0)), .int (iZ (g3 15 mm 0)), .int (iZ (g3 16 mm 0)), .int (iZ (g3 17 mm 0)), .long (lZ (g3 0 7 0 + 1000))])))) 0 0 = some (al3 0 0, .inr (5, [.int (iZ (g3 0 0 0)), .ref (al3 1 0), .ref (al3 1 1), .ref (al3 3 0), .ref (al3 4 0), .int (iZ (g3 0 5 0)), .ref (al3 11 0), .long (lZ (g3 0 7 0)), .int (iZ (g3 0 8 0)), .int (iZ (g3 0 9 0)), .int (iZ (g3 0 10 0)), .int (iZ (g3 0 11 0)), .int (iZ (g3 0 12 0)), .int (iZ (g3 0 13 0))])) := (e2_k (by decide)).trans fX
          have fL0 : (e2 en3 5 mm (some (al3 5 mm, .inr (4, [.int (iZ (mm)), .ref (al3 6 mm), .int (iZ (1)), .int (iZ (g3 13 mm 0)), .int (iZ (g3 14 mm 0)), .int (iZ (g3 15 mm 0)), .int (iZ (g3 16 mm 0)), .int (iZ (g3 17 mm 0)), .long (lZ (g3 0 7 0 + 1000))])))) 1 0 = some (al3 1 0, .inr (1, [.int (iZ (g3 3 0 0)), .ref (al3 2 0), .int (iZ (g3 1 0 0))])) := (e2_k (by decide)).trans fL0
          have fL1 : (e2 en3 5 mm (some (al3 5 mm, .inr (4, [.int (iZ (mm)), .ref (al3 6 mm), .int (iZ (1)), .int (iZ (g3 13 mm 0)), .int (iZ (g3 14 mm 0)), .int (iZ (g3 15 mm 0)), .int (iZ (g3 16 mm 0)), .int (iZ (g3 17 mm 0)), .long (lZ (g3 0 7 0 + 1000))])))) 1 1 = some (al3 1 1, .inr (1, [.int (iZ (g3 3 1 0)), .ref (al3 2 1), .int (iZ (g3 1 1 0))])) := (e2_k (by decide)).trans fL1
          have fQ : (e2 en3 5 mm (some (al3 5 mm, .inr (4, [.int (iZ (mm)), .ref (al3 6 mm), .int (iZ (1)), .int (iZ (g3 13 mm 0)), .int (iZ (g3 14 mm 0)), .int (iZ (g3 15 mm 0)), .int (iZ (g3 16 mm 0)), .int (iZ (g3 17 mm 0)), .long (lZ (g3 0 7 0 + 1000))])))) 3 0 = some (al3 3 0, aR dA (4) (fun j => some (al3 9 j))) := (e2_k (by decide)).trans fQ
          have fC : (e2 en3 5 mm (some (al3 5 mm, .inr (4, [.int (iZ (mm)), .ref (al3 6 mm), .int (iZ (1)), .int (iZ (g3 13 mm 0)), .int (iZ (g3 14 mm 0)), .int (iZ (g3 15 mm 0)), .int (iZ (g3 16 mm 0)), .int (iZ (g3 17 mm 0)), .long (lZ (g3 0 7 0 + 1000))])))) 4 0 = some (al3 4 0, aI dA (8) (fun j => g3 2 j 0)) := (e2_k (by decide)).trans fC
          have fO : (e2 en3 5 mm (some (al3 5 mm, .inr (4, [.int (iZ (mm)), .ref (al3 6 mm), .int (iZ (1)), .int (iZ (g3 13 mm 0)), .int (iZ (g3 14 mm 0)), .int (iZ (g3 15 mm 0)), .int (iZ (g3 16 mm 0)), .int (iZ (g3 17 mm 0)), .long (lZ (g3 0 7 0 + 1000))])))) 6 mm = some (al3 6 mm, aB dA (g3 11 mm 0) (g3 19 mm)) := (e2_k (by decide)).trans fO
          have fS : (e2 en3 5 mm (some (al3 5 mm, .inr (4, [.int (iZ (mm)), .ref (al3 6 mm), .int (iZ (1)), .int (iZ (g3 13 mm 0)), .int (iZ (g3 14 mm 0)), .int (iZ (g3 15 mm 0)), .int (iZ (g3 16 mm 0)), .int (iZ (g3 17 mm 0)), .long (lZ (g3 0 7 0 + 1000))])))) 5 mm = some (al3 5 mm, .inr (4, [.int (iZ (mm)), .ref (al3 6 mm), .int (iZ (1)), .int (iZ (g3 13 mm 0)), .int (iZ (g3 14 mm 0)), .int (iZ (g3 15 mm 0)), .int (iZ (g3 16 mm 0)), .int (iZ (g3 17 mm 0)), .long (lZ (g3 0 7 0 + 1000))])) := e2_s _ _ _ _
          obtain ⟨en4, hen4⟩ : ∃ x : en_T, x = (e2 en3 5 mm (some (al3 5 mm, .inr (4, [.int (iZ (mm)), .ref (al3 6 mm), .int (iZ (1)), .int (iZ (g3 13 mm 0)), .int (iZ (g3 14 mm 0)), .int (iZ (g3 15 mm 0)), .int (iZ (g3 16 mm 0)), .int (iZ (g3 17 mm 0)), .long (lZ (g3 0 7 0 + 1000))])))) := ⟨_, rfl⟩
          rw [← hen4] at hW
          obtain ⟨g4, hg4⟩ : ∃ x : St, x = sAwait g3 mm := ⟨_, rfl⟩
          have hE4 : EC dA z g4 al3 en4 := ec_s hE3 (m := mm) (by omega) (fun t i j h => by rw [hg4]; simp only [sAwait]; repeat rw [wr_n (by omega)]) (fun _ _ _ => rfl) (fun k i h => by rw [hen4]; exact e2_n (by omega)) (by rw [hen4, hg4]; refine (e2_s _ _ _ _).trans ?_; simp [sAwait, wr])
          have hFR4 : FR en3 en4 := fun k i h1 h2 => by rw [hen4]; exact e2_n (by omega)
          have hAS4 : AS g3 g4 al3 al3 := AS_e (by rw [hg4]; rfl) (by rw [hg4]; rfl) (by rw [hg4]; rfl)
          have hFR4 := FR.tr hFR3 hFR4
          have hAS4 := AS.tr hAS3 hAS4
          have hN4 := hAS4.1
          have fX : en4 0 0 = some (al3 0 0, .inr (5, [.int (iZ (g4 0 0 0)), .ref (al3 1 0), .ref (al3 1 1), .ref (al3 3 0), .ref (al3 4 0), .int (iZ (g4 0 5 0)), .ref (al3 11 0), .long (lZ (g4 0 7 0)), .int (iZ (g4 0 8 0)), .int (iZ (g4 0 9 0)), .int (iZ (g4 0 10 0)), .int (iZ (g4 0 11 0)), .int (iZ (g4 0 12 0)), .int (iZ (g4 0 13 0))])) := ec_X hE4
          have fL0 : en4 1 0 = some (al3 1 0, .inr (1, [.int (iZ (g4 3 0 0)), .ref (al3 2 0), .int (iZ (g4 1 0 0))])) := ec_L0 hE4
          have fL1 : en4 1 1 = some (al3 1 1, .inr (1, [.int (iZ (g4 3 1 0)), .ref (al3 2 1), .int (iZ (g4 1 1 0))])) := ec_L1 hE4
          have fQ : en4 3 0 = some (al3 3 0, aR dA (4) (fun j => some (al3 9 j))) := ec_Q hE4
          have fC : en4 4 0 = some (al3 4 0, aI dA (8) (fun j => g4 2 j 0)) := ec_C hE4
          have fS : en4 5 mm = some (al3 5 mm, .inr (4, [.int (iZ (mm)), .ref (al3 6 mm), .int (iZ (g4 12 mm 0)), .int (iZ (g4 13 mm 0)), .int (iZ (g4 14 mm 0)), .int (iZ (g4 15 mm 0)), .int (iZ (g4 16 mm 0)), .int (iZ (g4 17 mm 0)), .long (lZ (g4 18 mm 0))])) := ec_S hE4 (by omega)
          have fO : en4 6 mm = some (al3 6 mm, aB dA (g4 11 mm 0) (g4 19 mm)) := ec_SO hE4 (by omega)
          refine W.widen (k := kC (sStart g mm) - kC g) (n := kS (sStart g mm) - kS g) (show 0 + (kC (sMkD g mm (1) (g 11 mm 0) (2)) - kC g) + 0 ≤ kC (sStart g mm) - kC g by omega) (show 0 + (kS (sMkD g mm (1) (g 11 mm 0) (2)) - kS g) + 0 ≤ kS (sStart g mm) - kS g by omega) ?_
          have hgz : g4 = sStart g mm := by subst hg4; subst hg3; rw [hst]; first | rw [if_pos hfull] | rw [if_neg hfull]
          rw [hgz] at hE4 hAS4
          exact W.vret hx hb hr (fun t ht hw => ⟨⟨(en4, al3), rfl, ⟨hE4, hFR4, hAS4⟩, by show Wd _ _ _ t.heap; rw [ht]; exact hW⟩, hS.F ht⟩) hS.2.2 dX3_startMessage_63
  · refine lv_aload_n hx hb dX3_startMessage_12 rfl (lv_at hl 1 rfl) ?_
    refine lv_aload_n hx hb dX3_startMessage_13 rfl (lv_at hl 2 rfl) ?_
    refine z_iconst hx hb dX3_startMessage_14 ?_
    refine z_iconst hx hb dX3_startMessage_15 ?_
    refine z_bipush hx hb dX3_startMessage_16 (by decide) ?_
    have hst : sStart g mm = if 6000 ≤ g 1 1 0 then sMkD g mm (0) (0) (7) else sRest (sMkD g mm (0) (0) (7)) mm 3 := by unfold sStart; rw [if_pos (by omega : g 11 mm 0 ≤ 7)]
    have hkc : kC (sStart g mm) = kC (sMkD g mm (0) (0) (7)) := by rw [hst]; split <;> rfl
    have hks : kS (sStart g mm) = kS (sMkD g mm (0) (0) (7)) := by rw [hst]; split <;> rfl
    refine va_calli (va_runV (As := [.ref (al 5 mm), .int (iZ (0)), .int (iZ (0)), .int (iZ (7))]) (rest := []) ⟨hx, hb, hml, hown, hts⟩ (c_X3_mkD l D dA z en g al mm (0) (0) (7) (by omega) (by omega) (by omega) (by omega) hE hI) (cwV 4 hts gX3_startMessage_X3_makeDataFrame rfl rfl rfl (by decide +kernel) ⟨Nat.le_of_ble_eq_true rfl, Nat.le_of_ble_eq_true rfl⟩) ⟨gBl, gRecv hK hW (ci := 5) rfl fX, gPre _ hg hS hW⟩ rfl rfl hl.1 rfl (lv_room (Nat.le_of_ble_eq_true rfl)) dX3_startMessage_18 ⟨(show 0 + (kC (sMkD g mm (0) (0) (7)) - kC g) ≤ kC (sStart g mm) - kC g by omega), (show 0 + (kS (sMkD g mm (0) (0) (7)) - kS g) ≤ kS (sStart g mm) - kS g by omega)⟩) hS (fun _ _ h => h) (fun _ h => h) (fun r9 u9 t9 H locs ht9 hvm9 hw9 hB9 hz9 hk9 hS => ?_)
    obtain ⟨en5, al5⟩ := u9
    obtain ⟨hr9, hE5, hFR5, hAS5⟩ := hw9
    have hW : Wd D (z 0) en5 H := by rw [← ht9]; exact hB9
    obtain ⟨g5, hg5⟩ : ∃ x : St, x = sMkD g mm (0) (0) (7) := ⟨_, rfl⟩
    rw [← hg5] at hE5 hAS5
    dsimp only at hE5 hFR5 hAS5
    subst hr9
    have hl : lv_has ls 4 [(2, .int (iZ (g 11 mm 0))), (0, .ref (al5 0 0)), (1, .ref (al5 5 mm))] := by rw [hAS5.2 0 0 (by omega), hAS5.2 5 mm (by omega)]; exact hl
    have hN5 := hAS5.1
    have fX : en5 0 0 = some (al5 0 0, .inr (5, [.int (iZ (g5 0 0 0)), .ref (al5 1 0), .ref (al5 1 1), .ref (al5 3 0), .ref (al5 4 0), .int (iZ (g5 0 5 0)), .ref (al5 11 0), .long (lZ (g5 0 7 0)), .int (iZ (g5 0 8 0)), .int (iZ (g5 0 9 0)), .int (iZ (g5 0 10 0)), .int (iZ (g5 0 11 0)), .int (iZ (g5 0 12 0)), .int (iZ (g5 0 13 0))])) := ec_X hE5
    have fL0 : en5 1 0 = some (al5 1 0, .inr (1, [.int (iZ (g5 3 0 0)), .ref (al5 2 0), .int (iZ (g5 1 0 0))])) := ec_L0 hE5
    have fL1 : en5 1 1 = some (al5 1 1, .inr (1, [.int (iZ (g5 3 1 0)), .ref (al5 2 1), .int (iZ (g5 1 1 0))])) := ec_L1 hE5
    have fQ : en5 3 0 = some (al5 3 0, aR dA (4) (fun j => some (al5 9 j))) := ec_Q hE5
    have fC : en5 4 0 = some (al5 4 0, aI dA (8) (fun j => g5 2 j 0)) := ec_C hE5
    have fS : en5 5 mm = some (al5 5 mm, .inr (4, [.int (iZ (mm)), .ref (al5 6 mm), .int (iZ (g5 12 mm 0)), .int (iZ (g5 13 mm 0)), .int (iZ (g5 14 mm 0)), .int (iZ (g5 15 mm 0)), .int (iZ (g5 16 mm 0)), .int (iZ (g5 17 mm 0)), .long (lZ (g5 18 mm 0))])) := ec_S hE5 (by omega)
    have fO : en5 6 mm = some (al5 6 mm, aB dA (g5 11 mm 0) (g5 19 mm)) := ec_SO hE5 (by omega)
    by_cases hfull : 6000 ≤ g 1 1 0
    · rw [if_pos hfull]
      refine z_if_eq (tgt := 29) hx hb dX3_startMessage_21 (by decide) (by omega) (fun c_21 => ?_) (fun c_21 => ?_)
      · refine W.widen (k := kC (sStart g mm) - kC g) (n := kS (sStart g mm) - kS g) (show 0 + (kC (sMkD g mm (0) (0) (7)) - kC g) ≤ kC (sStart g mm) - kC g by omega) (show 0 + (kS (sMkD g mm (0) (0) (7)) - kS g) ≤ kS (sStart g mm) - kS g by omega) ?_
        have hgz : g5 = sStart g mm := by subst hg5; rw [hst]; first | rw [if_pos hfull] | rw [if_neg hfull]
        rw [hgz] at hE5 hAS5
        exact W.vret hx hb hr (fun t ht hw => ⟨⟨(en5, al5), rfl, ⟨hE5, hFR5, hAS5⟩, by show Wd _ _ _ t.heap; rw [ht]; exact hW⟩, hS.F ht⟩) hS.2.2 dX3_startMessage_29
      · exact absurd c_21 (by omega)
    · rw [if_neg hfull]
      refine z_if_eq (tgt := 29) hx hb dX3_startMessage_21 (by decide) (by omega) (fun c_21 => ?_) (fun c_21 => ?_)
      · exact absurd c_21 (by omega)
      · refine lv_aload_n hx hb dX3_startMessage_24 rfl (lv_at hl 2 rfl) ?_
        refine z_iconst hx hb dX3_startMessage_25 ?_
        refine va_callv (va_runV (As := [.int (iZ (3))]) (rest := []) ⟨hx, hb, hml, hown, hts⟩ (c_X2_rest l D dA z en5 5 mm (al5 5 mm) (al5 6 mm) mm (g5 12 mm 0) (g5 13 mm 0) (g5 14 mm 0) (g5 15 mm 0) (g5 16 mm 0) (g5 17 mm 0) (g5 18 mm 0) 3 fS) (cwV 1 hts gX3_startMessage_X2_rest rfl rfl rfl (by decide +kernel) ⟨Nat.le_of_ble_eq_true rfl, Nat.le_of_ble_eq_true rfl⟩) ⟨gBl, gRecv hK hW (ci := 4) rfl fS, gPre _ hg hS hW⟩ rfl rfl hl.1 rfl (lv_room (Nat.le_of_ble_eq_true rfl)) dX3_startMessage_26 ⟨(show 0 + (kC (sMkD g mm (0) (0) (7)) - kC g) + 0 ≤ kC (sStart g mm) - kC g by omega), (show 0 + (kS (sMkD g mm (0) (0) (7)) - kS g) + 0 ≤ kS (sStart g mm) - kS g by omega)⟩) hS (fun _ _ h => h) (fun _ h => h) (fun u9 t9 H locs ht9 hvm9 hw9 hB9 hz9 hk9 hS => ?_)
        have hW : Wd D (z 0) (e2 en5 5 mm (some (al5 5 mm, .inr (4, [.int (iZ (mm)), .ref (al5 6 mm), .int (iZ (3)), .int (iZ (g5 13 mm 0)), .int (iZ (g5 14 mm 0)), .int (iZ (g5 15 mm 0)), .int (iZ (g5 16 mm 0)), .int (iZ (g5 17 mm 0)), .long (lZ (9223372036854775807))])))) H := by rw [← ht9]; exact hB9
        have fX : (e2 en5 5 mm (some (al5 5 mm, .inr (4, [.int (iZ (mm)), .ref (al5 6 mm), .int (iZ (3)), .int (iZ (g5 13 mm 0)), .int (iZ (g5 14 mm 0)), .int (iZ (g5 15 mm 0)), .int (iZ (g5 16 mm 0)), .int (iZ (g5 17 mm 0)), .long (lZ (9223372036854775807))])))) 0 0 = some (al5 0 0, .inr (5, [.int (iZ (g5 0 0 0)), .ref (al5 1 0), .ref (al5 1 1), .ref (al5 3 0), .ref (al5 4 0), .int (iZ (g5 0 5 0)), .ref (al5 11 0), .long (lZ (g5 0 7 0)), .int (iZ (g5 0 8 0)), .int (iZ (g5 0 9 0)), .int (iZ (g5 0 10 0)), .int (iZ (g5 0 11 0)), .int (iZ (g5 0 12 0)), .int (iZ (g5 0 13 0))])) := (e2_k (by decide)).trans fX
        have fL0 : (e2 en5 5 mm (some (al5 5 mm, .inr (4, [.int (iZ (mm)), .ref (al5 6 mm), .int (iZ (3)), .int (iZ (g5 13 mm 0)), .int (iZ (g5 14 mm 0)), .int (iZ (g5 15 mm 0)), .int (iZ (g5 16 mm 0)), .int (iZ (g5 17 mm 0)), .long (lZ (9223372036854775807))])))) 1 0 = some (al5 1 0, .inr (1, [.int (iZ (g5 3 0 0)), .ref (al5 2 0), .int (iZ (g5 1 0 0))])) := (e2_k (by decide)).trans fL0
        have fL1 : (e2 en5 5 mm (some (al5 5 mm, .inr (4, [.int (iZ (mm)), .ref (al5 6 mm), .int (iZ (3)), .int (iZ (g5 13 mm 0)), .int (iZ (g5 14 mm 0)), .int (iZ (g5 15 mm 0)), .int (iZ (g5 16 mm 0)), .int (iZ (g5 17 mm 0)), .long (lZ (9223372036854775807))])))) 1 1 = some (al5 1 1, .inr (1, [.int (iZ (g5 3 1 0)), .ref (al5 2 1), .int (iZ (g5 1 1 0))])) := (e2_k (by decide)).trans fL1
        have fQ : (e2 en5 5 mm (some (al5 5 mm, .inr (4, [.int (iZ (mm)), .ref (al5 6 mm), .int (iZ (3)), .int (iZ (g5 13 mm 0)), .int (iZ (g5 14 mm 0)), .int (iZ (g5 15 mm 0)), .int (iZ (g5 16 mm 0)), .int (iZ (g5 17 mm 0)), .long (lZ (9223372036854775807))])))) 3 0 = some (al5 3 0, aR dA (4) (fun j => some (al5 9 j))) := (e2_k (by decide)).trans fQ
        have fC : (e2 en5 5 mm (some (al5 5 mm, .inr (4, [.int (iZ (mm)), .ref (al5 6 mm), .int (iZ (3)), .int (iZ (g5 13 mm 0)), .int (iZ (g5 14 mm 0)), .int (iZ (g5 15 mm 0)), .int (iZ (g5 16 mm 0)), .int (iZ (g5 17 mm 0)), .long (lZ (9223372036854775807))])))) 4 0 = some (al5 4 0, aI dA (8) (fun j => g5 2 j 0)) := (e2_k (by decide)).trans fC
        have fO : (e2 en5 5 mm (some (al5 5 mm, .inr (4, [.int (iZ (mm)), .ref (al5 6 mm), .int (iZ (3)), .int (iZ (g5 13 mm 0)), .int (iZ (g5 14 mm 0)), .int (iZ (g5 15 mm 0)), .int (iZ (g5 16 mm 0)), .int (iZ (g5 17 mm 0)), .long (lZ (9223372036854775807))])))) 6 mm = some (al5 6 mm, aB dA (g5 11 mm 0) (g5 19 mm)) := (e2_k (by decide)).trans fO
        have fS : (e2 en5 5 mm (some (al5 5 mm, .inr (4, [.int (iZ (mm)), .ref (al5 6 mm), .int (iZ (3)), .int (iZ (g5 13 mm 0)), .int (iZ (g5 14 mm 0)), .int (iZ (g5 15 mm 0)), .int (iZ (g5 16 mm 0)), .int (iZ (g5 17 mm 0)), .long (lZ (9223372036854775807))])))) 5 mm = some (al5 5 mm, .inr (4, [.int (iZ (mm)), .ref (al5 6 mm), .int (iZ (3)), .int (iZ (g5 13 mm 0)), .int (iZ (g5 14 mm 0)), .int (iZ (g5 15 mm 0)), .int (iZ (g5 16 mm 0)), .int (iZ (g5 17 mm 0)), .long (lZ (9223372036854775807))])) := e2_s _ _ _ _
        obtain ⟨en6, hen6⟩ : ∃ x : en_T, x = (e2 en5 5 mm (some (al5 5 mm, .inr (4, [.int (iZ (mm)), .ref (al5 6 mm), .int (iZ (3)), .int (iZ (g5 13 mm 0)), .int (iZ (g5 14 mm 0)), .int (iZ (g5 15 mm 0)), .int (iZ (g5 16 mm 0)), .int (iZ (g5 17 mm 0)), .long (lZ (9223372036854775807))])))) := ⟨_, rfl⟩
        rw [← hen6] at hW
        obtain ⟨g6, hg6⟩ : ∃ x : St, x = sRest g5 mm 3 := ⟨_, rfl⟩
        have hE6 : EC dA z g6 al5 en6 := ec_s hE5 (m := mm) (by omega) (fun t i j h => by rw [hg6]; simp only [sRest]; repeat rw [wr_n (by omega)]) (fun _ _ _ => rfl) (fun k i h => by rw [hen6]; exact e2_n (by omega)) (by rw [hen6, hg6]; refine (e2_s _ _ _ _).trans ?_; simp [sRest, wr])
        have hFR6 : FR en5 en6 := fun k i h1 h2 => by rw [hen6]; exact e2_n (by omega)
        have hAS6 : AS g5 g6 al5 al5 := AS_e (by rw [hg6]; rfl) (by rw [hg6]; rfl) (by rw [hg6]; rfl)
        have hFR6 := FR.tr hFR5 hFR6
        have hAS6 := AS.tr hAS5 hAS6
        have hN6 := hAS6.1
        have fX : en6 0 0 = some (al5 0 0, .inr (5, [.int (iZ (g6 0 0 0)), .ref (al5 1 0), .ref (al5 1 1), .ref (al5 3 0), .ref (al5 4 0), .int (iZ (g6 0 5 0)), .ref (al5 11 0), .long (lZ (g6 0 7 0)), .int (iZ (g6 0 8 0)), .int (iZ (g6 0 9 0)), .int (iZ (g6 0 10 0)), .int (iZ (g6 0 11 0)), .int (iZ (g6 0 12 0)), .int (iZ (g6 0 13 0))])) := ec_X hE6
        have fL0 : en6 1 0 = some (al5 1 0, .inr (1, [.int (iZ (g6 3 0 0)), .ref (al5 2 0), .int (iZ (g6 1 0 0))])) := ec_L0 hE6
        have fL1 : en6 1 1 = some (al5 1 1, .inr (1, [.int (iZ (g6 3 1 0)), .ref (al5 2 1), .int (iZ (g6 1 1 0))])) := ec_L1 hE6
        have fQ : en6 3 0 = some (al5 3 0, aR dA (4) (fun j => some (al5 9 j))) := ec_Q hE6
        have fC : en6 4 0 = some (al5 4 0, aI dA (8) (fun j => g6 2 j 0)) := ec_C hE6
        have fS : en6 5 mm = some (al5 5 mm, .inr (4, [.int (iZ (mm)), .ref (al5 6 mm), .int (iZ (g6 12 mm 0)), .int (iZ (g6 13 mm 0)), .int (iZ (g6 14 mm 0)), .int (iZ (g6 15 mm 0)), .int (iZ (g6 16 mm 0)), .int (iZ (g6 17 mm 0)), .long (lZ (g6 18 mm 0))])) := ec_S hE6 (by omega)
        have fO : en6 6 mm = some (al5 6 mm, aB dA (g6 11 mm 0) (g6 19 mm)) := ec_SO hE6 (by omega)
        refine W.widen (k := kC (sStart g mm) - kC g) (n := kS (sStart g mm) - kS g) (show 0 + (kC (sMkD g mm (0) (0) (7)) - kC g) + 0 ≤ kC (sStart g mm) - kC g by omega) (show 0 + (kS (sMkD g mm (0) (0) (7)) - kS g) + 0 ≤ kS (sStart g mm) - kS g by omega) ?_
        have hgz : g6 = sStart g mm := by subst hg6; subst hg5; rw [hst]; first | rw [if_pos hfull] | rw [if_neg hfull]
        rw [hgz] at hE6 hAS6
        exact W.vret hx hb hr (fun t ht hw => ⟨⟨(en6, al5), rfl, ⟨hE6, hFR6, hAS6⟩, by show Wd _ _ _ t.heap; rw [ht]; exact hW⟩, hS.F ht⟩) hS.2.2 dX3_startMessage_29
set_option maxHeartbeats 4000000 in
set_option maxRecDepth 100000 in
theorem c_X3_sendNext (l : Launch) (D : va_G) (dA : Nat → ClassId) (z : Nat → Nat) (en : en_T) (g : St) (al : Al) (mm : Int) (h0 : 1 ≤ mm) (h1 : mm ≤ g 1 0 0) (hfr : g 13 mm 0 < g 11 mm 0) (hE : EC dA z g al en) (hI : IB g) : Met l yX3_sendNext wsX3_sendNext ({ frames := 8, cells := kC (sNext g mm) - kC g, slots := kS (sNext g mm) - kS g, locals := 197 }) (gP D dA z en [.ref (al 0 0), .ref (al 5 mm)]) (va_Qv (fun u : en_T × Al => CP dA z (sNext g mm) g al en u) (fun u t9 => Wd D (z 0) u.1 t9.heap) (fun q => z 0 ≤ q)) (kC (sNext g mm) - kC g) (kS (sNext g mm) - kS g) (fun q => z 0 ≤ q) := by
  refine gMet (own := RX3) (cc := cX3_sendNext) (maxL := 2) (ret := none) (by decide) rfl rfl (Nat.le_of_ble_eq_true rfl) ?_
  intro p e s m below meth c hx hb hml hown hts hr hlocks hnm hg hW ls hl
  have hK := hg.1
  have hS : va_S (fun q => z 0 ≤ q) s.heap s.heap [] := va_S.rf
  have hi4 : ∀ w ∈ u_ws RX2 TX2 9, w ∈ wsX3_sendNext := by decide +kernel
  have hi5 : ∀ w ∈ u_ws RX3 TX3 14, w ∈ wsX3_sendNext := by decide +kernel
  have hl : lv_has ls 2 [(0, .ref (al 0 0)), (1, .ref (al 5 mm))] := hl
  obtain ⟨hIX, hIL, hIS, hIF, hIR, hIG⟩ := id hI
  unfold IL at hIL
  unfold IX at hIX
  have hISm := hIS mm (by omega) (by omega)
  unfold IS at hISm
  have hkc : kC (sNext g mm) = kC (sMkD g mm 2 (g 14 mm 0) 7) := by unfold sNext sNext2; split <;> first | rfl | (split <;> first | rfl | (split <;> rfl))
  have hks : kS (sNext g mm) = kS (sMkD g mm 2 (g 14 mm 0) 7) := by unfold sNext sNext2; split <;> first | rfl | (split <;> first | rfl | (split <;> rfl))
  have fX : en 0 0 = some (al 0 0, .inr (5, [.int (iZ (g 0 0 0)), .ref (al 1 0), .ref (al 1 1), .ref (al 3 0), .ref (al 4 0), .int (iZ (g 0 5 0)), .ref (al 11 0), .long (lZ (g 0 7 0)), .int (iZ (g 0 8 0)), .int (iZ (g 0 9 0)), .int (iZ (g 0 10 0)), .int (iZ (g 0 11 0)), .int (iZ (g 0 12 0)), .int (iZ (g 0 13 0))])) := ec_X hE
  have fL0 : en 1 0 = some (al 1 0, .inr (1, [.int (iZ (g 3 0 0)), .ref (al 2 0), .int (iZ (g 1 0 0))])) := ec_L0 hE
  have fL1 : en 1 1 = some (al 1 1, .inr (1, [.int (iZ (g 3 1 0)), .ref (al 2 1), .int (iZ (g 1 1 0))])) := ec_L1 hE
  have fQ : en 3 0 = some (al 3 0, aR dA (4) (fun j => some (al 9 j))) := ec_Q hE
  have fC : en 4 0 = some (al 4 0, aI dA (8) (fun j => g 2 j 0)) := ec_C hE
  have fS : en 5 mm = some (al 5 mm, .inr (4, [.int (iZ (mm)), .ref (al 6 mm), .int (iZ (g 12 mm 0)), .int (iZ (g 13 mm 0)), .int (iZ (g 14 mm 0)), .int (iZ (g 15 mm 0)), .int (iZ (g 16 mm 0)), .int (iZ (g 17 mm 0)), .long (lZ (g 18 mm 0))])) := ec_S hE (by omega)
  have fO : en 6 mm = some (al 6 mm, aB dA (g 11 mm 0) (g 19 mm)) := ec_SO hE (by omega)
  refine lv_aload_n hx hb dX3_sendNext_0 rfl (lv_at hl 0 rfl) ?_
  refine lv_aload_n hx hb dX3_sendNext_1 rfl (lv_at hl 1 rfl) ?_
  refine z_iconst hx hb dX3_sendNext_2 ?_
  refine lv_aload_n hx hb dX3_sendNext_3 rfl (lv_at hl 1 rfl) ?_
  refine g_get (C := RX2) (T := TX2) (N := 9) (ci := 4) (v := .int (iZ (g 14 mm 0))) hx hb hts hi4 hown hK hW fS rfl 4 (by decide) (hts (.fieldLink RX3 229 "LongTransfer$Sender" "sequence" "I") (by decide +kernel)) (fun _ h9 => h9) rfl dX3_sendNext_4 ?_
  refine z_bipush hx hb dX3_sendNext_7 (by decide) ?_
  refine va_calli (va_runV (As := [.ref (al 5 mm), .int (iZ (2)), .int (iZ (g 14 mm 0)), .int (iZ (7))]) (rest := []) ⟨hx, hb, hml, hown, hts⟩ (c_X3_mkD l D dA z en g al mm (2) (g 14 mm 0) (7) (by omega) (by omega) (by omega) (by omega) hE hI) (cwV 4 hts gX3_sendNext_X3_makeDataFrame rfl rfl rfl (by decide +kernel) ⟨Nat.le_of_ble_eq_true rfl, Nat.le_of_ble_eq_true rfl⟩) ⟨gBl, gRecv hK hW (ci := 5) rfl fX, gPre _ hg hS hW⟩ rfl rfl hl.1 rfl (lv_room (Nat.le_of_ble_eq_true rfl)) dX3_sendNext_9 ⟨(show 0 + (kC (sMkD g mm (2) (g 14 mm 0) (7)) - kC g) ≤ kC (sNext g mm) - kC g by omega), (show 0 + (kS (sMkD g mm (2) (g 14 mm 0) (7)) - kS g) ≤ kS (sNext g mm) - kS g by omega)⟩) hS (fun _ _ h => h) (fun _ h => h) (fun r9 u9 t9 H locs ht9 hvm9 hw9 hB9 hz9 hk9 hS => ?_)
  obtain ⟨en1, al1⟩ := u9
  obtain ⟨hr9, hE1, hFR1, hAS1⟩ := hw9
  have hW : Wd D (z 0) en1 H := by rw [← ht9]; exact hB9
  obtain ⟨g1, hg1⟩ : ∃ x : St, x = sMkD g mm (2) (g 14 mm 0) (7) := ⟨_, rfl⟩
  rw [← hg1] at hE1 hAS1
  dsimp only at hE1 hFR1 hAS1
  subst hr9
  have hl : lv_has ls 2 [(0, .ref (al1 0 0)), (1, .ref (al1 5 mm))] := by rw [hAS1.2 0 0 (by omega), hAS1.2 5 mm (by omega)]; exact hl
  have hN1 := hAS1.1
  have fX : en1 0 0 = some (al1 0 0, .inr (5, [.int (iZ (g1 0 0 0)), .ref (al1 1 0), .ref (al1 1 1), .ref (al1 3 0), .ref (al1 4 0), .int (iZ (g1 0 5 0)), .ref (al1 11 0), .long (lZ (g1 0 7 0)), .int (iZ (g1 0 8 0)), .int (iZ (g1 0 9 0)), .int (iZ (g1 0 10 0)), .int (iZ (g1 0 11 0)), .int (iZ (g1 0 12 0)), .int (iZ (g1 0 13 0))])) := ec_X hE1
  have fL0 : en1 1 0 = some (al1 1 0, .inr (1, [.int (iZ (g1 3 0 0)), .ref (al1 2 0), .int (iZ (g1 1 0 0))])) := ec_L0 hE1
  have fL1 : en1 1 1 = some (al1 1 1, .inr (1, [.int (iZ (g1 3 1 0)), .ref (al1 2 1), .int (iZ (g1 1 1 0))])) := ec_L1 hE1
  have fQ : en1 3 0 = some (al1 3 0, aR dA (4) (fun j => some (al1 9 j))) := ec_Q hE1
  have fC : en1 4 0 = some (al1 4 0, aI dA (8) (fun j => g1 2 j 0)) := ec_C hE1
  have fS : en1 5 mm = some (al1 5 mm, .inr (4, [.int (iZ (mm)), .ref (al1 6 mm), .int (iZ (g1 12 mm 0)), .int (iZ (g1 13 mm 0)), .int (iZ (g1 14 mm 0)), .int (iZ (g1 15 mm 0)), .int (iZ (g1 16 mm 0)), .int (iZ (g1 17 mm 0)), .long (lZ (g1 18 mm 0))])) := ec_S hE1 (by omega)
  have fO : en1 6 mm = some (al1 6 mm, aB dA (g1 11 mm 0) (g1 19 mm)) := ec_SO hE1 (by omega)
  by_cases hfull : 6000 ≤ g 1 1 0
  · rw [if_pos hfull]
    refine z_if_ne (tgt := 16) hx hb dX3_sendNext_12 (by decide) (by omega) (fun c_12 => ?_) (fun c_12 => ?_)
    · exact absurd c_12 (by omega)
    · refine W.widen (k := kC (sNext g mm) - kC g) (n := kS (sNext g mm) - kS g) (show 0 + (kC (sMkD g mm (2) (g 14 mm 0) (7)) - kC g) ≤ kC (sNext g mm) - kC g by omega) (show 0 + (kS (sMkD g mm (2) (g 14 mm 0) (7)) - kS g) ≤ kS (sNext g mm) - kS g by omega) ?_
      have hgz : g1 = sNext g mm := by subst hg1; unfold sNext; rw [if_pos hfull]
      rw [hgz] at hE1 hAS1
      exact W.vret hx hb hr (fun t ht hw => ⟨⟨(en1, al1), rfl, ⟨hE1, hFR1, hAS1⟩, by show Wd _ _ _ t.heap; rw [ht]; exact hW⟩, hS.F ht⟩) hS.2.2 dX3_sendNext_15
  · rw [if_neg hfull]
    have hI1 : IB g1 := by rw [hg1]; exact ib_md hI (by omega) (by omega) (by omega) (by omega) (by omega) hfr
    have hS1 := hI1.2.2.1 mm (by omega) (by omega)
    unfold IS at hS1
    have hX1 := hI1.1
    unfold IX at hX1
    refine z_if_ne (tgt := 16) hx hb dX3_sendNext_12 (by decide) (by omega) (fun c_12 => ?_) (fun c_12 => ?_)
    · refine lv_aload_n hx hb dX3_sendNext_16 rfl (lv_at hl 1 rfl) ?_
      refine lv_aload_n hx hb dX3_sendNext_17 rfl (lv_at hl 1 rfl) ?_
      refine g_get (C := RX2) (T := TX2) (N := 9) (ci := 4) (v := .int (iZ (g1 14 mm 0))) hx hb hts hi4 hown hK hW fS rfl 4 (by decide) (hts (.fieldLink RX3 229 "LongTransfer$Sender" "sequence" "I") (by decide +kernel)) (fun _ h9 => h9) rfl dX3_sendNext_18 ?_
      refine z_iconst hx hb dX3_sendNext_21 ?_
      refine z_iadd hx hb dX3_sendNext_22 ?_
      refine z_bipush hx hb dX3_sendNext_23 (by decide) ?_
      refine z_irem hx hb (by omega) (by omega) (by omega) (by omega) dX3_sendNext_25 ?_
      refine g_put (C := RX2) (T := TX2) (N := 9) (ci := 4) (ty := .int) (v := .int (iZ (((g1 14 mm 0) + 1) % 16))) (fs' := [.int (iZ (mm)), .ref (al1 6 mm), .int (iZ (g1 12 mm 0)), .int (iZ (g1 13 mm 0)), .int (iZ (((g1 14 mm 0) + 1) % 16)), .int (iZ (g1 15 mm 0)), .int (iZ (g1 16 mm 0)), .int (iZ (g1 17 mm 0)), .long (lZ (g1 18 mm 0))]) hx hb hts hi4 tyX2 tyX2_ok nmX2 hown hK hW hS fS rfl 4 (by decide) (hts (.fieldLink RX3 229 "LongTransfer$Sender" "sequence" "I") (by decide +kernel)) (fun _ h9 => h9) rfl (by decide +kernel) rfl rfl (Nat.le_of_ble_eq_true rfl) dX3_sendNext_26 rfl (fun H locs hW hS => ?_)
      have fX : (e2 en1 5 mm (some (al1 5 mm, .inr (4, [.int (iZ (mm)), .ref (al1 6 mm), .int (iZ (g1 12 mm 0)), .int (iZ (g1 13 mm 0)), .int (iZ (((g1 14 mm 0) + 1) % 16)), .int (iZ (g1 15 mm 0)), .int (iZ (g1 16 mm 0)), .int (iZ (g1 17 mm 0)), .long (lZ (g1 18 mm 0))])))) 0 0 = some (al1 0 0, .inr (5, [.int (iZ (g1 0 0 0)), .ref (al1 1 0), .ref (al1 1 1), .ref (al1 3 0), .ref (al1 4 0), .int (iZ (g1 0 5 0)), .ref (al1 11 0), .long (lZ (g1 0 7 0)), .int (iZ (g1 0 8 0)), .int (iZ (g1 0 9 0)), .int (iZ (g1 0 10 0)), .int (iZ (g1 0 11 0)), .int (iZ (g1 0 12 0)), .int (iZ (g1 0 13 0))])) := (e2_k (by decide)).trans fX
      have fL0 : (e2 en1 5 mm (some (al1 5 mm, .inr (4, [.int (iZ (mm)), .ref (al1 6 mm), .int (iZ (g1 12 mm 0)), .int (iZ (g1 13 mm 0)), .int (iZ (((g1 14 mm 0) + 1) % 16)), .int (iZ (g1 15 mm 0)), .int (iZ (g1 16 mm 0)), .int (iZ (g1 17 mm 0)), .long (lZ (g1 18 mm 0))])))) 1 0 = some (al1 1 0, .inr (1, [.int (iZ (g1 3 0 0)), .ref (al1 2 0), .int (iZ (g1 1 0 0))])) := (e2_k (by decide)).trans fL0
      have fL1 : (e2 en1 5 mm (some (al1 5 mm, .inr (4, [.int (iZ (mm)), .ref (al1 6 mm), .int (iZ (g1 12 mm 0)), .int (iZ (g1 13 mm 0)), .int (iZ (((g1 14 mm 0) + 1) % 16)), .int (iZ (g1 15 mm 0)), .int (iZ (g1 16 mm 0)), .int (iZ (g1 17 mm 0)), .long (lZ (g1 18 mm 0))])))) 1 1 = some (al1 1 1, .inr (1, [.int (iZ (g1 3 1 0)), .ref (al1 2 1), .int (iZ (g1 1 1 0))])) := (e2_k (by decide)).trans fL1
      have fQ : (e2 en1 5 mm (some (al1 5 mm, .inr (4, [.int (iZ (mm)), .ref (al1 6 mm), .int (iZ (g1 12 mm 0)), .int (iZ (g1 13 mm 0)), .int (iZ (((g1 14 mm 0) + 1) % 16)), .int (iZ (g1 15 mm 0)), .int (iZ (g1 16 mm 0)), .int (iZ (g1 17 mm 0)), .long (lZ (g1 18 mm 0))])))) 3 0 = some (al1 3 0, aR dA (4) (fun j => some (al1 9 j))) := (e2_k (by decide)).trans fQ
      have fC : (e2 en1 5 mm (some (al1 5 mm, .inr (4, [.int (iZ (mm)), .ref (al1 6 mm), .int (iZ (g1 12 mm 0)), .int (iZ (g1 13 mm 0)), .int (iZ (((g1 14 mm 0) + 1) % 16)), .int (iZ (g1 15 mm 0)), .int (iZ (g1 16 mm 0)), .int (iZ (g1 17 mm 0)), .long (lZ (g1 18 mm 0))])))) 4 0 = some (al1 4 0, aI dA (8) (fun j => g1 2 j 0)) := (e2_k (by decide)).trans fC
      have fO : (e2 en1 5 mm (some (al1 5 mm, .inr (4, [.int (iZ (mm)), .ref (al1 6 mm), .int (iZ (g1 12 mm 0)), .int (iZ (g1 13 mm 0)), .int (iZ (((g1 14 mm 0) + 1) % 16)), .int (iZ (g1 15 mm 0)), .int (iZ (g1 16 mm 0)), .int (iZ (g1 17 mm 0)), .long (lZ (g1 18 mm 0))])))) 6 mm = some (al1 6 mm, aB dA (g1 11 mm 0) (g1 19 mm)) := (e2_k (by decide)).trans fO
      have fS : (e2 en1 5 mm (some (al1 5 mm, .inr (4, [.int (iZ (mm)), .ref (al1 6 mm), .int (iZ (g1 12 mm 0)), .int (iZ (g1 13 mm 0)), .int (iZ (((g1 14 mm 0) + 1) % 16)), .int (iZ (g1 15 mm 0)), .int (iZ (g1 16 mm 0)), .int (iZ (g1 17 mm 0)), .long (lZ (g1 18 mm 0))])))) 5 mm = some (al1 5 mm, .inr (4, [.int (iZ (mm)), .ref (al1 6 mm), .int (iZ (g1 12 mm 0)), .int (iZ (g1 13 mm 0)), .int (iZ (((g1 14 mm 0) + 1) % 16)), .int (iZ (g1 15 mm 0)), .int (iZ (g1 16 mm 0)), .int (iZ (g1 17 mm 0)), .long (lZ (g1 18 mm 0))])) := e2_s _ _ _ _
      obtain ⟨en2, hen2⟩ : ∃ x : en_T, x = (e2 en1 5 mm (some (al1 5 mm, .inr (4, [.int (iZ (mm)), .ref (al1 6 mm), .int (iZ (g1 12 mm 0)), .int (iZ (g1 13 mm 0)), .int (iZ (((g1 14 mm 0) + 1) % 16)), .int (iZ (g1 15 mm 0)), .int (iZ (g1 16 mm 0)), .int (iZ (g1 17 mm 0)), .long (lZ (g1 18 mm 0))])))) := ⟨_, rfl⟩
      rw [← hen2] at hW
      obtain ⟨g2, hg2⟩ : ∃ x : St, x = sSeq g1 mm := ⟨_, rfl⟩
      have hE2 : EC dA z g2 al1 en2 := ec_s hE1 (m := mm) (by omega) (fun t i j h => by rw [hg2]; simp only [sSeq]; repeat rw [wr_n (by omega)]) (fun _ _ _ => rfl) (fun k i h => by rw [hen2]; exact e2_n (by omega)) (by rw [hen2, hg2]; refine (e2_s _ _ _ _).trans ?_; simp [sSeq, wr])
      have hFR2 : FR en1 en2 := fun k i h1 h2 => by rw [hen2]; exact e2_n (by omega)
      have hAS2 : AS g1 g2 al1 al1 := AS_e (by rw [hg2]; rfl) (by rw [hg2]; rfl) (by rw [hg2]; rfl)
      have hFR2 := FR.tr hFR1 hFR2
      have hAS2 := AS.tr hAS1 hAS2
      have hN2 := hAS2.1
      have fX : en2 0 0 = some (al1 0 0, .inr (5, [.int (iZ (g2 0 0 0)), .ref (al1 1 0), .ref (al1 1 1), .ref (al1 3 0), .ref (al1 4 0), .int (iZ (g2 0 5 0)), .ref (al1 11 0), .long (lZ (g2 0 7 0)), .int (iZ (g2 0 8 0)), .int (iZ (g2 0 9 0)), .int (iZ (g2 0 10 0)), .int (iZ (g2 0 11 0)), .int (iZ (g2 0 12 0)), .int (iZ (g2 0 13 0))])) := ec_X hE2
      have fL0 : en2 1 0 = some (al1 1 0, .inr (1, [.int (iZ (g2 3 0 0)), .ref (al1 2 0), .int (iZ (g2 1 0 0))])) := ec_L0 hE2
      have fL1 : en2 1 1 = some (al1 1 1, .inr (1, [.int (iZ (g2 3 1 0)), .ref (al1 2 1), .int (iZ (g2 1 1 0))])) := ec_L1 hE2
      have fQ : en2 3 0 = some (al1 3 0, aR dA (4) (fun j => some (al1 9 j))) := ec_Q hE2
      have fC : en2 4 0 = some (al1 4 0, aI dA (8) (fun j => g2 2 j 0)) := ec_C hE2
      have fS : en2 5 mm = some (al1 5 mm, .inr (4, [.int (iZ (mm)), .ref (al1 6 mm), .int (iZ (g2 12 mm 0)), .int (iZ (g2 13 mm 0)), .int (iZ (g2 14 mm 0)), .int (iZ (g2 15 mm 0)), .int (iZ (g2 16 mm 0)), .int (iZ (g2 17 mm 0)), .long (lZ (g2 18 mm 0))])) := ec_S hE2 (by omega)
      have fO : en2 6 mm = some (al1 6 mm, aB dA (g2 11 mm 0) (g2 19 mm)) := ec_SO hE2 (by omega)
      have hI2 : IB g2 := by rw [hg2]; exact ib_seq hI1 (by omega) (by omega)
      have hS2 := hI2.2.2.1 mm (by omega) (by omega)
      unfold IS at hS2
      have hX2 := hI2.1
      unfold IX at hX2
      refine lv_aload_n hx hb dX3_sendNext_29 rfl (lv_at hl 1 rfl) ?_
      refine va_calli (va_runV (As := []) (rest := []) ⟨hx, hb, hml, hown, hts⟩ (c_X2_isAllFramed l D dA z en2 5 mm (al1 5 mm) (al1 6 mm) mm (g2 12 mm 0) (g2 13 mm 0) (g2 14 mm 0) (g2 15 mm 0) (g2 16 mm 0) (g2 17 mm 0) (g2 18 mm 0) (g2 11 mm 0) (g2 19 mm) 6 mm (by omega) (by omega) (by omega) fS fO) (cwV 0 hts gX3_sendNext_X2_isAllFramed rfl rfl rfl (by decide +kernel) ⟨Nat.le_of_ble_eq_true rfl, Nat.le_of_ble_eq_true rfl⟩) ⟨gBl, gRecv hK hW (ci := 4) rfl fS, gPre _ hg hS hW⟩ rfl rfl hl.1 rfl (lv_room (Nat.le_of_ble_eq_true rfl)) dX3_sendNext_30 ⟨(show 0 + (kC (sMkD g mm (2) (g 14 mm 0) (7)) - kC g) + 0 ≤ kC (sNext g mm) - kC g by omega), (show 0 + (kS (sMkD g mm (2) (g 14 mm 0) (7)) - kS g) + 0 ≤ kS (sNext g mm) - kS g by omega)⟩) hS (fun _ _ h => h) (fun _ h => h) (fun r9 u9 t9 H locs ht9 hvm9 hw9 hB9 hz9 hk9 hS => ?_)
      have hW : Wd D (z 0) en2 H := by rw [← ht9]; exact hB9
      subst hw9
      by_cases hall : g2 11 mm 0 ≤ g2 13 mm 0
      · rw [if_pos hall]
        refine z_if_eq (tgt := 44) hx hb dX3_sendNext_33 (by decide) (by omega) (fun c_33 => ?_) (fun c_33 => ?_)
        · exact absurd c_33 (by omega)
        · refine lv_aload_n hx hb dX3_sendNext_36 rfl (lv_at hl 1 rfl) ?_
          refine z_iconst hx hb dX3_sendNext_37 ?_
          refine va_callv (va_runV (As := [.int (iZ (3))]) (rest := []) ⟨hx, hb, hml, hown, hts⟩ (c_X2_rest l D dA z en2 5 mm (al1 5 mm) (al1 6 mm) mm (g2 12 mm 0) (g2 13 mm 0) (g2 14 mm 0) (g2 15 mm 0) (g2 16 mm 0) (g2 17 mm 0) (g2 18 mm 0) 3 fS) (cwV 1 hts gX3_sendNext_X2_rest rfl rfl rfl (by decide +kernel) ⟨Nat.le_of_ble_eq_true rfl, Nat.le_of_ble_eq_true rfl⟩) ⟨gBl, gRecv hK hW (ci := 4) rfl fS, gPre _ hg hS hW⟩ rfl rfl hl.1 rfl (lv_room (Nat.le_of_ble_eq_true rfl)) dX3_sendNext_38 ⟨(show 0 + (kC (sMkD g mm (2) (g 14 mm 0) (7)) - kC g) + 0 + 0 ≤ kC (sNext g mm) - kC g by omega), (show 0 + (kS (sMkD g mm (2) (g 14 mm 0) (7)) - kS g) + 0 + 0 ≤ kS (sNext g mm) - kS g by omega)⟩) hS (fun _ _ h => h) (fun _ h => h) (fun u9 t9 H locs ht9 hvm9 hw9 hB9 hz9 hk9 hS => ?_)
          have hW : Wd D (z 0) (e2 en2 5 mm (some (al1 5 mm, .inr (4, [.int (iZ (mm)), .ref (al1 6 mm), .int (iZ (3)), .int (iZ (g2 13 mm 0)), .int (iZ (g2 14 mm 0)), .int (iZ (g2 15 mm 0)), .int (iZ (g2 16 mm 0)), .int (iZ (g2 17 mm 0)), .long (lZ (9223372036854775807))])))) H := by rw [← ht9]; exact hB9
          have fX : (e2 en2 5 mm (some (al1 5 mm, .inr (4, [.int (iZ (mm)), .ref (al1 6 mm), .int (iZ (3)), .int (iZ (g2 13 mm 0)), .int (iZ (g2 14 mm 0)), .int (iZ (g2 15 mm 0)), .int (iZ (g2 16 mm 0)), .int (iZ (g2 17 mm 0)), .long (lZ (9223372036854775807))])))) 0 0 = some (al1 0 0, .inr (5, [.int (iZ (g2 0 0 0)), .ref (al1 1 0), .ref (al1 1 1), .ref (al1 3 0), .ref (al1 4 0), .int (iZ (g2 0 5 0)), .ref (al1 11 0), .long (lZ (g2 0 7 0)), .int (iZ (g2 0 8 0)), .int (iZ (g2 0 9 0)), .int (iZ (g2 0 10 0)), .int (iZ (g2 0 11 0)), .int (iZ (g2 0 12 0)), .int (iZ (g2 0 13 0))])) := (e2_k (by decide)).trans fX
          have fL0 : (e2 en2 5 mm (some (al1 5 mm, .inr (4, [.int (iZ (mm)), .ref (al1 6 mm), .int (iZ (3)), .int (iZ (g2 13 mm 0)), .int (iZ (g2 14 mm 0)), .int (iZ (g2 15 mm 0)), .int (iZ (g2 16 mm 0)), .int (iZ (g2 17 mm 0)), .long (lZ (9223372036854775807))])))) 1 0 = some (al1 1 0, .inr (1, [.int (iZ (g2 3 0 0)), .ref (al1 2 0), .int (iZ (g2 1 0 0))])) := (e2_k (by decide)).trans fL0
          have fL1 : (e2 en2 5 mm (some (al1 5 mm, .inr (4, [.int (iZ (mm)), .ref (al1 6 mm), .int (iZ (3)), .int (iZ (g2 13 mm 0)), .int (iZ (g2 14 mm 0)), .int (iZ (g2 15 mm 0)), .int (iZ (g2 16 mm 0)), .int (iZ (g2 17 mm 0)), .long (lZ (9223372036854775807))])))) 1 1 = some (al1 1 1, .inr (1, [.int (iZ (g2 3 1 0)), .ref (al1 2 1), .int (iZ (g2 1 1 0))])) := (e2_k (by decide)).trans fL1
          have fQ : (e2 en2 5 mm (some (al1 5 mm, .inr (4, [.int (iZ (mm)), .ref (al1 6 mm), .int (iZ (3)), .int (iZ (g2 13 mm 0)), .int (iZ (g2 14 mm 0)), .int (iZ (g2 15 mm 0)), .int (iZ (g2 16 mm 0)), .int (iZ (g2 17 mm 0)), .long (lZ (9223372036854775807))])))) 3 0 = some (al1 3 0, aR dA (4) (fun j => some (al1 9 j))) := (e2_k (by decide)).trans fQ
          have fC : (e2 en2 5 mm (some (al1 5 mm, .inr (4, [.int (iZ (mm)), .ref (al1 6 mm), .int (iZ (3)), .int (iZ (g2 13 mm 0)), .int (iZ (g2 14 mm 0)), .int (iZ (g2 15 mm 0)), .int (iZ (g2 16 mm 0)), .int (iZ (g2 17 mm 0)), .long (lZ (9223372036854775807))])))) 4 0 = some (al1 4 0, aI dA (8) (fun j => g2 2 j 0)) := (e2_k (by decide)).trans fC
          have fO : (e2 en2 5 mm (some (al1 5 mm, .inr (4, [.int (iZ (mm)), .ref (al1 6 mm), .int (iZ (3)), .int (iZ (g2 13 mm 0)), .int (iZ (g2 14 mm 0)), .int (iZ (g2 15 mm 0)), .int (iZ (g2 16 mm 0)), .int (iZ (g2 17 mm 0)), .long (lZ (9223372036854775807))])))) 6 mm = some (al1 6 mm, aB dA (g2 11 mm 0) (g2 19 mm)) := (e2_k (by decide)).trans fO
          have fS : (e2 en2 5 mm (some (al1 5 mm, .inr (4, [.int (iZ (mm)), .ref (al1 6 mm), .int (iZ (3)), .int (iZ (g2 13 mm 0)), .int (iZ (g2 14 mm 0)), .int (iZ (g2 15 mm 0)), .int (iZ (g2 16 mm 0)), .int (iZ (g2 17 mm 0)), .long (lZ (9223372036854775807))])))) 5 mm = some (al1 5 mm, .inr (4, [.int (iZ (mm)), .ref (al1 6 mm), .int (iZ (3)), .int (iZ (g2 13 mm 0)), .int (iZ (g2 14 mm 0)), .int (iZ (g2 15 mm 0)), .int (iZ (g2 16 mm 0)), .int (iZ (g2 17 mm 0)), .long (lZ (9223372036854775807))])) := e2_s _ _ _ _
          obtain ⟨en3, hen3⟩ : ∃ x : en_T, x = (e2 en2 5 mm (some (al1 5 mm, .inr (4, [.int (iZ (mm)), .ref (al1 6 mm), .int (iZ (3)), .int (iZ (g2 13 mm 0)), .int (iZ (g2 14 mm 0)), .int (iZ (g2 15 mm 0)), .int (iZ (g2 16 mm 0)), .int (iZ (g2 17 mm 0)), .long (lZ (9223372036854775807))])))) := ⟨_, rfl⟩
          rw [← hen3] at hW
          obtain ⟨g3, hg3⟩ : ∃ x : St, x = sRest g2 mm 3 := ⟨_, rfl⟩
          have hE3 : EC dA z g3 al1 en3 := ec_s hE2 (m := mm) (by omega) (fun t i j h => by rw [hg3]; simp only [sRest]; repeat rw [wr_n (by omega)]) (fun _ _ _ => rfl) (fun k i h => by rw [hen3]; exact e2_n (by omega)) (by rw [hen3, hg3]; refine (e2_s _ _ _ _).trans ?_; simp [sRest, wr])
          have hFR3 : FR en2 en3 := fun k i h1 h2 => by rw [hen3]; exact e2_n (by omega)
          have hAS3 : AS g2 g3 al1 al1 := AS_e (by rw [hg3]; rfl) (by rw [hg3]; rfl) (by rw [hg3]; rfl)
          have hFR3 := FR.tr hFR2 hFR3
          have hAS3 := AS.tr hAS2 hAS3
          have hN3 := hAS3.1
          have fX : en3 0 0 = some (al1 0 0, .inr (5, [.int (iZ (g3 0 0 0)), .ref (al1 1 0), .ref (al1 1 1), .ref (al1 3 0), .ref (al1 4 0), .int (iZ (g3 0 5 0)), .ref (al1 11 0), .long (lZ (g3 0 7 0)), .int (iZ (g3 0 8 0)), .int (iZ (g3 0 9 0)), .int (iZ (g3 0 10 0)), .int (iZ (g3 0 11 0)), .int (iZ (g3 0 12 0)), .int (iZ (g3 0 13 0))])) := ec_X hE3
          have fL0 : en3 1 0 = some (al1 1 0, .inr (1, [.int (iZ (g3 3 0 0)), .ref (al1 2 0), .int (iZ (g3 1 0 0))])) := ec_L0 hE3
          have fL1 : en3 1 1 = some (al1 1 1, .inr (1, [.int (iZ (g3 3 1 0)), .ref (al1 2 1), .int (iZ (g3 1 1 0))])) := ec_L1 hE3
          have fQ : en3 3 0 = some (al1 3 0, aR dA (4) (fun j => some (al1 9 j))) := ec_Q hE3
          have fC : en3 4 0 = some (al1 4 0, aI dA (8) (fun j => g3 2 j 0)) := ec_C hE3
          have fS : en3 5 mm = some (al1 5 mm, .inr (4, [.int (iZ (mm)), .ref (al1 6 mm), .int (iZ (g3 12 mm 0)), .int (iZ (g3 13 mm 0)), .int (iZ (g3 14 mm 0)), .int (iZ (g3 15 mm 0)), .int (iZ (g3 16 mm 0)), .int (iZ (g3 17 mm 0)), .long (lZ (g3 18 mm 0))])) := ec_S hE3 (by omega)
          have fO : en3 6 mm = some (al1 6 mm, aB dA (g3 11 mm 0) (g3 19 mm)) := ec_SO hE3 (by omega)
          refine lv_goto (tgt := 91) hx hb dX3_sendNext_41 (by decide) ?_
          refine W.widen (k := kC (sNext g mm) - kC g) (n := kS (sNext g mm) - kS g) (show 0 + (kC (sMkD g mm (2) (g 14 mm 0) (7)) - kC g) + 0 + 0 ≤ kC (sNext g mm) - kC g by omega) (show 0 + (kS (sMkD g mm (2) (g 14 mm 0) (7)) - kS g) + 0 + 0 ≤ kS (sNext g mm) - kS g by omega) ?_
          have hgz : g3 = sNext g mm := by subst hg3; subst hg2; subst hg1; unfold sNext sNext2; rw [if_neg hfull]; first | rw [if_pos hall] | rw [if_neg hall, if_pos c_49] | rw [if_neg hall, if_neg c_49]
          rw [hgz] at hE3 hAS3
          exact W.vret hx hb hr (fun t ht hw => ⟨⟨(en3, al1), rfl, ⟨hE3, hFR3, hAS3⟩, by show Wd _ _ _ t.heap; rw [ht]; exact hW⟩, hS.F ht⟩) hS.2.2 dX3_sendNext_91
      · rw [if_neg hall]
        refine z_if_eq (tgt := 44) hx hb dX3_sendNext_33 (by decide) (by omega) (fun c_33 => ?_) (fun c_33 => ?_)
        · refine lv_aload_n hx hb dX3_sendNext_44 rfl (lv_at hl 1 rfl) ?_
          refine g_get (C := RX2) (T := TX2) (N := 9) (ci := 4) (v := .int (iZ (g2 16 mm 0))) hx hb hts hi4 hown hK hW fS rfl 6 (by decide) (hts (.fieldLink RX3 235 "LongTransfer$Sender" "blockLeft" "I") (by decide +kernel)) (fun _ h9 => h9) rfl dX3_sendNext_45 ?_
          refine z_iconst hx hb dX3_sendNext_48 ?_
          refine z_icmp_ne (tgt := 63) hx hb dX3_sendNext_49 (by decide) (by omega) (by omega) (fun c_49 => ?_) (fun c_49 => ?_)
          · refine lv_aload_n hx hb dX3_sendNext_63 rfl (lv_at hl 1 rfl) ?_
            refine z_iconst hx hb dX3_sendNext_64 ?_
            refine lv_aload_n hx hb dX3_sendNext_65 rfl (lv_at hl 1 rfl) ?_
            refine g_get (C := RX2) (T := TX2) (N := 9) (ci := 4) (v := .int (iZ (g2 16 mm 0))) hx hb hts hi4 hown hK hW fS rfl 6 (by decide) (hts (.fieldLink RX3 235 "LongTransfer$Sender" "blockLeft" "I") (by decide +kernel)) (fun _ h9 => h9) rfl dX3_sendNext_66 ?_
            refine z_iconst hx hb dX3_sendNext_69 ?_
            refine z_isub hx hb dX3_sendNext_70 ?_
            refine z_mmax hx hb (by rw [hml]; exact hl.1.symm) hown (hts (.methodLink RX3 238 Lib.Math.max.name) (by decide +kernel)) (hts (.static Lib.Math.max.name) (by decide +kernel)) (hts (.initialized "java/lang/Math") (by decide +kernel)) (hts _ (List.mem_of_getElem? (i := 7) rfl)) (Nat.le_of_ble_eq_true rfl) (Nat.le_of_ble_eq_true rfl) (show 0 + (kC (sMkD g mm (2) (g 14 mm 0) (7)) - kC g) + 0 ≤ kC (sNext g mm) - kC g by omega) (show 0 + (kS (sMkD g mm (2) (g 14 mm 0) (7)) - kS g) + 0 ≤ kS (sNext g mm) - kS g by omega) dX3_sendNext_71 (by omega) (by omega) ?_
            refine g_put (C := RX2) (T := TX2) (N := 9) (ci := 4) (ty := .int) (v := .int (iZ (max 0 ((g2 16 mm 0) - 1)))) (fs' := [.int (iZ (mm)), .ref (al1 6 mm), .int (iZ (g2 12 mm 0)), .int (iZ (g2 13 mm 0)), .int (iZ (g2 14 mm 0)), .int (iZ (g2 15 mm 0)), .int (iZ (max 0 ((g2 16 mm 0) - 1))), .int (iZ (g2 17 mm 0)), .long (lZ (g2 18 mm 0))]) hx hb hts hi4 tyX2 tyX2_ok nmX2 hown hK hW hS fS rfl 6 (by decide) (hts (.fieldLink RX3 235 "LongTransfer$Sender" "blockLeft" "I") (by decide +kernel)) (fun _ h9 => h9) rfl (by decide +kernel) rfl rfl (Nat.le_of_ble_eq_true rfl) dX3_sendNext_74 rfl (fun H locs hW hS => ?_)
            have fX : (e2 en2 5 mm (some (al1 5 mm, .inr (4, [.int (iZ (mm)), .ref (al1 6 mm), .int (iZ (g2 12 mm 0)), .int (iZ (g2 13 mm 0)), .int (iZ (g2 14 mm 0)), .int (iZ (g2 15 mm 0)), .int (iZ (max 0 ((g2 16 mm 0) - 1))), .int (iZ (g2 17 mm 0)), .long (lZ (g2 18 mm 0))])))) 0 0 = some (al1 0 0, .inr (5, [.int (iZ (g2 0 0 0)), .ref (al1 1 0), .ref (al1 1 1), .ref (al1 3 0), .ref (al1 4 0), .int (iZ (g2 0 5 0)), .ref (al1 11 0), .long (lZ (g2 0 7 0)), .int (iZ (g2 0 8 0)), .int (iZ (g2 0 9 0)), .int (iZ (g2 0 10 0)), .int (iZ (g2 0 11 0)), .int (iZ (g2 0 12 0)), .int (iZ (g2 0 13 0))])) := (e2_k (by decide)).trans fX
            have fL0 : (e2 en2 5 mm (some (al1 5 mm, .inr (4, [.int (iZ (mm)), .ref (al1 6 mm), .int (iZ (g2 12 mm 0)), .int (iZ (g2 13 mm 0)), .int (iZ (g2 14 mm 0)), .int (iZ (g2 15 mm 0)), .int (iZ (max 0 ((g2 16 mm 0) - 1))), .int (iZ (g2 17 mm 0)), .long (lZ (g2 18 mm 0))])))) 1 0 = some (al1 1 0, .inr (1, [.int (iZ (g2 3 0 0)), .ref (al1 2 0), .int (iZ (g2 1 0 0))])) := (e2_k (by decide)).trans fL0
            have fL1 : (e2 en2 5 mm (some (al1 5 mm, .inr (4, [.int (iZ (mm)), .ref (al1 6 mm), .int (iZ (g2 12 mm 0)), .int (iZ (g2 13 mm 0)), .int (iZ (g2 14 mm 0)), .int (iZ (g2 15 mm 0)), .int (iZ (max 0 ((g2 16 mm 0) - 1))), .int (iZ (g2 17 mm 0)), .long (lZ (g2 18 mm 0))])))) 1 1 = some (al1 1 1, .inr (1, [.int (iZ (g2 3 1 0)), .ref (al1 2 1), .int (iZ (g2 1 1 0))])) := (e2_k (by decide)).trans fL1
            have fQ : (e2 en2 5 mm (some (al1 5 mm, .inr (4, [.int (iZ (mm)), .ref (al1 6 mm), .int (iZ (g2 12 mm 0)), .int (iZ (g2 13 mm 0)), .int (iZ (g2 14 mm 0)), .int (iZ (g2 15 mm 0)), .int (iZ (max 0 ((g2 16 mm 0) - 1))), .int (iZ (g2 17 mm 0)), .long (lZ (g2 18 mm 0))])))) 3 0 = some (al1 3 0, aR dA (4) (fun j => some (al1 9 j))) := (e2_k (by decide)).trans fQ
            have fC : (e2 en2 5 mm (some (al1 5 mm, .inr (4, [.int (iZ (mm)), .ref (al1 6 mm), .int (iZ (g2 12 mm 0)), .int (iZ (g2 13 mm 0)), .int (iZ (g2 14 mm 0)), .int (iZ (g2 15 mm 0)), .int (iZ (max 0 ((g2 16 mm 0) - 1))), .int (iZ (g2 17 mm 0)), .long (lZ (g2 18 mm 0))])))) 4 0 = some (al1 4 0, aI dA (8) (fun j => g2 2 j 0)) := (e2_k (by decide)).trans fC
            have fO : (e2 en2 5 mm (some (al1 5 mm, .inr (4, [.int (iZ (mm)), .ref (al1 6 mm), .int (iZ (g2 12 mm 0)), .int (iZ (g2 13 mm 0)), .int (iZ (g2 14 mm 0)), .int (iZ (g2 15 mm 0)), .int (iZ (max 0 ((g2 16 mm 0) - 1))), .int (iZ (g2 17 mm 0)), .long (lZ (g2 18 mm 0))])))) 6 mm = some (al1 6 mm, aB dA (g2 11 mm 0) (g2 19 mm)) := (e2_k (by decide)).trans fO
            have fS : (e2 en2 5 mm (some (al1 5 mm, .inr (4, [.int (iZ (mm)), .ref (al1 6 mm), .int (iZ (g2 12 mm 0)), .int (iZ (g2 13 mm 0)), .int (iZ (g2 14 mm 0)), .int (iZ (g2 15 mm 0)), .int (iZ (max 0 ((g2 16 mm 0) - 1))), .int (iZ (g2 17 mm 0)), .long (lZ (g2 18 mm 0))])))) 5 mm = some (al1 5 mm, .inr (4, [.int (iZ (mm)), .ref (al1 6 mm), .int (iZ (g2 12 mm 0)), .int (iZ (g2 13 mm 0)), .int (iZ (g2 14 mm 0)), .int (iZ (g2 15 mm 0)), .int (iZ (max 0 ((g2 16 mm 0) - 1))), .int (iZ (g2 17 mm 0)), .long (lZ (g2 18 mm 0))])) := e2_s _ _ _ _
            obtain ⟨en4, hen4⟩ : ∃ x : en_T, x = (e2 en2 5 mm (some (al1 5 mm, .inr (4, [.int (iZ (mm)), .ref (al1 6 mm), .int (iZ (g2 12 mm 0)), .int (iZ (g2 13 mm 0)), .int (iZ (g2 14 mm 0)), .int (iZ (g2 15 mm 0)), .int (iZ (max 0 ((g2 16 mm 0) - 1))), .int (iZ (g2 17 mm 0)), .long (lZ (g2 18 mm 0))])))) := ⟨_, rfl⟩
            rw [← hen4] at hW
            obtain ⟨g4, hg4⟩ : ∃ x : St, x = wr g2 16 mm (max 0 (g2 16 mm 0 - 1)) := ⟨_, rfl⟩
            have hE4 : EC dA z g4 al1 en4 := ec_s hE2 (m := mm) (by omega) (fun t i j h => by rw [hg4]; repeat rw [wr_n (by omega)]) (fun _ _ _ => rfl) (fun k i h => by rw [hen4]; exact e2_n (by omega)) (by rw [hen4, hg4]; refine (e2_s _ _ _ _).trans ?_; simp [wr])
            have hFR4 : FR en2 en4 := fun k i h1 h2 => by rw [hen4]; exact e2_n (by omega)
            have hAS4 : AS g2 g4 al1 al1 := AS_e (by rw [hg4]; rfl) (by rw [hg4]; rfl) (by rw [hg4]; rfl)
            have hFR4 := FR.tr hFR2 hFR4
            have hAS4 := AS.tr hAS2 hAS4
            have hN4 := hAS4.1
            have fX : en4 0 0 = some (al1 0 0, .inr (5, [.int (iZ (g4 0 0 0)), .ref (al1 1 0), .ref (al1 1 1), .ref (al1 3 0), .ref (al1 4 0), .int (iZ (g4 0 5 0)), .ref (al1 11 0), .long (lZ (g4 0 7 0)), .int (iZ (g4 0 8 0)), .int (iZ (g4 0 9 0)), .int (iZ (g4 0 10 0)), .int (iZ (g4 0 11 0)), .int (iZ (g4 0 12 0)), .int (iZ (g4 0 13 0))])) := ec_X hE4
            have fL0 : en4 1 0 = some (al1 1 0, .inr (1, [.int (iZ (g4 3 0 0)), .ref (al1 2 0), .int (iZ (g4 1 0 0))])) := ec_L0 hE4
            have fL1 : en4 1 1 = some (al1 1 1, .inr (1, [.int (iZ (g4 3 1 0)), .ref (al1 2 1), .int (iZ (g4 1 1 0))])) := ec_L1 hE4
            have fQ : en4 3 0 = some (al1 3 0, aR dA (4) (fun j => some (al1 9 j))) := ec_Q hE4
            have fC : en4 4 0 = some (al1 4 0, aI dA (8) (fun j => g4 2 j 0)) := ec_C hE4
            have fS : en4 5 mm = some (al1 5 mm, .inr (4, [.int (iZ (mm)), .ref (al1 6 mm), .int (iZ (g4 12 mm 0)), .int (iZ (g4 13 mm 0)), .int (iZ (g4 14 mm 0)), .int (iZ (g4 15 mm 0)), .int (iZ (g4 16 mm 0)), .int (iZ (g4 17 mm 0)), .long (lZ (g4 18 mm 0))])) := ec_S hE4 (by omega)
            have fO : en4 6 mm = some (al1 6 mm, aB dA (g4 11 mm 0) (g4 19 mm)) := ec_SO hE4 (by omega)
            refine lv_aload_n hx hb dX3_sendNext_77 rfl (lv_at hl 1 rfl) ?_
            refine lv_aload_n hx hb dX3_sendNext_78 rfl (lv_at hl 0 rfl) ?_
            refine g_get (C := RX3) (T := TX3) (N := 14) (ci := 5) (v := .long (lZ (g4 0 7 0))) hx hb hts hi5 hown hK hW fX rfl 7 (by decide) (hts (.fieldLink RX3 120 "LongTransfer" "now" "J") (by decide +kernel)) (fun _ h9 => h9) rfl dX3_sendNext_79 ?_
            refine lv_aload_n hx hb dX3_sendNext_82 rfl (lv_at hl 1 rfl) ?_
            refine g_get (C := RX2) (T := TX2) (N := 9) (ci := 4) (v := .int (iZ (g4 17 mm 0))) hx hb hts hi4 hown hK hW fS rfl 7 (by decide) (hts (.fieldLink RX3 241 "LongTransfer$Sender" "separation" "I") (by decide +kernel)) (fun _ h9 => h9) rfl dX3_sendNext_83 ?_
            have e17 : g4 17 mm 0 = g2 17 mm 0 := by rw [hg4]; rfl
            refine z_i2l hx hb (by omega) dX3_sendNext_86 ?_
            refine z_ladd hx hb dX3_sendNext_87 ?_
            refine g_put (C := RX2) (T := TX2) (N := 9) (ci := 4) (ty := .long) (v := .long (lZ ((g4 0 7 0) + (g4 17 mm 0)))) (fs' := [.int (iZ (mm)), .ref (al1 6 mm), .int (iZ (g4 12 mm 0)), .int (iZ (g4 13 mm 0)), .int (iZ (g4 14 mm 0)), .int (iZ (g4 15 mm 0)), .int (iZ (g4 16 mm 0)), .int (iZ (g4 17 mm 0)), .long (lZ ((g4 0 7 0) + (g4 17 mm 0)))]) hx hb hts hi4 tyX2 tyX2_ok nmX2 hown hK hW hS fS rfl 8 (by decide) (hts (.fieldLink RX3 214 "LongTransfer$Sender" "wakeAt" "J") (by decide +kernel)) (fun _ h9 => h9) rfl (by decide +kernel) rfl rfl (Nat.le_of_ble_eq_true rfl) dX3_sendNext_88 rfl (fun H locs hW hS => ?_)
            have fX : (e2 en4 5 mm (some (al1 5 mm, .inr (4, [.int (iZ (mm)), .ref (al1 6 mm), .int (iZ (g4 12 mm 0)), .int (iZ (g4 13 mm 0)), .int (iZ (g4 14 mm 0)), .int (iZ (g4 15 mm 0)), .int (iZ (g4 16 mm 0)), .int (iZ (g4 17 mm 0)), .long (lZ ((g4 0 7 0) + (g4 17 mm 0)))])))) 0 0 = some (al1 0 0, .inr (5, [.int (iZ (g4 0 0 0)), .ref (al1 1 0), .ref (al1 1 1), .ref (al1 3 0), .ref (al1 4 0), .int (iZ (g4 0 5 0)), .ref (al1 11 0), .long (lZ (g4 0 7 0)), .int (iZ (g4 0 8 0)), .int (iZ (g4 0 9 0)), .int (iZ (g4 0 10 0)), .int (iZ (g4 0 11 0)), .int (iZ (g4 0 12 0)), .int (iZ (g4 0 13 0))])) := (e2_k (by decide)).trans fX
            have fL0 : (e2 en4 5 mm (some (al1 5 mm, .inr (4, [.int (iZ (mm)), .ref (al1 6 mm), .int (iZ (g4 12 mm 0)), .int (iZ (g4 13 mm 0)), .int (iZ (g4 14 mm 0)), .int (iZ (g4 15 mm 0)), .int (iZ (g4 16 mm 0)), .int (iZ (g4 17 mm 0)), .long (lZ ((g4 0 7 0) + (g4 17 mm 0)))])))) 1 0 = some (al1 1 0, .inr (1, [.int (iZ (g4 3 0 0)), .ref (al1 2 0), .int (iZ (g4 1 0 0))])) := (e2_k (by decide)).trans fL0
            have fL1 : (e2 en4 5 mm (some (al1 5 mm, .inr (4, [.int (iZ (mm)), .ref (al1 6 mm), .int (iZ (g4 12 mm 0)), .int (iZ (g4 13 mm 0)), .int (iZ (g4 14 mm 0)), .int (iZ (g4 15 mm 0)), .int (iZ (g4 16 mm 0)), .int (iZ (g4 17 mm 0)), .long (lZ ((g4 0 7 0) + (g4 17 mm 0)))])))) 1 1 = some (al1 1 1, .inr (1, [.int (iZ (g4 3 1 0)), .ref (al1 2 1), .int (iZ (g4 1 1 0))])) := (e2_k (by decide)).trans fL1
            have fQ : (e2 en4 5 mm (some (al1 5 mm, .inr (4, [.int (iZ (mm)), .ref (al1 6 mm), .int (iZ (g4 12 mm 0)), .int (iZ (g4 13 mm 0)), .int (iZ (g4 14 mm 0)), .int (iZ (g4 15 mm 0)), .int (iZ (g4 16 mm 0)), .int (iZ (g4 17 mm 0)), .long (lZ ((g4 0 7 0) + (g4 17 mm 0)))])))) 3 0 = some (al1 3 0, aR dA (4) (fun j => some (al1 9 j))) := (e2_k (by decide)).trans fQ
            have fC : (e2 en4 5 mm (some (al1 5 mm, .inr (4, [.int (iZ (mm)), .ref (al1 6 mm), .int (iZ (g4 12 mm 0)), .int (iZ (g4 13 mm 0)), .int (iZ (g4 14 mm 0)), .int (iZ (g4 15 mm 0)), .int (iZ (g4 16 mm 0)), .int (iZ (g4 17 mm 0)), .long (lZ ((g4 0 7 0) + (g4 17 mm 0)))])))) 4 0 = some (al1 4 0, aI dA (8) (fun j => g4 2 j 0)) := (e2_k (by decide)).trans fC
            have fO : (e2 en4 5 mm (some (al1 5 mm, .inr (4, [.int (iZ (mm)), .ref (al1 6 mm), .int (iZ (g4 12 mm 0)), .int (iZ (g4 13 mm 0)), .int (iZ (g4 14 mm 0)), .int (iZ (g4 15 mm 0)), .int (iZ (g4 16 mm 0)), .int (iZ (g4 17 mm 0)), .long (lZ ((g4 0 7 0) + (g4 17 mm 0)))])))) 6 mm = some (al1 6 mm, aB dA (g4 11 mm 0) (g4 19 mm)) := (e2_k (by decide)).trans fO
            have fS : (e2 en4 5 mm (some (al1 5 mm, .inr (4, [.int (iZ (mm)), .ref (al1 6 mm), .int (iZ (g4 12 mm 0)), .int (iZ (g4 13 mm 0)), .int (iZ (g4 14 mm 0)), .int (iZ (g4 15 mm 0)), .int (iZ (g4 16 mm 0)), .int (iZ (g4 17 mm 0)), .long (lZ ((g4 0 7 0) + (g4 17 mm 0)))])))) 5 mm = some (al1 5 mm, .inr (4, [.int (iZ (mm)), .ref (al1 6 mm), .int (iZ (g4 12 mm 0)), .int (iZ (g4 13 mm 0)), .int (iZ (g4 14 mm 0)), .int (iZ (g4 15 mm 0)), .int (iZ (g4 16 mm 0)), .int (iZ (g4 17 mm 0)), .long (lZ ((g4 0 7 0) + (g4 17 mm 0)))])) := e2_s _ _ _ _
            obtain ⟨en5, hen5⟩ : ∃ x : en_T, x = (e2 en4 5 mm (some (al1 5 mm, .inr (4, [.int (iZ (mm)), .ref (al1 6 mm), .int (iZ (g4 12 mm 0)), .int (iZ (g4 13 mm 0)), .int (iZ (g4 14 mm 0)), .int (iZ (g4 15 mm 0)), .int (iZ (g4 16 mm 0)), .int (iZ (g4 17 mm 0)), .long (lZ ((g4 0 7 0) + (g4 17 mm 0)))])))) := ⟨_, rfl⟩
            rw [← hen5] at hW
            obtain ⟨g5, hg5⟩ : ∃ x : St, x = wr g4 18 mm (g4 0 7 0 + g4 17 mm 0) := ⟨_, rfl⟩
            have hE5 : EC dA z g5 al1 en5 := ec_s hE4 (m := mm) (by omega) (fun t i j h => by rw [hg5]; repeat rw [wr_n (by omega)]) (fun _ _ _ => rfl) (fun k i h => by rw [hen5]; exact e2_n (by omega)) (by rw [hen5, hg5]; refine (e2_s _ _ _ _).trans ?_; simp [wr])
            have hFR5 : FR en4 en5 := fun k i h1 h2 => by rw [hen5]; exact e2_n (by omega)
            have hAS5 : AS g4 g5 al1 al1 := AS_e (by rw [hg5]; rfl) (by rw [hg5]; rfl) (by rw [hg5]; rfl)
            have hFR5 := FR.tr hFR4 hFR5
            have hAS5 := AS.tr hAS4 hAS5
            have hN5 := hAS5.1
            have fX : en5 0 0 = some (al1 0 0, .inr (5, [.int (iZ (g5 0 0 0)), .ref (al1 1 0), .ref (al1 1 1), .ref (al1 3 0), .ref (al1 4 0), .int (iZ (g5 0 5 0)), .ref (al1 11 0), .long (lZ (g5 0 7 0)), .int (iZ (g5 0 8 0)), .int (iZ (g5 0 9 0)), .int (iZ (g5 0 10 0)), .int (iZ (g5 0 11 0)), .int (iZ (g5 0 12 0)), .int (iZ (g5 0 13 0))])) := ec_X hE5
            have fL0 : en5 1 0 = some (al1 1 0, .inr (1, [.int (iZ (g5 3 0 0)), .ref (al1 2 0), .int (iZ (g5 1 0 0))])) := ec_L0 hE5
            have fL1 : en5 1 1 = some (al1 1 1, .inr (1, [.int (iZ (g5 3 1 0)), .ref (al1 2 1), .int (iZ (g5 1 1 0))])) := ec_L1 hE5
            have fQ : en5 3 0 = some (al1 3 0, aR dA (4) (fun j => some (al1 9 j))) := ec_Q hE5
            have fC : en5 4 0 = some (al1 4 0, aI dA (8) (fun j => g5 2 j 0)) := ec_C hE5
            have fS : en5 5 mm = some (al1 5 mm, .inr (4, [.int (iZ (mm)), .ref (al1 6 mm), .int (iZ (g5 12 mm 0)), .int (iZ (g5 13 mm 0)), .int (iZ (g5 14 mm 0)), .int (iZ (g5 15 mm 0)), .int (iZ (g5 16 mm 0)), .int (iZ (g5 17 mm 0)), .long (lZ (g5 18 mm 0))])) := ec_S hE5 (by omega)
            have fO : en5 6 mm = some (al1 6 mm, aB dA (g5 11 mm 0) (g5 19 mm)) := ec_SO hE5 (by omega)
            refine W.widen (k := kC (sNext g mm) - kC g) (n := kS (sNext g mm) - kS g) (show 0 + (kC (sMkD g mm (2) (g 14 mm 0) (7)) - kC g) + 0 ≤ kC (sNext g mm) - kC g by omega) (show 0 + (kS (sMkD g mm (2) (g 14 mm 0) (7)) - kS g) + 0 ≤ kS (sNext g mm) - kS g by omega) ?_
            have hgz : g5 = sNext g mm := by subst hg5; subst hg4; subst hg2; subst hg1; unfold sNext sNext2; rw [if_neg hfull]; first | rw [if_pos hall] | rw [if_neg hall, if_pos c_49] | rw [if_neg hall, if_neg c_49]
            rw [hgz] at hE5 hAS5
            exact W.vret hx hb hr (fun t ht hw => ⟨⟨(en5, al1), rfl, ⟨hE5, hFR5, hAS5⟩, by show Wd _ _ _ t.heap; rw [ht]; exact hW⟩, hS.F ht⟩) hS.2.2 dX3_sendNext_91
          · refine lv_aload_n hx hb dX3_sendNext_52 rfl (lv_at hl 1 rfl) ?_
            refine lv_aload_n hx hb dX3_sendNext_53 rfl (lv_at hl 0 rfl) ?_
            refine g_get (C := RX3) (T := TX3) (N := 14) (ci := 5) (v := .long (lZ (g2 0 7 0))) hx hb hts hi5 hown hK hW fX rfl 7 (by decide) (hts (.fieldLink RX3 120 "LongTransfer" "now" "J") (by decide +kernel)) (fun _ h9 => h9) rfl dX3_sendNext_54 ?_
            refine va_callv (va_runV (As := [.long (lZ (g2 0 7 0))]) (rest := []) ⟨hx, hb, hml, hown, hts⟩ (c_X2_awaitFlow l D dA z en2 5 mm (al1 5 mm) (al1 6 mm) mm (g2 12 mm 0) (g2 13 mm 0) (g2 14 mm 0) (g2 15 mm 0) (g2 16 mm 0) (g2 17 mm 0) (g2 18 mm 0) (g2 0 7 0) fS) (cwV 1 hts gX3_sendNext_X2_awaitFlow rfl rfl rfl (by decide +kernel) ⟨Nat.le_of_ble_eq_true rfl, Nat.le_of_ble_eq_true rfl⟩) ⟨gBl, gRecv hK hW (ci := 4) rfl fS, gPre _ hg hS hW⟩ rfl rfl hl.1 rfl (lv_room (Nat.le_of_ble_eq_true rfl)) dX3_sendNext_57 ⟨(show 0 + (kC (sMkD g mm (2) (g 14 mm 0) (7)) - kC g) + 0 + 0 ≤ kC (sNext g mm) - kC g by omega), (show 0 + (kS (sMkD g mm (2) (g 14 mm 0) (7)) - kS g) + 0 + 0 ≤ kS (sNext g mm) - kS g by omega)⟩) hS (fun _ _ h => h) (fun _ h => h) (fun u9 t9 H locs ht9 hvm9 hw9 hB9 hz9 hk9 hS => ?_)
            have hW : Wd D (z 0) (e2 en2 5 mm (some (al1 5 mm, .inr (4, [.int (iZ (mm)), .ref (al1 6 mm), .int (iZ (1)), .int (iZ (g2 13 mm 0)), .int (iZ (g2 14 mm 0)), .int (iZ (g2 15 mm 0)), .int (iZ (g2 16 mm 0)), .int (iZ (g2 17 mm 0)), .long (lZ (g2 0 7 0 + 1000))])))) H := by rw [← ht9]; exact hB9
            have fX : (e2 en2 5 mm (some (al1 5 mm, .inr (4, [.int (iZ (mm)), .ref (al1 6 mm), .int (iZ (1)), .int (iZ (g2 13 mm 0)), .int (iZ (g2 14 mm 0)), .int (iZ (g2 15 mm 0)), .int (iZ (g2 16 mm 0)), .int (iZ (g2 17 mm 0)), .long (lZ (g2 0 7 0 + 1000))])))) 0 0 = some (al1 0 0, .inr (5, [.int (iZ (g2 0 0 0)), .ref (al1 1 0), .ref (al1 1 1), .ref (al1 3 0), .ref (al1 4 0), .int (iZ (g2 0 5 0)), .ref (al1 11 0), .long (lZ (g2 0 7 0)), .int (iZ (g2 0 8 0)), .int (iZ (g2 0 9 0)), .int (iZ (g2 0 10 0)), .int (iZ (g2 0 11 0)), .int (iZ (g2 0 12 0)), .int (iZ (g2 0 13 0))])) := (e2_k (by decide)).trans fX
            have fL0 : (e2 en2 5 mm (some (al1 5 mm, .inr (4, [.int (iZ (mm)), .ref (al1 6 mm), .int (iZ (1)), .int (iZ (g2 13 mm 0)), .int (iZ (g2 14 mm 0)), .int (iZ (g2 15 mm 0)), .int (iZ (g2 16 mm 0)), .int (iZ (g2 17 mm 0)), .long (lZ (g2 0 7 0 + 1000))])))) 1 0 = some (al1 1 0, .inr (1, [.int (iZ (g2 3 0 0)), .ref (al1 2 0), .int (iZ (g2 1 0 0))])) := (e2_k (by decide)).trans fL0
            have fL1 : (e2 en2 5 mm (some (al1 5 mm, .inr (4, [.int (iZ (mm)), .ref (al1 6 mm), .int (iZ (1)), .int (iZ (g2 13 mm 0)), .int (iZ (g2 14 mm 0)), .int (iZ (g2 15 mm 0)), .int (iZ (g2 16 mm 0)), .int (iZ (g2 17 mm 0)), .long (lZ (g2 0 7 0 + 1000))])))) 1 1 = some (al1 1 1, .inr (1, [.int (iZ (g2 3 1 0)), .ref (al1 2 1), .int (iZ (g2 1 1 0))])) := (e2_k (by decide)).trans fL1
            have fQ : (e2 en2 5 mm (some (al1 5 mm, .inr (4, [.int (iZ (mm)), .ref (al1 6 mm), .int (iZ (1)), .int (iZ (g2 13 mm 0)), .int (iZ (g2 14 mm 0)), .int (iZ (g2 15 mm 0)), .int (iZ (g2 16 mm 0)), .int (iZ (g2 17 mm 0)), .long (lZ (g2 0 7 0 + 1000))])))) 3 0 = some (al1 3 0, aR dA (4) (fun j => some (al1 9 j))) := (e2_k (by decide)).trans fQ
            have fC : (e2 en2 5 mm (some (al1 5 mm, .inr (4, [.int (iZ (mm)), .ref (al1 6 mm), .int (iZ (1)), .int (iZ (g2 13 mm 0)), .int (iZ (g2 14 mm 0)), .int (iZ (g2 15 mm 0)), .int (iZ (g2 16 mm 0)), .int (iZ (g2 17 mm 0)), .long (lZ (g2 0 7 0 + 1000))])))) 4 0 = some (al1 4 0, aI dA (8) (fun j => g2 2 j 0)) := (e2_k (by decide)).trans fC
            have fO : (e2 en2 5 mm (some (al1 5 mm, .inr (4, [.int (iZ (mm)), .ref (al1 6 mm), .int (iZ (1)), .int (iZ (g2 13 mm 0)), .int (iZ (g2 14 mm 0)), .int (iZ (g2 15 mm 0)), .int (iZ (g2 16 mm 0)), .int (iZ (g2 17 mm 0)), .long (lZ (g2 0 7 0 + 1000))])))) 6 mm = some (al1 6 mm, aB dA (g2 11 mm 0) (g2 19 mm)) := (e2_k (by decide)).trans fO
            have fS : (e2 en2 5 mm (some (al1 5 mm, .inr (4, [.int (iZ (mm)), .ref (al1 6 mm), .int (iZ (1)), .int (iZ (g2 13 mm 0)), .int (iZ (g2 14 mm 0)), .int (iZ (g2 15 mm 0)), .int (iZ (g2 16 mm 0)), .int (iZ (g2 17 mm 0)), .long (lZ (g2 0 7 0 + 1000))])))) 5 mm = some (al1 5 mm, .inr (4, [.int (iZ (mm)), .ref (al1 6 mm), .int (iZ (1)), .int (iZ (g2 13 mm 0)), .int (iZ (g2 14 mm 0)), .int (iZ (g2 15 mm 0)), .int (iZ (g2 16 mm 0)), .int (iZ (g2 17 mm 0)), .long (lZ (g2 0 7 0 + 1000))])) := e2_s _ _ _ _
            obtain ⟨en6, hen6⟩ : ∃ x : en_T, x = (e2 en2 5 mm (some (al1 5 mm, .inr (4, [.int (iZ (mm)), .ref (al1 6 mm), .int (iZ (1)), .int (iZ (g2 13 mm 0)), .int (iZ (g2 14 mm 0)), .int (iZ (g2 15 mm 0)), .int (iZ (g2 16 mm 0)), .int (iZ (g2 17 mm 0)), .long (lZ (g2 0 7 0 + 1000))])))) := ⟨_, rfl⟩
            rw [← hen6] at hW
            obtain ⟨g6, hg6⟩ : ∃ x : St, x = sAwait g2 mm := ⟨_, rfl⟩
            have hE6 : EC dA z g6 al1 en6 := ec_s hE2 (m := mm) (by omega) (fun t i j h => by rw [hg6]; simp only [sAwait]; repeat rw [wr_n (by omega)]) (fun _ _ _ => rfl) (fun k i h => by rw [hen6]; exact e2_n (by omega)) (by rw [hen6, hg6]; refine (e2_s _ _ _ _).trans ?_; simp [sAwait, wr])
            have hFR6 : FR en2 en6 := fun k i h1 h2 => by rw [hen6]; exact e2_n (by omega)
            have hAS6 : AS g2 g6 al1 al1 := AS_e (by rw [hg6]; rfl) (by rw [hg6]; rfl) (by rw [hg6]; rfl)
            have hFR6 := FR.tr hFR2 hFR6
            have hAS6 := AS.tr hAS2 hAS6
            have hN6 := hAS6.1
            have fX : en6 0 0 = some (al1 0 0, .inr (5, [.int (iZ (g6 0 0 0)), .ref (al1 1 0), .ref (al1 1 1), .ref (al1 3 0), .ref (al1 4 0), .int (iZ (g6 0 5 0)), .ref (al1 11 0), .long (lZ (g6 0 7 0)), .int (iZ (g6 0 8 0)), .int (iZ (g6 0 9 0)), .int (iZ (g6 0 10 0)), .int (iZ (g6 0 11 0)), .int (iZ (g6 0 12 0)), .int (iZ (g6 0 13 0))])) := ec_X hE6
            have fL0 : en6 1 0 = some (al1 1 0, .inr (1, [.int (iZ (g6 3 0 0)), .ref (al1 2 0), .int (iZ (g6 1 0 0))])) := ec_L0 hE6
            have fL1 : en6 1 1 = some (al1 1 1, .inr (1, [.int (iZ (g6 3 1 0)), .ref (al1 2 1), .int (iZ (g6 1 1 0))])) := ec_L1 hE6
            have fQ : en6 3 0 = some (al1 3 0, aR dA (4) (fun j => some (al1 9 j))) := ec_Q hE6
            have fC : en6 4 0 = some (al1 4 0, aI dA (8) (fun j => g6 2 j 0)) := ec_C hE6
            have fS : en6 5 mm = some (al1 5 mm, .inr (4, [.int (iZ (mm)), .ref (al1 6 mm), .int (iZ (g6 12 mm 0)), .int (iZ (g6 13 mm 0)), .int (iZ (g6 14 mm 0)), .int (iZ (g6 15 mm 0)), .int (iZ (g6 16 mm 0)), .int (iZ (g6 17 mm 0)), .long (lZ (g6 18 mm 0))])) := ec_S hE6 (by omega)
            have fO : en6 6 mm = some (al1 6 mm, aB dA (g6 11 mm 0) (g6 19 mm)) := ec_SO hE6 (by omega)
            refine lv_goto (tgt := 91) hx hb dX3_sendNext_60 (by decide) ?_
            refine W.widen (k := kC (sNext g mm) - kC g) (n := kS (sNext g mm) - kS g) (show 0 + (kC (sMkD g mm (2) (g 14 mm 0) (7)) - kC g) + 0 + 0 ≤ kC (sNext g mm) - kC g by omega) (show 0 + (kS (sMkD g mm (2) (g 14 mm 0) (7)) - kS g) + 0 + 0 ≤ kS (sNext g mm) - kS g by omega) ?_
            have hgz : g6 = sNext g mm := by subst hg6; subst hg2; subst hg1; unfold sNext sNext2; rw [if_neg hfull]; first | rw [if_pos hall] | rw [if_neg hall, if_pos c_49] | rw [if_neg hall, if_neg c_49]
            rw [hgz] at hE6 hAS6
            exact W.vret hx hb hr (fun t ht hw => ⟨⟨(en6, al1), rfl, ⟨hE6, hFR6, hAS6⟩, by show Wd _ _ _ t.heap; rw [ht]; exact hW⟩, hS.F ht⟩) hS.2.2 dX3_sendNext_91
        · exact absurd c_33 (by omega)
    · exact absurd c_12 (by omega)
set_option maxHeartbeats 4000000 in
set_option maxRecDepth 100000 in
theorem c_X3_answer (l : Launch) (D : va_G) (dA : Nat → ClassId) (z : Nat → Nat) (en : en_T) (g : St) (al : Al) (r : Int) (h0 : 0 ≤ r) (h1 : r < 4) (h2 : 1 ≤ g 31 r 0) (hE : EC dA z g al en) (hI : IB g) : Met l yX3_answer wsX3_answer ({ frames := 8, cells := kC (sAns g r) - kC g, slots := kS (sAns g r) - kS g, locals := 198 }) (gP D dA z en [.ref (al 0 0), .ref (al 9 r)]) (va_Qv (fun u : en_T × Al => CP dA z (sAns g r) g al en u) (fun u t9 => Wd D (z 0) u.1 t9.heap) (fun q => z 0 ≤ q)) (kC (sAns g r) - kC g) (kS (sAns g r) - kS g) (fun q => z 0 ≤ q) := by
  refine gMet (own := RX3) (cc := cX3_answer) (maxL := 2) (ret := none) (by decide) rfl rfl (Nat.le_of_ble_eq_true rfl) ?_
  intro p e s m below meth c hx hb hml hown hts hr hlocks hnm hg hW ls hl
  have hK := hg.1
  have hS : va_S (fun q => z 0 ≤ q) s.heap s.heap [] := va_S.rf
  have hi3 : ∀ w ∈ u_ws RX1 TX1 9, w ∈ wsX3_answer := by decide +kernel
  have hi5 : ∀ w ∈ u_ws RX3 TX3 14, w ∈ wsX3_answer := by decide +kernel
  have hl : lv_has ls 2 [(0, .ref (al 0 0)), (1, .ref (al 9 r))] := hl
  obtain ⟨hIX, hIL, hIS, hIF, hIR, hIG⟩ := id hI
  unfold IL at hIL
  unfold IX at hIX
  have hIRr := hIR r (by omega) (by omega)
  unfold IR at hIRr
  have hkc : kC (sAns g r) = kC (sMkF g r (g 31 r 0) (g 0 9 0) (g 0 10 0) (g 0 11 0)) := by unfold sAns sAns2; split <;> first | rfl | (split <;> first | rfl | (split <;> rfl))
  have hks : kS (sAns g r) = kS (sMkF g r (g 31 r 0) (g 0 9 0) (g 0 10 0) (g 0 11 0)) := by unfold sAns sAns2; split <;> first | rfl | (split <;> first | rfl | (split <;> rfl))
  have fX : en 0 0 = some (al 0 0, .inr (5, [.int (iZ (g 0 0 0)), .ref (al 1 0), .ref (al 1 1), .ref (al 3 0), .ref (al 4 0), .int (iZ (g 0 5 0)), .ref (al 11 0), .long (lZ (g 0 7 0)), .int (iZ (g 0 8 0)), .int (iZ (g 0 9 0)), .int (iZ (g 0 10 0)), .int (iZ (g 0 11 0)), .int (iZ (g 0 12 0)), .int (iZ (g 0 13 0))])) := ec_X hE
  have fL0 : en 1 0 = some (al 1 0, .inr (1, [.int (iZ (g 3 0 0)), .ref (al 2 0), .int (iZ (g 1 0 0))])) := ec_L0 hE
  have fL1 : en 1 1 = some (al 1 1, .inr (1, [.int (iZ (g 3 1 0)), .ref (al 2 1), .int (iZ (g 1 1 0))])) := ec_L1 hE
  have fQ : en 3 0 = some (al 3 0, aR dA (4) (fun j => some (al 9 j))) := ec_Q hE
  have fC : en 4 0 = some (al 4 0, aI dA (8) (fun j => g 2 j 0)) := ec_C hE
  have fR : en 9 r = some (al 9 r, .inr (3, [.int (iZ (g 30 r 0)), .int (iZ (g 31 r 0)), .ref (al 10 r), .int (iZ (g 33 r 0)), .int (iZ (g 34 r 0)), .int (iZ (g 35 r 0)), .int (iZ (g 36 r 0)), .long (lZ (g 37 r 0)), .long (lZ (g 38 r 0))])) := ec_R hE (by omega)
  refine lv_aload_n hx hb dX3_answer_0 rfl (lv_at hl 0 rfl) ?_
  refine lv_aload_n hx hb dX3_answer_1 rfl (lv_at hl 1 rfl) ?_
  refine lv_aload_n hx hb dX3_answer_2 rfl (lv_at hl 1 rfl) ?_
  refine g_get (C := RX1) (T := TX1) (N := 9) (ci := 3) (v := .int (iZ (g 31 r 0))) hx hb hts hi3 hown hK hW fR rfl 1 (by decide) (hts (.fieldLink RX3 307 "LongTransfer$Receiver" "message" "I") (by decide +kernel)) (fun _ h9 => h9) rfl dX3_answer_3 ?_
  refine lv_aload_n hx hb dX3_answer_6 rfl (lv_at hl 0 rfl) ?_
  refine g_get (C := RX3) (T := TX3) (N := 14) (ci := 5) (v := .int (iZ (g 0 9 0))) hx hb hts hi5 hown hK hW fX rfl 9 (by decide) (hts (.fieldLink RX3 36 "LongTransfer" "answerKind" "I") (by decide +kernel)) (fun _ h9 => h9) rfl dX3_answer_7 ?_
  refine lv_aload_n hx hb dX3_answer_10 rfl (lv_at hl 0 rfl) ?_
  refine g_get (C := RX3) (T := TX3) (N := 14) (ci := 5) (v := .int (iZ (g 0 10 0))) hx hb hts hi5 hown hK hW fX rfl 10 (by decide) (hts (.fieldLink RX3 114 "LongTransfer" "answerBlock" "I") (by decide +kernel)) (fun _ h9 => h9) rfl dX3_answer_11 ?_
  refine lv_aload_n hx hb dX3_answer_14 rfl (lv_at hl 0 rfl) ?_
  refine g_get (C := RX3) (T := TX3) (N := 14) (ci := 5) (v := .int (iZ (g 0 11 0))) hx hb hts hi5 hown hK hW fX rfl 11 (by decide) (hts (.fieldLink RX3 117 "LongTransfer" "answerSeparation" "I") (by decide +kernel)) (fun _ h9 => h9) rfl dX3_answer_15 ?_
  refine va_calli (va_runV (As := [.ref (al 9 r), .int (iZ (g 31 r 0)), .int (iZ (g 0 9 0)), .int (iZ (g 0 10 0)), .int (iZ (g 0 11 0))]) (rest := []) ⟨hx, hb, hml, hown, hts⟩ (c_X3_mkF l D dA z en g al r (g 31 r 0) (g 0 9 0) (g 0 10 0) (g 0 11 0) (by omega) (by omega) hE hI) (cwV 5 hts gX3_answer_X3_makeFlowFrame rfl rfl rfl (by decide +kernel) ⟨Nat.le_of_ble_eq_true rfl, Nat.le_of_ble_eq_true rfl⟩) ⟨gBl, gRecv hK hW (ci := 5) rfl fX, gPre _ hg hS hW⟩ rfl rfl hl.1 rfl (lv_room (Nat.le_of_ble_eq_true rfl)) dX3_answer_18 ⟨(show 0 + (kC (sMkF g r (g 31 r 0) (g 0 9 0) (g 0 10 0) (g 0 11 0)) - kC g) ≤ kC (sAns g r) - kC g by omega), (show 0 + (kS (sMkF g r (g 31 r 0) (g 0 9 0) (g 0 10 0) (g 0 11 0)) - kS g) ≤ kS (sAns g r) - kS g by omega)⟩) hS (fun _ _ h => h) (fun _ h => h) (fun r9 u9 t9 H locs ht9 hvm9 hw9 hB9 hz9 hk9 hS => ?_)
  obtain ⟨en1, al1⟩ := u9
  obtain ⟨hr9, hE1, hFR1, hAS1⟩ := hw9
  have hW : Wd D (z 0) en1 H := by rw [← ht9]; exact hB9
  obtain ⟨g1, hg1⟩ : ∃ x : St, x = sMkF g r (g 31 r 0) (g 0 9 0) (g 0 10 0) (g 0 11 0) := ⟨_, rfl⟩
  rw [← hg1] at hE1 hAS1
  dsimp only at hE1 hFR1 hAS1
  subst hr9
  have hl : lv_has ls 2 [(0, .ref (al1 0 0)), (1, .ref (al1 9 r))] := by rw [hAS1.2 0 0 (by omega), hAS1.2 9 r (by omega)]; exact hl
  have hN1 := hAS1.1
  have fX : en1 0 0 = some (al1 0 0, .inr (5, [.int (iZ (g1 0 0 0)), .ref (al1 1 0), .ref (al1 1 1), .ref (al1 3 0), .ref (al1 4 0), .int (iZ (g1 0 5 0)), .ref (al1 11 0), .long (lZ (g1 0 7 0)), .int (iZ (g1 0 8 0)), .int (iZ (g1 0 9 0)), .int (iZ (g1 0 10 0)), .int (iZ (g1 0 11 0)), .int (iZ (g1 0 12 0)), .int (iZ (g1 0 13 0))])) := ec_X hE1
  have fL0 : en1 1 0 = some (al1 1 0, .inr (1, [.int (iZ (g1 3 0 0)), .ref (al1 2 0), .int (iZ (g1 1 0 0))])) := ec_L0 hE1
  have fL1 : en1 1 1 = some (al1 1 1, .inr (1, [.int (iZ (g1 3 1 0)), .ref (al1 2 1), .int (iZ (g1 1 1 0))])) := ec_L1 hE1
  have fQ : en1 3 0 = some (al1 3 0, aR dA (4) (fun j => some (al1 9 j))) := ec_Q hE1
  have fC : en1 4 0 = some (al1 4 0, aI dA (8) (fun j => g1 2 j 0)) := ec_C hE1
  have fR : en1 9 r = some (al1 9 r, .inr (3, [.int (iZ (g1 30 r 0)), .int (iZ (g1 31 r 0)), .ref (al1 10 r), .int (iZ (g1 33 r 0)), .int (iZ (g1 34 r 0)), .int (iZ (g1 35 r 0)), .int (iZ (g1 36 r 0)), .long (lZ (g1 37 r 0)), .long (lZ (g1 38 r 0))])) := ec_R hE1 (by omega)
  by_cases hfull : 6000 ≤ g 1 1 0
  · rw [if_pos hfull]
    refine z_if_ne (tgt := 25) hx hb dX3_answer_21 (by decide) (by omega) (fun c_21 => ?_) (fun c_21 => ?_)
    · exact absurd c_21 (by omega)
    · refine W.widen (k := kC (sAns g r) - kC g) (n := kS (sAns g r) - kS g) (show 0 + (kC (sMkF g r (g 31 r 0) (g 0 9 0) (g 0 10 0) (g 0 11 0)) - kC g) ≤ kC (sAns g r) - kC g by omega) (show 0 + (kS (sMkF g r (g 31 r 0) (g 0 9 0) (g 0 10 0) (g 0 11 0)) - kS g) ≤ kS (sAns g r) - kS g by omega) ?_
      have hgz : g1 = sAns g r := by subst hg1; unfold sAns sAns0; first | rw [if_pos hfull] | (rw [if_neg hfull]; first | rw [if_pos c_30] | (rw [if_neg c_30]; unfold sAns2; first | rw [if_pos c_57] | rw [if_neg c_57]))
      rw [hgz] at hE1 hAS1
      exact W.vret hx hb hr (fun t ht hw => ⟨⟨(en1, al1), rfl, ⟨hE1, hFR1, hAS1⟩, by show Wd _ _ _ t.heap; rw [ht]; exact hW⟩, hS.F ht⟩) hS.2.2 dX3_answer_24
  · rw [if_neg hfull]
    have hI1 : IB g1 := by rw [hg1]; exact ib_mf hI (by omega) (by omega) (by omega) (by omega) (by omega) (by omega)
    have hR1 := hI1.2.2.2.2.1 r (by omega) (by omega)
    unfold IR at hR1
    have hX1 := hI1.1
    unfold IX at hX1
    refine z_if_ne (tgt := 25) hx hb dX3_answer_21 (by decide) (by omega) (fun c_21 => ?_) (fun c_21 => ?_)
    · refine lv_aload_n hx hb dX3_answer_25 rfl (lv_at hl 0 rfl) ?_
      refine g_get (C := RX3) (T := TX3) (N := 14) (ci := 5) (v := .int (iZ (g1 0 9 0))) hx hb hts hi5 hown hK hW fX rfl 9 (by decide) (hts (.fieldLink RX3 36 "LongTransfer" "answerKind" "I") (by decide +kernel)) (fun _ h9 => h9) rfl dX3_answer_26 ?_
      refine z_iconst hx hb dX3_answer_29 ?_
      refine z_icmp_ne (tgt := 40) hx hb dX3_answer_30 (by decide) (by omega) (by omega) (fun c_30 => ?_) (fun c_30 => ?_)
      · refine lv_aload_n hx hb dX3_answer_40 rfl (lv_at hl 1 rfl) ?_
        refine lv_aload_n hx hb dX3_answer_41 rfl (lv_at hl 0 rfl) ?_
        refine g_get (C := RX3) (T := TX3) (N := 14) (ci := 5) (v := .long (lZ (g1 0 7 0))) hx hb hts hi5 hown hK hW fX rfl 7 (by decide) (hts (.fieldLink RX3 120 "LongTransfer" "now" "J") (by decide +kernel)) (fun _ h9 => h9) rfl dX3_answer_42 ?_
        refine z_ldc2 hx hb 1000 hown (hts (.constantLong RX3 308 (1000)) (by decide +kernel)) (by decide) dX3_answer_45 ?_
        refine z_ladd hx hb dX3_answer_48 ?_
        refine g_put (C := RX1) (T := TX1) (N := 9) (ci := 3) (ty := .long) (v := .long (lZ ((g1 0 7 0) + 1000))) (fs' := [.int (iZ (g1 30 r 0)), .int (iZ (g1 31 r 0)), .ref (al1 10 r), .int (iZ (g1 33 r 0)), .int (iZ (g1 34 r 0)), .int (iZ (g1 35 r 0)), .int (iZ (g1 36 r 0)), .long (lZ (g1 37 r 0)), .long (lZ ((g1 0 7 0) + 1000))]) hx hb hts hi3 tyX1 tyX1_ok nmX1 hown hK hW hS fR rfl 8 (by decide) (hts (.fieldLink RX3 248 "LongTransfer$Receiver" "giveUpAt" "J") (by decide +kernel)) (fun _ h9 => h9) rfl (by decide +kernel) rfl rfl (Nat.le_of_ble_eq_true rfl) dX3_answer_49 rfl (fun H locs hW hS => ?_)
        have fX : (e2 en1 9 r (some (al1 9 r, .inr (3, [.int (iZ (g1 30 r 0)), .int (iZ (g1 31 r 0)), .ref (al1 10 r), .int (iZ (g1 33 r 0)), .int (iZ (g1 34 r 0)), .int (iZ (g1 35 r 0)), .int (iZ (g1 36 r 0)), .long (lZ (g1 37 r 0)), .long (lZ ((g1 0 7 0) + 1000))])))) 0 0 = some (al1 0 0, .inr (5, [.int (iZ (g1 0 0 0)), .ref (al1 1 0), .ref (al1 1 1), .ref (al1 3 0), .ref (al1 4 0), .int (iZ (g1 0 5 0)), .ref (al1 11 0), .long (lZ (g1 0 7 0)), .int (iZ (g1 0 8 0)), .int (iZ (g1 0 9 0)), .int (iZ (g1 0 10 0)), .int (iZ (g1 0 11 0)), .int (iZ (g1 0 12 0)), .int (iZ (g1 0 13 0))])) := (e2_k (by decide)).trans fX
        have fL0 : (e2 en1 9 r (some (al1 9 r, .inr (3, [.int (iZ (g1 30 r 0)), .int (iZ (g1 31 r 0)), .ref (al1 10 r), .int (iZ (g1 33 r 0)), .int (iZ (g1 34 r 0)), .int (iZ (g1 35 r 0)), .int (iZ (g1 36 r 0)), .long (lZ (g1 37 r 0)), .long (lZ ((g1 0 7 0) + 1000))])))) 1 0 = some (al1 1 0, .inr (1, [.int (iZ (g1 3 0 0)), .ref (al1 2 0), .int (iZ (g1 1 0 0))])) := (e2_k (by decide)).trans fL0
        have fL1 : (e2 en1 9 r (some (al1 9 r, .inr (3, [.int (iZ (g1 30 r 0)), .int (iZ (g1 31 r 0)), .ref (al1 10 r), .int (iZ (g1 33 r 0)), .int (iZ (g1 34 r 0)), .int (iZ (g1 35 r 0)), .int (iZ (g1 36 r 0)), .long (lZ (g1 37 r 0)), .long (lZ ((g1 0 7 0) + 1000))])))) 1 1 = some (al1 1 1, .inr (1, [.int (iZ (g1 3 1 0)), .ref (al1 2 1), .int (iZ (g1 1 1 0))])) := (e2_k (by decide)).trans fL1
        have fQ : (e2 en1 9 r (some (al1 9 r, .inr (3, [.int (iZ (g1 30 r 0)), .int (iZ (g1 31 r 0)), .ref (al1 10 r), .int (iZ (g1 33 r 0)), .int (iZ (g1 34 r 0)), .int (iZ (g1 35 r 0)), .int (iZ (g1 36 r 0)), .long (lZ (g1 37 r 0)), .long (lZ ((g1 0 7 0) + 1000))])))) 3 0 = some (al1 3 0, aR dA (4) (fun j => some (al1 9 j))) := (e2_k (by decide)).trans fQ
        have fC : (e2 en1 9 r (some (al1 9 r, .inr (3, [.int (iZ (g1 30 r 0)), .int (iZ (g1 31 r 0)), .ref (al1 10 r), .int (iZ (g1 33 r 0)), .int (iZ (g1 34 r 0)), .int (iZ (g1 35 r 0)), .int (iZ (g1 36 r 0)), .long (lZ (g1 37 r 0)), .long (lZ ((g1 0 7 0) + 1000))])))) 4 0 = some (al1 4 0, aI dA (8) (fun j => g1 2 j 0)) := (e2_k (by decide)).trans fC
        have fR : (e2 en1 9 r (some (al1 9 r, .inr (3, [.int (iZ (g1 30 r 0)), .int (iZ (g1 31 r 0)), .ref (al1 10 r), .int (iZ (g1 33 r 0)), .int (iZ (g1 34 r 0)), .int (iZ (g1 35 r 0)), .int (iZ (g1 36 r 0)), .long (lZ (g1 37 r 0)), .long (lZ ((g1 0 7 0) + 1000))])))) 9 r = some (al1 9 r, .inr (3, [.int (iZ (g1 30 r 0)), .int (iZ (g1 31 r 0)), .ref (al1 10 r), .int (iZ (g1 33 r 0)), .int (iZ (g1 34 r 0)), .int (iZ (g1 35 r 0)), .int (iZ (g1 36 r 0)), .long (lZ (g1 37 r 0)), .long (lZ ((g1 0 7 0) + 1000))])) := e2_s _ _ _ _
        obtain ⟨en2, hen2⟩ : ∃ x : en_T, x = (e2 en1 9 r (some (al1 9 r, .inr (3, [.int (iZ (g1 30 r 0)), .int (iZ (g1 31 r 0)), .ref (al1 10 r), .int (iZ (g1 33 r 0)), .int (iZ (g1 34 r 0)), .int (iZ (g1 35 r 0)), .int (iZ (g1 36 r 0)), .long (lZ (g1 37 r 0)), .long (lZ ((g1 0 7 0) + 1000))])))) := ⟨_, rfl⟩
        rw [← hen2] at hW
        obtain ⟨g2, hg2⟩ : ∃ x : St, x = sGive g1 r := ⟨_, rfl⟩
        obtain ⟨al2, hal2⟩ : ∃ x : Al, x = al1 := ⟨_, rfl⟩
        have hE2 : EC dA z g2 al2 en2 := ec_r hE1 (r0 := r) (by omega) (fun t i j h => by rw [hg2]; simp only [sGive]; repeat rw [wr_n (by omega)]) (fun k i h => by rw [hal2]) (fun k i h => by rw [hen2]; exact e2_n (by omega)) (by rw [hen2, hg2, hal2]; refine (e2_s _ _ _ _).trans ?_; simp [sGive, wr]) (fun q9 => by rw [hen2, hg2, hal2]; exact bA_e (e2_k (by decide)) (ec_RO hE1 (r := r) (by omega) (by rw [hg2] at q9; simpa [sGive, wr] using q9)))
        have hFR2 : FR en1 en2 := fun k i h1 h2 => by rw [hen2]; exact e2_n (by omega)
        have hAS2 : AS g1 g2 al1 al2 := ⟨⟨by rw [hg2]; exact Int.le_refl _, by rw [hg2]; exact Int.le_refl _, by rw [hg2]; exact Int.le_refl _⟩, fun k i h => by rw [hal2]⟩
        have hl : lv_has ls 2 [(0, .ref (al2 0 0)), (1, .ref (al2 9 r))] := by rw [hAS2.2 0 0 (by omega), hAS2.2 9 r (by omega)]; exact hl
        have hFR2 := FR.tr hFR1 hFR2
        have hAS2 := AS.tr hAS1 hAS2
        have hN2 := hAS2.1
        have fX : en2 0 0 = some (al2 0 0, .inr (5, [.int (iZ (g2 0 0 0)), .ref (al2 1 0), .ref (al2 1 1), .ref (al2 3 0), .ref (al2 4 0), .int (iZ (g2 0 5 0)), .ref (al2 11 0), .long (lZ (g2 0 7 0)), .int (iZ (g2 0 8 0)), .int (iZ (g2 0 9 0)), .int (iZ (g2 0 10 0)), .int (iZ (g2 0 11 0)), .int (iZ (g2 0 12 0)), .int (iZ (g2 0 13 0))])) := ec_X hE2
        have fL0 : en2 1 0 = some (al2 1 0, .inr (1, [.int (iZ (g2 3 0 0)), .ref (al2 2 0), .int (iZ (g2 1 0 0))])) := ec_L0 hE2
        have fL1 : en2 1 1 = some (al2 1 1, .inr (1, [.int (iZ (g2 3 1 0)), .ref (al2 2 1), .int (iZ (g2 1 1 0))])) := ec_L1 hE2
        have fQ : en2 3 0 = some (al2 3 0, aR dA (4) (fun j => some (al2 9 j))) := ec_Q hE2
        have fC : en2 4 0 = some (al2 4 0, aI dA (8) (fun j => g2 2 j 0)) := ec_C hE2
        have fR : en2 9 r = some (al2 9 r, .inr (3, [.int (iZ (g2 30 r 0)), .int (iZ (g2 31 r 0)), .ref (al2 10 r), .int (iZ (g2 33 r 0)), .int (iZ (g2 34 r 0)), .int (iZ (g2 35 r 0)), .int (iZ (g2 36 r 0)), .long (lZ (g2 37 r 0)), .long (lZ (g2 38 r 0))])) := ec_R hE2 (by omega)
        have hI2 : IB g2 := by rw [hg2]; exact ib_give hI1 (by omega) (by omega)
        have hX2 := hI2.1
        unfold IX at hX2
        refine lv_aload_n hx hb dX3_answer_52 rfl (lv_at hl 0 rfl) ?_
        refine g_get (C := RX3) (T := TX3) (N := 14) (ci := 5) (v := .int (iZ (g2 0 9 0))) hx hb hts hi5 hown hK hW fX rfl 9 (by decide) (hts (.fieldLink RX3 36 "LongTransfer" "answerKind" "I") (by decide +kernel)) (fun _ h9 => h9) rfl dX3_answer_53 ?_
        refine z_iconst hx hb dX3_answer_56 ?_
        refine z_icmp_ne (tgt := 75) hx hb dX3_answer_57 (by decide) (by omega) (by omega) (fun c_57 => ?_) (fun c_57 => ?_)
        · refine lv_aload_n hx hb dX3_answer_75 rfl (lv_at hl 1 rfl) ?_
          refine z_ldc2 hx hb 9223372036854775807 hown (hts (.constantLong RX3 212 (9223372036854775807)) (by decide +kernel)) (by decide) dX3_answer_76 ?_
          refine g_put (C := RX1) (T := TX1) (N := 9) (ci := 3) (ty := .long) (v := .long (lZ (9223372036854775807))) (fs' := [.int (iZ (g2 30 r 0)), .int (iZ (g2 31 r 0)), .ref (al2 10 r), .int (iZ (g2 33 r 0)), .int (iZ (g2 34 r 0)), .int (iZ (g2 35 r 0)), .int (iZ (g2 36 r 0)), .long (lZ (9223372036854775807)), .long (lZ (g2 38 r 0))]) hx hb hts hi3 tyX1 tyX1_ok nmX1 hown hK hW hS fR rfl 7 (by decide) (hts (.fieldLink RX3 242 "LongTransfer$Receiver" "answerAt" "J") (by decide +kernel)) (fun _ h9 => h9) rfl (by decide +kernel) rfl rfl (Nat.le_of_ble_eq_true rfl) dX3_answer_79 rfl (fun H locs hW hS => ?_)
          have fX : (e2 en2 9 r (some (al2 9 r, .inr (3, [.int (iZ (g2 30 r 0)), .int (iZ (g2 31 r 0)), .ref (al2 10 r), .int (iZ (g2 33 r 0)), .int (iZ (g2 34 r 0)), .int (iZ (g2 35 r 0)), .int (iZ (g2 36 r 0)), .long (lZ (9223372036854775807)), .long (lZ (g2 38 r 0))])))) 0 0 = some (al2 0 0, .inr (5, [.int (iZ (g2 0 0 0)), .ref (al2 1 0), .ref (al2 1 1), .ref (al2 3 0), .ref (al2 4 0), .int (iZ (g2 0 5 0)), .ref (al2 11 0), .long (lZ (g2 0 7 0)), .int (iZ (g2 0 8 0)), .int (iZ (g2 0 9 0)), .int (iZ (g2 0 10 0)), .int (iZ (g2 0 11 0)), .int (iZ (g2 0 12 0)), .int (iZ (g2 0 13 0))])) := (e2_k (by decide)).trans fX
          have fL0 : (e2 en2 9 r (some (al2 9 r, .inr (3, [.int (iZ (g2 30 r 0)), .int (iZ (g2 31 r 0)), .ref (al2 10 r), .int (iZ (g2 33 r 0)), .int (iZ (g2 34 r 0)), .int (iZ (g2 35 r 0)), .int (iZ (g2 36 r 0)), .long (lZ (9223372036854775807)), .long (lZ (g2 38 r 0))])))) 1 0 = some (al2 1 0, .inr (1, [.int (iZ (g2 3 0 0)), .ref (al2 2 0), .int (iZ (g2 1 0 0))])) := (e2_k (by decide)).trans fL0
          have fL1 : (e2 en2 9 r (some (al2 9 r, .inr (3, [.int (iZ (g2 30 r 0)), .int (iZ (g2 31 r 0)), .ref (al2 10 r), .int (iZ (g2 33 r 0)), .int (iZ (g2 34 r 0)), .int (iZ (g2 35 r 0)), .int (iZ (g2 36 r 0)), .long (lZ (9223372036854775807)), .long (lZ (g2 38 r 0))])))) 1 1 = some (al2 1 1, .inr (1, [.int (iZ (g2 3 1 0)), .ref (al2 2 1), .int (iZ (g2 1 1 0))])) := (e2_k (by decide)).trans fL1
          have fQ : (e2 en2 9 r (some (al2 9 r, .inr (3, [.int (iZ (g2 30 r 0)), .int (iZ (g2 31 r 0)), .ref (al2 10 r), .int (iZ (g2 33 r 0)), .int (iZ (g2 34 r 0)), .int (iZ (g2 35 r 0)), .int (iZ (g2 36 r 0)), .long (lZ (9223372036854775807)), .long (lZ (g2 38 r 0))])))) 3 0 = some (al2 3 0, aR dA (4) (fun j => some (al2 9 j))) := (e2_k (by decide)).trans fQ
          have fC : (e2 en2 9 r (some (al2 9 r, .inr (3, [.int (iZ (g2 30 r 0)), .int (iZ (g2 31 r 0)), .ref (al2 10 r), .int (iZ (g2 33 r 0)), .int (iZ (g2 34 r 0)), .int (iZ (g2 35 r 0)), .int (iZ (g2 36 r 0)), .long (lZ (9223372036854775807)), .long (lZ (g2 38 r 0))])))) 4 0 = some (al2 4 0, aI dA (8) (fun j => g2 2 j 0)) := (e2_k (by decide)).trans fC
          have fR : (e2 en2 9 r (some (al2 9 r, .inr (3, [.int (iZ (g2 30 r 0)), .int (iZ (g2 31 r 0)), .ref (al2 10 r), .int (iZ (g2 33 r 0)), .int (iZ (g2 34 r 0)), .int (iZ (g2 35 r 0)), .int (iZ (g2 36 r 0)), .long (lZ (9223372036854775807)), .long (lZ (g2 38 r 0))])))) 9 r = some (al2 9 r, .inr (3, [.int (iZ (g2 30 r 0)), .int (iZ (g2 31 r 0)), .ref (al2 10 r), .int (iZ (g2 33 r 0)), .int (iZ (g2 34 r 0)), .int (iZ (g2 35 r 0)), .int (iZ (g2 36 r 0)), .long (lZ (9223372036854775807)), .long (lZ (g2 38 r 0))])) := e2_s _ _ _ _
          obtain ⟨en3, hen3⟩ : ∃ x : en_T, x = (e2 en2 9 r (some (al2 9 r, .inr (3, [.int (iZ (g2 30 r 0)), .int (iZ (g2 31 r 0)), .ref (al2 10 r), .int (iZ (g2 33 r 0)), .int (iZ (g2 34 r 0)), .int (iZ (g2 35 r 0)), .int (iZ (g2 36 r 0)), .long (lZ (9223372036854775807)), .long (lZ (g2 38 r 0))])))) := ⟨_, rfl⟩
          rw [← hen3] at hW
          obtain ⟨g3, hg3⟩ : ∃ x : St, x = wr g2 37 r 9223372036854775807 := ⟨_, rfl⟩
          obtain ⟨al3, hal3⟩ : ∃ x : Al, x = al2 := ⟨_, rfl⟩
          have hE3 : EC dA z g3 al3 en3 := ec_r hE2 (r0 := r) (by omega) (fun t i j h => by rw [hg3]; repeat rw [wr_n (by omega)]) (fun k i h => by rw [hal3]) (fun k i h => by rw [hen3]; exact e2_n (by omega)) (by rw [hen3, hg3, hal3]; refine (e2_s _ _ _ _).trans ?_; simp [wr]) (fun q9 => by rw [hen3, hg3, hal3]; exact bA_e (e2_k (by decide)) (ec_RO hE2 (r := r) (by omega) (by rw [hg3] at q9; simpa [wr] using q9)))
          have hFR3 : FR en2 en3 := fun k i h1 h2 => by rw [hen3]; exact e2_n (by omega)
          have hAS3 : AS g2 g3 al2 al3 := ⟨⟨by rw [hg3]; exact Int.le_refl _, by rw [hg3]; exact Int.le_refl _, by rw [hg3]; exact Int.le_refl _⟩, fun k i h => by rw [hal3]⟩
          have hl : lv_has ls 2 [(0, .ref (al3 0 0)), (1, .ref (al3 9 r))] := by rw [hAS3.2 0 0 (by omega), hAS3.2 9 r (by omega)]; exact hl
          have hFR3 := FR.tr hFR2 hFR3
          have hAS3 := AS.tr hAS2 hAS3
          have hN3 := hAS3.1
          have fX : en3 0 0 = some (al3 0 0, .inr (5, [.int (iZ (g3 0 0 0)), .ref (al3 1 0), .ref (al3 1 1), .ref (al3 3 0), .ref (al3 4 0), .int (iZ (g3 0 5 0)), .ref (al3 11 0), .long (lZ (g3 0 7 0)), .int (iZ (g3 0 8 0)), .int (iZ (g3 0 9 0)), .int (iZ (g3 0 10 0)), .int (iZ (g3 0 11 0)), .int (iZ (g3 0 12 0)), .int (iZ (g3 0 13 0))])) := ec_X hE3
          have fL0 : en3 1 0 = some (al3 1 0, .inr (1, [.int (iZ (g3 3 0 0)), .ref (al3 2 0), .int (iZ (g3 1 0 0))])) := ec_L0 hE3
          have fL1 : en3 1 1 = some (al3 1 1, .inr (1, [.int (iZ (g3 3 1 0)), .ref (al3 2 1), .int (iZ (g3 1 1 0))])) := ec_L1 hE3
          have fQ : en3 3 0 = some (al3 3 0, aR dA (4) (fun j => some (al3 9 j))) := ec_Q hE3
          have fC : en3 4 0 = some (al3 4 0, aI dA (8) (fun j => g3 2 j 0)) := ec_C hE3
          have fR : en3 9 r = some (al3 9 r, .inr (3, [.int (iZ (g3 30 r 0)), .int (iZ (g3 31 r 0)), .ref (al3 10 r), .int (iZ (g3 33 r 0)), .int (iZ (g3 34 r 0)), .int (iZ (g3 35 r 0)), .int (iZ (g3 36 r 0)), .long (lZ (g3 37 r 0)), .long (lZ (g3 38 r 0))])) := ec_R hE3 (by omega)
          refine lv_aload_n hx hb dX3_answer_82 rfl (lv_at hl 1 rfl) ?_
          refine lv_aload_n hx hb dX3_answer_83 rfl (lv_at hl 0 rfl) ?_
          refine g_get (C := RX3) (T := TX3) (N := 14) (ci := 5) (v := .int (iZ (g3 0 10 0))) hx hb hts hi5 hown hK hW fX rfl 10 (by decide) (hts (.fieldLink RX3 114 "LongTransfer" "answerBlock" "I") (by decide +kernel)) (fun _ h9 => h9) rfl dX3_answer_84 ?_
          refine g_put (C := RX1) (T := TX1) (N := 9) (ci := 3) (ty := .int) (v := .int (iZ (g3 0 10 0))) (fs' := [.int (iZ (g3 30 r 0)), .int (iZ (g3 31 r 0)), .ref (al3 10 r), .int (iZ (g3 33 r 0)), .int (iZ (g3 34 r 0)), .int (iZ (g3 0 10 0)), .int (iZ (g3 36 r 0)), .long (lZ (g3 37 r 0)), .long (lZ (g3 38 r 0))]) hx hb hts hi3 tyX1 tyX1_ok nmX1 hown hK hW hS fR rfl 5 (by decide) (hts (.fieldLink RX3 304 "LongTransfer$Receiver" "block" "I") (by decide +kernel)) (fun _ h9 => h9) rfl (by decide +kernel) rfl rfl (Nat.le_of_ble_eq_true rfl) dX3_answer_87 rfl (fun H locs hW hS => ?_)
          have fX : (e2 en3 9 r (some (al3 9 r, .inr (3, [.int (iZ (g3 30 r 0)), .int (iZ (g3 31 r 0)), .ref (al3 10 r), .int (iZ (g3 33 r 0)), .int (iZ (g3 34 r 0)), .int (iZ (g3 0 10 0)), .int (iZ (g3 36 r 0)), .long (lZ (g3 37 r 0)), .long (lZ (g3 38 r 0))])))) 0 0 = some (al3 0 0, .inr (5, [.int (iZ (g3 0 0 0)), .ref (al3 1 0), .ref (al3 1 1), .ref (al3 3 0), .ref (al3 4 0), .int (iZ (g3 0 5 0)), .ref (al3 11 0), .long (lZ (g3 0 7 0)), .int (iZ (g3 0 8 0)), .int (iZ (g3 0 9 0)), .int (iZ (g3 0 10 0)), .int (iZ (g3 0 11 0)), .int (iZ (g3 0 12 0)), .int (iZ (g3 0 13 0))])) := (e2_k (by decide)).trans fX
          have fL0 : (e2 en3 9 r (some (al3 9 r, .inr (3, [.int (iZ (g3 30 r 0)), .int (iZ (g3 31 r 0)), .ref (al3 10 r), .int (iZ (g3 33 r 0)), .int (iZ (g3 34 r 0)), .int (iZ (g3 0 10 0)), .int (iZ (g3 36 r 0)), .long (lZ (g3 37 r 0)), .long (lZ (g3 38 r 0))])))) 1 0 = some (al3 1 0, .inr (1, [.int (iZ (g3 3 0 0)), .ref (al3 2 0), .int (iZ (g3 1 0 0))])) := (e2_k (by decide)).trans fL0
          have fL1 : (e2 en3 9 r (some (al3 9 r, .inr (3, [.int (iZ (g3 30 r 0)), .int (iZ (g3 31 r 0)), .ref (al3 10 r), .int (iZ (g3 33 r 0)), .int (iZ (g3 34 r 0)), .int (iZ (g3 0 10 0)), .int (iZ (g3 36 r 0)), .long (lZ (g3 37 r 0)), .long (lZ (g3 38 r 0))])))) 1 1 = some (al3 1 1, .inr (1, [.int (iZ (g3 3 1 0)), .ref (al3 2 1), .int (iZ (g3 1 1 0))])) := (e2_k (by decide)).trans fL1
          have fQ : (e2 en3 9 r (some (al3 9 r, .inr (3, [.int (iZ (g3 30 r 0)), .int (iZ (g3 31 r 0)), .ref (al3 10 r), .int (iZ (g3 33 r 0)), .int (iZ (g3 34 r 0)), .int (iZ (g3 0 10 0)), .int (iZ (g3 36 r 0)), .long (lZ (g3 37 r 0)), .long (lZ (g3 38 r 0))])))) 3 0 = some (al3 3 0, aR dA (4) (fun j => some (al3 9 j))) := (e2_k (by decide)).trans fQ
          have fC : (e2 en3 9 r (some (al3 9 r, .inr (3, [.int (iZ (g3 30 r 0)), .int (iZ (g3 31 r 0)), .ref (al3 10 r), .int (iZ (g3 33 r 0)), .int (iZ (g3 34 r 0)), .int (iZ (g3 0 10 0)), .int (iZ (g3 36 r 0)), .long (lZ (g3 37 r 0)), .long (lZ (g3 38 r 0))])))) 4 0 = some (al3 4 0, aI dA (8) (fun j => g3 2 j 0)) := (e2_k (by decide)).trans fC
          have fR : (e2 en3 9 r (some (al3 9 r, .inr (3, [.int (iZ (g3 30 r 0)), .int (iZ (g3 31 r 0)), .ref (al3 10 r), .int (iZ (g3 33 r 0)), .int (iZ (g3 34 r 0)), .int (iZ (g3 0 10 0)), .int (iZ (g3 36 r 0)), .long (lZ (g3 37 r 0)), .long (lZ (g3 38 r 0))])))) 9 r = some (al3 9 r, .inr (3, [.int (iZ (g3 30 r 0)), .int (iZ (g3 31 r 0)), .ref (al3 10 r), .int (iZ (g3 33 r 0)), .int (iZ (g3 34 r 0)), .int (iZ (g3 0 10 0)), .int (iZ (g3 36 r 0)), .long (lZ (g3 37 r 0)), .long (lZ (g3 38 r 0))])) := e2_s _ _ _ _
          obtain ⟨en4, hen4⟩ : ∃ x : en_T, x = (e2 en3 9 r (some (al3 9 r, .inr (3, [.int (iZ (g3 30 r 0)), .int (iZ (g3 31 r 0)), .ref (al3 10 r), .int (iZ (g3 33 r 0)), .int (iZ (g3 34 r 0)), .int (iZ (g3 0 10 0)), .int (iZ (g3 36 r 0)), .long (lZ (g3 37 r 0)), .long (lZ (g3 38 r 0))])))) := ⟨_, rfl⟩
          rw [← hen4] at hW
          obtain ⟨g4, hg4⟩ : ∃ x : St, x = wr g3 35 r (g3 0 10 0) := ⟨_, rfl⟩
          obtain ⟨al4, hal4⟩ : ∃ x : Al, x = al3 := ⟨_, rfl⟩
          have hE4 : EC dA z g4 al4 en4 := ec_r hE3 (r0 := r) (by omega) (fun t i j h => by rw [hg4]; repeat rw [wr_n (by omega)]) (fun k i h => by rw [hal4]) (fun k i h => by rw [hen4]; exact e2_n (by omega)) (by rw [hen4, hg4, hal4]; refine (e2_s _ _ _ _).trans ?_; simp [wr]) (fun q9 => by rw [hen4, hg4, hal4]; exact bA_e (e2_k (by decide)) (ec_RO hE3 (r := r) (by omega) (by rw [hg4] at q9; simpa [wr] using q9)))
          have hFR4 : FR en3 en4 := fun k i h1 h2 => by rw [hen4]; exact e2_n (by omega)
          have hAS4 : AS g3 g4 al3 al4 := ⟨⟨by rw [hg4]; exact Int.le_refl _, by rw [hg4]; exact Int.le_refl _, by rw [hg4]; exact Int.le_refl _⟩, fun k i h => by rw [hal4]⟩
          have hl : lv_has ls 2 [(0, .ref (al4 0 0)), (1, .ref (al4 9 r))] := by rw [hAS4.2 0 0 (by omega), hAS4.2 9 r (by omega)]; exact hl
          have hFR4 := FR.tr hFR3 hFR4
          have hAS4 := AS.tr hAS3 hAS4
          have hN4 := hAS4.1
          have fX : en4 0 0 = some (al4 0 0, .inr (5, [.int (iZ (g4 0 0 0)), .ref (al4 1 0), .ref (al4 1 1), .ref (al4 3 0), .ref (al4 4 0), .int (iZ (g4 0 5 0)), .ref (al4 11 0), .long (lZ (g4 0 7 0)), .int (iZ (g4 0 8 0)), .int (iZ (g4 0 9 0)), .int (iZ (g4 0 10 0)), .int (iZ (g4 0 11 0)), .int (iZ (g4 0 12 0)), .int (iZ (g4 0 13 0))])) := ec_X hE4
          have fL0 : en4 1 0 = some (al4 1 0, .inr (1, [.int (iZ (g4 3 0 0)), .ref (al4 2 0), .int (iZ (g4 1 0 0))])) := ec_L0 hE4
          have fL1 : en4 1 1 = some (al4 1 1, .inr (1, [.int (iZ (g4 3 1 0)), .ref (al4 2 1), .int (iZ (g4 1 1 0))])) := ec_L1 hE4
          have fQ : en4 3 0 = some (al4 3 0, aR dA (4) (fun j => some (al4 9 j))) := ec_Q hE4
          have fC : en4 4 0 = some (al4 4 0, aI dA (8) (fun j => g4 2 j 0)) := ec_C hE4
          have fR : en4 9 r = some (al4 9 r, .inr (3, [.int (iZ (g4 30 r 0)), .int (iZ (g4 31 r 0)), .ref (al4 10 r), .int (iZ (g4 33 r 0)), .int (iZ (g4 34 r 0)), .int (iZ (g4 35 r 0)), .int (iZ (g4 36 r 0)), .long (lZ (g4 37 r 0)), .long (lZ (g4 38 r 0))])) := ec_R hE4 (by omega)
          refine lv_aload_n hx hb dX3_answer_90 rfl (lv_at hl 1 rfl) ?_
          refine z_iconst hx hb dX3_answer_91 ?_
          refine g_put (C := RX1) (T := TX1) (N := 9) (ci := 3) (ty := .int) (v := .int (iZ (0))) (fs' := [.int (iZ (g4 30 r 0)), .int (iZ (g4 31 r 0)), .ref (al4 10 r), .int (iZ (g4 33 r 0)), .int (iZ (g4 34 r 0)), .int (iZ (g4 35 r 0)), .int (iZ (0)), .long (lZ (g4 37 r 0)), .long (lZ (g4 38 r 0))]) hx hb hts hi3 tyX1 tyX1_ok nmX1 hown hK hW hS fR rfl 6 (by decide) (hts (.fieldLink RX3 301 "LongTransfer$Receiver" "come" "I") (by decide +kernel)) (fun _ h9 => h9) rfl (by decide +kernel) rfl rfl (Nat.le_of_ble_eq_true rfl) dX3_answer_92 rfl (fun H locs hW hS => ?_)
          have fX : (e2 en4 9 r (some (al4 9 r, .inr (3, [.int (iZ (g4 30 r 0)), .int (iZ (g4 31 r 0)), .ref (al4 10 r), .int (iZ (g4 33 r 0)), .int (iZ (g4 34 r 0)), .int (iZ (g4 35 r 0)), .int (iZ (0)), .long (lZ (g4 37 r 0)), .long (lZ (g4 38 r 0))])))) 0 0 = some (al4 0 0, .inr (5, [.int (iZ (g4 0 0 0)), .ref (al4 1 0), .ref (al4 1 1), .ref (al4 3 0), .ref (al4 4 0), .int (iZ (g4 0 5 0)), .ref (al4 11 0), .long (lZ (g4 0 7 0)), .int (iZ (g4 0 8 0)), .int (iZ (g4 0 9 0)), .int (iZ (g4 0 10 0)), .int (iZ (g4 0 11 0)), .int (iZ (g4 0 12 0)), .int (iZ (g4 0 13 0))])) := (e2_k (by decide)).trans fX
          have fL0 : (e2 en4 9 r (some (al4 9 r, .inr (3, [.int (iZ (g4 30 r 0)), .int (iZ (g4 31 r 0)), .ref (al4 10 r), .int (iZ (g4 33 r 0)), .int (iZ (g4 34 r 0)), .int (iZ (g4 35 r 0)), .int (iZ (0)), .long (lZ (g4 37 r 0)), .long (lZ (g4 38 r 0))])))) 1 0 = some (al4 1 0, .inr (1, [.int (iZ (g4 3 0 0)), .ref (al4 2 0), .int (iZ (g4 1 0 0))])) := (e2_k (by decide)).trans fL0
          have fL1 : (e2 en4 9 r (some (al4 9 r, .inr (3, [.int (iZ (g4 30 r 0)), .int (iZ (g4 31 r 0)), .ref (al4 10 r), .int (iZ (g4 33 r 0)), .int (iZ (g4 34 r 0)), .int (iZ (g4 35 r 0)), .int (iZ (0)), .long (lZ (g4 37 r 0)), .long (lZ (g4 38 r 0))])))) 1 1 = some (al4 1 1, .inr (1, [.int (iZ (g4 3 1 0)), .ref (al4 2 1), .int (iZ (g4 1 1 0))])) := (e2_k (by decide)).trans fL1
          have fQ : (e2 en4 9 r (some (al4 9 r, .inr (3, [.int (iZ (g4 30 r 0)), .int (iZ (g4 31 r 0)), .ref (al4 10 r), .int (iZ (g4 33 r 0)), .int (iZ (g4 34 r 0)), .int (iZ (g4 35 r 0)), .int (iZ (0)), .long (lZ (g4 37 r 0)), .long (lZ (g4 38 r 0))])))) 3 0 = some (al4 3 0, aR dA (4) (fun j => some (al4 9 j))) := (e2_k (by decide)).trans fQ
          have fC : (e2 en4 9 r (some (al4 9 r, .inr (3, [.int (iZ (g4 30 r 0)), .int (iZ (g4 31 r 0)), .ref (al4 10 r), .int (iZ (g4 33 r 0)), .int (iZ (g4 34 r 0)), .int (iZ (g4 35 r 0)), .int (iZ (0)), .long (lZ (g4 37 r 0)), .long (lZ (g4 38 r 0))])))) 4 0 = some (al4 4 0, aI dA (8) (fun j => g4 2 j 0)) := (e2_k (by decide)).trans fC
          have fR : (e2 en4 9 r (some (al4 9 r, .inr (3, [.int (iZ (g4 30 r 0)), .int (iZ (g4 31 r 0)), .ref (al4 10 r), .int (iZ (g4 33 r 0)), .int (iZ (g4 34 r 0)), .int (iZ (g4 35 r 0)), .int (iZ (0)), .long (lZ (g4 37 r 0)), .long (lZ (g4 38 r 0))])))) 9 r = some (al4 9 r, .inr (3, [.int (iZ (g4 30 r 0)), .int (iZ (g4 31 r 0)), .ref (al4 10 r), .int (iZ (g4 33 r 0)), .int (iZ (g4 34 r 0)), .int (iZ (g4 35 r 0)), .int (iZ (0)), .long (lZ (g4 37 r 0)), .long (lZ (g4 38 r 0))])) := e2_s _ _ _ _
          obtain ⟨en5, hen5⟩ : ∃ x : en_T, x = (e2 en4 9 r (some (al4 9 r, .inr (3, [.int (iZ (g4 30 r 0)), .int (iZ (g4 31 r 0)), .ref (al4 10 r), .int (iZ (g4 33 r 0)), .int (iZ (g4 34 r 0)), .int (iZ (g4 35 r 0)), .int (iZ (0)), .long (lZ (g4 37 r 0)), .long (lZ (g4 38 r 0))])))) := ⟨_, rfl⟩
          rw [← hen5] at hW
          obtain ⟨g5, hg5⟩ : ∃ x : St, x = wr g4 36 r 0 := ⟨_, rfl⟩
          obtain ⟨al5, hal5⟩ : ∃ x : Al, x = al4 := ⟨_, rfl⟩
          have hE5 : EC dA z g5 al5 en5 := ec_r hE4 (r0 := r) (by omega) (fun t i j h => by rw [hg5]; repeat rw [wr_n (by omega)]) (fun k i h => by rw [hal5]) (fun k i h => by rw [hen5]; exact e2_n (by omega)) (by rw [hen5, hg5, hal5]; refine (e2_s _ _ _ _).trans ?_; simp [wr]) (fun q9 => by rw [hen5, hg5, hal5]; exact bA_e (e2_k (by decide)) (ec_RO hE4 (r := r) (by omega) (by rw [hg5] at q9; simpa [wr] using q9)))
          have hFR5 : FR en4 en5 := fun k i h1 h2 => by rw [hen5]; exact e2_n (by omega)
          have hAS5 : AS g4 g5 al4 al5 := ⟨⟨by rw [hg5]; exact Int.le_refl _, by rw [hg5]; exact Int.le_refl _, by rw [hg5]; exact Int.le_refl _⟩, fun k i h => by rw [hal5]⟩
          have hl : lv_has ls 2 [(0, .ref (al5 0 0)), (1, .ref (al5 9 r))] := by rw [hAS5.2 0 0 (by omega), hAS5.2 9 r (by omega)]; exact hl
          have hFR5 := FR.tr hFR4 hFR5
          have hAS5 := AS.tr hAS4 hAS5
          have hN5 := hAS5.1
          have fX : en5 0 0 = some (al5 0 0, .inr (5, [.int (iZ (g5 0 0 0)), .ref (al5 1 0), .ref (al5 1 1), .ref (al5 3 0), .ref (al5 4 0), .int (iZ (g5 0 5 0)), .ref (al5 11 0), .long (lZ (g5 0 7 0)), .int (iZ (g5 0 8 0)), .int (iZ (g5 0 9 0)), .int (iZ (g5 0 10 0)), .int (iZ (g5 0 11 0)), .int (iZ (g5 0 12 0)), .int (iZ (g5 0 13 0))])) := ec_X hE5
          have fL0 : en5 1 0 = some (al5 1 0, .inr (1, [.int (iZ (g5 3 0 0)), .ref (al5 2 0), .int (iZ (g5 1 0 0))])) := ec_L0 hE5
          have fL1 : en5 1 1 = some (al5 1 1, .inr (1, [.int (iZ (g5 3 1 0)), .ref (al5 2 1), .int (iZ (g5 1 1 0))])) := ec_L1 hE5
          have fQ : en5 3 0 = some (al5 3 0, aR dA (4) (fun j => some (al5 9 j))) := ec_Q hE5
          have fC : en5 4 0 = some (al5 4 0, aI dA (8) (fun j => g5 2 j 0)) := ec_C hE5
          have fR : en5 9 r = some (al5 9 r, .inr (3, [.int (iZ (g5 30 r 0)), .int (iZ (g5 31 r 0)), .ref (al5 10 r), .int (iZ (g5 33 r 0)), .int (iZ (g5 34 r 0)), .int (iZ (g5 35 r 0)), .int (iZ (g5 36 r 0)), .long (lZ (g5 37 r 0)), .long (lZ (g5 38 r 0))])) := ec_R hE5 (by omega)
          refine W.widen (k := kC (sAns g r) - kC g) (n := kS (sAns g r) - kS g) (show 0 + (kC (sMkF g r (g 31 r 0) (g 0 9 0) (g 0 10 0) (g 0 11 0)) - kC g) ≤ kC (sAns g r) - kC g by omega) (show 0 + (kS (sMkF g r (g 31 r 0) (g 0 9 0) (g 0 10 0) (g 0 11 0)) - kS g) ≤ kS (sAns g r) - kS g by omega) ?_
          have hgz : g5 = sAns g r := by subst hg5; subst hg4; subst hg3; subst hg2; subst hg1; unfold sAns sAns0; first | rw [if_pos hfull] | (rw [if_neg hfull]; first | rw [if_pos c_30] | (rw [if_neg c_30]; unfold sAns2; first | rw [if_pos c_57] | rw [if_neg c_57]))
          rw [hgz] at hE5 hAS5
          exact W.vret hx hb hr (fun t ht hw => ⟨⟨(en5, al5), rfl, ⟨hE5, hFR5, hAS5⟩, by show Wd _ _ _ t.heap; rw [ht]; exact hW⟩, hS.F ht⟩) hS.2.2 dX3_answer_95
        · refine lv_aload_n hx hb dX3_answer_60 rfl (lv_at hl 1 rfl) ?_
          refine lv_aload_n hx hb dX3_answer_61 rfl (lv_at hl 0 rfl) ?_
          refine g_get (C := RX3) (T := TX3) (N := 14) (ci := 5) (v := .long (lZ (g2 0 7 0))) hx hb hts hi5 hown hK hW fX rfl 7 (by decide) (hts (.fieldLink RX3 120 "LongTransfer" "now" "J") (by decide +kernel)) (fun _ h9 => h9) rfl dX3_answer_62 ?_
          refine z_ldc2 hx hb 500 hown (hts (.constantLong RX3 310 (500)) (by decide +kernel)) (by decide) dX3_answer_65 ?_
          refine z_ladd hx hb dX3_answer_68 ?_
          refine g_put (C := RX1) (T := TX1) (N := 9) (ci := 3) (ty := .long) (v := .long (lZ ((g2 0 7 0) + 500))) (fs' := [.int (iZ (g2 30 r 0)), .int (iZ (g2 31 r 0)), .ref (al2 10 r), .int (iZ (g2 33 r 0)), .int (iZ (g2 34 r 0)), .int (iZ (g2 35 r 0)), .int (iZ (g2 36 r 0)), .long (lZ ((g2 0 7 0) + 500)), .long (lZ (g2 38 r 0))]) hx hb hts hi3 tyX1 tyX1_ok nmX1 hown hK hW hS fR rfl 7 (by decide) (hts (.fieldLink RX3 242 "LongTransfer$Receiver" "answerAt" "J") (by decide +kernel)) (fun _ h9 => h9) rfl (by decide +kernel) rfl rfl (Nat.le_of_ble_eq_true rfl) dX3_answer_69 rfl (fun H locs hW hS => ?_)
          have fX : (e2 en2 9 r (some (al2 9 r, .inr (3, [.int (iZ (g2 30 r 0)), .int (iZ (g2 31 r 0)), .ref (al2 10 r), .int (iZ (g2 33 r 0)), .int (iZ (g2 34 r 0)), .int (iZ (g2 35 r 0)), .int (iZ (g2 36 r 0)), .long (lZ ((g2 0 7 0) + 500)), .long (lZ (g2 38 r 0))])))) 0 0 = some (al2 0 0, .inr (5, [.int (iZ (g2 0 0 0)), .ref (al2 1 0), .ref (al2 1 1), .ref (al2 3 0), .ref (al2 4 0), .int (iZ (g2 0 5 0)), .ref (al2 11 0), .long (lZ (g2 0 7 0)), .int (iZ (g2 0 8 0)), .int (iZ (g2 0 9 0)), .int (iZ (g2 0 10 0)), .int (iZ (g2 0 11 0)), .int (iZ (g2 0 12 0)), .int (iZ (g2 0 13 0))])) := (e2_k (by decide)).trans fX
          have fL0 : (e2 en2 9 r (some (al2 9 r, .inr (3, [.int (iZ (g2 30 r 0)), .int (iZ (g2 31 r 0)), .ref (al2 10 r), .int (iZ (g2 33 r 0)), .int (iZ (g2 34 r 0)), .int (iZ (g2 35 r 0)), .int (iZ (g2 36 r 0)), .long (lZ ((g2 0 7 0) + 500)), .long (lZ (g2 38 r 0))])))) 1 0 = some (al2 1 0, .inr (1, [.int (iZ (g2 3 0 0)), .ref (al2 2 0), .int (iZ (g2 1 0 0))])) := (e2_k (by decide)).trans fL0
          have fL1 : (e2 en2 9 r (some (al2 9 r, .inr (3, [.int (iZ (g2 30 r 0)), .int (iZ (g2 31 r 0)), .ref (al2 10 r), .int (iZ (g2 33 r 0)), .int (iZ (g2 34 r 0)), .int (iZ (g2 35 r 0)), .int (iZ (g2 36 r 0)), .long (lZ ((g2 0 7 0) + 500)), .long (lZ (g2 38 r 0))])))) 1 1 = some (al2 1 1, .inr (1, [.int (iZ (g2 3 1 0)), .ref (al2 2 1), .int (iZ (g2 1 1 0))])) := (e2_k (by decide)).trans fL1
          have fQ : (e2 en2 9 r (some (al2 9 r, .inr (3, [.int (iZ (g2 30 r 0)), .int (iZ (g2 31 r 0)), .ref (al2 10 r), .int (iZ (g2 33 r 0)), .int (iZ (g2 34 r 0)), .int (iZ (g2 35 r 0)), .int (iZ (g2 36 r 0)), .long (lZ ((g2 0 7 0) + 500)), .long (lZ (g2 38 r 0))])))) 3 0 = some (al2 3 0, aR dA (4) (fun j => some (al2 9 j))) := (e2_k (by decide)).trans fQ
          have fC : (e2 en2 9 r (some (al2 9 r, .inr (3, [.int (iZ (g2 30 r 0)), .int (iZ (g2 31 r 0)), .ref (al2 10 r), .int (iZ (g2 33 r 0)), .int (iZ (g2 34 r 0)), .int (iZ (g2 35 r 0)), .int (iZ (g2 36 r 0)), .long (lZ ((g2 0 7 0) + 500)), .long (lZ (g2 38 r 0))])))) 4 0 = some (al2 4 0, aI dA (8) (fun j => g2 2 j 0)) := (e2_k (by decide)).trans fC
          have fR : (e2 en2 9 r (some (al2 9 r, .inr (3, [.int (iZ (g2 30 r 0)), .int (iZ (g2 31 r 0)), .ref (al2 10 r), .int (iZ (g2 33 r 0)), .int (iZ (g2 34 r 0)), .int (iZ (g2 35 r 0)), .int (iZ (g2 36 r 0)), .long (lZ ((g2 0 7 0) + 500)), .long (lZ (g2 38 r 0))])))) 9 r = some (al2 9 r, .inr (3, [.int (iZ (g2 30 r 0)), .int (iZ (g2 31 r 0)), .ref (al2 10 r), .int (iZ (g2 33 r 0)), .int (iZ (g2 34 r 0)), .int (iZ (g2 35 r 0)), .int (iZ (g2 36 r 0)), .long (lZ ((g2 0 7 0) + 500)), .long (lZ (g2 38 r 0))])) := e2_s _ _ _ _
          obtain ⟨en6, hen6⟩ : ∃ x : en_T, x = (e2 en2 9 r (some (al2 9 r, .inr (3, [.int (iZ (g2 30 r 0)), .int (iZ (g2 31 r 0)), .ref (al2 10 r), .int (iZ (g2 33 r 0)), .int (iZ (g2 34 r 0)), .int (iZ (g2 35 r 0)), .int (iZ (g2 36 r 0)), .long (lZ ((g2 0 7 0) + 500)), .long (lZ (g2 38 r 0))])))) := ⟨_, rfl⟩
          rw [← hen6] at hW
          obtain ⟨g6, hg6⟩ : ∃ x : St, x = wr g2 37 r (g2 0 7 0 + 500) := ⟨_, rfl⟩
          obtain ⟨al6, hal6⟩ : ∃ x : Al, x = al2 := ⟨_, rfl⟩
          have hE6 : EC dA z g6 al6 en6 := ec_r hE2 (r0 := r) (by omega) (fun t i j h => by rw [hg6]; repeat rw [wr_n (by omega)]) (fun k i h => by rw [hal6]) (fun k i h => by rw [hen6]; exact e2_n (by omega)) (by rw [hen6, hg6, hal6]; refine (e2_s _ _ _ _).trans ?_; simp [wr]) (fun q9 => by rw [hen6, hg6, hal6]; exact bA_e (e2_k (by decide)) (ec_RO hE2 (r := r) (by omega) (by rw [hg6] at q9; simpa [wr] using q9)))
          have hFR6 : FR en2 en6 := fun k i h1 h2 => by rw [hen6]; exact e2_n (by omega)
          have hAS6 : AS g2 g6 al2 al6 := ⟨⟨by rw [hg6]; exact Int.le_refl _, by rw [hg6]; exact Int.le_refl _, by rw [hg6]; exact Int.le_refl _⟩, fun k i h => by rw [hal6]⟩
          have hl : lv_has ls 2 [(0, .ref (al6 0 0)), (1, .ref (al6 9 r))] := by rw [hAS6.2 0 0 (by omega), hAS6.2 9 r (by omega)]; exact hl
          have hFR6 := FR.tr hFR2 hFR6
          have hAS6 := AS.tr hAS2 hAS6
          have hN6 := hAS6.1
          have fX : en6 0 0 = some (al6 0 0, .inr (5, [.int (iZ (g6 0 0 0)), .ref (al6 1 0), .ref (al6 1 1), .ref (al6 3 0), .ref (al6 4 0), .int (iZ (g6 0 5 0)), .ref (al6 11 0), .long (lZ (g6 0 7 0)), .int (iZ (g6 0 8 0)), .int (iZ (g6 0 9 0)), .int (iZ (g6 0 10 0)), .int (iZ (g6 0 11 0)), .int (iZ (g6 0 12 0)), .int (iZ (g6 0 13 0))])) := ec_X hE6
          have fL0 : en6 1 0 = some (al6 1 0, .inr (1, [.int (iZ (g6 3 0 0)), .ref (al6 2 0), .int (iZ (g6 1 0 0))])) := ec_L0 hE6
          have fL1 : en6 1 1 = some (al6 1 1, .inr (1, [.int (iZ (g6 3 1 0)), .ref (al6 2 1), .int (iZ (g6 1 1 0))])) := ec_L1 hE6
          have fQ : en6 3 0 = some (al6 3 0, aR dA (4) (fun j => some (al6 9 j))) := ec_Q hE6
          have fC : en6 4 0 = some (al6 4 0, aI dA (8) (fun j => g6 2 j 0)) := ec_C hE6
          have fR : en6 9 r = some (al6 9 r, .inr (3, [.int (iZ (g6 30 r 0)), .int (iZ (g6 31 r 0)), .ref (al6 10 r), .int (iZ (g6 33 r 0)), .int (iZ (g6 34 r 0)), .int (iZ (g6 35 r 0)), .int (iZ (g6 36 r 0)), .long (lZ (g6 37 r 0)), .long (lZ (g6 38 r 0))])) := ec_R hE6 (by omega)
          refine lv_goto (tgt := 95) hx hb dX3_answer_72 (by decide) ?_
          refine W.widen (k := kC (sAns g r) - kC g) (n := kS (sAns g r) - kS g) (show 0 + (kC (sMkF g r (g 31 r 0) (g 0 9 0) (g 0 10 0) (g 0 11 0)) - kC g) ≤ kC (sAns g r) - kC g by omega) (show 0 + (kS (sMkF g r (g 31 r 0) (g 0 9 0) (g 0 10 0) (g 0 11 0)) - kS g) ≤ kS (sAns g r) - kS g by omega) ?_
          have hgz : g6 = sAns g r := by subst hg6; subst hg2; subst hg1; unfold sAns sAns0; first | rw [if_pos hfull] | (rw [if_neg hfull]; first | rw [if_pos c_30] | (rw [if_neg c_30]; unfold sAns2; first | rw [if_pos c_57] | rw [if_neg c_57]))
          rw [hgz] at hE6 hAS6
          exact W.vret hx hb hr (fun t ht hw => ⟨⟨(en6, al6), rfl, ⟨hE6, hFR6, hAS6⟩, by show Wd _ _ _ t.heap; rw [ht]; exact hW⟩, hS.F ht⟩) hS.2.2 dX3_answer_95
      · refine lv_aload_n hx hb dX3_answer_33 rfl (lv_at hl 0 rfl) ?_
        refine lv_aload_n hx hb dX3_answer_34 rfl (lv_at hl 1 rfl) ?_
        refine z_iconst hx hb dX3_answer_35 ?_
        refine va_callv (va_runV (As := [.ref (al1 9 r), .int (iZ (4))]) (rest := []) ⟨hx, hb, hml, hown, hts⟩ (c_X3_endReceiver l D dA z en1 g1 al1 r 4 (by omega) (by omega) (by omega) (by omega) hE1 hI1) (cwV 2 hts gX3_answer_X3_endReceiver rfl rfl rfl (by decide +kernel) ⟨Nat.le_of_ble_eq_true rfl, Nat.le_of_ble_eq_true rfl⟩) ⟨gBl, gRecv hK hW (ci := 5) rfl fX, gPre _ hg hS hW⟩ rfl rfl hl.1 rfl (lv_room (Nat.le_of_ble_eq_true rfl)) dX3_answer_36 ⟨(show 0 + (kC (sMkF g r (g 31 r 0) (g 0 9 0) (g 0 10 0) (g 0 11 0)) - kC g) + 0 ≤ kC (sAns g r) - kC g by omega), (show 0 + (kS (sMkF g r (g 31 r 0) (g 0 9 0) (g 0 10 0) (g 0 11 0)) - kS g) + 0 ≤ kS (sAns g r) - kS g by omega)⟩) hS (fun _ _ h => h) (fun _ h => h) (fun u9 t9 H locs ht9 hvm9 hw9 hB9 hz9 hk9 hS => ?_)
        obtain ⟨en7, al7⟩ := u9
        obtain ⟨hE7, hFR7, hAS7⟩ := hw9
        have hW : Wd D (z 0) en7 H := by rw [← ht9]; exact hB9
        obtain ⟨g7, hg7⟩ : ∃ x : St, x = sEndR g1 r 4 := ⟨_, rfl⟩
        rw [← hg7] at hE7 hAS7
        dsimp only at hE7 hFR7 hAS7
        have hl : lv_has ls 2 [(0, .ref (al7 0 0)), (1, .ref (al7 9 r))] := by rw [hAS7.2 0 0 (by omega), hAS7.2 9 r (by omega)]; exact hl
        have hFR7 := FR.tr hFR1 hFR7
        have hAS7 := AS.tr hAS1 hAS7
        have hN7 := hAS7.1
        have fX : en7 0 0 = some (al7 0 0, .inr (5, [.int (iZ (g7 0 0 0)), .ref (al7 1 0), .ref (al7 1 1), .ref (al7 3 0), .ref (al7 4 0), .int (iZ (g7 0 5 0)), .ref (al7 11 0), .long (lZ (g7 0 7 0)), .int (iZ (g7 0 8 0)), .int (iZ (g7 0 9 0)), .int (iZ (g7 0 10 0)), .int (iZ (g7 0 11 0)), .int (iZ (g7 0 12 0)), .int (iZ (g7 0 13 0))])) := ec_X hE7
        have fL0 : en7 1 0 = some (al7 1 0, .inr (1, [.int (iZ (g7 3 0 0)), .ref (al7 2 0), .int (iZ (g7 1 0 0))])) := ec_L0 hE7
        have fL1 : en7 1 1 = some (al7 1 1, .inr (1, [.int (iZ (g7 3 1 0)), .ref (al7 2 1), .int (iZ (g7 1 1 0))])) := ec_L1 hE7
        have fQ : en7 3 0 = some (al7 3 0, aR dA (4) (fun j => some (al7 9 j))) := ec_Q hE7
        have fC : en7 4 0 = some (al7 4 0, aI dA (8) (fun j => g7 2 j 0)) := ec_C hE7
        have fR : en7 9 r = some (al7 9 r, .inr (3, [.int (iZ (g7 30 r 0)), .int (iZ (g7 31 r 0)), .ref (al7 10 r), .int (iZ (g7 33 r 0)), .int (iZ (g7 34 r 0)), .int (iZ (g7 35 r 0)), .int (iZ (g7 36 r 0)), .long (lZ (g7 37 r 0)), .long (lZ (g7 38 r 0))])) := ec_R hE7 (by omega)
        refine W.widen (k := kC (sAns g r) - kC g) (n := kS (sAns g r) - kS g) (show 0 + (kC (sMkF g r (g 31 r 0) (g 0 9 0) (g 0 10 0) (g 0 11 0)) - kC g) + 0 ≤ kC (sAns g r) - kC g by omega) (show 0 + (kS (sMkF g r (g 31 r 0) (g 0 9 0) (g 0 10 0) (g 0 11 0)) - kS g) + 0 ≤ kS (sAns g r) - kS g by omega) ?_
        have hgz : g7 = sAns g r := by subst hg7; subst hg1; unfold sAns sAns0; first | rw [if_pos hfull] | (rw [if_neg hfull]; first | rw [if_pos c_30] | (rw [if_neg c_30]; unfold sAns2; first | rw [if_pos c_57] | rw [if_neg c_57]))
        rw [hgz] at hE7 hAS7
        exact W.vret hx hb hr (fun t ht hw => ⟨⟨(en7, al7), rfl, ⟨hE7, hFR7, hAS7⟩, by show Wd _ _ _ t.heap; rw [ht]; exact hW⟩, hS.F ht⟩) hS.2.2 dX3_answer_39
    · exact absurd c_21 (by omega)
