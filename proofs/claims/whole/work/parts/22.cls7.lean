set_option maxHeartbeats 4000000 in
set_option maxRecDepth 100000 in
theorem c_X3_takeWait (l : Launch) (D : va_G) (dA : Nat → ClassId) (z : Nat → Nat) (en : en_T) (g : St) (al : Al) (mm : Int) (h0 : 1 ≤ mm) (h1 : mm ≤ g 1 0 0) (hw15 : g 15 mm 0 ≤ 100) (hE : EC dA z g al en) (hI : IB g) : Met l yX3_takeWait wsX3_takeWait ({ frames := 2, cells := 0, slots := 0, locals := 60 }) (gP D dA z en [.ref (al 0 0), .ref (al 5 mm)]) (va_Qv (fun u : en_T × Al => CP dA z (sTkW g mm) g al en u) (fun u t9 => Wd D (z 0) u.1 t9.heap) (fun q => z 0 ≤ q)) (0) (0) (fun q => z 0 ≤ q) := by
  refine gMet (own := RX3) (cc := cX3_takeWait) (maxL := 2) (ret := none) (by decide) rfl rfl (Nat.le_of_ble_eq_true rfl) ?_
  intro p e s m below meth c hx hb hml hown hts hr hlocks hnm hg hW ls hl
  have hK := hg.1
  have hS : va_S (fun q => z 0 ≤ q) s.heap s.heap [] := va_S.rf
  have hi4 : ∀ w ∈ u_ws RX2 TX2 9, w ∈ wsX3_takeWait := by decide +kernel
  have hi5 : ∀ w ∈ u_ws RX3 TX3 14, w ∈ wsX3_takeWait := by decide +kernel
  have hl : lv_has ls 2 [(0, .ref (al 0 0)), (1, .ref (al 5 mm))] := hl
  obtain ⟨hIX, hIL, hIS, hIF, hIR, hIG⟩ := id hI
  unfold IL at hIL
  unfold IX at hIX
  have hISm := hIS mm (by omega) (by omega)
  unfold IS at hISm
  have fX : en 0 0 = some (al 0 0, .inr (5, [.int (iZ (g 0 0 0)), .ref (al 1 0), .ref (al 1 1), .ref (al 3 0), .ref (al 4 0), .int (iZ (g 0 5 0)), .ref (al 11 0), .long (lZ (g 0 7 0)), .int (iZ (g 0 8 0)), .int (iZ (g 0 9 0)), .int (iZ (g 0 10 0)), .int (iZ (g 0 11 0)), .int (iZ (g 0 12 0)), .int (iZ (g 0 13 0))])) := ec_X hE
  have fL0 : en 1 0 = some (al 1 0, .inr (1, [.int (iZ (g 3 0 0)), .ref (al 2 0), .int (iZ (g 1 0 0))])) := ec_L0 hE
  have fL1 : en 1 1 = some (al 1 1, .inr (1, [.int (iZ (g 3 1 0)), .ref (al 2 1), .int (iZ (g 1 1 0))])) := ec_L1 hE
  have fQ : en 3 0 = some (al 3 0, aR dA (4) (fun j => some (al 9 j))) := ec_Q hE
  have fC : en 4 0 = some (al 4 0, aI dA (8) (fun j => g 2 j 0)) := ec_C hE
  have fS : en 5 mm = some (al 5 mm, .inr (4, [.int (iZ (mm)), .ref (al 6 mm), .int (iZ (g 12 mm 0)), .int (iZ (g 13 mm 0)), .int (iZ (g 14 mm 0)), .int (iZ (g 15 mm 0)), .int (iZ (g 16 mm 0)), .int (iZ (g 17 mm 0)), .long (lZ (g 18 mm 0))])) := ec_S hE (by omega)
  have fO : en 6 mm = some (al 6 mm, aB dA (g 11 mm 0) (g 19 mm)) := ec_SO hE (by omega)
  refine lv_aload_n hx hb dX3_takeWait_0 rfl (lv_at hl 1 rfl) ?_
  refine lv_dup hx hb dX3_takeWait_1 rfl ?_
  refine g_get (C := RX2) (T := TX2) (N := 9) (ci := 4) (v := .int (iZ (g 15 mm 0))) hx hb hts hi4 hown hK hW fS rfl 5 (by decide) (hts (.fieldLink RX3 265 "LongTransfer$Sender" "waits" "I") (by decide +kernel)) (fun _ h9 => h9) rfl dX3_takeWait_2 ?_
  refine z_iconst hx hb dX3_takeWait_5 ?_
  refine z_iadd hx hb dX3_takeWait_6 ?_
  refine g_put (C := RX2) (T := TX2) (N := 9) (ci := 4) (ty := .int) (v := .int (iZ ((g 15 mm 0) + 1))) (fs' := [.int (iZ (mm)), .ref (al 6 mm), .int (iZ (g 12 mm 0)), .int (iZ (g 13 mm 0)), .int (iZ (g 14 mm 0)), .int (iZ ((g 15 mm 0) + 1)), .int (iZ (g 16 mm 0)), .int (iZ (g 17 mm 0)), .long (lZ (g 18 mm 0))]) hx hb hts hi4 tyX2 tyX2_ok nmX2 hown hK hW hS fS rfl 5 (by decide) (hts (.fieldLink RX3 265 "LongTransfer$Sender" "waits" "I") (by decide +kernel)) (fun _ h9 => h9) rfl (by decide +kernel) rfl rfl (Nat.le_of_ble_eq_true rfl) dX3_takeWait_7 rfl (fun H locs hW hS => ?_)
  have fX : (e2 en 5 mm (some (al 5 mm, .inr (4, [.int (iZ (mm)), .ref (al 6 mm), .int (iZ (g 12 mm 0)), .int (iZ (g 13 mm 0)), .int (iZ (g 14 mm 0)), .int (iZ ((g 15 mm 0) + 1)), .int (iZ (g 16 mm 0)), .int (iZ (g 17 mm 0)), .long (lZ (g 18 mm 0))])))) 0 0 = some (al 0 0, .inr (5, [.int (iZ (g 0 0 0)), .ref (al 1 0), .ref (al 1 1), .ref (al 3 0), .ref (al 4 0), .int (iZ (g 0 5 0)), .ref (al 11 0), .long (lZ (g 0 7 0)), .int (iZ (g 0 8 0)), .int (iZ (g 0 9 0)), .int (iZ (g 0 10 0)), .int (iZ (g 0 11 0)), .int (iZ (g 0 12 0)), .int (iZ (g 0 13 0))])) := (e2_k (by decide)).trans fX
  have fL0 : (e2 en 5 mm (some (al 5 mm, .inr (4, [.int (iZ (mm)), .ref (al 6 mm), .int (iZ (g 12 mm 0)), .int (iZ (g 13 mm 0)), .int (iZ (g 14 mm 0)), .int (iZ ((g 15 mm 0) + 1)), .int (iZ (g 16 mm 0)), .int (iZ (g 17 mm 0)), .long (lZ (g 18 mm 0))])))) 1 0 = some (al 1 0, .inr (1, [.int (iZ (g 3 0 0)), .ref (al 2 0), .int (iZ (g 1 0 0))])) := (e2_k (by decide)).trans fL0
  have fL1 : (e2 en 5 mm (some (al 5 mm, .inr (4, [.int (iZ (mm)), .ref (al 6 mm), .int (iZ (g 12 mm 0)), .int (iZ (g 13 mm 0)), .int (iZ (g 14 mm 0)), .int (iZ ((g 15 mm 0) + 1)), .int (iZ (g 16 mm 0)), .int (iZ (g 17 mm 0)), .long (lZ (g 18 mm 0))])))) 1 1 = some (al 1 1, .inr (1, [.int (iZ (g 3 1 0)), .ref (al 2 1), .int (iZ (g 1 1 0))])) := (e2_k (by decide)).trans fL1
  have fQ : (e2 en 5 mm (some (al 5 mm, .inr (4, [.int (iZ (mm)), .ref (al 6 mm), .int (iZ (g 12 mm 0)), .int (iZ (g 13 mm 0)), .int (iZ (g 14 mm 0)), .int (iZ ((g 15 mm 0) + 1)), .int (iZ (g 16 mm 0)), .int (iZ (g 17 mm 0)), .long (lZ (g 18 mm 0))])))) 3 0 = some (al 3 0, aR dA (4) (fun j => some (al 9 j))) := (e2_k (by decide)).trans fQ
  have fC : (e2 en 5 mm (some (al 5 mm, .inr (4, [.int (iZ (mm)), .ref (al 6 mm), .int (iZ (g 12 mm 0)), .int (iZ (g 13 mm 0)), .int (iZ (g 14 mm 0)), .int (iZ ((g 15 mm 0) + 1)), .int (iZ (g 16 mm 0)), .int (iZ (g 17 mm 0)), .long (lZ (g 18 mm 0))])))) 4 0 = some (al 4 0, aI dA (8) (fun j => g 2 j 0)) := (e2_k (by decide)).trans fC
  have fO : (e2 en 5 mm (some (al 5 mm, .inr (4, [.int (iZ (mm)), .ref (al 6 mm), .int (iZ (g 12 mm 0)), .int (iZ (g 13 mm 0)), .int (iZ (g 14 mm 0)), .int (iZ ((g 15 mm 0) + 1)), .int (iZ (g 16 mm 0)), .int (iZ (g 17 mm 0)), .long (lZ (g 18 mm 0))])))) 6 mm = some (al 6 mm, aB dA (g 11 mm 0) (g 19 mm)) := (e2_k (by decide)).trans fO
  have fS : (e2 en 5 mm (some (al 5 mm, .inr (4, [.int (iZ (mm)), .ref (al 6 mm), .int (iZ (g 12 mm 0)), .int (iZ (g 13 mm 0)), .int (iZ (g 14 mm 0)), .int (iZ ((g 15 mm 0) + 1)), .int (iZ (g 16 mm 0)), .int (iZ (g 17 mm 0)), .long (lZ (g 18 mm 0))])))) 5 mm = some (al 5 mm, .inr (4, [.int (iZ (mm)), .ref (al 6 mm), .int (iZ (g 12 mm 0)), .int (iZ (g 13 mm 0)), .int (iZ (g 14 mm 0)), .int (iZ ((g 15 mm 0) + 1)), .int (iZ (g 16 mm 0)), .int (iZ (g 17 mm 0)), .long (lZ (g 18 mm 0))])) := e2_s _ _ _ _
  obtain ⟨en1v, hen1v⟩ : ∃ x : en_T, x = (e2 en 5 mm (some (al 5 mm, .inr (4, [.int (iZ (mm)), .ref (al 6 mm), .int (iZ (g 12 mm 0)), .int (iZ (g 13 mm 0)), .int (iZ (g 14 mm 0)), .int (iZ ((g 15 mm 0) + 1)), .int (iZ (g 16 mm 0)), .int (iZ (g 17 mm 0)), .long (lZ (g 18 mm 0))])))) := ⟨_, rfl⟩
  rw [← hen1v] at hW
  obtain ⟨g1v, hg1v⟩ : ∃ x : St, x = sWt g mm := ⟨_, rfl⟩
  have hE1v : EC dA z g1v al en1v := ec_s hE (m := mm) (by omega) (fun t i j h => by rw [hg1v]; simp only [sWt]; repeat rw [wr_n (by omega)]) (fun _ _ _ => rfl) (fun k i h => by rw [hen1v]; exact e2_n (by omega)) (by rw [hen1v, hg1v]; refine (e2_s _ _ _ _).trans ?_; simp [sWt, wr])
  have hFR1v : FR en en1v := fun k i h1 h2 => by rw [hen1v]; exact e2_n (by omega)
  have hAS1v : AS g g1v al al := AS_e (by rw [hg1v]; rfl) (by rw [hg1v]; rfl) (by rw [hg1v]; rfl)
  have hN1v := hAS1v.1
  have fX : en1v 0 0 = some (al 0 0, .inr (5, [.int (iZ (g1v 0 0 0)), .ref (al 1 0), .ref (al 1 1), .ref (al 3 0), .ref (al 4 0), .int (iZ (g1v 0 5 0)), .ref (al 11 0), .long (lZ (g1v 0 7 0)), .int (iZ (g1v 0 8 0)), .int (iZ (g1v 0 9 0)), .int (iZ (g1v 0 10 0)), .int (iZ (g1v 0 11 0)), .int (iZ (g1v 0 12 0)), .int (iZ (g1v 0 13 0))])) := ec_X hE1v
  have fL0 : en1v 1 0 = some (al 1 0, .inr (1, [.int (iZ (g1v 3 0 0)), .ref (al 2 0), .int (iZ (g1v 1 0 0))])) := ec_L0 hE1v
  have fL1 : en1v 1 1 = some (al 1 1, .inr (1, [.int (iZ (g1v 3 1 0)), .ref (al 2 1), .int (iZ (g1v 1 1 0))])) := ec_L1 hE1v
  have fQ : en1v 3 0 = some (al 3 0, aR dA (4) (fun j => some (al 9 j))) := ec_Q hE1v
  have fC : en1v 4 0 = some (al 4 0, aI dA (8) (fun j => g1v 2 j 0)) := ec_C hE1v
  have fS : en1v 5 mm = some (al 5 mm, .inr (4, [.int (iZ (mm)), .ref (al 6 mm), .int (iZ (g1v 12 mm 0)), .int (iZ (g1v 13 mm 0)), .int (iZ (g1v 14 mm 0)), .int (iZ (g1v 15 mm 0)), .int (iZ (g1v 16 mm 0)), .int (iZ (g1v 17 mm 0)), .long (lZ (g1v 18 mm 0))])) := ec_S hE1v (by omega)
  have fO : en1v 6 mm = some (al 6 mm, aB dA (g1v 11 mm 0) (g1v 19 mm)) := ec_SO hE1v (by omega)
  have hI1 : IB g1v := by rw [hg1v]; exact ib_wt hI (by omega) (by omega) hw15
  have hS1 := hI1.2.2.1 mm (by omega) (by omega)
  unfold IS at hS1
  have hX1 := hI1.1
  unfold IX at hX1
  refine lv_aload_n hx hb dX3_takeWait_10 rfl (lv_at hl 1 rfl) ?_
  refine g_get (C := RX2) (T := TX2) (N := 9) (ci := 4) (v := .int (iZ (g1v 15 mm 0))) hx hb hts hi4 hown hK hW fS rfl 5 (by decide) (hts (.fieldLink RX3 265 "LongTransfer$Sender" "waits" "I") (by decide +kernel)) (fun _ h9 => h9) rfl dX3_takeWait_11 ?_
  refine lv_aload_n hx hb dX3_takeWait_14 rfl (lv_at hl 0 rfl) ?_
  refine g_get (C := RX3) (T := TX3) (N := 14) (ci := 5) (v := .int (iZ (g1v 0 12 0))) hx hb hts hi5 hown hK hW fX rfl 12 (by decide) (hts (.fieldLink RX3 40 "LongTransfer" "waitLimit" "I") (by decide +kernel)) (fun _ h9 => h9) rfl dX3_takeWait_15 ?_
  refine z_icmp_le (tgt := 30) hx hb dX3_takeWait_18 (by decide) (by omega) (by omega) (fun c_18 => ?_) (fun c_18 => ?_)
  · refine lv_aload_n hx hb dX3_takeWait_30 rfl (lv_at hl 1 rfl) ?_
    refine lv_aload_n hx hb dX3_takeWait_31 rfl (lv_at hl 0 rfl) ?_
    refine g_get (C := RX3) (T := TX3) (N := 14) (ci := 5) (v := .long (lZ (g1v 0 7 0))) hx hb hts hi5 hown hK hW fX rfl 7 (by decide) (hts (.fieldLink RX3 120 "LongTransfer" "now" "J") (by decide +kernel)) (fun _ h9 => h9) rfl dX3_takeWait_32 ?_
    refine va_callv (va_runV (As := [.long (lZ (g1v 0 7 0))]) (rest := []) ⟨hx, hb, hml, hown, hts⟩ (c_X2_awaitFlow l D dA z en1v 5 mm (al 5 mm) (al 6 mm) mm (g1v 12 mm 0) (g1v 13 mm 0) (g1v 14 mm 0) (g1v 15 mm 0) (g1v 16 mm 0) (g1v 17 mm 0) (g1v 18 mm 0) (g1v 0 7 0) fS) (cwV 1 hts gX3_takeWait_X2_awaitFlow rfl rfl rfl (by decide +kernel) ⟨Nat.le_of_ble_eq_true rfl, Nat.le_of_ble_eq_true rfl⟩) ⟨gBl, gRecv hK hW (ci := 4) rfl fS, gPre _ hg hS hW⟩ rfl rfl hl.1 rfl (lv_room (Nat.le_of_ble_eq_true rfl)) dX3_takeWait_35 ⟨(show 0 + 0 ≤ 0 by omega), (show 0 + 0 ≤ 0 by omega)⟩) hS (fun _ _ h => h) (fun _ h => h) (fun u9 t9 H locs ht9 hvm9 hw9 hB9 hz9 hk9 hS => ?_)
    have hW : Wd D (z 0) (e2 en1v 5 mm (some (al 5 mm, .inr (4, [.int (iZ (mm)), .ref (al 6 mm), .int (iZ (1)), .int (iZ (g1v 13 mm 0)), .int (iZ (g1v 14 mm 0)), .int (iZ (g1v 15 mm 0)), .int (iZ (g1v 16 mm 0)), .int (iZ (g1v 17 mm 0)), .long (lZ (g1v 0 7 0 + 1000))])))) H := by rw [← ht9]; exact hB9
    have fX : (e2 en1v 5 mm (some (al 5 mm, .inr (4, [.int (iZ (mm)), .ref (al 6 mm), .int (iZ (1)), .int (iZ (g1v 13 mm 0)), .int (iZ (g1v 14 mm 0)), .int (iZ (g1v 15 mm 0)), .int (iZ (g1v 16 mm 0)), .int (iZ (g1v 17 mm 0)), .long (lZ (g1v 0 7 0 + 1000))])))) 0 0 = some (al 0 0, .inr (5, [.int (iZ (g1v 0 0 0)), .ref (al 1 0), .ref (al 1 1), .ref (al 3 0), .ref (al 4 0), .int (iZ (g1v 0 5 0)), .ref (al 11 0), .long (lZ (g1v 0 7 0)), .int (iZ (g1v 0 8 0)), .int (iZ (g1v 0 9 0)), .int (iZ (g1v 0 10 0)), .int (iZ (g1v 0 11 0)), .int (iZ (g1v 0 12 0)), .int (iZ (g1v 0 13 0))])) := (e2_k (by decide)).trans fX
    have fL0 : (e2 en1v 5 mm (some (al 5 mm, .inr (4, [.int (iZ (mm)), .ref (al 6 mm), .int (iZ (1)), .int (iZ (g1v 13 mm 0)), .int (iZ (g1v 14 mm 0)), .int (iZ (g1v 15 mm 0)), .int (iZ (g1v 16 mm 0)), .int (iZ (g1v 17 mm 0)), .long (lZ (g1v 0 7 0 + 1000))])))) 1 0 = some (al 1 0, .inr (1, [.int (iZ (g1v 3 0 0)), .ref (al 2 0), .int (iZ (g1v 1 0 0))])) := (e2_k (by decide)).trans fL0
    have fL1 : (e2 en1v 5 mm (some (al 5 mm, .inr (4, [.int (iZ (mm)), .ref (al 6 mm), .int (iZ (1)), .int (iZ (g1v 13 mm 0)), .int (iZ (g1v 14 mm 0)), .int (iZ (g1v 15 mm 0)), .int (iZ (g1v 16 mm 0)), .int (iZ (g1v 17 mm 0)), .long (lZ (g1v 0 7 0 + 1000))])))) 1 1 = some (al 1 1, .inr (1, [.int (iZ (g1v 3 1 0)), .ref (al 2 1), .int (iZ (g1v 1 1 0))])) := (e2_k (by decide)).trans fL1
    have fQ : (e2 en1v 5 mm (some (al 5 mm, .inr (4, [.int (iZ (mm)), .ref (al 6 mm), .int (iZ (1)), .int (iZ (g1v 13 mm 0)), .int (iZ (g1v 14 mm 0)), .int (iZ (g1v 15 mm 0)), .int (iZ (g1v 16 mm 0)), .int (iZ (g1v 17 mm 0)), .long (lZ (g1v 0 7 0 + 1000))])))) 3 0 = some (al 3 0, aR dA (4) (fun j => some (al 9 j))) := (e2_k (by decide)).trans fQ
    have fC : (e2 en1v 5 mm (some (al 5 mm, .inr (4, [.int (iZ (mm)), .ref (al 6 mm), .int (iZ (1)), .int (iZ (g1v 13 mm 0)), .int (iZ (g1v 14 mm 0)), .int (iZ (g1v 15 mm 0)), .int (iZ (g1v 16 mm 0)), .int (iZ (g1v 17 mm 0)), .long (lZ (g1v 0 7 0 + 1000))])))) 4 0 = some (al 4 0, aI dA (8) (fun j => g1v 2 j 0)) := (e2_k (by decide)).trans fC
    have fO : (e2 en1v 5 mm (some (al 5 mm, .inr (4, [.int (iZ (mm)), .ref (al 6 mm), .int (iZ (1)), .int (iZ (g1v 13 mm 0)), .int (iZ (g1v 14 mm 0)), .int (iZ (g1v 15 mm 0)), .int (iZ (g1v 16 mm 0)), .int (iZ (g1v 17 mm 0)), .long (lZ (g1v 0 7 0 + 1000))])))) 6 mm = some (al 6 mm, aB dA (g1v 11 mm 0) (g1v 19 mm)) := (e2_k (by decide)).trans fO
    have fS : (e2 en1v 5 mm (some (al 5 mm, .inr (4, [.int (iZ (mm)), .ref (al 6 mm), .int (iZ (1)), .int (iZ (g1v 13 mm 0)), .int (iZ (g1v 14 mm 0)), .int (iZ (g1v 15 mm 0)), .int (iZ (g1v 16 mm 0)), .int (iZ (g1v 17 mm 0)), .long (lZ (g1v 0 7 0 + 1000))])))) 5 mm = some (al 5 mm, .inr (4, [.int (iZ (mm)), .ref (al 6 mm), .int (iZ (1)), .int (iZ (g1v 13 mm 0)), .int (iZ (g1v 14 mm 0)), .int (iZ (g1v 15 mm 0)), .int (iZ (g1v 16 mm 0)), .int (iZ (g1v 17 mm 0)), .long (lZ (g1v 0 7 0 + 1000))])) := e2_s _ _ _ _
    obtain ⟨en2v, hen2v⟩ : ∃ x : en_T, x = (e2 en1v 5 mm (some (al 5 mm, .inr (4, [.int (iZ (mm)), .ref (al 6 mm), .int (iZ (1)), .int (iZ (g1v 13 mm 0)), .int (iZ (g1v 14 mm 0)), .int (iZ (g1v 15 mm 0)), .int (iZ (g1v 16 mm 0)), .int (iZ (g1v 17 mm 0)), .long (lZ (g1v 0 7 0 + 1000))])))) := ⟨_, rfl⟩
    rw [← hen2v] at hW
    obtain ⟨g2v, hg2v⟩ : ∃ x : St, x = sAwait g1v mm := ⟨_, rfl⟩
    have hE2v : EC dA z g2v al en2v := ec_s hE1v (m := mm) (by omega) (fun t i j h => by rw [hg2v]; simp only [sAwait]; repeat rw [wr_n (by omega)]) (fun _ _ _ => rfl) (fun k i h => by rw [hen2v]; exact e2_n (by omega)) (by rw [hen2v, hg2v]; refine (e2_s _ _ _ _).trans ?_; simp [sAwait, wr])
    have hFR2v : FR en1v en2v := fun k i h1 h2 => by rw [hen2v]; exact e2_n (by omega)
    have hAS2v : AS g1v g2v al al := AS_e (by rw [hg2v]; rfl) (by rw [hg2v]; rfl) (by rw [hg2v]; rfl)
    have hFR2v := FR.tr hFR1v hFR2v
    have hAS2v := AS.tr hAS1v hAS2v
    have hN2v := hAS2v.1
    have fX : en2v 0 0 = some (al 0 0, .inr (5, [.int (iZ (g2v 0 0 0)), .ref (al 1 0), .ref (al 1 1), .ref (al 3 0), .ref (al 4 0), .int (iZ (g2v 0 5 0)), .ref (al 11 0), .long (lZ (g2v 0 7 0)), .int (iZ (g2v 0 8 0)), .int (iZ (g2v 0 9 0)), .int (iZ (g2v 0 10 0)), .int (iZ (g2v 0 11 0)), .int (iZ (g2v 0 12 0)), .int (iZ (g2v 0 13 0))])) := ec_X hE2v
    have fL0 : en2v 1 0 = some (al 1 0, .inr (1, [.int (iZ (g2v 3 0 0)), .ref (al 2 0), .int (iZ (g2v 1 0 0))])) := ec_L0 hE2v
    have fL1 : en2v 1 1 = some (al 1 1, .inr (1, [.int (iZ (g2v 3 1 0)), .ref (al 2 1), .int (iZ (g2v 1 1 0))])) := ec_L1 hE2v
    have fQ : en2v 3 0 = some (al 3 0, aR dA (4) (fun j => some (al 9 j))) := ec_Q hE2v
    have fC : en2v 4 0 = some (al 4 0, aI dA (8) (fun j => g2v 2 j 0)) := ec_C hE2v
    have fS : en2v 5 mm = some (al 5 mm, .inr (4, [.int (iZ (mm)), .ref (al 6 mm), .int (iZ (g2v 12 mm 0)), .int (iZ (g2v 13 mm 0)), .int (iZ (g2v 14 mm 0)), .int (iZ (g2v 15 mm 0)), .int (iZ (g2v 16 mm 0)), .int (iZ (g2v 17 mm 0)), .long (lZ (g2v 18 mm 0))])) := ec_S hE2v (by omega)
    have fO : en2v 6 mm = some (al 6 mm, aB dA (g2v 11 mm 0) (g2v 19 mm)) := ec_SO hE2v (by omega)
    have hgz : g2v = sTkW g mm := by subst hg2v; subst hg1v; unfold sTkW; first | rw [if_pos c_18] | rw [if_neg c_18] | rw [if_pos (by omega)] | rw [if_neg (by omega)]
    rw [hgz] at hE2v hAS2v
    exact W.vret hx hb hr (fun t ht hw => ⟨⟨(en2v, al), rfl, ⟨hE2v, hFR2v, hAS2v⟩, by show Wd _ _ _ t.heap; rw [ht]; exact hW⟩, hS.F ht⟩) hS.2.2 dX3_takeWait_38
  · refine lv_aload_n hx hb dX3_takeWait_21 rfl (lv_at hl 0 rfl) ?_
    refine lv_aload_n hx hb dX3_takeWait_22 rfl (lv_at hl 1 rfl) ?_
    refine z_iconst hx hb dX3_takeWait_23 ?_
    refine va_callv (va_runV (As := [.ref (al 5 mm), .int (iZ (5))]) (rest := []) ⟨hx, hb, hml, hown, hts⟩ (c_X3_endSender l D dA z en1v g1v al mm 5 (by omega) (by omega) (by omega) (by omega) hE1v hI1) (cwV 2 hts gX3_takeWait_X3_endSender rfl rfl rfl (by decide +kernel) ⟨Nat.le_of_ble_eq_true rfl, Nat.le_of_ble_eq_true rfl⟩) ⟨gBl, gRecv hK hW (ci := 5) rfl fX, gPre _ hg hS hW⟩ rfl rfl hl.1 rfl (lv_room (Nat.le_of_ble_eq_true rfl)) dX3_takeWait_24 ⟨(show 0 + 0 ≤ 0 by omega), (show 0 + 0 ≤ 0 by omega)⟩) hS (fun _ _ h => h) (fun _ h => h) (fun u9 t9 H locs ht9 hvm9 hw9 hB9 hz9 hk9 hS => ?_)
    obtain ⟨en3v, al3v⟩ := u9
    obtain ⟨hE3v, hFR3v, hAS3v⟩ := hw9
    have hW : Wd D (z 0) en3v H := by rw [← ht9]; exact hB9
    obtain ⟨g3v, hg3v⟩ : ∃ x : St, x = sEndS g1v mm 5 := ⟨_, rfl⟩
    rw [← hg3v] at hE3v hAS3v
    dsimp only at hE3v hFR3v hAS3v
    have hl : lv_has ls 2 [(0, .ref (al3v 0 0)), (1, .ref (al3v 5 mm))] := by rw [hAS3v.2 0 0 (by omega), hAS3v.2 5 mm (by omega)]; exact hl
    have hFR3v := FR.tr hFR1v hFR3v
    have hAS3v := AS.tr hAS1v hAS3v
    have hN3v := hAS3v.1
    have fX : en3v 0 0 = some (al3v 0 0, .inr (5, [.int (iZ (g3v 0 0 0)), .ref (al3v 1 0), .ref (al3v 1 1), .ref (al3v 3 0), .ref (al3v 4 0), .int (iZ (g3v 0 5 0)), .ref (al3v 11 0), .long (lZ (g3v 0 7 0)), .int (iZ (g3v 0 8 0)), .int (iZ (g3v 0 9 0)), .int (iZ (g3v 0 10 0)), .int (iZ (g3v 0 11 0)), .int (iZ (g3v 0 12 0)), .int (iZ (g3v 0 13 0))])) := ec_X hE3v
    have fL0 : en3v 1 0 = some (al3v 1 0, .inr (1, [.int (iZ (g3v 3 0 0)), .ref (al3v 2 0), .int (iZ (g3v 1 0 0))])) := ec_L0 hE3v
    have fL1 : en3v 1 1 = some (al3v 1 1, .inr (1, [.int (iZ (g3v 3 1 0)), .ref (al3v 2 1), .int (iZ (g3v 1 1 0))])) := ec_L1 hE3v
    have fQ : en3v 3 0 = some (al3v 3 0, aR dA (4) (fun j => some (al3v 9 j))) := ec_Q hE3v
    have fC : en3v 4 0 = some (al3v 4 0, aI dA (8) (fun j => g3v 2 j 0)) := ec_C hE3v
    have fS : en3v 5 mm = some (al3v 5 mm, .inr (4, [.int (iZ (mm)), .ref (al3v 6 mm), .int (iZ (g3v 12 mm 0)), .int (iZ (g3v 13 mm 0)), .int (iZ (g3v 14 mm 0)), .int (iZ (g3v 15 mm 0)), .int (iZ (g3v 16 mm 0)), .int (iZ (g3v 17 mm 0)), .long (lZ (g3v 18 mm 0))])) := ec_S hE3v (by omega)
    have fO : en3v 6 mm = some (al3v 6 mm, aB dA (g3v 11 mm 0) (g3v 19 mm)) := ec_SO hE3v (by omega)
    refine lv_goto (tgt := 38) hx hb dX3_takeWait_27 (by decide) ?_
    have hgz : g3v = sTkW g mm := by subst hg3v; subst hg1v; unfold sTkW; first | rw [if_pos c_18] | rw [if_neg c_18] | rw [if_pos (by omega)] | rw [if_neg (by omega)]
    rw [hgz] at hE3v hAS3v
    exact W.vret hx hb hr (fun t ht hw => ⟨⟨(en3v, al3v), rfl, ⟨hE3v, hFR3v, hAS3v⟩, by show Wd _ _ _ t.heap; rw [ht]; exact hW⟩, hS.F ht⟩) hS.2.2 dX3_takeWait_38
set_option maxHeartbeats 4000000 in
set_option maxRecDepth 100000 in
theorem c_X3_ticksOf (l : Launch) (D : va_G) (dA : Nat → ClassId) (z : Nat → Nat) (en : en_T) (n : Int) (hn : iB n) : Met l yX3_ticksOf wsX3_ticksOf ({ frames := 0, cells := 0, slots := 0, locals := 0 }) (gP D dA z en [.int (iZ (n))]) (va_Qi (fun (r : Int32) (_ : Unit) => r = iZ (tkO n)) (fun _ t9 => Wd D (z 0) en t9.heap) (fun q => z 0 ≤ q)) (0) (0) (fun q => z 0 ≤ q) := by
  refine gMet (own := RX3) (cc := cX3_ticksOf) (maxL := 1) (ret := (some .int)) (by decide) rfl rfl (Nat.le_of_ble_eq_true rfl) ?_
  intro p e s m below meth c hx hb hml hown hts hr hlocks hnm hg hW ls hl
  have hK := hg.1
  have hS : va_S (fun q => z 0 ≤ q) s.heap s.heap [] := va_S.rf
  have hl : lv_has ls 1 [(0, .int (iZ (n)))] := hl
  refine lv_iload_n hx hb dX3_ticksOf_0 rfl (lv_at hl 0 rfl) ?_
  refine z_if_lt (tgt := 12) hx hb dX3_ticksOf_1 (by decide) (by omega) (fun c_1 => ?_) (fun c_1 => ?_)
  · refine lv_iload_n hx hb dX3_ticksOf_12 rfl (lv_at hl 0 rfl) ?_
    refine z_sipush hx hb dX3_ticksOf_13 (by decide) ?_
    refine z_icmp_lt (tgt := 30) hx hb dX3_ticksOf_16 (by decide) (by omega) (by omega) (fun c_16 => ?_) (fun c_16 => ?_)
    · refine z_bipush hx hb dX3_ticksOf_30 (by decide) ?_
      exact W.iret hx hb hr (fun t ht hw => ⟨⟨_, (), rfl, congrArg iZ (by unfold tkO; first | exact (if_pos (by omega)).symm | exact ((if_neg (by omega)).trans (if_pos (by omega))).symm | exact ((if_neg (by omega)).trans (if_neg (by omega))).symm), by show Wd _ _ _ t.heap; rw [ht]; exact hW⟩, hS.F ht⟩) hS.2.2 dX3_ticksOf_32
    · refine lv_iload_n hx hb dX3_ticksOf_19 rfl (lv_at hl 0 rfl) ?_
      refine z_sipush hx hb dX3_ticksOf_20 (by decide) ?_
      refine z_icmp_gt (tgt := 30) hx hb dX3_ticksOf_23 (by decide) (by omega) (by omega) (fun c_23 => ?_) (fun c_23 => ?_)
      · refine z_bipush hx hb dX3_ticksOf_30 (by decide) ?_
        exact W.iret hx hb hr (fun t ht hw => ⟨⟨_, (), rfl, congrArg iZ (by unfold tkO; first | exact (if_pos (by omega)).symm | exact ((if_neg (by omega)).trans (if_pos (by omega))).symm | exact ((if_neg (by omega)).trans (if_neg (by omega))).symm), by show Wd _ _ _ t.heap; rw [ht]; exact hW⟩, hS.F ht⟩) hS.2.2 dX3_ticksOf_32
      · refine z_iconst hx hb dX3_ticksOf_26 ?_
        refine lv_goto (tgt := 32) hx hb dX3_ticksOf_27 (by decide) ?_
        exact W.iret hx hb hr (fun t ht hw => ⟨⟨_, (), rfl, congrArg iZ (by unfold tkO; first | exact (if_pos (by omega)).symm | exact ((if_neg (by omega)).trans (if_pos (by omega))).symm | exact ((if_neg (by omega)).trans (if_neg (by omega))).symm), by show Wd _ _ _ t.heap; rw [ht]; exact hW⟩, hS.F ht⟩) hS.2.2 dX3_ticksOf_32
  · refine lv_iload_n hx hb dX3_ticksOf_4 rfl (lv_at hl 0 rfl) ?_
    refine z_bipush hx hb dX3_ticksOf_5 (by decide) ?_
    refine z_icmp_gt (tgt := 12) hx hb dX3_ticksOf_7 (by decide) (by omega) (by omega) (fun c_7 => ?_) (fun c_7 => ?_)
    · refine lv_iload_n hx hb dX3_ticksOf_12 rfl (lv_at hl 0 rfl) ?_
      refine z_sipush hx hb dX3_ticksOf_13 (by decide) ?_
      refine z_icmp_lt (tgt := 30) hx hb dX3_ticksOf_16 (by decide) (by omega) (by omega) (fun c_16 => ?_) (fun c_16 => ?_)
      · refine z_bipush hx hb dX3_ticksOf_30 (by decide) ?_
        exact W.iret hx hb hr (fun t ht hw => ⟨⟨_, (), rfl, congrArg iZ (by unfold tkO; first | exact (if_pos (by omega)).symm | exact ((if_neg (by omega)).trans (if_pos (by omega))).symm | exact ((if_neg (by omega)).trans (if_neg (by omega))).symm), by show Wd _ _ _ t.heap; rw [ht]; exact hW⟩, hS.F ht⟩) hS.2.2 dX3_ticksOf_32
      · refine lv_iload_n hx hb dX3_ticksOf_19 rfl (lv_at hl 0 rfl) ?_
        refine z_sipush hx hb dX3_ticksOf_20 (by decide) ?_
        refine z_icmp_gt (tgt := 30) hx hb dX3_ticksOf_23 (by decide) (by omega) (by omega) (fun c_23 => ?_) (fun c_23 => ?_)
        · refine z_bipush hx hb dX3_ticksOf_30 (by decide) ?_
          exact W.iret hx hb hr (fun t ht hw => ⟨⟨_, (), rfl, congrArg iZ (by unfold tkO; first | exact (if_pos (by omega)).symm | exact ((if_neg (by omega)).trans (if_pos (by omega))).symm | exact ((if_neg (by omega)).trans (if_neg (by omega))).symm), by show Wd _ _ _ t.heap; rw [ht]; exact hW⟩, hS.F ht⟩) hS.2.2 dX3_ticksOf_32
        · refine z_iconst hx hb dX3_ticksOf_26 ?_
          refine lv_goto (tgt := 32) hx hb dX3_ticksOf_27 (by decide) ?_
          exact W.iret hx hb hr (fun t ht hw => ⟨⟨_, (), rfl, congrArg iZ (by unfold tkO; first | exact (if_pos (by omega)).symm | exact ((if_neg (by omega)).trans (if_pos (by omega))).symm | exact ((if_neg (by omega)).trans (if_neg (by omega))).symm), by show Wd _ _ _ t.heap; rw [ht]; exact hW⟩, hS.F ht⟩) hS.2.2 dX3_ticksOf_32
    · refine lv_iload_n hx hb dX3_ticksOf_10 rfl (lv_at hl 0 rfl) ?_
      exact W.iret hx hb hr (fun t ht hw => ⟨⟨_, (), rfl, congrArg iZ (by unfold tkO; first | exact (if_pos (by omega)).symm | exact ((if_neg (by omega)).trans (if_pos (by omega))).symm | exact ((if_neg (by omega)).trans (if_neg (by omega))).symm), by show Wd _ _ _ t.heap; rw [ht]; exact hW⟩, hS.F ht⟩) hS.2.2 dX3_ticksOf_11
set_option maxHeartbeats 4000000 in
set_option maxRecDepth 100000 in
theorem c_X3_takeFlow (l : Launch) (D : va_G) (dA : Nat → ClassId) (z : Nat → Nat) (en : en_T) (g : St) (al : Al) (mm ff : Int) (h0 : 1 ≤ mm) (h1 : mm ≤ g 1 0 0) (hf0 : 1 ≤ ff) (hf1 : ff ≤ g 1 1 0) (hw15 : g 15 mm 0 ≤ 100) (hE : EC dA z g al en) (hI : IB g) : Met l yX3_takeFlow wsX3_takeFlow ({ frames := 3, cells := 0, slots := 0, locals := 85 }) (gP D dA z en [.ref (al 0 0), .ref (al 5 mm), .ref (al 7 ff)]) (va_Qv (fun u : en_T × Al => CP dA z (sTkF g mm ff) g al en u) (fun u t9 => Wd D (z 0) u.1 t9.heap) (fun q => z 0 ≤ q)) (0) (0) (fun q => z 0 ≤ q) := by
  refine gMet (own := RX3) (cc := cX3_takeFlow) (maxL := 3) (ret := none) (by decide) rfl rfl (Nat.le_of_ble_eq_true rfl) ?_
  intro p e s m below meth c hx hb hml hown hts hr hlocks hnm hg hW ls hl
  have hK := hg.1
  have hS : va_S (fun q => z 0 ≤ q) s.heap s.heap [] := va_S.rf
  have hi2 : ∀ w ∈ u_ws RX0 TX0 8, w ∈ wsX3_takeFlow := by decide +kernel
  have hi5 : ∀ w ∈ u_ws RX3 TX3 14, w ∈ wsX3_takeFlow := by decide +kernel
  have hl : lv_has ls 3 [(0, .ref (al 0 0)), (1, .ref (al 5 mm)), (2, .ref (al 7 ff))] := hl
  obtain ⟨hIX, hIL, hIS, hIF, hIR, hIG⟩ := id hI
  unfold IL at hIL
  unfold IX at hIX
  have hISm := hIS mm (by omega) (by omega)
  unfold IS at hISm
  have hIFf := hIF ff (by omega) (by omega)
  unfold IF at hIFf
  have fX : en 0 0 = some (al 0 0, .inr (5, [.int (iZ (g 0 0 0)), .ref (al 1 0), .ref (al 1 1), .ref (al 3 0), .ref (al 4 0), .int (iZ (g 0 5 0)), .ref (al 11 0), .long (lZ (g 0 7 0)), .int (iZ (g 0 8 0)), .int (iZ (g 0 9 0)), .int (iZ (g 0 10 0)), .int (iZ (g 0 11 0)), .int (iZ (g 0 12 0)), .int (iZ (g 0 13 0))])) := ec_X hE
  have fL0 : en 1 0 = some (al 1 0, .inr (1, [.int (iZ (g 3 0 0)), .ref (al 2 0), .int (iZ (g 1 0 0))])) := ec_L0 hE
  have fL1 : en 1 1 = some (al 1 1, .inr (1, [.int (iZ (g 3 1 0)), .ref (al 2 1), .int (iZ (g 1 1 0))])) := ec_L1 hE
  have fQ : en 3 0 = some (al 3 0, aR dA (4) (fun j => some (al 9 j))) := ec_Q hE
  have fC : en 4 0 = some (al 4 0, aI dA (8) (fun j => g 2 j 0)) := ec_C hE
  have fS : en 5 mm = some (al 5 mm, .inr (4, [.int (iZ (mm)), .ref (al 6 mm), .int (iZ (g 12 mm 0)), .int (iZ (g 13 mm 0)), .int (iZ (g 14 mm 0)), .int (iZ (g 15 mm 0)), .int (iZ (g 16 mm 0)), .int (iZ (g 17 mm 0)), .long (lZ (g 18 mm 0))])) := ec_S hE (by omega)
  have fO : en 6 mm = some (al 6 mm, aB dA (g 11 mm 0) (g 19 mm)) := ec_SO hE (by omega)
  have fF : en 7 ff = some (al 7 ff, .inr (2, [.int (iZ (g 20 ff 0)), .int (iZ (g 21 ff 0)), .int (iZ (g 22 ff 0)), .int (iZ (g 23 ff 0)), .int (iZ (g 24 ff 0)), .long (lZ (g 25 ff 0)), .ref (al 8 ff), .int (iZ (g 27 ff 0))])) := ec_F hE (by omega)
  have fFO : bA dA z en 8 ff (al 8 ff) (g 26 ff 0) (g 28 ff) := ec_FO hE (by omega)
  refine lv_aload_n hx hb dX3_takeFlow_0 rfl (lv_at hl 2 rfl) ?_
  refine g_get (C := RX0) (T := TX0) (N := 8) (ci := 2) (v := .int (iZ (g 22 ff 0))) hx hb hts hi2 hown hK hW fF rfl 2 (by decide) (hts (.fieldLink RX3 88 "LongTransfer$Frame" "number" "I") (by decide +kernel)) (fun _ h9 => h9) rfl dX3_takeFlow_1 ?_
  by_cases hk0 : g 22 ff 0 = 0
  · refine lv_lookup (off := 28) (tgt := 32) hx hb dX3_takeFlow_4 (by decide) (by rw [iZ_T (by omega)]; rw [hk0]; rfl) (by decide) ?_
    refine lv_aload_n hx hb dX3_takeFlow_32 rfl (lv_at hl 1 rfl) ?_
    refine lv_aload_n hx hb dX3_takeFlow_33 rfl (lv_at hl 2 rfl) ?_
    refine g_get (C := RX0) (T := TX0) (N := 8) (ci := 2) (v := .int (iZ (g 23 ff 0))) hx hb hts hi2 hown hK hW fF rfl 3 (by decide) (hts (.fieldLink RX3 91 "LongTransfer$Frame" "size" "I") (by decide +kernel)) (fun _ h9 => h9) rfl dX3_takeFlow_34 ?_
    refine lv_aload_n hx hb dX3_takeFlow_37 rfl (lv_at hl 2 rfl) ?_
    refine g_get (C := RX0) (T := TX0) (N := 8) (ci := 2) (v := .int (iZ (g 24 ff 0))) hx hb hts hi2 hown hK hW fF rfl 4 (by decide) (hts (.fieldLink RX3 97 "LongTransfer$Frame" "separation" "I") (by decide +kernel)) (fun _ h9 => h9) rfl dX3_takeFlow_38 ?_
    refine va_calli (va_runS (As := [.int (iZ (g 24 ff 0))]) (rest := [.int (iZ (g 23 ff 0)), .ref (al 5 mm)]) ⟨hx, hb, hml, hown, hts⟩ (c_X3_ticksOf l D dA z en (g 24 ff 0) (by omega)) (va_cwS 1 hts gX3_takeFlow_X3_ticksOf rfl rfl rfl (by decide +kernel) ⟨Nat.le_of_ble_eq_true rfl, Nat.le_of_ble_eq_true rfl⟩) ⟨gBl, gPre _ hg hS hW⟩ rfl rfl hl.1 rfl (lv_room (Nat.le_of_ble_eq_true rfl)) dX3_takeFlow_41 ⟨(show 0 + 0 ≤ 0 by omega), (show 0 + 0 ≤ 0 by omega)⟩) hS (fun _ _ h => h) (fun _ h => h) (fun r9 u9 t9 H locs ht9 hvm9 hw9 hB9 hz9 hk9 hS => ?_)
    have hW : Wd D (z 0) en H := by rw [← ht9]; exact hB9
    subst hw9
    refine lv_aload_n hx hb dX3_takeFlow_44 rfl (lv_at hl 0 rfl) ?_
    refine g_get (C := RX3) (T := TX3) (N := 14) (ci := 5) (v := .long (lZ (g 0 7 0))) hx hb hts hi5 hown hK hW fX rfl 7 (by decide) (hts (.fieldLink RX3 120 "LongTransfer" "now" "J") (by decide +kernel)) (fun _ h9 => h9) rfl dX3_takeFlow_45 ?_
    refine va_callv (va_runV (As := [.int (iZ (g 23 ff 0)), .int (iZ (tkO (g 24 ff 0))), .long (lZ (g 0 7 0))]) (rest := []) ⟨hx, hb, hml, hown, hts⟩ (c_X2_goOn l D dA z en 5 mm (al 5 mm) (al 6 mm) mm (g 12 mm 0) (g 13 mm 0) (g 14 mm 0) (g 15 mm 0) (g 16 mm 0) (g 17 mm 0) (g 18 mm 0) (g 23 ff 0) (tkO (g 24 ff 0)) (g 0 7 0) fS) (cwV 3 hts gX3_takeFlow_X2_goOn rfl rfl rfl (by decide +kernel) ⟨Nat.le_of_ble_eq_true rfl, Nat.le_of_ble_eq_true rfl⟩) ⟨gBl, gRecv hK hW (ci := 4) rfl fS, gPre _ hg hS hW⟩ rfl rfl hl.1 rfl (lv_room (Nat.le_of_ble_eq_true rfl)) dX3_takeFlow_48 ⟨(show 0 + 0 + 0 ≤ 0 by omega), (show 0 + 0 + 0 ≤ 0 by omega)⟩) hS (fun _ _ h => h) (fun _ h => h) (fun u9 t9 H locs ht9 hvm9 hw9 hB9 hz9 hk9 hS => ?_)
    have hW : Wd D (z 0) (e2 en 5 mm (some (al 5 mm, .inr (4, [.int (iZ (mm)), .ref (al 6 mm), .int (iZ (2)), .int (iZ (g 13 mm 0)), .int (iZ (g 14 mm 0)), .int (iZ (g 15 mm 0)), .int (iZ (g 23 ff 0)), .int (iZ (tkO (g 24 ff 0))), .long (lZ (g 0 7 0))])))) H := by rw [← ht9]; exact hB9
    have fX : (e2 en 5 mm (some (al 5 mm, .inr (4, [.int (iZ (mm)), .ref (al 6 mm), .int (iZ (2)), .int (iZ (g 13 mm 0)), .int (iZ (g 14 mm 0)), .int (iZ (g 15 mm 0)), .int (iZ (g 23 ff 0)), .int (iZ (tkO (g 24 ff 0))), .long (lZ (g 0 7 0))])))) 0 0 = some (al 0 0, .inr (5, [.int (iZ (g 0 0 0)), .ref (al 1 0), .ref (al 1 1), .ref (al 3 0), .ref (al 4 0), .int (iZ (g 0 5 0)), .ref (al 11 0), .long (lZ (g 0 7 0)), .int (iZ (g 0 8 0)), .int (iZ (g 0 9 0)), .int (iZ (g 0 10 0)), .int (iZ (g 0 11 0)), .int (iZ (g 0 12 0)), .int (iZ (g 0 13 0))])) := (e2_k (by decide)).trans fX
    have fL0 : (e2 en 5 mm (some (al 5 mm, .inr (4, [.int (iZ (mm)), .ref (al 6 mm), .int (iZ (2)), .int (iZ (g 13 mm 0)), .int (iZ (g 14 mm 0)), .int (iZ (g 15 mm 0)), .int (iZ (g 23 ff 0)), .int (iZ (tkO (g 24 ff 0))), .long (lZ (g 0 7 0))])))) 1 0 = some (al 1 0, .inr (1, [.int (iZ (g 3 0 0)), .ref (al 2 0), .int (iZ (g 1 0 0))])) := (e2_k (by decide)).trans fL0
    have fL1 : (e2 en 5 mm (some (al 5 mm, .inr (4, [.int (iZ (mm)), .ref (al 6 mm), .int (iZ (2)), .int (iZ (g 13 mm 0)), .int (iZ (g 14 mm 0)), .int (iZ (g 15 mm 0)), .int (iZ (g 23 ff 0)), .int (iZ (tkO (g 24 ff 0))), .long (lZ (g 0 7 0))])))) 1 1 = some (al 1 1, .inr (1, [.int (iZ (g 3 1 0)), .ref (al 2 1), .int (iZ (g 1 1 0))])) := (e2_k (by decide)).trans fL1
    have fQ : (e2 en 5 mm (some (al 5 mm, .inr (4, [.int (iZ (mm)), .ref (al 6 mm), .int (iZ (2)), .int (iZ (g 13 mm 0)), .int (iZ (g 14 mm 0)), .int (iZ (g 15 mm 0)), .int (iZ (g 23 ff 0)), .int (iZ (tkO (g 24 ff 0))), .long (lZ (g 0 7 0))])))) 3 0 = some (al 3 0, aR dA (4) (fun j => some (al 9 j))) := (e2_k (by decide)).trans fQ
    have fC : (e2 en 5 mm (some (al 5 mm, .inr (4, [.int (iZ (mm)), .ref (al 6 mm), .int (iZ (2)), .int (iZ (g 13 mm 0)), .int (iZ (g 14 mm 0)), .int (iZ (g 15 mm 0)), .int (iZ (g 23 ff 0)), .int (iZ (tkO (g 24 ff 0))), .long (lZ (g 0 7 0))])))) 4 0 = some (al 4 0, aI dA (8) (fun j => g 2 j 0)) := (e2_k (by decide)).trans fC
    have fO : (e2 en 5 mm (some (al 5 mm, .inr (4, [.int (iZ (mm)), .ref (al 6 mm), .int (iZ (2)), .int (iZ (g 13 mm 0)), .int (iZ (g 14 mm 0)), .int (iZ (g 15 mm 0)), .int (iZ (g 23 ff 0)), .int (iZ (tkO (g 24 ff 0))), .long (lZ (g 0 7 0))])))) 6 mm = some (al 6 mm, aB dA (g 11 mm 0) (g 19 mm)) := (e2_k (by decide)).trans fO
    have fF : (e2 en 5 mm (some (al 5 mm, .inr (4, [.int (iZ (mm)), .ref (al 6 mm), .int (iZ (2)), .int (iZ (g 13 mm 0)), .int (iZ (g 14 mm 0)), .int (iZ (g 15 mm 0)), .int (iZ (g 23 ff 0)), .int (iZ (tkO (g 24 ff 0))), .long (lZ (g 0 7 0))])))) 7 ff = some (al 7 ff, .inr (2, [.int (iZ (g 20 ff 0)), .int (iZ (g 21 ff 0)), .int (iZ (g 22 ff 0)), .int (iZ (g 23 ff 0)), .int (iZ (g 24 ff 0)), .long (lZ (g 25 ff 0)), .ref (al 8 ff), .int (iZ (g 27 ff 0))])) := (e2_k (by decide)).trans fF
    have fFO : bA dA z (e2 en 5 mm (some (al 5 mm, .inr (4, [.int (iZ (mm)), .ref (al 6 mm), .int (iZ (2)), .int (iZ (g 13 mm 0)), .int (iZ (g 14 mm 0)), .int (iZ (g 15 mm 0)), .int (iZ (g 23 ff 0)), .int (iZ (tkO (g 24 ff 0))), .long (lZ (g 0 7 0))])))) 8 ff (al 8 ff) (g 26 ff 0) (g 28 ff) := bA_k (by decide) fFO
    have fS : (e2 en 5 mm (some (al 5 mm, .inr (4, [.int (iZ (mm)), .ref (al 6 mm), .int (iZ (2)), .int (iZ (g 13 mm 0)), .int (iZ (g 14 mm 0)), .int (iZ (g 15 mm 0)), .int (iZ (g 23 ff 0)), .int (iZ (tkO (g 24 ff 0))), .long (lZ (g 0 7 0))])))) 5 mm = some (al 5 mm, .inr (4, [.int (iZ (mm)), .ref (al 6 mm), .int (iZ (2)), .int (iZ (g 13 mm 0)), .int (iZ (g 14 mm 0)), .int (iZ (g 15 mm 0)), .int (iZ (g 23 ff 0)), .int (iZ (tkO (g 24 ff 0))), .long (lZ (g 0 7 0))])) := e2_s _ _ _ _
    obtain ⟨en1v, hen1v⟩ : ∃ x : en_T, x = (e2 en 5 mm (some (al 5 mm, .inr (4, [.int (iZ (mm)), .ref (al 6 mm), .int (iZ (2)), .int (iZ (g 13 mm 0)), .int (iZ (g 14 mm 0)), .int (iZ (g 15 mm 0)), .int (iZ (g 23 ff 0)), .int (iZ (tkO (g 24 ff 0))), .long (lZ (g 0 7 0))])))) := ⟨_, rfl⟩
    rw [← hen1v] at hW
    obtain ⟨g1v, hg1v⟩ : ∃ x : St, x = sGo g mm (g 23 ff 0) (tkO (g 24 ff 0)) := ⟨_, rfl⟩
    have hE1v : EC dA z g1v al en1v := ec_s hE (m := mm) (by omega) (fun t i j h => by rw [hg1v]; simp only [sGo]; repeat rw [wr_n (by omega)]) (fun _ _ _ => rfl) (fun k i h => by rw [hen1v]; exact e2_n (by omega)) (by rw [hen1v, hg1v]; refine (e2_s _ _ _ _).trans ?_; simp [sGo, wr])
    have hFR1v : FR en en1v := fun k i h1 h2 => by rw [hen1v]; exact e2_n (by omega)
    have hAS1v : AS g g1v al al := AS_e (by rw [hg1v]; rfl) (by rw [hg1v]; rfl) (by rw [hg1v]; rfl)
    have hN1v := hAS1v.1
    have fX : en1v 0 0 = some (al 0 0, .inr (5, [.int (iZ (g1v 0 0 0)), .ref (al 1 0), .ref (al 1 1), .ref (al 3 0), .ref (al 4 0), .int (iZ (g1v 0 5 0)), .ref (al 11 0), .long (lZ (g1v 0 7 0)), .int (iZ (g1v 0 8 0)), .int (iZ (g1v 0 9 0)), .int (iZ (g1v 0 10 0)), .int (iZ (g1v 0 11 0)), .int (iZ (g1v 0 12 0)), .int (iZ (g1v 0 13 0))])) := ec_X hE1v
    have fL0 : en1v 1 0 = some (al 1 0, .inr (1, [.int (iZ (g1v 3 0 0)), .ref (al 2 0), .int (iZ (g1v 1 0 0))])) := ec_L0 hE1v
    have fL1 : en1v 1 1 = some (al 1 1, .inr (1, [.int (iZ (g1v 3 1 0)), .ref (al 2 1), .int (iZ (g1v 1 1 0))])) := ec_L1 hE1v
    have fQ : en1v 3 0 = some (al 3 0, aR dA (4) (fun j => some (al 9 j))) := ec_Q hE1v
    have fC : en1v 4 0 = some (al 4 0, aI dA (8) (fun j => g1v 2 j 0)) := ec_C hE1v
    have fS : en1v 5 mm = some (al 5 mm, .inr (4, [.int (iZ (mm)), .ref (al 6 mm), .int (iZ (g1v 12 mm 0)), .int (iZ (g1v 13 mm 0)), .int (iZ (g1v 14 mm 0)), .int (iZ (g1v 15 mm 0)), .int (iZ (g1v 16 mm 0)), .int (iZ (g1v 17 mm 0)), .long (lZ (g1v 18 mm 0))])) := ec_S hE1v (by omega)
    have fO : en1v 6 mm = some (al 6 mm, aB dA (g1v 11 mm 0) (g1v 19 mm)) := ec_SO hE1v (by omega)
    have fF : en1v 7 ff = some (al 7 ff, .inr (2, [.int (iZ (g1v 20 ff 0)), .int (iZ (g1v 21 ff 0)), .int (iZ (g1v 22 ff 0)), .int (iZ (g1v 23 ff 0)), .int (iZ (g1v 24 ff 0)), .long (lZ (g1v 25 ff 0)), .ref (al 8 ff), .int (iZ (g1v 27 ff 0))])) := ec_F hE1v (by omega)
    have fFO : bA dA z en1v 8 ff (al 8 ff) (g1v 26 ff 0) (g1v 28 ff) := ec_FO hE1v (by omega)
    refine lv_goto (tgt := 68) hx hb dX3_takeFlow_51 (by decide) ?_
    have hgz : g1v = sTkF g mm ff := by subst hg1v; unfold sTkF; first | rw [if_pos hk0] | rw [if_neg hk0, if_pos hk1] | rw [if_neg hk0, if_neg hk1]
    rw [hgz] at hE1v hAS1v
    exact W.vret hx hb hr (fun t ht hw => ⟨⟨(en1v, al), rfl, ⟨hE1v, hFR1v, hAS1v⟩, by show Wd _ _ _ t.heap; rw [ht]; exact hW⟩, hS.F ht⟩) hS.2.2 dX3_takeFlow_68
  · by_cases hk1 : g 22 ff 0 = 1
    · refine lv_lookup (off := 50) (tgt := 54) hx hb dX3_takeFlow_4 (by decide) (by rw [iZ_T (by omega)]; rw [hk1]; rfl) (by decide) ?_
      refine lv_aload_n hx hb dX3_takeFlow_54 rfl (lv_at hl 0 rfl) ?_
      refine lv_aload_n hx hb dX3_takeFlow_55 rfl (lv_at hl 1 rfl) ?_
      refine va_callv (va_runV (As := [.ref (al 5 mm)]) (rest := []) ⟨hx, hb, hml, hown, hts⟩ (c_X3_takeWait l D dA z en g al mm (by omega) (by omega) hw15 hE hI) (cwV 1 hts gX3_takeFlow_X3_takeWait rfl rfl rfl (by decide +kernel) ⟨Nat.le_of_ble_eq_true rfl, Nat.le_of_ble_eq_true rfl⟩) ⟨gBl, gRecv hK hW (ci := 5) rfl fX, gPre _ hg hS hW⟩ rfl rfl hl.1 rfl (lv_room (Nat.le_of_ble_eq_true rfl)) dX3_takeFlow_56 ⟨(show 0 + 0 ≤ 0 by omega), (show 0 + 0 ≤ 0 by omega)⟩) hS (fun _ _ h => h) (fun _ h => h) (fun u9 t9 H locs ht9 hvm9 hw9 hB9 hz9 hk9 hS => ?_)
      obtain ⟨en2v, al2v⟩ := u9
      obtain ⟨hE2v, hFR2v, hAS2v⟩ := hw9
      have hW : Wd D (z 0) en2v H := by rw [← ht9]; exact hB9
      obtain ⟨g2v, hg2v⟩ : ∃ x : St, x = sTkW g mm := ⟨_, rfl⟩
      rw [← hg2v] at hE2v hAS2v
      dsimp only at hE2v hFR2v hAS2v
      have hl : lv_has ls 3 [(0, .ref (al2v 0 0)), (1, .ref (al2v 5 mm)), (2, .ref (al2v 7 ff))] := by rw [hAS2v.2 0 0 (by omega), hAS2v.2 5 mm (by omega), hAS2v.2 7 ff (by omega)]; exact hl
      have hN2v := hAS2v.1
      have fX : en2v 0 0 = some (al2v 0 0, .inr (5, [.int (iZ (g2v 0 0 0)), .ref (al2v 1 0), .ref (al2v 1 1), .ref (al2v 3 0), .ref (al2v 4 0), .int (iZ (g2v 0 5 0)), .ref (al2v 11 0), .long (lZ (g2v 0 7 0)), .int (iZ (g2v 0 8 0)), .int (iZ (g2v 0 9 0)), .int (iZ (g2v 0 10 0)), .int (iZ (g2v 0 11 0)), .int (iZ (g2v 0 12 0)), .int (iZ (g2v 0 13 0))])) := ec_X hE2v
      have fL0 : en2v 1 0 = some (al2v 1 0, .inr (1, [.int (iZ (g2v 3 0 0)), .ref (al2v 2 0), .int (iZ (g2v 1 0 0))])) := ec_L0 hE2v
      have fL1 : en2v 1 1 = some (al2v 1 1, .inr (1, [.int (iZ (g2v 3 1 0)), .ref (al2v 2 1), .int (iZ (g2v 1 1 0))])) := ec_L1 hE2v
      have fQ : en2v 3 0 = some (al2v 3 0, aR dA (4) (fun j => some (al2v 9 j))) := ec_Q hE2v
      have fC : en2v 4 0 = some (al2v 4 0, aI dA (8) (fun j => g2v 2 j 0)) := ec_C hE2v
      have fS : en2v 5 mm = some (al2v 5 mm, .inr (4, [.int (iZ (mm)), .ref (al2v 6 mm), .int (iZ (g2v 12 mm 0)), .int (iZ (g2v 13 mm 0)), .int (iZ (g2v 14 mm 0)), .int (iZ (g2v 15 mm 0)), .int (iZ (g2v 16 mm 0)), .int (iZ (g2v 17 mm 0)), .long (lZ (g2v 18 mm 0))])) := ec_S hE2v (by omega)
      have fO : en2v 6 mm = some (al2v 6 mm, aB dA (g2v 11 mm 0) (g2v 19 mm)) := ec_SO hE2v (by omega)
      have fF : en2v 7 ff = some (al2v 7 ff, .inr (2, [.int (iZ (g2v 20 ff 0)), .int (iZ (g2v 21 ff 0)), .int (iZ (g2v 22 ff 0)), .int (iZ (g2v 23 ff 0)), .int (iZ (g2v 24 ff 0)), .long (lZ (g2v 25 ff 0)), .ref (al2v 8 ff), .int (iZ (g2v 27 ff 0))])) := ec_F hE2v (by omega)
      have fFO : bA dA z en2v 8 ff (al2v 8 ff) (g2v 26 ff 0) (g2v 28 ff) := ec_FO hE2v (by omega)
      refine lv_goto (tgt := 68) hx hb dX3_takeFlow_59 (by decide) ?_
      have hgz : g2v = sTkF g mm ff := by subst hg2v; unfold sTkF; first | rw [if_pos hk0] | rw [if_neg hk0, if_pos hk1] | rw [if_neg hk0, if_neg hk1]
      rw [hgz] at hE2v hAS2v
      exact W.vret hx hb hr (fun t ht hw => ⟨⟨(en2v, al2v), rfl, ⟨hE2v, hFR2v, hAS2v⟩, by show Wd _ _ _ t.heap; rw [ht]; exact hW⟩, hS.F ht⟩) hS.2.2 dX3_takeFlow_68
    · refine lv_lookup (off := 58) (tgt := 62) hx hb dX3_takeFlow_4 (by decide) (by rw [iZ_T (by omega)]; rw [Op.lookupswitch.offset_cons, if_neg (show ¬ (0 : Int) = g 22 ff 0 by omega), Op.lookupswitch.offset_cons, if_neg (show ¬ (1 : Int) = g 22 ff 0 by omega)]; rfl) (by decide) ?_
      refine lv_aload_n hx hb dX3_takeFlow_62 rfl (lv_at hl 0 rfl) ?_
      refine lv_aload_n hx hb dX3_takeFlow_63 rfl (lv_at hl 1 rfl) ?_
      refine z_iconst hx hb dX3_takeFlow_64 ?_
      refine va_callv (va_runV (As := [.ref (al 5 mm), .int (iZ (4))]) (rest := []) ⟨hx, hb, hml, hown, hts⟩ (c_X3_endSender l D dA z en g al mm 4 (by omega) (by omega) (by omega) (by omega) hE hI) (cwV 2 hts gX3_takeFlow_X3_endSender rfl rfl rfl (by decide +kernel) ⟨Nat.le_of_ble_eq_true rfl, Nat.le_of_ble_eq_true rfl⟩) ⟨gBl, gRecv hK hW (ci := 5) rfl fX, gPre _ hg hS hW⟩ rfl rfl hl.1 rfl (lv_room (Nat.le_of_ble_eq_true rfl)) dX3_takeFlow_65 ⟨(show 0 + 0 ≤ 0 by omega), (show 0 + 0 ≤ 0 by omega)⟩) hS (fun _ _ h => h) (fun _ h => h) (fun u9 t9 H locs ht9 hvm9 hw9 hB9 hz9 hk9 hS => ?_)
      obtain ⟨en3v, al3v⟩ := u9
      obtain ⟨hE3v, hFR3v, hAS3v⟩ := hw9
      have hW : Wd D (z 0) en3v H := by rw [← ht9]; exact hB9
      obtain ⟨g3v, hg3v⟩ : ∃ x : St, x = sEndS g mm 4 := ⟨_, rfl⟩
      rw [← hg3v] at hE3v hAS3v
      dsimp only at hE3v hFR3v hAS3v
      have hl : lv_has ls 3 [(0, .ref (al3v 0 0)), (1, .ref (al3v 5 mm)), (2, .ref (al3v 7 ff))] := by rw [hAS3v.2 0 0 (by omega), hAS3v.2 5 mm (by omega), hAS3v.2 7 ff (by omega)]; exact hl
      have hN3v := hAS3v.1
      have fX : en3v 0 0 = some (al3v 0 0, .inr (5, [.int (iZ (g3v 0 0 0)), .ref (al3v 1 0), .ref (al3v 1 1), .ref (al3v 3 0), .ref (al3v 4 0), .int (iZ (g3v 0 5 0)), .ref (al3v 11 0), .long (lZ (g3v 0 7 0)), .int (iZ (g3v 0 8 0)), .int (iZ (g3v 0 9 0)), .int (iZ (g3v 0 10 0)), .int (iZ (g3v 0 11 0)), .int (iZ (g3v 0 12 0)), .int (iZ (g3v 0 13 0))])) := ec_X hE3v
      have fL0 : en3v 1 0 = some (al3v 1 0, .inr (1, [.int (iZ (g3v 3 0 0)), .ref (al3v 2 0), .int (iZ (g3v 1 0 0))])) := ec_L0 hE3v
      have fL1 : en3v 1 1 = some (al3v 1 1, .inr (1, [.int (iZ (g3v 3 1 0)), .ref (al3v 2 1), .int (iZ (g3v 1 1 0))])) := ec_L1 hE3v
      have fQ : en3v 3 0 = some (al3v 3 0, aR dA (4) (fun j => some (al3v 9 j))) := ec_Q hE3v
      have fC : en3v 4 0 = some (al3v 4 0, aI dA (8) (fun j => g3v 2 j 0)) := ec_C hE3v
      have fS : en3v 5 mm = some (al3v 5 mm, .inr (4, [.int (iZ (mm)), .ref (al3v 6 mm), .int (iZ (g3v 12 mm 0)), .int (iZ (g3v 13 mm 0)), .int (iZ (g3v 14 mm 0)), .int (iZ (g3v 15 mm 0)), .int (iZ (g3v 16 mm 0)), .int (iZ (g3v 17 mm 0)), .long (lZ (g3v 18 mm 0))])) := ec_S hE3v (by omega)
      have fO : en3v 6 mm = some (al3v 6 mm, aB dA (g3v 11 mm 0) (g3v 19 mm)) := ec_SO hE3v (by omega)
      have fF : en3v 7 ff = some (al3v 7 ff, .inr (2, [.int (iZ (g3v 20 ff 0)), .int (iZ (g3v 21 ff 0)), .int (iZ (g3v 22 ff 0)), .int (iZ (g3v 23 ff 0)), .int (iZ (g3v 24 ff 0)), .long (lZ (g3v 25 ff 0)), .ref (al3v 8 ff), .int (iZ (g3v 27 ff 0))])) := ec_F hE3v (by omega)
      have fFO : bA dA z en3v 8 ff (al3v 8 ff) (g3v 26 ff 0) (g3v 28 ff) := ec_FO hE3v (by omega)
      have hgz : g3v = sTkF g mm ff := by subst hg3v; unfold sTkF; first | rw [if_pos hk0] | rw [if_neg hk0, if_pos hk1] | rw [if_neg hk0, if_neg hk1]
      rw [hgz] at hE3v hAS3v
      exact W.vret hx hb hr (fun t ht hw => ⟨⟨(en3v, al3v), rfl, ⟨hE3v, hFR3v, hAS3v⟩, by show Wd _ _ _ t.heap; rw [ht]; exact hW⟩, hS.F ht⟩) hS.2.2 dX3_takeFlow_68
set_option maxHeartbeats 4000000 in
set_option maxRecDepth 100000 in
theorem c_X3_reachSender (l : Launch) (D : va_G) (dA : Nat → ClassId) (z : Nat → Nat) (en : en_T) (g : St) (al : Al) (ff : Int) (hf0 : 1 ≤ ff) (hf1 : ff ≤ g 1 1 0) (hw15 : g 12 (g 21 ff 0) 0 = 1 → g 15 (g 21 ff 0) 0 ≤ 100) (hE : EC dA z g al en) (hI : IB g) : Met l yX3_reachSender wsX3_reachSender ({ frames := 4, cells := 0, slots := 0, locals := 112 }) (gP D dA z en [.ref (al 0 0), .ref (al 7 ff)]) (va_Qi (fun (r8 : Int32) (u : en_T × Al) => r8 = iZ (sRcS g ff 12 (g 21 ff 0) 0) ∧ CP dA z (sRcS g ff) g al en u) (fun u t9 => Wd D (z 0) u.1 t9.heap) (fun q => z 0 ≤ q)) (0) (0) (fun q => z 0 ≤ q) := by
  refine gMet (own := RX3) (cc := cX3_reachSender) (maxL := 3) (ret := (some .int)) (by decide) rfl rfl (Nat.le_of_ble_eq_true rfl) ?_
  intro p e s m below meth c hx hb hml hown hts hr hlocks hnm hg hW ls hl
  have hK := hg.1
  have hS : va_S (fun q => z 0 ≤ q) s.heap s.heap [] := va_S.rf
  have hi2 : ∀ w ∈ u_ws RX0 TX0 8, w ∈ wsX3_reachSender := by decide +kernel
  have hi4 : ∀ w ∈ u_ws RX2 TX2 9, w ∈ wsX3_reachSender := by decide +kernel
  have hl : lv_has ls 3 [(0, .ref (al 0 0)), (1, .ref (al 7 ff))] := hl
  obtain ⟨hIX, hIL, hIS, hIF, hIR, hIG⟩ := id hI
  unfold IL at hIL
  unfold IX at hIX
  have hIFf := hIF ff (by omega) (by omega)
  unfold IF at hIFf
  have fX : en 0 0 = some (al 0 0, .inr (5, [.int (iZ (g 0 0 0)), .ref (al 1 0), .ref (al 1 1), .ref (al 3 0), .ref (al 4 0), .int (iZ (g 0 5 0)), .ref (al 11 0), .long (lZ (g 0 7 0)), .int (iZ (g 0 8 0)), .int (iZ (g 0 9 0)), .int (iZ (g 0 10 0)), .int (iZ (g 0 11 0)), .int (iZ (g 0 12 0)), .int (iZ (g 0 13 0))])) := ec_X hE
  have fL0 : en 1 0 = some (al 1 0, .inr (1, [.int (iZ (g 3 0 0)), .ref (al 2 0), .int (iZ (g 1 0 0))])) := ec_L0 hE
  have fL1 : en 1 1 = some (al 1 1, .inr (1, [.int (iZ (g 3 1 0)), .ref (al 2 1), .int (iZ (g 1 1 0))])) := ec_L1 hE
  have fQ : en 3 0 = some (al 3 0, aR dA (4) (fun j => some (al 9 j))) := ec_Q hE
  have fC : en 4 0 = some (al 4 0, aI dA (8) (fun j => g 2 j 0)) := ec_C hE
  have fF : en 7 ff = some (al 7 ff, .inr (2, [.int (iZ (g 20 ff 0)), .int (iZ (g 21 ff 0)), .int (iZ (g 22 ff 0)), .int (iZ (g 23 ff 0)), .int (iZ (g 24 ff 0)), .long (lZ (g 25 ff 0)), .ref (al 8 ff), .int (iZ (g 27 ff 0))])) := ec_F hE (by omega)
  have fFO : bA dA z en 8 ff (al 8 ff) (g 26 ff 0) (g 28 ff) := ec_FO hE (by omega)
  refine lv_aload_n hx hb dX3_reachSender_0 rfl (lv_at hl 0 rfl) ?_
  refine lv_aload_n hx hb dX3_reachSender_1 rfl (lv_at hl 1 rfl) ?_
  refine g_get (C := RX0) (T := TX0) (N := 8) (ci := 2) (v := .int (iZ (g 21 ff 0))) hx hb hts hi2 hown hK hW fF rfl 1 (by decide) (hts (.fieldLink RX3 85 "LongTransfer$Frame" "message" "I") (by decide +kernel)) (fun _ h9 => h9) rfl dX3_reachSender_2 ?_
  refine va_callq (va_runV (As := [.int (iZ (g 21 ff 0))]) (rest := []) ⟨hx, hb, hml, hown, hts⟩ (c_X3_findSender l D dA z en g al (g 21 ff 0) (by omega) hE hI) (cwV 1 hts gX3_reachSender_X3_findSender rfl rfl rfl (by decide +kernel) ⟨Nat.le_of_ble_eq_true rfl, Nat.le_of_ble_eq_true rfl⟩) ⟨gBl, gRecv hK hW (ci := 5) rfl fX, gPre _ hg hS hW⟩ rfl rfl hl.1 rfl (lv_room (Nat.le_of_ble_eq_true rfl)) dX3_reachSender_5 ⟨(show 0 + 0 ≤ 0 by omega), (show 0 + 0 ≤ 0 by omega)⟩) hS (fun _ _ h => h) (fun _ h => h) (fun r9 u9 t9 H locs ht9 hvm9 hw9 hB9 hz9 hk9 hS => ?_)
  have hW : Wd D (z 0) en H := by rw [← ht9]; exact hB9
  rw [if_pos (by omega)] at hw9
  subst hw9
  refine W.eq (g2 := F0 m 8 ls [.ref (al 5 (g 21 ff 0))]) rfl ?_
  have fX : en 0 0 = some (al 0 0, .inr (5, [.int (iZ (g 0 0 0)), .ref (al 1 0), .ref (al 1 1), .ref (al 3 0), .ref (al 4 0), .int (iZ (g 0 5 0)), .ref (al 11 0), .long (lZ (g 0 7 0)), .int (iZ (g 0 8 0)), .int (iZ (g 0 9 0)), .int (iZ (g 0 10 0)), .int (iZ (g 0 11 0)), .int (iZ (g 0 12 0)), .int (iZ (g 0 13 0))])) := ec_X hE
  have fL0 : en 1 0 = some (al 1 0, .inr (1, [.int (iZ (g 3 0 0)), .ref (al 2 0), .int (iZ (g 1 0 0))])) := ec_L0 hE
  have fL1 : en 1 1 = some (al 1 1, .inr (1, [.int (iZ (g 3 1 0)), .ref (al 2 1), .int (iZ (g 1 1 0))])) := ec_L1 hE
  have fQ : en 3 0 = some (al 3 0, aR dA (4) (fun j => some (al 9 j))) := ec_Q hE
  have fC : en 4 0 = some (al 4 0, aI dA (8) (fun j => g 2 j 0)) := ec_C hE
  have fF : en 7 ff = some (al 7 ff, .inr (2, [.int (iZ (g 20 ff 0)), .int (iZ (g 21 ff 0)), .int (iZ (g 22 ff 0)), .int (iZ (g 23 ff 0)), .int (iZ (g 24 ff 0)), .long (lZ (g 25 ff 0)), .ref (al 8 ff), .int (iZ (g 27 ff 0))])) := ec_F hE (by omega)
  have fFO : bA dA z en 8 ff (al 8 ff) (g 26 ff 0) (g 28 ff) := ec_FO hE (by omega)
  have fS : en 5 (g 21 ff 0) = some (al 5 (g 21 ff 0), .inr (4, [.int (iZ (g 21 ff 0)), .ref (al 6 (g 21 ff 0)), .int (iZ (g 12 (g 21 ff 0) 0)), .int (iZ (g 13 (g 21 ff 0) 0)), .int (iZ (g 14 (g 21 ff 0) 0)), .int (iZ (g 15 (g 21 ff 0) 0)), .int (iZ (g 16 (g 21 ff 0) 0)), .int (iZ (g 17 (g 21 ff 0) 0)), .long (lZ (g 18 (g 21 ff 0) 0))])) := ec_S hE (by omega)
  have fO : en 6 (g 21 ff 0) = some (al 6 (g 21 ff 0), aB dA (g 11 (g 21 ff 0) 0) (g 19 (g 21 ff 0))) := ec_SO hE (by omega)
  refine lv_astore_n (lv' := [(2, .ref (al 5 (g 21 ff 0))), (0, .ref (al 0 0)), (1, .ref (al 7 ff))]) hx hb dX3_reachSender_8 rfl hl (by decide) rfl (fun ls hl => ?_)
  refine lv_aload_n hx hb dX3_reachSender_9 rfl (lv_at hl 0 rfl) ?_
  refine lv_ifnonnull (tgt := 15) hx hb dX3_reachSender_10 (by decide) ?_
  refine lv_aload_n hx hb dX3_reachSender_15 rfl (lv_at hl 0 rfl) ?_
  have hISm := hIS (g 21 ff 0) (by omega) (by omega)
  unfold IS at hISm
  refine g_get (C := RX2) (T := TX2) (N := 9) (ci := 4) (v := .int (iZ (g 12 (g 21 ff 0) 0))) hx hb hts hi4 hown hK hW fS rfl 2 (by decide) (hts (.fieldLink RX3 223 "LongTransfer$Sender" "state" "I") (by decide +kernel)) (fun _ h9 => h9) rfl dX3_reachSender_16 ?_
  refine z_iconst hx hb dX3_reachSender_19 ?_
  refine z_icmp_ne (tgt := 29) hx hb dX3_reachSender_20 (by decide) (by omega) (by omega) (fun c_20 => ?_) (fun c_20 => ?_)
  · refine lv_aload_n hx hb dX3_reachSender_29 rfl (lv_at hl 0 rfl) ?_
    refine g_get (C := RX2) (T := TX2) (N := 9) (ci := 4) (v := .int (iZ (g 12 (g 21 ff 0) 0))) hx hb hts hi4 hown hK hW fS rfl 2 (by decide) (hts (.fieldLink RX3 223 "LongTransfer$Sender" "state" "I") (by decide +kernel)) (fun _ h9 => h9) rfl dX3_reachSender_30 ?_
    have hFRz := FR.rf en
    have hASz := AS.rf g al
    have hgz : g = sRcS g ff := by unfold sRcS; first | rw [if_pos (by omega)] | rw [if_neg (by omega)]
    have hEz := hgz ▸ hE
    exact W.iret hx hb hr (fun t ht hw => ⟨⟨_, (en, al), rfl, ⟨by rw [← hgz], hgz ▸ hE, hFRz, hgz ▸ hASz⟩, by show Wd _ _ _ t.heap; rw [ht]; exact hW⟩, hS.F ht⟩) hS.2.2 dX3_reachSender_33
  · refine lv_aload_n hx hb dX3_reachSender_23 rfl (lv_at hl 1 rfl) ?_
    refine lv_aload_n hx hb dX3_reachSender_24 rfl (lv_at hl 0 rfl) ?_
    refine lv_aload_n hx hb dX3_reachSender_25 rfl (lv_at hl 2 rfl) ?_
    refine va_callv (va_runV (As := [.ref (al 5 (g 21 ff 0)), .ref (al 7 ff)]) (rest := []) ⟨hx, hb, hml, hown, hts⟩ (c_X3_takeFlow l D dA z en g al (g 21 ff 0) ff (by omega) (by omega) (by omega) (by omega) (hw15 (by omega)) hE hI) (cwV 2 hts gX3_reachSender_X3_takeFlow rfl rfl rfl (by decide +kernel) ⟨Nat.le_of_ble_eq_true rfl, Nat.le_of_ble_eq_true rfl⟩) ⟨gBl, gRecv hK hW (ci := 5) rfl fX, gPre _ hg hS hW⟩ rfl rfl hl.1 rfl (lv_room (Nat.le_of_ble_eq_true rfl)) dX3_reachSender_26 ⟨(show 0 + 0 + 0 ≤ 0 by omega), (show 0 + 0 + 0 ≤ 0 by omega)⟩) hS (fun _ _ h => h) (fun _ h => h) (fun u9 t9 H locs ht9 hvm9 hw9 hB9 hz9 hk9 hS => ?_)
    obtain ⟨en1v, al1v⟩ := u9
    obtain ⟨hE1v, hFR1v, hAS1v⟩ := hw9
    have hW : Wd D (z 0) en1v H := by rw [← ht9]; exact hB9
    obtain ⟨g1v, hg1v⟩ : ∃ x : St, x = sTkF g (g 21 ff 0) ff := ⟨_, rfl⟩
    rw [← hg1v] at hE1v hAS1v
    dsimp only at hE1v hFR1v hAS1v
    have hl : lv_has ls 3 [(2, .ref (al1v 5 (g 21 ff 0))), (0, .ref (al1v 0 0)), (1, .ref (al1v 7 ff))] := by rw [hAS1v.2 5 (g 21 ff 0) (by omega), hAS1v.2 0 0 (by omega), hAS1v.2 7 ff (by omega)]; exact hl
    have hN1v := hAS1v.1
    have fX : en1v 0 0 = some (al1v 0 0, .inr (5, [.int (iZ (g1v 0 0 0)), .ref (al1v 1 0), .ref (al1v 1 1), .ref (al1v 3 0), .ref (al1v 4 0), .int (iZ (g1v 0 5 0)), .ref (al1v 11 0), .long (lZ (g1v 0 7 0)), .int (iZ (g1v 0 8 0)), .int (iZ (g1v 0 9 0)), .int (iZ (g1v 0 10 0)), .int (iZ (g1v 0 11 0)), .int (iZ (g1v 0 12 0)), .int (iZ (g1v 0 13 0))])) := ec_X hE1v
    have fL0 : en1v 1 0 = some (al1v 1 0, .inr (1, [.int (iZ (g1v 3 0 0)), .ref (al1v 2 0), .int (iZ (g1v 1 0 0))])) := ec_L0 hE1v
    have fL1 : en1v 1 1 = some (al1v 1 1, .inr (1, [.int (iZ (g1v 3 1 0)), .ref (al1v 2 1), .int (iZ (g1v 1 1 0))])) := ec_L1 hE1v
    have fQ : en1v 3 0 = some (al1v 3 0, aR dA (4) (fun j => some (al1v 9 j))) := ec_Q hE1v
    have fC : en1v 4 0 = some (al1v 4 0, aI dA (8) (fun j => g1v 2 j 0)) := ec_C hE1v
    have fF : en1v 7 ff = some (al1v 7 ff, .inr (2, [.int (iZ (g1v 20 ff 0)), .int (iZ (g1v 21 ff 0)), .int (iZ (g1v 22 ff 0)), .int (iZ (g1v 23 ff 0)), .int (iZ (g1v 24 ff 0)), .long (lZ (g1v 25 ff 0)), .ref (al1v 8 ff), .int (iZ (g1v 27 ff 0))])) := ec_F hE1v (by omega)
    have fFO : bA dA z en1v 8 ff (al1v 8 ff) (g1v 26 ff 0) (g1v 28 ff) := ec_FO hE1v (by omega)
    have fS : en1v 5 (g 21 ff 0) = some (al1v 5 (g 21 ff 0), .inr (4, [.int (iZ (g 21 ff 0)), .ref (al1v 6 (g 21 ff 0)), .int (iZ (g1v 12 (g 21 ff 0) 0)), .int (iZ (g1v 13 (g 21 ff 0) 0)), .int (iZ (g1v 14 (g 21 ff 0) 0)), .int (iZ (g1v 15 (g 21 ff 0) 0)), .int (iZ (g1v 16 (g 21 ff 0) 0)), .int (iZ (g1v 17 (g 21 ff 0) 0)), .long (lZ (g1v 18 (g 21 ff 0) 0))])) := ec_S hE1v (by omega)
    have fO : en1v 6 (g 21 ff 0) = some (al1v 6 (g 21 ff 0), aB dA (g1v 11 (g 21 ff 0) 0) (g1v 19 (g 21 ff 0))) := ec_SO hE1v (by omega)
    refine lv_aload_n hx hb dX3_reachSender_29 rfl (lv_at hl 0 rfl) ?_
    refine g_get (C := RX2) (T := TX2) (N := 9) (ci := 4) (v := .int (iZ (g1v 12 (g 21 ff 0) 0))) hx hb hts hi4 hown hK hW fS rfl 2 (by decide) (hts (.fieldLink RX3 223 "LongTransfer$Sender" "state" "I") (by decide +kernel)) (fun _ h9 => h9) rfl dX3_reachSender_30 ?_
    have hgz : g1v = sRcS g ff := by subst hg1v; unfold sRcS; first | rw [if_pos (by omega)] | rw [if_neg (by omega)]
    rw [hgz] at hE1v hAS1v
    exact W.iret hx hb hr (fun t ht hw => ⟨⟨_, (en1v, al1v), rfl, ⟨by rw [← hgz], hE1v, hFR1v, hAS1v⟩, by show Wd _ _ _ t.heap; rw [ht]; exact hW⟩, hS.F ht⟩) hS.2.2 dX3_reachSender_33
set_option maxHeartbeats 4000000 in
set_option maxRecDepth 100000 in
theorem c_X3_countL (l : Launch) (D : va_G) (dA : Nat → ClassId) (z : Nat → Nat) (en : en_T) (a q1 q2 q3 ac q6 : Nat) (x0 x5 x7 x8 x9 x10 x11 x12 x13 w9 : Int) (F : Int → Int) (h0 : 0 ≤ w9) (h1 : w9 < 8) (he : en 0 0 = some (a, .inr (5, [.int (iZ (x0)), .ref q1, .ref q2, .ref q3, .ref ac, .int (iZ (x5)), .ref q6, .long (lZ (x7)), .int (iZ (x8)), .int (iZ (x9)), .int (iZ (x10)), .int (iZ (x11)), .int (iZ (x12)), .int (iZ (x13))]))) (hc : en 4 0 = some (ac, aI dA 8 F)) : Met l yX3_count wsX3_count ({ frames := 0, cells := 0, slots := 0, locals := 0 }) (gP D dA z en [.ref a, .int (iZ (w9))]) (va_Qv (fun _ : Unit => True) (fun _ t9 => Wd D (z 0) (e2 en 4 0 (some (ac, aI dA (8) (uF (F) (w9) ((F w9) + 1))))) t9.heap) (fun q => z 0 ≤ q)) (0) (0) (fun q => z 0 ≤ q) := by
  refine gMet (own := RX3) (cc := cX3_count) (maxL := 2) (ret := none) (by decide) rfl rfl (Nat.le_of_ble_eq_true rfl) ?_
  intro p e s m below meth c hx hb hml hown hts hr hlocks hnm hg hW ls hl
  have hK := hg.1
  have hS : va_S (fun q => z 0 ≤ q) s.heap s.heap [] := va_S.rf
  have hi5 : ∀ w ∈ u_ws RX3 TX3 14, w ∈ wsX3_count := by decide +kernel
  have hl : lv_has ls 2 [(0, .ref a), (1, .int (iZ (w9)))] := hl
  refine lv_iload_n hx hb dX3_count_0 rfl (lv_at hl 1 rfl) ?_
  refine z_if_lt (tgt := 23) hx hb dX3_count_1 (by decide) (by omega) (fun c_1 => ?_) (fun c_1 => ?_)
  · exact absurd c_1 (by omega)
  · refine lv_iload_n hx hb dX3_count_4 rfl (lv_at hl 1 rfl) ?_
    refine lv_aload_n hx hb dX3_count_5 rfl (lv_at hl 0 rfl) ?_
    refine g_get (C := RX3) (T := TX3) (N := 14) (ci := 5) (v := .ref ac) hx hb hts hi5 hown hK hW he rfl 4 (by decide) (hts (.fieldLink RX3 25 "LongTransfer" "counts" "[I") (by decide +kernel)) (fun _ h9 => h9) rfl dX3_count_6 ?_
    refine g_len_aI hx hb hK hW hc (by omega) dX3_count_9 ?_
    refine z_icmp_ge (tgt := 23) hx hb dX3_count_10 (by decide) (by omega) (by omega) (fun c_10 => ?_) (fun c_10 => ?_)
    · exact absurd c_10 (by omega)
    · refine lv_aload_n hx hb dX3_count_13 rfl (lv_at hl 0 rfl) ?_
      refine g_get (C := RX3) (T := TX3) (N := 14) (ci := 5) (v := .ref ac) hx hb hts hi5 hown hK hW he rfl 4 (by decide) (hts (.fieldLink RX3 25 "LongTransfer" "counts" "[I") (by decide +kernel)) (fun _ h9 => h9) rfl dX3_count_14 ?_
      refine lv_iload_n hx hb dX3_count_17 rfl (lv_at hl 1 rfl) ?_
      refine lv_dup2_11 hx hb dX3_count_18 rfl rfl ?_
      refine g_iald hx hb hK hW hc (by omega) (by omega) (by omega) dX3_count_19 ?_
      refine z_iconst hx hb dX3_count_20 ?_
      refine z_iadd hx hb dX3_count_21 ?_
      refine g_iast (x := (F w9) + 1) hx hb hK hW hS hc (by omega) (by omega) (by omega) dX3_count_22 (fun H locs hW hS => ?_)
      have he : (e2 en 4 0 (some (ac, aI dA (8) (uF (F) (w9) ((F w9) + 1))))) 0 0 = some (a, .inr (5, [.int (iZ (x0)), .ref q1, .ref q2, .ref q3, .ref ac, .int (iZ (x5)), .ref q6, .long (lZ (x7)), .int (iZ (x8)), .int (iZ (x9)), .int (iZ (x10)), .int (iZ (x11)), .int (iZ (x12)), .int (iZ (x13))])) := (e2_k (by decide)).trans he
      have hc : (e2 en 4 0 (some (ac, aI dA (8) (uF (F) (w9) ((F w9) + 1))))) 4 0 = some (ac, aI dA (8) (uF (F) (w9) ((F w9) + 1))) := e2_s _ _ _ _
      exact W.vret hx hb hr (fun t ht hw => ⟨⟨(), rfl, trivial, by show Wd _ _ _ t.heap; rw [ht]; exact hW⟩, hS.F ht⟩) hS.2.2 dX3_count_23
set_option maxHeartbeats 4000000 in
set_option maxRecDepth 100000 in
theorem c_X3_becomeWhole (l : Launch) (D : va_G) (dA : Nat → ClassId) (z : Nat → Nat) (en : en_T) (g : St) (al : Al) (r : Int) (ob : Nat) (h0 : 0 ≤ r) (h1 : r < 4) (hE : EC dA z g al en) (hI : IB g) : Met l yX3_becomeWhole wsX3_becomeWhole ({ frames := 1, cells := 0, slots := 0, locals := 25 }) (gP D dA z en [.ref (al 0 0), .ref (al 9 r), .ref ob]) (va_Qv (fun _ : Unit => True) (fun _ t9 => Wd D (z 0) (e2 (e2 (e2 en 0 0 (some (al 0 0, .inr (5, [.int (iZ (g 0 0 0)), .ref (al 1 0), .ref (al 1 1), .ref (al 3 0), .ref (al 4 0), .int (iZ (g 0 5 0)), .ref ob, .long (lZ (g 0 7 0)), .int (iZ (g 0 8 0)), .int (iZ (g 0 9 0)), .int (iZ (g 0 10 0)), .int (iZ (g 0 11 0)), .int (iZ (g 0 12 0)), .int (iZ (g 0 13 0))])))) 4 0 (some (al 4 0, aI dA (8) (uF (fun j => g 2 j 0) (0) (g 2 0 0 + 1))))) 9 r (some (al 9 r, .inr (3, [.int (iZ (2)), .int (iZ (g 31 r 0)), .ref (al 10 r), .int (iZ (g 33 r 0)), .int (iZ (g 34 r 0)), .int (iZ (g 35 r 0)), .int (iZ (g 36 r 0)), .long (lZ (9223372036854775807)), .long (lZ (9223372036854775807))])))) t9.heap) (fun q => z 0 ≤ q)) (0) (0) (fun q => z 0 ≤ q) := by
  refine gMet (own := RX3) (cc := cX3_becomeWhole) (maxL := 3) (ret := none) (by decide) rfl rfl (Nat.le_of_ble_eq_true rfl) ?_
  intro p e s m below meth c hx hb hml hown hts hr hlocks hnm hg hW ls hl
  have hK := hg.1
  have hS : va_S (fun q => z 0 ≤ q) s.heap s.heap [] := va_S.rf
  have hi5 : ∀ w ∈ u_ws RX3 TX3 14, w ∈ wsX3_becomeWhole := by decide +kernel
  have hl : lv_has ls 3 [(0, .ref (al 0 0)), (1, .ref (al 9 r)), (2, .ref ob)] := hl
  have fX : en 0 0 = some (al 0 0, .inr (5, [.int (iZ (g 0 0 0)), .ref (al 1 0), .ref (al 1 1), .ref (al 3 0), .ref (al 4 0), .int (iZ (g 0 5 0)), .ref (al 11 0), .long (lZ (g 0 7 0)), .int (iZ (g 0 8 0)), .int (iZ (g 0 9 0)), .int (iZ (g 0 10 0)), .int (iZ (g 0 11 0)), .int (iZ (g 0 12 0)), .int (iZ (g 0 13 0))])) := ec_X hE
  have fL0 : en 1 0 = some (al 1 0, .inr (1, [.int (iZ (g 3 0 0)), .ref (al 2 0), .int (iZ (g 1 0 0))])) := ec_L0 hE
  have fL1 : en 1 1 = some (al 1 1, .inr (1, [.int (iZ (g 3 1 0)), .ref (al 2 1), .int (iZ (g 1 1 0))])) := ec_L1 hE
  have fQ : en 3 0 = some (al 3 0, aR dA (4) (fun j => some (al 9 j))) := ec_Q hE
  have fC : en 4 0 = some (al 4 0, aI dA (8) (fun j => g 2 j 0)) := ec_C hE
  have fR : en 9 r = some (al 9 r, .inr (3, [.int (iZ (g 30 r 0)), .int (iZ (g 31 r 0)), .ref (al 10 r), .int (iZ (g 33 r 0)), .int (iZ (g 34 r 0)), .int (iZ (g 35 r 0)), .int (iZ (g 36 r 0)), .long (lZ (g 37 r 0)), .long (lZ (g 38 r 0))])) := ec_R hE (by omega)
  refine lv_aload_n hx hb dX3_becomeWhole_0 rfl (lv_at hl 0 rfl) ?_
  refine lv_aload_n hx hb dX3_becomeWhole_1 rfl (lv_at hl 2 rfl) ?_
  refine g_put (C := RX3) (T := TX3) (N := 14) (ci := 5) (ty := .array .byte) (v := .ref ob) (fs' := [.int (iZ (g 0 0 0)), .ref (al 1 0), .ref (al 1 1), .ref (al 3 0), .ref (al 4 0), .int (iZ (g 0 5 0)), .ref ob, .long (lZ (g 0 7 0)), .int (iZ (g 0 8 0)), .int (iZ (g 0 9 0)), .int (iZ (g 0 10 0)), .int (iZ (g 0 11 0)), .int (iZ (g 0 12 0)), .int (iZ (g 0 13 0))]) hx hb hts hi5 tyX3 tyX3_ok nmX3 hown hK hW hS fX rfl 6 (by decide) (hts (.fieldLink RX3 33 "LongTransfer" "gotOctets" "[B") (by decide +kernel)) (fun _ h9 => h9) rfl (by decide +kernel) rfl rfl (Nat.le_of_ble_eq_true rfl) dX3_becomeWhole_2 rfl (fun H locs hW hS => ?_)
  have fL0 : (e2 en 0 0 (some (al 0 0, .inr (5, [.int (iZ (g 0 0 0)), .ref (al 1 0), .ref (al 1 1), .ref (al 3 0), .ref (al 4 0), .int (iZ (g 0 5 0)), .ref ob, .long (lZ (g 0 7 0)), .int (iZ (g 0 8 0)), .int (iZ (g 0 9 0)), .int (iZ (g 0 10 0)), .int (iZ (g 0 11 0)), .int (iZ (g 0 12 0)), .int (iZ (g 0 13 0))])))) 1 0 = some (al 1 0, .inr (1, [.int (iZ (g 3 0 0)), .ref (al 2 0), .int (iZ (g 1 0 0))])) := (e2_k (by decide)).trans fL0
  have fL1 : (e2 en 0 0 (some (al 0 0, .inr (5, [.int (iZ (g 0 0 0)), .ref (al 1 0), .ref (al 1 1), .ref (al 3 0), .ref (al 4 0), .int (iZ (g 0 5 0)), .ref ob, .long (lZ (g 0 7 0)), .int (iZ (g 0 8 0)), .int (iZ (g 0 9 0)), .int (iZ (g 0 10 0)), .int (iZ (g 0 11 0)), .int (iZ (g 0 12 0)), .int (iZ (g 0 13 0))])))) 1 1 = some (al 1 1, .inr (1, [.int (iZ (g 3 1 0)), .ref (al 2 1), .int (iZ (g 1 1 0))])) := (e2_k (by decide)).trans fL1
  have fQ : (e2 en 0 0 (some (al 0 0, .inr (5, [.int (iZ (g 0 0 0)), .ref (al 1 0), .ref (al 1 1), .ref (al 3 0), .ref (al 4 0), .int (iZ (g 0 5 0)), .ref ob, .long (lZ (g 0 7 0)), .int (iZ (g 0 8 0)), .int (iZ (g 0 9 0)), .int (iZ (g 0 10 0)), .int (iZ (g 0 11 0)), .int (iZ (g 0 12 0)), .int (iZ (g 0 13 0))])))) 3 0 = some (al 3 0, aR dA (4) (fun j => some (al 9 j))) := (e2_k (by decide)).trans fQ
  have fC : (e2 en 0 0 (some (al 0 0, .inr (5, [.int (iZ (g 0 0 0)), .ref (al 1 0), .ref (al 1 1), .ref (al 3 0), .ref (al 4 0), .int (iZ (g 0 5 0)), .ref ob, .long (lZ (g 0 7 0)), .int (iZ (g 0 8 0)), .int (iZ (g 0 9 0)), .int (iZ (g 0 10 0)), .int (iZ (g 0 11 0)), .int (iZ (g 0 12 0)), .int (iZ (g 0 13 0))])))) 4 0 = some (al 4 0, aI dA (8) (fun j => g 2 j 0)) := (e2_k (by decide)).trans fC
  have fR : (e2 en 0 0 (some (al 0 0, .inr (5, [.int (iZ (g 0 0 0)), .ref (al 1 0), .ref (al 1 1), .ref (al 3 0), .ref (al 4 0), .int (iZ (g 0 5 0)), .ref ob, .long (lZ (g 0 7 0)), .int (iZ (g 0 8 0)), .int (iZ (g 0 9 0)), .int (iZ (g 0 10 0)), .int (iZ (g 0 11 0)), .int (iZ (g 0 12 0)), .int (iZ (g 0 13 0))])))) 9 r = some (al 9 r, .inr (3, [.int (iZ (g 30 r 0)), .int (iZ (g 31 r 0)), .ref (al 10 r), .int (iZ (g 33 r 0)), .int (iZ (g 34 r 0)), .int (iZ (g 35 r 0)), .int (iZ (g 36 r 0)), .long (lZ (g 37 r 0)), .long (lZ (g 38 r 0))])) := (e2_k (by decide)).trans fR
  have fX : (e2 en 0 0 (some (al 0 0, .inr (5, [.int (iZ (g 0 0 0)), .ref (al 1 0), .ref (al 1 1), .ref (al 3 0), .ref (al 4 0), .int (iZ (g 0 5 0)), .ref ob, .long (lZ (g 0 7 0)), .int (iZ (g 0 8 0)), .int (iZ (g 0 9 0)), .int (iZ (g 0 10 0)), .int (iZ (g 0 11 0)), .int (iZ (g 0 12 0)), .int (iZ (g 0 13 0))])))) 0 0 = some (al 0 0, .inr (5, [.int (iZ (g 0 0 0)), .ref (al 1 0), .ref (al 1 1), .ref (al 3 0), .ref (al 4 0), .int (iZ (g 0 5 0)), .ref ob, .long (lZ (g 0 7 0)), .int (iZ (g 0 8 0)), .int (iZ (g 0 9 0)), .int (iZ (g 0 10 0)), .int (iZ (g 0 11 0)), .int (iZ (g 0 12 0)), .int (iZ (g 0 13 0))])) := e2_s _ _ _ _
  refine lv_aload_n hx hb dX3_becomeWhole_5 rfl (lv_at hl 0 rfl) ?_
  refine z_iconst hx hb dX3_becomeWhole_6 ?_
  refine va_callv (va_runV (As := [.int (iZ (0))]) (rest := []) ⟨hx, hb, hml, hown, hts⟩ (c_X3_countL l D dA z (e2 en 0 0 (some (al 0 0, .inr (5, [.int (iZ (g 0 0 0)), .ref (al 1 0), .ref (al 1 1), .ref (al 3 0), .ref (al 4 0), .int (iZ (g 0 5 0)), .ref ob, .long (lZ (g 0 7 0)), .int (iZ (g 0 8 0)), .int (iZ (g 0 9 0)), .int (iZ (g 0 10 0)), .int (iZ (g 0 11 0)), .int (iZ (g 0 12 0)), .int (iZ (g 0 13 0))])))) (al 0 0) (al 1 0) (al 1 1) (al 3 0) (al 4 0) ob (g 0 0 0) (g 0 5 0) (g 0 7 0) (g 0 8 0) (g 0 9 0) (g 0 10 0) (g 0 11 0) (g 0 12 0) (g 0 13 0) 0 (fun j => g 2 j 0) (by omega) (by omega) fX fC) (cwV 1 hts gX3_becomeWhole_X3_count rfl rfl rfl (by decide +kernel) ⟨Nat.le_of_ble_eq_true rfl, Nat.le_of_ble_eq_true rfl⟩) ⟨gBl, gRecv hK hW (ci := 5) rfl fX, gPre _ hg hS hW⟩ rfl rfl hl.1 rfl (lv_room (Nat.le_of_ble_eq_true rfl)) dX3_becomeWhole_7 ⟨(show 0 + 0 ≤ 0 by omega), (show 0 + 0 ≤ 0 by omega)⟩) hS (fun _ _ h => h) (fun _ h => h) (fun u9 t9 H locs ht9 hvm9 hw9 hB9 hz9 hk9 hS => ?_)
  have hW : Wd D (z 0) (e2 (e2 en 0 0 (some (al 0 0, .inr (5, [.int (iZ (g 0 0 0)), .ref (al 1 0), .ref (al 1 1), .ref (al 3 0), .ref (al 4 0), .int (iZ (g 0 5 0)), .ref ob, .long (lZ (g 0 7 0)), .int (iZ (g 0 8 0)), .int (iZ (g 0 9 0)), .int (iZ (g 0 10 0)), .int (iZ (g 0 11 0)), .int (iZ (g 0 12 0)), .int (iZ (g 0 13 0))])))) 4 0 (some (al 4 0, aI dA (8) (uF (fun j => g 2 j 0) (0) (g 2 0 0 + 1))))) H := by rw [← ht9]; exact hB9
  have fX : (e2 (e2 en 0 0 (some (al 0 0, .inr (5, [.int (iZ (g 0 0 0)), .ref (al 1 0), .ref (al 1 1), .ref (al 3 0), .ref (al 4 0), .int (iZ (g 0 5 0)), .ref ob, .long (lZ (g 0 7 0)), .int (iZ (g 0 8 0)), .int (iZ (g 0 9 0)), .int (iZ (g 0 10 0)), .int (iZ (g 0 11 0)), .int (iZ (g 0 12 0)), .int (iZ (g 0 13 0))])))) 4 0 (some (al 4 0, aI dA (8) (uF (fun j => g 2 j 0) (0) (g 2 0 0 + 1))))) 0 0 = some (al 0 0, .inr (5, [.int (iZ (g 0 0 0)), .ref (al 1 0), .ref (al 1 1), .ref (al 3 0), .ref (al 4 0), .int (iZ (g 0 5 0)), .ref ob, .long (lZ (g 0 7 0)), .int (iZ (g 0 8 0)), .int (iZ (g 0 9 0)), .int (iZ (g 0 10 0)), .int (iZ (g 0 11 0)), .int (iZ (g 0 12 0)), .int (iZ (g 0 13 0))])) := (e2_k (by decide)).trans fX
  have fL0 : (e2 (e2 en 0 0 (some (al 0 0, .inr (5, [.int (iZ (g 0 0 0)), .ref (al 1 0), .ref (al 1 1), .ref (al 3 0), .ref (al 4 0), .int (iZ (g 0 5 0)), .ref ob, .long (lZ (g 0 7 0)), .int (iZ (g 0 8 0)), .int (iZ (g 0 9 0)), .int (iZ (g 0 10 0)), .int (iZ (g 0 11 0)), .int (iZ (g 0 12 0)), .int (iZ (g 0 13 0))])))) 4 0 (some (al 4 0, aI dA (8) (uF (fun j => g 2 j 0) (0) (g 2 0 0 + 1))))) 1 0 = some (al 1 0, .inr (1, [.int (iZ (g 3 0 0)), .ref (al 2 0), .int (iZ (g 1 0 0))])) := (e2_k (by decide)).trans fL0
  have fL1 : (e2 (e2 en 0 0 (some (al 0 0, .inr (5, [.int (iZ (g 0 0 0)), .ref (al 1 0), .ref (al 1 1), .ref (al 3 0), .ref (al 4 0), .int (iZ (g 0 5 0)), .ref ob, .long (lZ (g 0 7 0)), .int (iZ (g 0 8 0)), .int (iZ (g 0 9 0)), .int (iZ (g 0 10 0)), .int (iZ (g 0 11 0)), .int (iZ (g 0 12 0)), .int (iZ (g 0 13 0))])))) 4 0 (some (al 4 0, aI dA (8) (uF (fun j => g 2 j 0) (0) (g 2 0 0 + 1))))) 1 1 = some (al 1 1, .inr (1, [.int (iZ (g 3 1 0)), .ref (al 2 1), .int (iZ (g 1 1 0))])) := (e2_k (by decide)).trans fL1
  have fQ : (e2 (e2 en 0 0 (some (al 0 0, .inr (5, [.int (iZ (g 0 0 0)), .ref (al 1 0), .ref (al 1 1), .ref (al 3 0), .ref (al 4 0), .int (iZ (g 0 5 0)), .ref ob, .long (lZ (g 0 7 0)), .int (iZ (g 0 8 0)), .int (iZ (g 0 9 0)), .int (iZ (g 0 10 0)), .int (iZ (g 0 11 0)), .int (iZ (g 0 12 0)), .int (iZ (g 0 13 0))])))) 4 0 (some (al 4 0, aI dA (8) (uF (fun j => g 2 j 0) (0) (g 2 0 0 + 1))))) 3 0 = some (al 3 0, aR dA (4) (fun j => some (al 9 j))) := (e2_k (by decide)).trans fQ
  have fR : (e2 (e2 en 0 0 (some (al 0 0, .inr (5, [.int (iZ (g 0 0 0)), .ref (al 1 0), .ref (al 1 1), .ref (al 3 0), .ref (al 4 0), .int (iZ (g 0 5 0)), .ref ob, .long (lZ (g 0 7 0)), .int (iZ (g 0 8 0)), .int (iZ (g 0 9 0)), .int (iZ (g 0 10 0)), .int (iZ (g 0 11 0)), .int (iZ (g 0 12 0)), .int (iZ (g 0 13 0))])))) 4 0 (some (al 4 0, aI dA (8) (uF (fun j => g 2 j 0) (0) (g 2 0 0 + 1))))) 9 r = some (al 9 r, .inr (3, [.int (iZ (g 30 r 0)), .int (iZ (g 31 r 0)), .ref (al 10 r), .int (iZ (g 33 r 0)), .int (iZ (g 34 r 0)), .int (iZ (g 35 r 0)), .int (iZ (g 36 r 0)), .long (lZ (g 37 r 0)), .long (lZ (g 38 r 0))])) := (e2_k (by decide)).trans fR
  have fC : (e2 (e2 en 0 0 (some (al 0 0, .inr (5, [.int (iZ (g 0 0 0)), .ref (al 1 0), .ref (al 1 1), .ref (al 3 0), .ref (al 4 0), .int (iZ (g 0 5 0)), .ref ob, .long (lZ (g 0 7 0)), .int (iZ (g 0 8 0)), .int (iZ (g 0 9 0)), .int (iZ (g 0 10 0)), .int (iZ (g 0 11 0)), .int (iZ (g 0 12 0)), .int (iZ (g 0 13 0))])))) 4 0 (some (al 4 0, aI dA (8) (uF (fun j => g 2 j 0) (0) (g 2 0 0 + 1))))) 4 0 = some (al 4 0, aI dA (8) (uF (fun j => g 2 j 0) (0) (g 2 0 0 + 1))) := e2_s _ _ _ _
  refine lv_aload_n hx hb dX3_becomeWhole_10 rfl (lv_at hl 1 rfl) ?_
  refine z_iconst hx hb dX3_becomeWhole_11 ?_
  refine va_callv (va_runV (As := [.int (iZ (2))]) (rest := []) ⟨hx, hb, hml, hown, hts⟩ (c_X1_rest l D dA z (e2 (e2 en 0 0 (some (al 0 0, .inr (5, [.int (iZ (g 0 0 0)), .ref (al 1 0), .ref (al 1 1), .ref (al 3 0), .ref (al 4 0), .int (iZ (g 0 5 0)), .ref ob, .long (lZ (g 0 7 0)), .int (iZ (g 0 8 0)), .int (iZ (g 0 9 0)), .int (iZ (g 0 10 0)), .int (iZ (g 0 11 0)), .int (iZ (g 0 12 0)), .int (iZ (g 0 13 0))])))) 4 0 (some (al 4 0, aI dA (8) (uF (fun j => g 2 j 0) (0) (g 2 0 0 + 1))))) 9 r (al 9 r) (al 10 r) (g 30 r 0) (g 31 r 0) (g 33 r 0) (g 34 r 0) (g 35 r 0) (g 36 r 0) (g 37 r 0) (g 38 r 0) 2 fR) (cwV 1 hts gX3_becomeWhole_X1_rest rfl rfl rfl (by decide +kernel) ⟨Nat.le_of_ble_eq_true rfl, Nat.le_of_ble_eq_true rfl⟩) ⟨gBl, gRecv hK hW (ci := 3) rfl fR, gPre _ hg hS hW⟩ rfl rfl hl.1 rfl (lv_room (Nat.le_of_ble_eq_true rfl)) dX3_becomeWhole_12 ⟨(show 0 + 0 + 0 ≤ 0 by omega), (show 0 + 0 + 0 ≤ 0 by omega)⟩) hS (fun _ _ h => h) (fun _ h => h) (fun u9 t9 H locs ht9 hvm9 hw9 hB9 hz9 hk9 hS => ?_)
  have hW : Wd D (z 0) (e2 (e2 (e2 en 0 0 (some (al 0 0, .inr (5, [.int (iZ (g 0 0 0)), .ref (al 1 0), .ref (al 1 1), .ref (al 3 0), .ref (al 4 0), .int (iZ (g 0 5 0)), .ref ob, .long (lZ (g 0 7 0)), .int (iZ (g 0 8 0)), .int (iZ (g 0 9 0)), .int (iZ (g 0 10 0)), .int (iZ (g 0 11 0)), .int (iZ (g 0 12 0)), .int (iZ (g 0 13 0))])))) 4 0 (some (al 4 0, aI dA (8) (uF (fun j => g 2 j 0) (0) (g 2 0 0 + 1))))) 9 r (some (al 9 r, .inr (3, [.int (iZ (2)), .int (iZ (g 31 r 0)), .ref (al 10 r), .int (iZ (g 33 r 0)), .int (iZ (g 34 r 0)), .int (iZ (g 35 r 0)), .int (iZ (g 36 r 0)), .long (lZ (9223372036854775807)), .long (lZ (9223372036854775807))])))) H := by rw [← ht9]; exact hB9
  have fX : (e2 (e2 (e2 en 0 0 (some (al 0 0, .inr (5, [.int (iZ (g 0 0 0)), .ref (al 1 0), .ref (al 1 1), .ref (al 3 0), .ref (al 4 0), .int (iZ (g 0 5 0)), .ref ob, .long (lZ (g 0 7 0)), .int (iZ (g 0 8 0)), .int (iZ (g 0 9 0)), .int (iZ (g 0 10 0)), .int (iZ (g 0 11 0)), .int (iZ (g 0 12 0)), .int (iZ (g 0 13 0))])))) 4 0 (some (al 4 0, aI dA (8) (uF (fun j => g 2 j 0) (0) (g 2 0 0 + 1))))) 9 r (some (al 9 r, .inr (3, [.int (iZ (2)), .int (iZ (g 31 r 0)), .ref (al 10 r), .int (iZ (g 33 r 0)), .int (iZ (g 34 r 0)), .int (iZ (g 35 r 0)), .int (iZ (g 36 r 0)), .long (lZ (9223372036854775807)), .long (lZ (9223372036854775807))])))) 0 0 = some (al 0 0, .inr (5, [.int (iZ (g 0 0 0)), .ref (al 1 0), .ref (al 1 1), .ref (al 3 0), .ref (al 4 0), .int (iZ (g 0 5 0)), .ref ob, .long (lZ (g 0 7 0)), .int (iZ (g 0 8 0)), .int (iZ (g 0 9 0)), .int (iZ (g 0 10 0)), .int (iZ (g 0 11 0)), .int (iZ (g 0 12 0)), .int (iZ (g 0 13 0))])) := (e2_k (by decide)).trans fX
  have fL0 : (e2 (e2 (e2 en 0 0 (some (al 0 0, .inr (5, [.int (iZ (g 0 0 0)), .ref (al 1 0), .ref (al 1 1), .ref (al 3 0), .ref (al 4 0), .int (iZ (g 0 5 0)), .ref ob, .long (lZ (g 0 7 0)), .int (iZ (g 0 8 0)), .int (iZ (g 0 9 0)), .int (iZ (g 0 10 0)), .int (iZ (g 0 11 0)), .int (iZ (g 0 12 0)), .int (iZ (g 0 13 0))])))) 4 0 (some (al 4 0, aI dA (8) (uF (fun j => g 2 j 0) (0) (g 2 0 0 + 1))))) 9 r (some (al 9 r, .inr (3, [.int (iZ (2)), .int (iZ (g 31 r 0)), .ref (al 10 r), .int (iZ (g 33 r 0)), .int (iZ (g 34 r 0)), .int (iZ (g 35 r 0)), .int (iZ (g 36 r 0)), .long (lZ (9223372036854775807)), .long (lZ (9223372036854775807))])))) 1 0 = some (al 1 0, .inr (1, [.int (iZ (g 3 0 0)), .ref (al 2 0), .int (iZ (g 1 0 0))])) := (e2_k (by decide)).trans fL0
  have fL1 : (e2 (e2 (e2 en 0 0 (some (al 0 0, .inr (5, [.int (iZ (g 0 0 0)), .ref (al 1 0), .ref (al 1 1), .ref (al 3 0), .ref (al 4 0), .int (iZ (g 0 5 0)), .ref ob, .long (lZ (g 0 7 0)), .int (iZ (g 0 8 0)), .int (iZ (g 0 9 0)), .int (iZ (g 0 10 0)), .int (iZ (g 0 11 0)), .int (iZ (g 0 12 0)), .int (iZ (g 0 13 0))])))) 4 0 (some (al 4 0, aI dA (8) (uF (fun j => g 2 j 0) (0) (g 2 0 0 + 1))))) 9 r (some (al 9 r, .inr (3, [.int (iZ (2)), .int (iZ (g 31 r 0)), .ref (al 10 r), .int (iZ (g 33 r 0)), .int (iZ (g 34 r 0)), .int (iZ (g 35 r 0)), .int (iZ (g 36 r 0)), .long (lZ (9223372036854775807)), .long (lZ (9223372036854775807))])))) 1 1 = some (al 1 1, .inr (1, [.int (iZ (g 3 1 0)), .ref (al 2 1), .int (iZ (g 1 1 0))])) := (e2_k (by decide)).trans fL1
  have fQ : (e2 (e2 (e2 en 0 0 (some (al 0 0, .inr (5, [.int (iZ (g 0 0 0)), .ref (al 1 0), .ref (al 1 1), .ref (al 3 0), .ref (al 4 0), .int (iZ (g 0 5 0)), .ref ob, .long (lZ (g 0 7 0)), .int (iZ (g 0 8 0)), .int (iZ (g 0 9 0)), .int (iZ (g 0 10 0)), .int (iZ (g 0 11 0)), .int (iZ (g 0 12 0)), .int (iZ (g 0 13 0))])))) 4 0 (some (al 4 0, aI dA (8) (uF (fun j => g 2 j 0) (0) (g 2 0 0 + 1))))) 9 r (some (al 9 r, .inr (3, [.int (iZ (2)), .int (iZ (g 31 r 0)), .ref (al 10 r), .int (iZ (g 33 r 0)), .int (iZ (g 34 r 0)), .int (iZ (g 35 r 0)), .int (iZ (g 36 r 0)), .long (lZ (9223372036854775807)), .long (lZ (9223372036854775807))])))) 3 0 = some (al 3 0, aR dA (4) (fun j => some (al 9 j))) := (e2_k (by decide)).trans fQ
  have fC : (e2 (e2 (e2 en 0 0 (some (al 0 0, .inr (5, [.int (iZ (g 0 0 0)), .ref (al 1 0), .ref (al 1 1), .ref (al 3 0), .ref (al 4 0), .int (iZ (g 0 5 0)), .ref ob, .long (lZ (g 0 7 0)), .int (iZ (g 0 8 0)), .int (iZ (g 0 9 0)), .int (iZ (g 0 10 0)), .int (iZ (g 0 11 0)), .int (iZ (g 0 12 0)), .int (iZ (g 0 13 0))])))) 4 0 (some (al 4 0, aI dA (8) (uF (fun j => g 2 j 0) (0) (g 2 0 0 + 1))))) 9 r (some (al 9 r, .inr (3, [.int (iZ (2)), .int (iZ (g 31 r 0)), .ref (al 10 r), .int (iZ (g 33 r 0)), .int (iZ (g 34 r 0)), .int (iZ (g 35 r 0)), .int (iZ (g 36 r 0)), .long (lZ (9223372036854775807)), .long (lZ (9223372036854775807))])))) 4 0 = some (al 4 0, aI dA (8) (uF (fun j => g 2 j 0) (0) (g 2 0 0 + 1))) := (e2_k (by decide)).trans fC
  have fR : (e2 (e2 (e2 en 0 0 (some (al 0 0, .inr (5, [.int (iZ (g 0 0 0)), .ref (al 1 0), .ref (al 1 1), .ref (al 3 0), .ref (al 4 0), .int (iZ (g 0 5 0)), .ref ob, .long (lZ (g 0 7 0)), .int (iZ (g 0 8 0)), .int (iZ (g 0 9 0)), .int (iZ (g 0 10 0)), .int (iZ (g 0 11 0)), .int (iZ (g 0 12 0)), .int (iZ (g 0 13 0))])))) 4 0 (some (al 4 0, aI dA (8) (uF (fun j => g 2 j 0) (0) (g 2 0 0 + 1))))) 9 r (some (al 9 r, .inr (3, [.int (iZ (2)), .int (iZ (g 31 r 0)), .ref (al 10 r), .int (iZ (g 33 r 0)), .int (iZ (g 34 r 0)), .int (iZ (g 35 r 0)), .int (iZ (g 36 r 0)), .long (lZ (9223372036854775807)), .long (lZ (9223372036854775807))])))) 9 r = some (al 9 r, .inr (3, [.int (iZ (2)), .int (iZ (g 31 r 0)), .ref (al 10 r), .int (iZ (g 33 r 0)), .int (iZ (g 34 r 0)), .int (iZ (g 35 r 0)), .int (iZ (g 36 r 0)), .long (lZ (9223372036854775807)), .long (lZ (9223372036854775807))])) := e2_s _ _ _ _
  exact W.vret hx hb hr (fun t ht hw => ⟨⟨(), rfl, trivial, by show Wd _ _ _ t.heap; rw [ht]; exact hW⟩, hS.F ht⟩) hS.2.2 dX3_becomeWhole_15
