set_option maxHeartbeats 4000000 in
set_option maxRecDepth 100000 in
theorem c_X3_takeFirst (l : Launch) (D : va_G) (dA : Nat → ClassId) (z : Nat → Nat) (en : en_T) (g : St) (al : Al) (r ff : Int) (h0 : 0 ≤ r) (h1 : r < 4) (hf0 : 1 ≤ ff) (hf1 : ff ≤ g 1 1 0) (h22 : 1 ≤ g 22 ff 0) (h26 : 1 ≤ g 26 ff 0) (h262 : g 26 ff 0 ≤ g 22 ff 0) (hE : EC dA z g al en) (hI : IB g) : Met l yX3_takeFirst wsX3_takeFirst ({ frames := 9, cells := kC (sTF g r ff) - kC g + 1, slots := kS (sTF g r ff) - kS g + (g 22 ff 0).toNat, locals := 222 }) (gP D dA z en [.ref (al 0 0), .ref (al 9 r), .ref (al 7 ff)]) (va_Qv (fun u : en_T × Al => CP dA z (sTF g r ff) g al en u) (fun u t9 => Wd D (z 0) u.1 t9.heap) (fun q => z 0 ≤ q)) (kC (sTF g r ff) - kC g + 1) (kS (sTF g r ff) - kS g + (g 22 ff 0).toNat) (fun q => z 0 ≤ q) := by
  refine gMet (own := RX3) (cc := cX3_takeFirst) (maxL := 3) (ret := none) (by decide) rfl rfl (Nat.le_of_ble_eq_true rfl) ?_
  intro p e s m below meth c hx hb hml hown hts hr hlocks hnm hg hW ls hl
  have hK := hg.1
  have hS : va_S (fun q => z 0 ≤ q) s.heap s.heap [] := va_S.rf
  have hi2 : ∀ w ∈ u_ws RX0 TX0 8, w ∈ wsX3_takeFirst := by decide +kernel
  have hi5 : ∀ w ∈ u_ws RX3 TX3 14, w ∈ wsX3_takeFirst := by decide +kernel
  have hl : lv_has ls 3 [(0, .ref (al 0 0)), (1, .ref (al 9 r)), (2, .ref (al 7 ff))] := hl
  obtain ⟨hIX, hIL, hIS, hIF, hIR, hIG⟩ := id hI
  unfold IL at hIL
  unfold IX at hIX
  have hIFf := hIF ff (by omega) (by omega)
  unfold IF at hIFf
  have hIRr := hIR r (by omega) (by omega)
  unfold IR at hIRr
  have fX : en 0 0 = some (al 0 0, .inr (5, [.int (iZ (g 0 0 0)), .ref (al 1 0), .ref (al 1 1), .ref (al 3 0), .ref (al 4 0), .int (iZ (g 0 5 0)), .ref (al 11 0), .long (lZ (g 0 7 0)), .int (iZ (g 0 8 0)), .int (iZ (g 0 9 0)), .int (iZ (g 0 10 0)), .int (iZ (g 0 11 0)), .int (iZ (g 0 12 0)), .int (iZ (g 0 13 0))])) := ec_X hE
  have fL0 : en 1 0 = some (al 1 0, .inr (1, [.int (iZ (g 3 0 0)), .ref (al 2 0), .int (iZ (g 1 0 0))])) := ec_L0 hE
  have fL1 : en 1 1 = some (al 1 1, .inr (1, [.int (iZ (g 3 1 0)), .ref (al 2 1), .int (iZ (g 1 1 0))])) := ec_L1 hE
  have fQ : en 3 0 = some (al 3 0, aR dA (4) (fun j => some (al 9 j))) := ec_Q hE
  have fC : en 4 0 = some (al 4 0, aI dA (8) (fun j => g 2 j 0)) := ec_C hE
  have fR : en 9 r = some (al 9 r, .inr (3, [.int (iZ (g 30 r 0)), .int (iZ (g 31 r 0)), .ref (al 10 r), .int (iZ (g 33 r 0)), .int (iZ (g 34 r 0)), .int (iZ (g 35 r 0)), .int (iZ (g 36 r 0)), .long (lZ (g 37 r 0)), .long (lZ (g 38 r 0))])) := ec_R hE (by omega)
  have fF : en 7 ff = some (al 7 ff, .inr (2, [.int (iZ (g 20 ff 0)), .int (iZ (g 21 ff 0)), .int (iZ (g 22 ff 0)), .int (iZ (g 23 ff 0)), .int (iZ (g 24 ff 0)), .long (lZ (g 25 ff 0)), .ref (al 8 ff), .int (iZ (g 27 ff 0))])) := ec_F hE (by omega)
  have fFO : bA dA z en 8 ff (al 8 ff) (g 26 ff 0) (g 28 ff) := ec_FO hE (by omega)
  refine lv_aload_n hx hb dX3_takeFirst_0 rfl (lv_at hl 2 rfl) ?_
  refine g_get (C := RX0) (T := TX0) (N := 8) (ci := 2) (v := .int (iZ (g 22 ff 0))) hx hb hts hi2 hown hK hW fF rfl 2 (by decide) (hts (.fieldLink RX3 88 "LongTransfer$Frame" "number" "I") (by decide +kernel)) (fun _ h9 => h9) rfl dX3_takeFirst_1 ?_
  refine lv_aload_n hx hb dX3_takeFirst_4 rfl (lv_at hl 0 rfl) ?_
  refine g_get (C := RX3) (T := TX3) (N := 14) (ci := 5) (v := .int (iZ (g 0 0 0))) hx hb hts hi5 hown hK hW fX rfl 0 (by decide) (hts (.fieldLink RX3 44 "LongTransfer" "room" "I") (by decide +kernel)) (fun _ h9 => h9) rfl dX3_takeFirst_5 ?_
  refine z_icmp_le (tgt := 33) hx hb dX3_takeFirst_8 (by decide) (by omega) (by omega) (fun c_8 => ?_) (fun c_8 => ?_)
  · refine lv_aload_n hx hb dX3_takeFirst_33 rfl (lv_at hl 1 rfl) ?_
    refine lv_aload_n hx hb dX3_takeFirst_34 rfl (lv_at hl 2 rfl) ?_
    refine g_get (C := RX0) (T := TX0) (N := 8) (ci := 2) (v := .int (iZ (g 21 ff 0))) hx hb hts hi2 hown hK hW fF rfl 1 (by decide) (hts (.fieldLink RX3 85 "LongTransfer$Frame" "message" "I") (by decide +kernel)) (fun _ h9 => h9) rfl dX3_takeFirst_35 ?_
    refine lv_aload_n hx hb dX3_takeFirst_38 rfl (lv_at hl 2 rfl) ?_
    refine g_get (C := RX0) (T := TX0) (N := 8) (ci := 2) (v := .int (iZ (g 22 ff 0))) hx hb hts hi2 hown hK hW fF rfl 2 (by decide) (hts (.fieldLink RX3 88 "LongTransfer$Frame" "number" "I") (by decide +kernel)) (fun _ h9 => h9) rfl dX3_takeFirst_39 ?_
    refine va_callv (va_runV (As := [.int (iZ (g 21 ff 0)), .int (iZ (g 22 ff 0))]) (rest := []) ⟨hx, hb, hml, hown, hts⟩ (c_X1_begin l D dA z en 9 r (al 9 r) (al 10 r) (g 30 r 0) (g 31 r 0) (g 33 r 0) (g 34 r 0) (g 35 r 0) (g 36 r 0) (g 37 r 0) (g 38 r 0) (g 21 ff 0) (g 22 ff 0) 10 r (by decide) (by omega) (by omega) fR) (cwV 2 hts gX3_takeFirst_X1_begin rfl rfl rfl (by decide +kernel) ⟨Nat.le_of_ble_eq_true rfl, Nat.le_of_ble_eq_true rfl⟩) ⟨gBl, gRecv hK hW (ci := 3) rfl fR, gPre _ hg hS hW⟩ rfl rfl hl.1 rfl (lv_room (Nat.le_of_ble_eq_true rfl)) dX3_takeFirst_42 ⟨(show 0 + 1 ≤ kC (sTF g r ff) - kC g + 1 by omega), (show 0 + ((g 22 ff 0).toNat) ≤ kS (sTF g r ff) - kS g + (g 22 ff 0).toNat by omega)⟩) hS (fun _ _ h => h) (fun _ h => h) (fun u9 t9 H locs ht9 hvm9 hw9 hB9 hz9 hk9 hS => ?_)
    obtain ⟨qB, hqB⟩ : ∃ y : Nat, y = u9 := ⟨_, rfl⟩
    subst hqB
    have hW : Wd D (z 0) (e2 (e2 (e2 en 9 r (some (al 9 r, .inr (3, [.int (iZ (1)), .int (iZ (g 21 ff 0)), .ref (al 10 r), .int (iZ (g 33 r 0)), .int (iZ (g 34 r 0)), .int (iZ (g 35 r 0)), .int (iZ (g 36 r 0)), .long (lZ (g 37 r 0)), .long (lZ (g 38 r 0))])))) 10 r (some (qB, aB dA (g 22 ff 0) (fun _ => 0)))) 9 r (some (al 9 r, .inr (3, [.int (iZ (1)), .int (iZ (g 21 ff 0)), .ref qB, .int (iZ (0)), .int (iZ (1)), .int (iZ (0)), .int (iZ (0)), .long (lZ (g 37 r 0)), .long (lZ (g 38 r 0))])))) H := by rw [← ht9]; exact hB9
    obtain ⟨en1v, hen1v⟩ : ∃ x : en_T, x = (e2 (e2 (e2 en 9 r (some (al 9 r, .inr (3, [.int (iZ (1)), .int (iZ (g 21 ff 0)), .ref (al 10 r), .int (iZ (g 33 r 0)), .int (iZ (g 34 r 0)), .int (iZ (g 35 r 0)), .int (iZ (g 36 r 0)), .long (lZ (g 37 r 0)), .long (lZ (g 38 r 0))])))) 10 r (some (qB, aB dA (g 22 ff 0) (fun _ => 0)))) 9 r (some (al 9 r, .inr (3, [.int (iZ (1)), .int (iZ (g 21 ff 0)), .ref qB, .int (iZ (0)), .int (iZ (1)), .int (iZ (0)), .int (iZ (0)), .long (lZ (g 37 r 0)), .long (lZ (g 38 r 0))])))) := ⟨_, rfl⟩
    rw [← hen1v] at hW
    obtain ⟨g1v, hg1v⟩ : ∃ x : St, x = sBeg g r (g 21 ff 0) (g 22 ff 0) := ⟨_, rfl⟩
    obtain ⟨al1v, hal1v⟩ : ∃ x : Al, x = wa al 10 r qB := ⟨_, rfl⟩
    have h32q : g1v 32 r 0 = g 22 ff 0 := by rw [hg1v]; simp [sBeg, wr, wR, wa]
    have h39q : g1v 39 r = fun _ => 0 := by rw [hg1v]; funext j; simp [sBeg, wr, wR, wa]
    have ha10 : al1v 10 r = qB := (by rw [hal1v, wa_s])
    have hE1v : EC dA z g1v al1v en1v := ec_r hE (r0 := r) (by omega) (fun t i j h => by rw [hg1v]; simp only [sBeg]; rw [wR_n (by omega)]; repeat rw [wr_n (by omega)]) (fun k i h => by rw [hal1v]; exact wa_n (by omega)) (fun k i h => by rw [hen1v]; repeat rw [e2_n (by omega)]) (by rw [hen1v, hg1v, hal1v]; refine (e2_s _ _ _ _).trans ?_; simp [sBeg, wr, wR, wa]) (fun _ => Or.inr ⟨by omega, by rw [h32q, h39q, ha10, hen1v]; exact (e2_k (by decide)).trans (e2_s _ _ _ _)⟩)
    have hFR1v : FR en en1v := fun k i h1 h2 => by rw [hen1v]; repeat rw [e2_n (by omega)]
    have hAS1v : AS g g1v al al1v := ⟨⟨by rw [hg1v]; exact Int.le_refl _, by rw [hg1v]; exact Int.le_refl _, by rw [hg1v]; exact Int.le_refl _⟩, fun k i h => by rw [hal1v]; exact wa_n (by omega)⟩
    have hl : lv_has ls 3 [(0, .ref (al1v 0 0)), (1, .ref (al1v 9 r)), (2, .ref (al1v 7 ff))] := by rw [hAS1v.2 0 0 (by omega), hAS1v.2 9 r (by omega), hAS1v.2 7 ff (by omega)]; exact hl
    have hN1v := hAS1v.1
    have fX : en1v 0 0 = some (al1v 0 0, .inr (5, [.int (iZ (g1v 0 0 0)), .ref (al1v 1 0), .ref (al1v 1 1), .ref (al1v 3 0), .ref (al1v 4 0), .int (iZ (g1v 0 5 0)), .ref (al1v 11 0), .long (lZ (g1v 0 7 0)), .int (iZ (g1v 0 8 0)), .int (iZ (g1v 0 9 0)), .int (iZ (g1v 0 10 0)), .int (iZ (g1v 0 11 0)), .int (iZ (g1v 0 12 0)), .int (iZ (g1v 0 13 0))])) := ec_X hE1v
    have fL0 : en1v 1 0 = some (al1v 1 0, .inr (1, [.int (iZ (g1v 3 0 0)), .ref (al1v 2 0), .int (iZ (g1v 1 0 0))])) := ec_L0 hE1v
    have fL1 : en1v 1 1 = some (al1v 1 1, .inr (1, [.int (iZ (g1v 3 1 0)), .ref (al1v 2 1), .int (iZ (g1v 1 1 0))])) := ec_L1 hE1v
    have fQ : en1v 3 0 = some (al1v 3 0, aR dA (4) (fun j => some (al1v 9 j))) := ec_Q hE1v
    have fC : en1v 4 0 = some (al1v 4 0, aI dA (8) (fun j => g1v 2 j 0)) := ec_C hE1v
    have fR : en1v 9 r = some (al1v 9 r, .inr (3, [.int (iZ (g1v 30 r 0)), .int (iZ (g1v 31 r 0)), .ref (al1v 10 r), .int (iZ (g1v 33 r 0)), .int (iZ (g1v 34 r 0)), .int (iZ (g1v 35 r 0)), .int (iZ (g1v 36 r 0)), .long (lZ (g1v 37 r 0)), .long (lZ (g1v 38 r 0))])) := ec_R hE1v (by omega)
    have fF : en1v 7 ff = some (al1v 7 ff, .inr (2, [.int (iZ (g1v 20 ff 0)), .int (iZ (g1v 21 ff 0)), .int (iZ (g1v 22 ff 0)), .int (iZ (g1v 23 ff 0)), .int (iZ (g1v 24 ff 0)), .long (lZ (g1v 25 ff 0)), .ref (al1v 8 ff), .int (iZ (g1v 27 ff 0))])) := ec_F hE1v (by omega)
    have fFO : bA dA z en1v 8 ff (al1v 8 ff) (g1v 26 ff 0) (g1v 28 ff) := ec_FO hE1v (by omega)
    have hI1 : IB g1v := by rw [hg1v]; exact ib_beg hI (by omega) (by omega) (by omega) (by omega)
    have hX_ := hI1.1
    unfold IX at hX_
    have hR_ := hI1.2.2.2.2.1 r (by omega) (by omega)
    unfold IR at hR_
    have hF_ := hI1.2.2.2.1 ff (by omega) (by omega)
    unfold IF at hF_
    have e30_ : g1v 30 r 0 = 1 := by rw [hg1v]; simp [sBeg, wr, wR]
    have e33_ : g1v 33 r 0 = 0 := by rw [hg1v]; simp [sBeg, wr, wR]
    have e26_ : g1v 26 ff 0 = g 26 ff 0 := by rw [hg1v]; simp [sBeg, wr, wR]
    have e31_ : g1v 31 r 0 = g 21 ff 0 := by rw [hg1v]; simp [sBeg, wr, wR]
    have ekc : kC g1v = kC g := by rw [hg1v]; rfl
    have eks : kS g1v = kS g := by rw [hg1v]; rfl
    have hFb := hF_.2.2.2.2.2.2.2.2.2
    refine lv_aload_n hx hb dX3_takeFirst_45 rfl (lv_at hl 1 rfl) ?_
    refine lv_aload_n hx hb dX3_takeFirst_46 rfl (lv_at hl 2 rfl) ?_
    refine g_get (C := RX0) (T := TX0) (N := 8) (ci := 2) (v := .ref (al1v 8 ff)) hx hb hts hi2 hown hK hW fF rfl 6 (by decide) (hts (.fieldLink RX3 276 "LongTransfer$Frame" "octets" "[B") (by decide +kernel)) (fun _ h9 => h9) rfl dX3_takeFirst_47 ?_
    refine lv_aload_n hx hb dX3_takeFirst_50 rfl (lv_at hl 0 rfl) ?_
    refine g_get (C := RX3) (T := TX3) (N := 14) (ci := 5) (v := .long (lZ (g1v 0 7 0))) hx hb hts hi5 hown hK hW fX rfl 7 (by decide) (hts (.fieldLink RX3 120 "LongTransfer" "now" "J") (by decide +kernel)) (fun _ h9 => h9) rfl dX3_takeFirst_51 ?_
    have fFb := bA_in fFO (by omega)
    have fRb := bA_in (ec_RO hE1v (r := r) (by omega) (by omega)) (by omega)
    refine va_callv (va_runV (As := [.ref (al1v 8 ff), .long (lZ (g1v 0 7 0))]) (rest := []) ⟨hx, hb, hml, hown, hts⟩ (c_X1_take l D dA z en1v 9 r (al1v 9 r) (al1v 10 r) (g1v 30 r 0) (g1v 31 r 0) (g1v 33 r 0) (g1v 34 r 0) (g1v 35 r 0) (g1v 36 r 0) (g1v 37 r 0) (g1v 38 r 0) (al1v 8 ff) (g1v 0 7 0) (g1v 26 ff 0) (g1v 32 r 0) (g1v 28 ff) (g1v 39 r) 8 10 ff r (by decide) (by decide) (by decide) (by decide) (by omega) (by omega) (by omega) (by omega) hFb fR fFb fRb) (cwV 2 hts gX3_takeFirst_X1_take rfl rfl rfl (by decide +kernel) ⟨Nat.le_of_ble_eq_true rfl, Nat.le_of_ble_eq_true rfl⟩) ⟨gBl, gRecv hK hW (ci := 3) rfl fR, gPre _ hg hS hW⟩ rfl rfl hl.1 rfl (lv_room (Nat.le_of_ble_eq_true rfl)) dX3_takeFirst_54 ⟨(show 0 + 1 + 0 ≤ kC (sTF g r ff) - kC g + 1 by omega), (show 0 + ((g 22 ff 0).toNat) + 0 ≤ kS (sTF g r ff) - kS g + (g 22 ff 0).toNat by omega)⟩) hS (fun _ _ h => h) (fun _ h => h) (fun u9 t9 H locs ht9 hvm9 hw9 hB9 hz9 hk9 hS => ?_)
    have hW : Wd D (z 0) (e2 (e2 en1v 10 r (some (al1v 10 r, aB dA (g1v 32 r 0) (cpF (g1v 28 ff) (g1v 39 r) (0) (g1v 33 r 0) (g1v 26 ff 0))))) 9 r (some (al1v 9 r, .inr (3, [.int (iZ (g1v 30 r 0)), .int (iZ (g1v 31 r 0)), .ref (al1v 10 r), .int (iZ (g1v 33 r 0 + g1v 26 ff 0)), .int (iZ (g1v 34 r 0)), .int (iZ (g1v 35 r 0)), .int (iZ (g1v 36 r 0)), .long (lZ (9223372036854775807)), .long (lZ (g1v 0 7 0 + 1000))])))) H := by rw [← ht9]; exact hB9
    obtain ⟨en2v, hen2v⟩ : ∃ x : en_T, x = (e2 (e2 en1v 10 r (some (al1v 10 r, aB dA (g1v 32 r 0) (cpF (g1v 28 ff) (g1v 39 r) (0) (g1v 33 r 0) (g1v 26 ff 0))))) 9 r (some (al1v 9 r, .inr (3, [.int (iZ (g1v 30 r 0)), .int (iZ (g1v 31 r 0)), .ref (al1v 10 r), .int (iZ (g1v 33 r 0 + g1v 26 ff 0)), .int (iZ (g1v 34 r 0)), .int (iZ (g1v 35 r 0)), .int (iZ (g1v 36 r 0)), .long (lZ (9223372036854775807)), .long (lZ (g1v 0 7 0 + 1000))])))) := ⟨_, rfl⟩
    rw [← hen2v] at hW
    obtain ⟨g2v, hg2v⟩ : ∃ x : St, x = sTake g1v r ff := ⟨_, rfl⟩
    obtain ⟨al2v, hal2v⟩ : ∃ x : Al, x = al1v := ⟨_, rfl⟩
    have h32q : g2v 32 r 0 = g1v 32 r 0 := by rw [hg2v]; simp [sTake, wr, wR]
    have h39q : g2v 39 r = cpF (g1v 28 ff) (g1v 39 r) 0 (g1v 33 r 0) (g1v 26 ff 0) := by rw [hg2v]; funext j; simp [sTake, wr, wR]
    have ha10 : al2v 10 r = al1v 10 r := (by rw [hal2v])
    have hE2v : EC dA z g2v al2v en2v := ec_r hE1v (r0 := r) (by omega) (fun t i j h => by rw [hg2v]; simp only [sTake]; rw [wR_n (by omega)]; repeat rw [wr_n (by omega)]) (fun k i h => by rw [hal2v]) (fun k i h => by rw [hen2v]; repeat rw [e2_n (by omega)]) (by rw [hen2v, hg2v, hal2v]; refine (e2_s _ _ _ _).trans ?_; simp [sTake, wr, wR]) (fun _ => Or.inr ⟨by omega, by rw [h32q, h39q, ha10, hen2v]; exact (e2_k (by decide)).trans (e2_s _ _ _ _)⟩)
    have hFR2v : FR en1v en2v := fun k i h1 h2 => by rw [hen2v]; repeat rw [e2_n (by omega)]
    have hAS2v : AS g1v g2v al1v al2v := ⟨⟨by rw [hg2v]; exact Int.le_refl _, by rw [hg2v]; exact Int.le_refl _, by rw [hg2v]; exact Int.le_refl _⟩, fun k i h => by rw [hal2v]⟩
    have hl : lv_has ls 3 [(0, .ref (al2v 0 0)), (1, .ref (al2v 9 r)), (2, .ref (al2v 7 ff))] := by rw [hAS2v.2 0 0 (by omega), hAS2v.2 9 r (by omega), hAS2v.2 7 ff (by omega)]; exact hl
    have hFR2v := FR.tr hFR1v hFR2v
    have hAS2v := AS.tr hAS1v hAS2v
    have hN2v := hAS2v.1
    have fX : en2v 0 0 = some (al2v 0 0, .inr (5, [.int (iZ (g2v 0 0 0)), .ref (al2v 1 0), .ref (al2v 1 1), .ref (al2v 3 0), .ref (al2v 4 0), .int (iZ (g2v 0 5 0)), .ref (al2v 11 0), .long (lZ (g2v 0 7 0)), .int (iZ (g2v 0 8 0)), .int (iZ (g2v 0 9 0)), .int (iZ (g2v 0 10 0)), .int (iZ (g2v 0 11 0)), .int (iZ (g2v 0 12 0)), .int (iZ (g2v 0 13 0))])) := ec_X hE2v
    have fL0 : en2v 1 0 = some (al2v 1 0, .inr (1, [.int (iZ (g2v 3 0 0)), .ref (al2v 2 0), .int (iZ (g2v 1 0 0))])) := ec_L0 hE2v
    have fL1 : en2v 1 1 = some (al2v 1 1, .inr (1, [.int (iZ (g2v 3 1 0)), .ref (al2v 2 1), .int (iZ (g2v 1 1 0))])) := ec_L1 hE2v
    have fQ : en2v 3 0 = some (al2v 3 0, aR dA (4) (fun j => some (al2v 9 j))) := ec_Q hE2v
    have fC : en2v 4 0 = some (al2v 4 0, aI dA (8) (fun j => g2v 2 j 0)) := ec_C hE2v
    have fR : en2v 9 r = some (al2v 9 r, .inr (3, [.int (iZ (g2v 30 r 0)), .int (iZ (g2v 31 r 0)), .ref (al2v 10 r), .int (iZ (g2v 33 r 0)), .int (iZ (g2v 34 r 0)), .int (iZ (g2v 35 r 0)), .int (iZ (g2v 36 r 0)), .long (lZ (g2v 37 r 0)), .long (lZ (g2v 38 r 0))])) := ec_R hE2v (by omega)
    have fF : en2v 7 ff = some (al2v 7 ff, .inr (2, [.int (iZ (g2v 20 ff 0)), .int (iZ (g2v 21 ff 0)), .int (iZ (g2v 22 ff 0)), .int (iZ (g2v 23 ff 0)), .int (iZ (g2v 24 ff 0)), .long (lZ (g2v 25 ff 0)), .ref (al2v 8 ff), .int (iZ (g2v 27 ff 0))])) := ec_F hE2v (by omega)
    have fFO : bA dA z en2v 8 ff (al2v 8 ff) (g2v 26 ff 0) (g2v 28 ff) := ec_FO hE2v (by omega)
    have hI2 : IB g2v := by rw [hg2v]; exact ib_take hI1 (by omega) (by omega) (by omega) (by omega) (by omega) (by omega)
    have e31_2 : g2v 31 r 0 = g 21 ff 0 := by rw [hg2v]; simp [sTake, wr, wR]; exact e31_
    have ekc2 : kC g2v = kC g := by rw [hg2v]; exact ekc
    have eks2 : kS g2v = kS g := by rw [hg2v]; exact eks
    have hgo : sTF g r ff = sAns g2v r := by rw [hg2v, hg1v]; unfold sTF; rw [if_pos (by omega)]
    have hkc : kC (sTF g r ff) = kC (sAns g2v r) := by rw [hgo]
    have hks : kS (sTF g r ff) = kS (sAns g2v r) := by rw [hgo]
    refine lv_aload_n hx hb dX3_takeFirst_57 rfl (lv_at hl 0 rfl) ?_
    refine lv_aload_n hx hb dX3_takeFirst_58 rfl (lv_at hl 1 rfl) ?_
    refine va_callv (va_runV (As := [.ref (al2v 9 r)]) (rest := []) ⟨hx, hb, hml, hown, hts⟩ (c_X3_answer l D dA z en2v g2v al2v r (by omega) (by omega) (by omega) hE2v hI2) (cwV 1 hts gX3_takeFirst_X3_answer rfl rfl rfl (by decide +kernel) ⟨Nat.le_of_ble_eq_true rfl, Nat.le_of_ble_eq_true rfl⟩) ⟨gBl, gRecv hK hW (ci := 5) rfl fX, gPre _ hg hS hW⟩ rfl rfl hl.1 rfl (lv_room (Nat.le_of_ble_eq_true rfl)) dX3_takeFirst_59 ⟨(show 0 + 1 + 0 + (kC (sAns g2v r) - kC g2v) ≤ kC (sTF g r ff) - kC g + 1 by omega), (show 0 + ((g 22 ff 0).toNat) + 0 + (kS (sAns g2v r) - kS g2v) ≤ kS (sTF g r ff) - kS g + (g 22 ff 0).toNat by omega)⟩) hS (fun _ _ h => h) (fun _ h => h) (fun u9 t9 H locs ht9 hvm9 hw9 hB9 hz9 hk9 hS => ?_)
    obtain ⟨en3v, al3v⟩ := u9
    obtain ⟨hE3v, hFR3v, hAS3v⟩ := hw9
    have hW : Wd D (z 0) en3v H := by rw [← ht9]; exact hB9
    obtain ⟨g3v, hg3v⟩ : ∃ x : St, x = sAns g2v r := ⟨_, rfl⟩
    rw [← hg3v] at hE3v hAS3v
    dsimp only at hE3v hFR3v hAS3v
    have hl : lv_has ls 3 [(0, .ref (al3v 0 0)), (1, .ref (al3v 9 r)), (2, .ref (al3v 7 ff))] := by rw [hAS3v.2 0 0 (by omega), hAS3v.2 9 r (by omega), hAS3v.2 7 ff (by omega)]; exact hl
    have hFR3v := FR.tr hFR2v hFR3v
    have hAS3v := AS.tr hAS2v hAS3v
    have hN3v := hAS3v.1
    have fX : en3v 0 0 = some (al3v 0 0, .inr (5, [.int (iZ (g3v 0 0 0)), .ref (al3v 1 0), .ref (al3v 1 1), .ref (al3v 3 0), .ref (al3v 4 0), .int (iZ (g3v 0 5 0)), .ref (al3v 11 0), .long (lZ (g3v 0 7 0)), .int (iZ (g3v 0 8 0)), .int (iZ (g3v 0 9 0)), .int (iZ (g3v 0 10 0)), .int (iZ (g3v 0 11 0)), .int (iZ (g3v 0 12 0)), .int (iZ (g3v 0 13 0))])) := ec_X hE3v
    have fL0 : en3v 1 0 = some (al3v 1 0, .inr (1, [.int (iZ (g3v 3 0 0)), .ref (al3v 2 0), .int (iZ (g3v 1 0 0))])) := ec_L0 hE3v
    have fL1 : en3v 1 1 = some (al3v 1 1, .inr (1, [.int (iZ (g3v 3 1 0)), .ref (al3v 2 1), .int (iZ (g3v 1 1 0))])) := ec_L1 hE3v
    have fQ : en3v 3 0 = some (al3v 3 0, aR dA (4) (fun j => some (al3v 9 j))) := ec_Q hE3v
    have fC : en3v 4 0 = some (al3v 4 0, aI dA (8) (fun j => g3v 2 j 0)) := ec_C hE3v
    have fR : en3v 9 r = some (al3v 9 r, .inr (3, [.int (iZ (g3v 30 r 0)), .int (iZ (g3v 31 r 0)), .ref (al3v 10 r), .int (iZ (g3v 33 r 0)), .int (iZ (g3v 34 r 0)), .int (iZ (g3v 35 r 0)), .int (iZ (g3v 36 r 0)), .long (lZ (g3v 37 r 0)), .long (lZ (g3v 38 r 0))])) := ec_R hE3v (by omega)
    have fF : en3v 7 ff = some (al3v 7 ff, .inr (2, [.int (iZ (g3v 20 ff 0)), .int (iZ (g3v 21 ff 0)), .int (iZ (g3v 22 ff 0)), .int (iZ (g3v 23 ff 0)), .int (iZ (g3v 24 ff 0)), .long (lZ (g3v 25 ff 0)), .ref (al3v 8 ff), .int (iZ (g3v 27 ff 0))])) := ec_F hE3v (by omega)
    have fFO : bA dA z en3v 8 ff (al3v 8 ff) (g3v 26 ff 0) (g3v 28 ff) := ec_FO hE3v (by omega)
    refine W.widen (k := kC (sTF g r ff) - kC g + 1) (n := kS (sTF g r ff) - kS g + (g 22 ff 0).toNat) (show 0 + 1 + 0 + (kC (sAns g2v r) - kC g2v) ≤ kC (sTF g r ff) - kC g + 1 by omega) (show 0 + ((g 22 ff 0).toNat) + 0 + (kS (sAns g2v r) - kS g2v) ≤ kS (sTF g r ff) - kS g + (g 22 ff 0).toNat by omega) ?_
    have hgz : g3v = sTF g r ff := by subst hg3v; subst hg2v; subst hg1v; rw [hgo]
    rw [hgz] at hE3v hAS3v
    exact W.vret hx hb hr (fun t ht hw => ⟨⟨(en3v, al3v), rfl, ⟨hE3v, hFR3v, hAS3v⟩, by show Wd _ _ _ t.heap; rw [ht]; exact hW⟩, hS.F ht⟩) hS.2.2 dX3_takeFirst_62
  · refine lv_aload_n hx hb dX3_takeFirst_11 rfl (lv_at hl 0 rfl) ?_
    refine lv_aload_n hx hb dX3_takeFirst_12 rfl (lv_at hl 1 rfl) ?_
    refine lv_aload_n hx hb dX3_takeFirst_13 rfl (lv_at hl 2 rfl) ?_
    refine g_get (C := RX0) (T := TX0) (N := 8) (ci := 2) (v := .int (iZ (g 21 ff 0))) hx hb hts hi2 hown hK hW fF rfl 1 (by decide) (hts (.fieldLink RX3 85 "LongTransfer$Frame" "message" "I") (by decide +kernel)) (fun _ h9 => h9) rfl dX3_takeFirst_14 ?_
    refine z_iconst hx hb dX3_takeFirst_17 ?_
    refine z_iconst hx hb dX3_takeFirst_18 ?_
    refine z_iconst hx hb dX3_takeFirst_19 ?_
    have hgo : sTF g r ff = if 6000 ≤ g 1 1 0 then sMkF g r (g 21 ff 0) 2 0 0 else sEndR (sMkF g r (g 21 ff 0) 2 0 0) r 4 := by unfold sTF; rw [if_neg (by omega)]
    have hkc : kC (sTF g r ff) = kC (sMkF g r (g 21 ff 0) 2 0 0) := by rw [hgo]; split <;> rfl
    have hks : kS (sTF g r ff) = kS (sMkF g r (g 21 ff 0) 2 0 0) := by rw [hgo]; split <;> rfl
    refine va_calli (va_runV (As := [.ref (al 9 r), .int (iZ (g 21 ff 0)), .int (iZ (2)), .int (iZ (0)), .int (iZ (0))]) (rest := []) ⟨hx, hb, hml, hown, hts⟩ (c_X3_mkF l D dA z en g al r (g 21 ff 0) 2 0 0 (by omega) (by omega) hE hI) (cwV 5 hts gX3_takeFirst_X3_makeFlowFrame rfl rfl rfl (by decide +kernel) ⟨Nat.le_of_ble_eq_true rfl, Nat.le_of_ble_eq_true rfl⟩) ⟨gBl, gRecv hK hW (ci := 5) rfl fX, gPre _ hg hS hW⟩ rfl rfl hl.1 rfl (lv_room (Nat.le_of_ble_eq_true rfl)) dX3_takeFirst_20 ⟨(show 0 + (kC (sMkF g r (g 21 ff 0) 2 0 0) - kC g) ≤ kC (sTF g r ff) - kC g + 1 by omega), (show 0 + (kS (sMkF g r (g 21 ff 0) 2 0 0) - kS g) ≤ kS (sTF g r ff) - kS g + (g 22 ff 0).toNat by omega)⟩) hS (fun _ _ h => h) (fun _ h => h) (fun r9 u9 t9 H locs ht9 hvm9 hw9 hB9 hz9 hk9 hS => ?_)
    obtain ⟨en4v, al4v⟩ := u9
    obtain ⟨hr9, hE4v, hFR4v, hAS4v⟩ := hw9
    have hW : Wd D (z 0) en4v H := by rw [← ht9]; exact hB9
    obtain ⟨g4v, hg4v⟩ : ∃ x : St, x = sMkF g r (g 21 ff 0) 2 0 0 := ⟨_, rfl⟩
    rw [← hg4v] at hE4v hAS4v
    dsimp only at hE4v hFR4v hAS4v
    subst hr9
    have hl : lv_has ls 3 [(0, .ref (al4v 0 0)), (1, .ref (al4v 9 r)), (2, .ref (al4v 7 ff))] := by rw [hAS4v.2 0 0 (by omega), hAS4v.2 9 r (by omega), hAS4v.2 7 ff (by omega)]; exact hl
    have hN4v := hAS4v.1
    have fX : en4v 0 0 = some (al4v 0 0, .inr (5, [.int (iZ (g4v 0 0 0)), .ref (al4v 1 0), .ref (al4v 1 1), .ref (al4v 3 0), .ref (al4v 4 0), .int (iZ (g4v 0 5 0)), .ref (al4v 11 0), .long (lZ (g4v 0 7 0)), .int (iZ (g4v 0 8 0)), .int (iZ (g4v 0 9 0)), .int (iZ (g4v 0 10 0)), .int (iZ (g4v 0 11 0)), .int (iZ (g4v 0 12 0)), .int (iZ (g4v 0 13 0))])) := ec_X hE4v
    have fL0 : en4v 1 0 = some (al4v 1 0, .inr (1, [.int (iZ (g4v 3 0 0)), .ref (al4v 2 0), .int (iZ (g4v 1 0 0))])) := ec_L0 hE4v
    have fL1 : en4v 1 1 = some (al4v 1 1, .inr (1, [.int (iZ (g4v 3 1 0)), .ref (al4v 2 1), .int (iZ (g4v 1 1 0))])) := ec_L1 hE4v
    have fQ : en4v 3 0 = some (al4v 3 0, aR dA (4) (fun j => some (al4v 9 j))) := ec_Q hE4v
    have fC : en4v 4 0 = some (al4v 4 0, aI dA (8) (fun j => g4v 2 j 0)) := ec_C hE4v
    have fR : en4v 9 r = some (al4v 9 r, .inr (3, [.int (iZ (g4v 30 r 0)), .int (iZ (g4v 31 r 0)), .ref (al4v 10 r), .int (iZ (g4v 33 r 0)), .int (iZ (g4v 34 r 0)), .int (iZ (g4v 35 r 0)), .int (iZ (g4v 36 r 0)), .long (lZ (g4v 37 r 0)), .long (lZ (g4v 38 r 0))])) := ec_R hE4v (by omega)
    have fF : en4v 7 ff = some (al4v 7 ff, .inr (2, [.int (iZ (g4v 20 ff 0)), .int (iZ (g4v 21 ff 0)), .int (iZ (g4v 22 ff 0)), .int (iZ (g4v 23 ff 0)), .int (iZ (g4v 24 ff 0)), .long (lZ (g4v 25 ff 0)), .ref (al4v 8 ff), .int (iZ (g4v 27 ff 0))])) := ec_F hE4v (by omega)
    have fFO : bA dA z en4v 8 ff (al4v 8 ff) (g4v 26 ff 0) (g4v 28 ff) := ec_FO hE4v (by omega)
    have hI1 : IB g4v := by rw [hg4v]; exact ib_mf hI (by omega) (by omega) (by omega) (by omega) (by omega) (by omega)
    by_cases hfull : 6000 ≤ g 1 1 0
    · rw [if_pos hfull]
      refine z_if_eq (tgt := 32) hx hb dX3_takeFirst_23 (by decide) (by omega) (fun c_23 => ?_) (fun c_23 => ?_)
      · refine W.widen (k := kC (sTF g r ff) - kC g + 1) (n := kS (sTF g r ff) - kS g + (g 22 ff 0).toNat) (show 0 + (kC (sMkF g r (g 21 ff 0) 2 0 0) - kC g) ≤ kC (sTF g r ff) - kC g + 1 by omega) (show 0 + (kS (sMkF g r (g 21 ff 0) 2 0 0) - kS g) ≤ kS (sTF g r ff) - kS g + (g 22 ff 0).toNat by omega) ?_
        have hgz : g4v = sTF g r ff := by subst hg4v; rw [hgo]; first | done | rw [if_pos hfull] | rw [if_neg hfull]
        rw [hgz] at hE4v hAS4v
        exact W.vret hx hb hr (fun t ht hw => ⟨⟨(en4v, al4v), rfl, ⟨hE4v, hFR4v, hAS4v⟩, by show Wd _ _ _ t.heap; rw [ht]; exact hW⟩, hS.F ht⟩) hS.2.2 dX3_takeFirst_32
      · exact absurd c_23 (by omega)
    · rw [if_neg hfull]
      refine z_if_eq (tgt := 32) hx hb dX3_takeFirst_23 (by decide) (by omega) (fun c_23 => ?_) (fun c_23 => ?_)
      · exact absurd c_23 (by omega)
      · refine lv_aload_n hx hb dX3_takeFirst_26 rfl (lv_at hl 0 rfl) ?_
        refine lv_aload_n hx hb dX3_takeFirst_27 rfl (lv_at hl 1 rfl) ?_
        refine z_iconst hx hb dX3_takeFirst_28 ?_
        refine va_callv (va_runV (As := [.ref (al4v 9 r), .int (iZ (4))]) (rest := []) ⟨hx, hb, hml, hown, hts⟩ (c_X3_endReceiver l D dA z en4v g4v al4v r 4 (by omega) (by omega) (by omega) (by omega) hE4v hI1) (cwV 2 hts gX3_takeFirst_X3_endReceiver rfl rfl rfl (by decide +kernel) ⟨Nat.le_of_ble_eq_true rfl, Nat.le_of_ble_eq_true rfl⟩) ⟨gBl, gRecv hK hW (ci := 5) rfl fX, gPre _ hg hS hW⟩ rfl rfl hl.1 rfl (lv_room (Nat.le_of_ble_eq_true rfl)) dX3_takeFirst_29 ⟨(show 0 + (kC (sMkF g r (g 21 ff 0) 2 0 0) - kC g) + 0 ≤ kC (sTF g r ff) - kC g + 1 by omega), (show 0 + (kS (sMkF g r (g 21 ff 0) 2 0 0) - kS g) + 0 ≤ kS (sTF g r ff) - kS g + (g 22 ff 0).toNat by omega)⟩) hS (fun _ _ h => h) (fun _ h => h) (fun u9 t9 H locs ht9 hvm9 hw9 hB9 hz9 hk9 hS => ?_)
        obtain ⟨en5v, al5v⟩ := u9
        obtain ⟨hE5v, hFR5v, hAS5v⟩ := hw9
        have hW : Wd D (z 0) en5v H := by rw [← ht9]; exact hB9
        obtain ⟨g5v, hg5v⟩ : ∃ x : St, x = sEndR g4v r 4 := ⟨_, rfl⟩
        rw [← hg5v] at hE5v hAS5v
        dsimp only at hE5v hFR5v hAS5v
        have hl : lv_has ls 3 [(0, .ref (al5v 0 0)), (1, .ref (al5v 9 r)), (2, .ref (al5v 7 ff))] := by rw [hAS5v.2 0 0 (by omega), hAS5v.2 9 r (by omega), hAS5v.2 7 ff (by omega)]; exact hl
        have hFR5v := FR.tr hFR4v hFR5v
        have hAS5v := AS.tr hAS4v hAS5v
        have hN5v := hAS5v.1
        have fX : en5v 0 0 = some (al5v 0 0, .inr (5, [.int (iZ (g5v 0 0 0)), .ref (al5v 1 0), .ref (al5v 1 1), .ref (al5v 3 0), .ref (al5v 4 0), .int (iZ (g5v 0 5 0)), .ref (al5v 11 0), .long (lZ (g5v 0 7 0)), .int (iZ (g5v 0 8 0)), .int (iZ (g5v 0 9 0)), .int (iZ (g5v 0 10 0)), .int (iZ (g5v 0 11 0)), .int (iZ (g5v 0 12 0)), .int (iZ (g5v 0 13 0))])) := ec_X hE5v
        have fL0 : en5v 1 0 = some (al5v 1 0, .inr (1, [.int (iZ (g5v 3 0 0)), .ref (al5v 2 0), .int (iZ (g5v 1 0 0))])) := ec_L0 hE5v
        have fL1 : en5v 1 1 = some (al5v 1 1, .inr (1, [.int (iZ (g5v 3 1 0)), .ref (al5v 2 1), .int (iZ (g5v 1 1 0))])) := ec_L1 hE5v
        have fQ : en5v 3 0 = some (al5v 3 0, aR dA (4) (fun j => some (al5v 9 j))) := ec_Q hE5v
        have fC : en5v 4 0 = some (al5v 4 0, aI dA (8) (fun j => g5v 2 j 0)) := ec_C hE5v
        have fR : en5v 9 r = some (al5v 9 r, .inr (3, [.int (iZ (g5v 30 r 0)), .int (iZ (g5v 31 r 0)), .ref (al5v 10 r), .int (iZ (g5v 33 r 0)), .int (iZ (g5v 34 r 0)), .int (iZ (g5v 35 r 0)), .int (iZ (g5v 36 r 0)), .long (lZ (g5v 37 r 0)), .long (lZ (g5v 38 r 0))])) := ec_R hE5v (by omega)
        have fF : en5v 7 ff = some (al5v 7 ff, .inr (2, [.int (iZ (g5v 20 ff 0)), .int (iZ (g5v 21 ff 0)), .int (iZ (g5v 22 ff 0)), .int (iZ (g5v 23 ff 0)), .int (iZ (g5v 24 ff 0)), .long (lZ (g5v 25 ff 0)), .ref (al5v 8 ff), .int (iZ (g5v 27 ff 0))])) := ec_F hE5v (by omega)
        have fFO : bA dA z en5v 8 ff (al5v 8 ff) (g5v 26 ff 0) (g5v 28 ff) := ec_FO hE5v (by omega)
        refine W.widen (k := kC (sTF g r ff) - kC g + 1) (n := kS (sTF g r ff) - kS g + (g 22 ff 0).toNat) (show 0 + (kC (sMkF g r (g 21 ff 0) 2 0 0) - kC g) + 0 ≤ kC (sTF g r ff) - kC g + 1 by omega) (show 0 + (kS (sMkF g r (g 21 ff 0) 2 0 0) - kS g) + 0 ≤ kS (sTF g r ff) - kS g + (g 22 ff 0).toNat by omega) ?_
        have hgz : g5v = sTF g r ff := by subst hg5v; subst hg4v; rw [hgo]; first | done | rw [if_pos hfull] | rw [if_neg hfull]
        rw [hgz] at hE5v hAS5v
        exact W.vret hx hb hr (fun t ht hw => ⟨⟨(en5v, al5v), rfl, ⟨hE5v, hFR5v, hAS5v⟩, by show Wd _ _ _ t.heap; rw [ht]; exact hW⟩, hS.F ht⟩) hS.2.2 dX3_takeFirst_32
set_option maxHeartbeats 4000000 in
set_option maxRecDepth 100000 in
theorem c_X3_takeConsecutive (l : Launch) (D : va_G) (dA : Nat → ClassId) (z : Nat → Nat) (en : en_T) (g : St) (al : Al) (r ff : Int) (h0 : 0 ≤ r) (h1 : r < 4) (hf0 : 1 ≤ ff) (hf1 : ff ≤ g 1 1 0) (h26 : 1 ≤ g 26 ff 0) (hcap : g 33 r 0 + g 26 ff 0 ≤ g 32 r 0) (hmg : 1 ≤ g 31 r 0) (hcm : g 36 r 0 ≤ 10000) (hrc : g 30 r 0 = 1) (hE : EC dA z g al en) (hI : IB g) : Met l yX3_takeConsecutive wsX3_takeConsecutive ({ frames := 9, cells := kC (sTC g r ff) - kC g, slots := kS (sTC g r ff) - kS g, locals := 222 }) (gP D dA z en [.ref (al 0 0), .ref (al 9 r), .ref (al 7 ff)]) (va_Qv (fun u : en_T × Al => CP dA z (sTC g r ff) g al en u) (fun u t9 => Wd D (z 0) u.1 t9.heap) (fun q => z 0 ≤ q)) (kC (sTC g r ff) - kC g) (kS (sTC g r ff) - kS g) (fun q => z 0 ≤ q) := by
  refine gMet (own := RX3) (cc := cX3_takeConsecutive) (maxL := 3) (ret := none) (by decide) rfl rfl (Nat.le_of_ble_eq_true rfl) ?_
  intro p e s m below meth c hx hb hml hown hts hr hlocks hnm hg hW ls hl
  have hK := hg.1
  have hS : va_S (fun q => z 0 ≤ q) s.heap s.heap [] := va_S.rf
  have hi2 : ∀ w ∈ u_ws RX0 TX0 8, w ∈ wsX3_takeConsecutive := by decide +kernel
  have hi3 : ∀ w ∈ u_ws RX1 TX1 9, w ∈ wsX3_takeConsecutive := by decide +kernel
  have hi5 : ∀ w ∈ u_ws RX3 TX3 14, w ∈ wsX3_takeConsecutive := by decide +kernel
  have hl : lv_has ls 3 [(0, .ref (al 0 0)), (1, .ref (al 9 r)), (2, .ref (al 7 ff))] := hl
  obtain ⟨hIX, hIL, hIS, hIF, hIR, hIG⟩ := id hI
  unfold IL at hIL
  unfold IX at hIX
  have hIFf := hIF ff (by omega) (by omega)
  unfold IF at hIFf
  have hIRr := hIR r (by omega) (by omega)
  unfold IR at hIRr
  have fX : en 0 0 = some (al 0 0, .inr (5, [.int (iZ (g 0 0 0)), .ref (al 1 0), .ref (al 1 1), .ref (al 3 0), .ref (al 4 0), .int (iZ (g 0 5 0)), .ref (al 11 0), .long (lZ (g 0 7 0)), .int (iZ (g 0 8 0)), .int (iZ (g 0 9 0)), .int (iZ (g 0 10 0)), .int (iZ (g 0 11 0)), .int (iZ (g 0 12 0)), .int (iZ (g 0 13 0))])) := ec_X hE
  have fL0 : en 1 0 = some (al 1 0, .inr (1, [.int (iZ (g 3 0 0)), .ref (al 2 0), .int (iZ (g 1 0 0))])) := ec_L0 hE
  have fL1 : en 1 1 = some (al 1 1, .inr (1, [.int (iZ (g 3 1 0)), .ref (al 2 1), .int (iZ (g 1 1 0))])) := ec_L1 hE
  have fQ : en 3 0 = some (al 3 0, aR dA (4) (fun j => some (al 9 j))) := ec_Q hE
  have fC : en 4 0 = some (al 4 0, aI dA (8) (fun j => g 2 j 0)) := ec_C hE
  have fR : en 9 r = some (al 9 r, .inr (3, [.int (iZ (g 30 r 0)), .int (iZ (g 31 r 0)), .ref (al 10 r), .int (iZ (g 33 r 0)), .int (iZ (g 34 r 0)), .int (iZ (g 35 r 0)), .int (iZ (g 36 r 0)), .long (lZ (g 37 r 0)), .long (lZ (g 38 r 0))])) := ec_R hE (by omega)
  have fF : en 7 ff = some (al 7 ff, .inr (2, [.int (iZ (g 20 ff 0)), .int (iZ (g 21 ff 0)), .int (iZ (g 22 ff 0)), .int (iZ (g 23 ff 0)), .int (iZ (g 24 ff 0)), .long (lZ (g 25 ff 0)), .ref (al 8 ff), .int (iZ (g 27 ff 0))])) := ec_F hE (by omega)
  have fFO : bA dA z en 8 ff (al 8 ff) (g 26 ff 0) (g 28 ff) := ec_FO hE (by omega)
  refine lv_aload_n hx hb dX3_takeConsecutive_0 rfl (lv_at hl 2 rfl) ?_
  refine g_get (C := RX0) (T := TX0) (N := 8) (ci := 2) (v := .int (iZ (g 22 ff 0))) hx hb hts hi2 hown hK hW fF rfl 2 (by decide) (hts (.fieldLink RX3 88 "LongTransfer$Frame" "number" "I") (by decide +kernel)) (fun _ h9 => h9) rfl dX3_takeConsecutive_1 ?_
  refine lv_aload_n hx hb dX3_takeConsecutive_4 rfl (lv_at hl 1 rfl) ?_
  refine g_get (C := RX1) (T := TX1) (N := 9) (ci := 3) (v := .int (iZ (g 34 r 0))) hx hb hts hi3 hown hK hW fR rfl 4 (by decide) (hts (.fieldLink RX3 296 "LongTransfer$Receiver" "sequence" "I") (by decide +kernel)) (fun _ h9 => h9) rfl dX3_takeConsecutive_5 ?_
  refine z_icmp_eq (tgt := 18) hx hb dX3_takeConsecutive_8 (by decide) (by omega) (by omega) (fun c_8 => ?_) (fun c_8 => ?_)
  · refine lv_aload_n hx hb dX3_takeConsecutive_18 rfl (lv_at hl 1 rfl) ?_
    refine lv_aload_n hx hb dX3_takeConsecutive_19 rfl (lv_at hl 1 rfl) ?_
    refine g_get (C := RX1) (T := TX1) (N := 9) (ci := 3) (v := .int (iZ (g 34 r 0))) hx hb hts hi3 hown hK hW fR rfl 4 (by decide) (hts (.fieldLink RX3 296 "LongTransfer$Receiver" "sequence" "I") (by decide +kernel)) (fun _ h9 => h9) rfl dX3_takeConsecutive_20 ?_
    refine z_iconst hx hb dX3_takeConsecutive_23 ?_
    refine z_iadd hx hb dX3_takeConsecutive_24 ?_
    refine z_bipush hx hb dX3_takeConsecutive_25 (by decide) ?_
    refine z_irem hx hb (by omega) (by omega) (by omega) (by omega) dX3_takeConsecutive_27 ?_
    refine g_put (C := RX1) (T := TX1) (N := 9) (ci := 3) (ty := .int) (v := .int (iZ (((g 34 r 0) + 1) % 16))) (fs' := [.int (iZ (g 30 r 0)), .int (iZ (g 31 r 0)), .ref (al 10 r), .int (iZ (g 33 r 0)), .int (iZ (((g 34 r 0) + 1) % 16)), .int (iZ (g 35 r 0)), .int (iZ (g 36 r 0)), .long (lZ (g 37 r 0)), .long (lZ (g 38 r 0))]) hx hb hts hi3 tyX1 tyX1_ok nmX1 hown hK hW hS fR rfl 4 (by decide) (hts (.fieldLink RX3 296 "LongTransfer$Receiver" "sequence" "I") (by decide +kernel)) (fun _ h9 => h9) rfl (by decide +kernel) rfl rfl (Nat.le_of_ble_eq_true rfl) dX3_takeConsecutive_28 rfl (fun H locs hW hS => ?_)
    have fX : (e2 en 9 r (some (al 9 r, .inr (3, [.int (iZ (g 30 r 0)), .int (iZ (g 31 r 0)), .ref (al 10 r), .int (iZ (g 33 r 0)), .int (iZ (((g 34 r 0) + 1) % 16)), .int (iZ (g 35 r 0)), .int (iZ (g 36 r 0)), .long (lZ (g 37 r 0)), .long (lZ (g 38 r 0))])))) 0 0 = some (al 0 0, .inr (5, [.int (iZ (g 0 0 0)), .ref (al 1 0), .ref (al 1 1), .ref (al 3 0), .ref (al 4 0), .int (iZ (g 0 5 0)), .ref (al 11 0), .long (lZ (g 0 7 0)), .int (iZ (g 0 8 0)), .int (iZ (g 0 9 0)), .int (iZ (g 0 10 0)), .int (iZ (g 0 11 0)), .int (iZ (g 0 12 0)), .int (iZ (g 0 13 0))])) := (e2_k (by decide)).trans fX
    have fL0 : (e2 en 9 r (some (al 9 r, .inr (3, [.int (iZ (g 30 r 0)), .int (iZ (g 31 r 0)), .ref (al 10 r), .int (iZ (g 33 r 0)), .int (iZ (((g 34 r 0) + 1) % 16)), .int (iZ (g 35 r 0)), .int (iZ (g 36 r 0)), .long (lZ (g 37 r 0)), .long (lZ (g 38 r 0))])))) 1 0 = some (al 1 0, .inr (1, [.int (iZ (g 3 0 0)), .ref (al 2 0), .int (iZ (g 1 0 0))])) := (e2_k (by decide)).trans fL0
    have fL1 : (e2 en 9 r (some (al 9 r, .inr (3, [.int (iZ (g 30 r 0)), .int (iZ (g 31 r 0)), .ref (al 10 r), .int (iZ (g 33 r 0)), .int (iZ (((g 34 r 0) + 1) % 16)), .int (iZ (g 35 r 0)), .int (iZ (g 36 r 0)), .long (lZ (g 37 r 0)), .long (lZ (g 38 r 0))])))) 1 1 = some (al 1 1, .inr (1, [.int (iZ (g 3 1 0)), .ref (al 2 1), .int (iZ (g 1 1 0))])) := (e2_k (by decide)).trans fL1
    have fQ : (e2 en 9 r (some (al 9 r, .inr (3, [.int (iZ (g 30 r 0)), .int (iZ (g 31 r 0)), .ref (al 10 r), .int (iZ (g 33 r 0)), .int (iZ (((g 34 r 0) + 1) % 16)), .int (iZ (g 35 r 0)), .int (iZ (g 36 r 0)), .long (lZ (g 37 r 0)), .long (lZ (g 38 r 0))])))) 3 0 = some (al 3 0, aR dA (4) (fun j => some (al 9 j))) := (e2_k (by decide)).trans fQ
    have fC : (e2 en 9 r (some (al 9 r, .inr (3, [.int (iZ (g 30 r 0)), .int (iZ (g 31 r 0)), .ref (al 10 r), .int (iZ (g 33 r 0)), .int (iZ (((g 34 r 0) + 1) % 16)), .int (iZ (g 35 r 0)), .int (iZ (g 36 r 0)), .long (lZ (g 37 r 0)), .long (lZ (g 38 r 0))])))) 4 0 = some (al 4 0, aI dA (8) (fun j => g 2 j 0)) := (e2_k (by decide)).trans fC
    have fF : (e2 en 9 r (some (al 9 r, .inr (3, [.int (iZ (g 30 r 0)), .int (iZ (g 31 r 0)), .ref (al 10 r), .int (iZ (g 33 r 0)), .int (iZ (((g 34 r 0) + 1) % 16)), .int (iZ (g 35 r 0)), .int (iZ (g 36 r 0)), .long (lZ (g 37 r 0)), .long (lZ (g 38 r 0))])))) 7 ff = some (al 7 ff, .inr (2, [.int (iZ (g 20 ff 0)), .int (iZ (g 21 ff 0)), .int (iZ (g 22 ff 0)), .int (iZ (g 23 ff 0)), .int (iZ (g 24 ff 0)), .long (lZ (g 25 ff 0)), .ref (al 8 ff), .int (iZ (g 27 ff 0))])) := (e2_k (by decide)).trans fF
    have fFO : bA dA z (e2 en 9 r (some (al 9 r, .inr (3, [.int (iZ (g 30 r 0)), .int (iZ (g 31 r 0)), .ref (al 10 r), .int (iZ (g 33 r 0)), .int (iZ (((g 34 r 0) + 1) % 16)), .int (iZ (g 35 r 0)), .int (iZ (g 36 r 0)), .long (lZ (g 37 r 0)), .long (lZ (g 38 r 0))])))) 8 ff (al 8 ff) (g 26 ff 0) (g 28 ff) := bA_k (by decide) fFO
    have fR : (e2 en 9 r (some (al 9 r, .inr (3, [.int (iZ (g 30 r 0)), .int (iZ (g 31 r 0)), .ref (al 10 r), .int (iZ (g 33 r 0)), .int (iZ (((g 34 r 0) + 1) % 16)), .int (iZ (g 35 r 0)), .int (iZ (g 36 r 0)), .long (lZ (g 37 r 0)), .long (lZ (g 38 r 0))])))) 9 r = some (al 9 r, .inr (3, [.int (iZ (g 30 r 0)), .int (iZ (g 31 r 0)), .ref (al 10 r), .int (iZ (g 33 r 0)), .int (iZ (((g 34 r 0) + 1) % 16)), .int (iZ (g 35 r 0)), .int (iZ (g 36 r 0)), .long (lZ (g 37 r 0)), .long (lZ (g 38 r 0))])) := e2_s _ _ _ _
    obtain ⟨en1v, hen1v⟩ : ∃ x : en_T, x = (e2 en 9 r (some (al 9 r, .inr (3, [.int (iZ (g 30 r 0)), .int (iZ (g 31 r 0)), .ref (al 10 r), .int (iZ (g 33 r 0)), .int (iZ (((g 34 r 0) + 1) % 16)), .int (iZ (g 35 r 0)), .int (iZ (g 36 r 0)), .long (lZ (g 37 r 0)), .long (lZ (g 38 r 0))])))) := ⟨_, rfl⟩
    rw [← hen1v] at hW
    obtain ⟨g1v, hg1v⟩ : ∃ x : St, x = sSq g r := ⟨_, rfl⟩
    obtain ⟨al1v, hal1v⟩ : ∃ x : Al, x = al := ⟨_, rfl⟩
    have hE1v : EC dA z g1v al1v en1v := ec_r hE (r0 := r) (by omega) (fun t i j h => by rw [hg1v]; simp only [sSq]; repeat rw [wr_n (by omega)]) (fun k i h => by rw [hal1v]) (fun k i h => by rw [hen1v]; exact e2_n (by omega)) (by rw [hen1v, hg1v, hal1v]; refine (e2_s _ _ _ _).trans ?_; simp [sSq, wr]) (fun q9 => by rw [hen1v, hg1v, hal1v]; exact bA_e (e2_k (by decide)) (ec_RO hE (r := r) (by omega) (by rw [hg1v] at q9; simpa [sSq, wr] using q9)))
    have hFR1v : FR en en1v := fun k i h1 h2 => by rw [hen1v]; exact e2_n (by omega)
    have hAS1v : AS g g1v al al1v := ⟨⟨by rw [hg1v]; exact Int.le_refl _, by rw [hg1v]; exact Int.le_refl _, by rw [hg1v]; exact Int.le_refl _⟩, fun k i h => by rw [hal1v]⟩
    have hl : lv_has ls 3 [(0, .ref (al1v 0 0)), (1, .ref (al1v 9 r)), (2, .ref (al1v 7 ff))] := by rw [hAS1v.2 0 0 (by omega), hAS1v.2 9 r (by omega), hAS1v.2 7 ff (by omega)]; exact hl
    have hN1v := hAS1v.1
    have fX : en1v 0 0 = some (al1v 0 0, .inr (5, [.int (iZ (g1v 0 0 0)), .ref (al1v 1 0), .ref (al1v 1 1), .ref (al1v 3 0), .ref (al1v 4 0), .int (iZ (g1v 0 5 0)), .ref (al1v 11 0), .long (lZ (g1v 0 7 0)), .int (iZ (g1v 0 8 0)), .int (iZ (g1v 0 9 0)), .int (iZ (g1v 0 10 0)), .int (iZ (g1v 0 11 0)), .int (iZ (g1v 0 12 0)), .int (iZ (g1v 0 13 0))])) := ec_X hE1v
    have fL0 : en1v 1 0 = some (al1v 1 0, .inr (1, [.int (iZ (g1v 3 0 0)), .ref (al1v 2 0), .int (iZ (g1v 1 0 0))])) := ec_L0 hE1v
    have fL1 : en1v 1 1 = some (al1v 1 1, .inr (1, [.int (iZ (g1v 3 1 0)), .ref (al1v 2 1), .int (iZ (g1v 1 1 0))])) := ec_L1 hE1v
    have fQ : en1v 3 0 = some (al1v 3 0, aR dA (4) (fun j => some (al1v 9 j))) := ec_Q hE1v
    have fC : en1v 4 0 = some (al1v 4 0, aI dA (8) (fun j => g1v 2 j 0)) := ec_C hE1v
    have fR : en1v 9 r = some (al1v 9 r, .inr (3, [.int (iZ (g1v 30 r 0)), .int (iZ (g1v 31 r 0)), .ref (al1v 10 r), .int (iZ (g1v 33 r 0)), .int (iZ (g1v 34 r 0)), .int (iZ (g1v 35 r 0)), .int (iZ (g1v 36 r 0)), .long (lZ (g1v 37 r 0)), .long (lZ (g1v 38 r 0))])) := ec_R hE1v (by omega)
    have fF : en1v 7 ff = some (al1v 7 ff, .inr (2, [.int (iZ (g1v 20 ff 0)), .int (iZ (g1v 21 ff 0)), .int (iZ (g1v 22 ff 0)), .int (iZ (g1v 23 ff 0)), .int (iZ (g1v 24 ff 0)), .long (lZ (g1v 25 ff 0)), .ref (al1v 8 ff), .int (iZ (g1v 27 ff 0))])) := ec_F hE1v (by omega)
    have fFO : bA dA z en1v 8 ff (al1v 8 ff) (g1v 26 ff 0) (g1v 28 ff) := ec_FO hE1v (by omega)
    have hI1 : IB g1v := by rw [hg1v]; exact ib_sq hI (by omega) (by omega)
    have hX_ := hI1.1
    unfold IX at hX_
    have hR_ := hI1.2.2.2.2.1 r (by omega) (by omega)
    unfold IR at hR_
    have hF_ := hI1.2.2.2.1 ff (by omega) (by omega)
    unfold IF at hF_
    have e30_ : g1v 30 r 0 = g 30 r 0 := by rw [hg1v]; simp [sSq, wr]
    have e33_ : g1v 33 r 0 = g 33 r 0 := by rw [hg1v]; simp [sSq, wr]
    have e32_ : g1v 32 r 0 = g 32 r 0 := by rw [hg1v]; simp [sSq, wr]
    have e31_ : g1v 31 r 0 = g 31 r 0 := by rw [hg1v]; simp [sSq, wr]
    have e36_ : g1v 36 r 0 = g 36 r 0 := by rw [hg1v]; simp [sSq, wr]
    have e26_ : g1v 26 ff 0 = g 26 ff 0 := by rw [hg1v]; simp [sSq, wr]
    have hFb := hF_.2.2.2.2.2.2.2.2.2
    refine lv_aload_n hx hb dX3_takeConsecutive_31 rfl (lv_at hl 1 rfl) ?_
    refine lv_aload_n hx hb dX3_takeConsecutive_32 rfl (lv_at hl 2 rfl) ?_
    refine g_get (C := RX0) (T := TX0) (N := 8) (ci := 2) (v := .ref (al1v 8 ff)) hx hb hts hi2 hown hK hW fF rfl 6 (by decide) (hts (.fieldLink RX3 276 "LongTransfer$Frame" "octets" "[B") (by decide +kernel)) (fun _ h9 => h9) rfl dX3_takeConsecutive_33 ?_
    refine lv_aload_n hx hb dX3_takeConsecutive_36 rfl (lv_at hl 0 rfl) ?_
    refine g_get (C := RX3) (T := TX3) (N := 14) (ci := 5) (v := .long (lZ (g1v 0 7 0))) hx hb hts hi5 hown hK hW fX rfl 7 (by decide) (hts (.fieldLink RX3 120 "LongTransfer" "now" "J") (by decide +kernel)) (fun _ h9 => h9) rfl dX3_takeConsecutive_37 ?_
    have fFb := bA_in fFO (by omega)
    have fRb := bA_in (ec_RO hE1v (r := r) (by omega) (by omega)) (by omega)
    refine va_callv (va_runV (As := [.ref (al1v 8 ff), .long (lZ (g1v 0 7 0))]) (rest := []) ⟨hx, hb, hml, hown, hts⟩ (c_X1_take l D dA z en1v 9 r (al1v 9 r) (al1v 10 r) (g1v 30 r 0) (g1v 31 r 0) (g1v 33 r 0) (g1v 34 r 0) (g1v 35 r 0) (g1v 36 r 0) (g1v 37 r 0) (g1v 38 r 0) (al1v 8 ff) (g1v 0 7 0) (g1v 26 ff 0) (g1v 32 r 0) (g1v 28 ff) (g1v 39 r) 8 10 ff r (by decide) (by decide) (by decide) (by decide) (by omega) (by omega) (by omega) (by omega) hFb fR fFb fRb) (cwV 2 hts gX3_takeConsecutive_X1_take rfl rfl rfl (by decide +kernel) ⟨Nat.le_of_ble_eq_true rfl, Nat.le_of_ble_eq_true rfl⟩) ⟨gBl, gRecv hK hW (ci := 3) rfl fR, gPre _ hg hS hW⟩ rfl rfl hl.1 rfl (lv_room (Nat.le_of_ble_eq_true rfl)) dX3_takeConsecutive_40 ⟨(show 0 + 0 ≤ kC (sTC g r ff) - kC g by omega), (show 0 + 0 ≤ kS (sTC g r ff) - kS g by omega)⟩) hS (fun _ _ h => h) (fun _ h => h) (fun u9 t9 H locs ht9 hvm9 hw9 hB9 hz9 hk9 hS => ?_)
    have hW : Wd D (z 0) (e2 (e2 en1v 10 r (some (al1v 10 r, aB dA (g1v 32 r 0) (cpF (g1v 28 ff) (g1v 39 r) (0) (g1v 33 r 0) (g1v 26 ff 0))))) 9 r (some (al1v 9 r, .inr (3, [.int (iZ (g1v 30 r 0)), .int (iZ (g1v 31 r 0)), .ref (al1v 10 r), .int (iZ (g1v 33 r 0 + g1v 26 ff 0)), .int (iZ (g1v 34 r 0)), .int (iZ (g1v 35 r 0)), .int (iZ (g1v 36 r 0)), .long (lZ (9223372036854775807)), .long (lZ (g1v 0 7 0 + 1000))])))) H := by rw [← ht9]; exact hB9
    obtain ⟨en2v, hen2v⟩ : ∃ x : en_T, x = (e2 (e2 en1v 10 r (some (al1v 10 r, aB dA (g1v 32 r 0) (cpF (g1v 28 ff) (g1v 39 r) (0) (g1v 33 r 0) (g1v 26 ff 0))))) 9 r (some (al1v 9 r, .inr (3, [.int (iZ (g1v 30 r 0)), .int (iZ (g1v 31 r 0)), .ref (al1v 10 r), .int (iZ (g1v 33 r 0 + g1v 26 ff 0)), .int (iZ (g1v 34 r 0)), .int (iZ (g1v 35 r 0)), .int (iZ (g1v 36 r 0)), .long (lZ (9223372036854775807)), .long (lZ (g1v 0 7 0 + 1000))])))) := ⟨_, rfl⟩
    rw [← hen2v] at hW
    obtain ⟨g2v, hg2v⟩ : ∃ x : St, x = sTake g1v r ff := ⟨_, rfl⟩
    obtain ⟨al2v, hal2v⟩ : ∃ x : Al, x = al1v := ⟨_, rfl⟩
    have h32q : g2v 32 r 0 = g1v 32 r 0 := by rw [hg2v]; simp [sTake, wr, wR]
    have h39q : g2v 39 r = cpF (g1v 28 ff) (g1v 39 r) 0 (g1v 33 r 0) (g1v 26 ff 0) := by rw [hg2v]; funext j; simp [sTake, wr, wR]
    have ha10 : al2v 10 r = al1v 10 r := (by rw [hal2v])
    have hE2v : EC dA z g2v al2v en2v := ec_r hE1v (r0 := r) (by omega) (fun t i j h => by rw [hg2v]; simp only [sTake]; rw [wR_n (by omega)]; repeat rw [wr_n (by omega)]) (fun k i h => by rw [hal2v]) (fun k i h => by rw [hen2v]; repeat rw [e2_n (by omega)]) (by rw [hen2v, hg2v, hal2v]; refine (e2_s _ _ _ _).trans ?_; simp [sTake, wr, wR]) (fun _ => Or.inr ⟨by omega, by rw [h32q, h39q, ha10, hen2v]; exact (e2_k (by decide)).trans (e2_s _ _ _ _)⟩)
    have hFR2v : FR en1v en2v := fun k i h1 h2 => by rw [hen2v]; repeat rw [e2_n (by omega)]
    have hAS2v : AS g1v g2v al1v al2v := ⟨⟨by rw [hg2v]; exact Int.le_refl _, by rw [hg2v]; exact Int.le_refl _, by rw [hg2v]; exact Int.le_refl _⟩, fun k i h => by rw [hal2v]⟩
    have hl : lv_has ls 3 [(0, .ref (al2v 0 0)), (1, .ref (al2v 9 r)), (2, .ref (al2v 7 ff))] := by rw [hAS2v.2 0 0 (by omega), hAS2v.2 9 r (by omega), hAS2v.2 7 ff (by omega)]; exact hl
    have hFR2v := FR.tr hFR1v hFR2v
    have hAS2v := AS.tr hAS1v hAS2v
    have hN2v := hAS2v.1
    have fX : en2v 0 0 = some (al2v 0 0, .inr (5, [.int (iZ (g2v 0 0 0)), .ref (al2v 1 0), .ref (al2v 1 1), .ref (al2v 3 0), .ref (al2v 4 0), .int (iZ (g2v 0 5 0)), .ref (al2v 11 0), .long (lZ (g2v 0 7 0)), .int (iZ (g2v 0 8 0)), .int (iZ (g2v 0 9 0)), .int (iZ (g2v 0 10 0)), .int (iZ (g2v 0 11 0)), .int (iZ (g2v 0 12 0)), .int (iZ (g2v 0 13 0))])) := ec_X hE2v
    have fL0 : en2v 1 0 = some (al2v 1 0, .inr (1, [.int (iZ (g2v 3 0 0)), .ref (al2v 2 0), .int (iZ (g2v 1 0 0))])) := ec_L0 hE2v
    have fL1 : en2v 1 1 = some (al2v 1 1, .inr (1, [.int (iZ (g2v 3 1 0)), .ref (al2v 2 1), .int (iZ (g2v 1 1 0))])) := ec_L1 hE2v
    have fQ : en2v 3 0 = some (al2v 3 0, aR dA (4) (fun j => some (al2v 9 j))) := ec_Q hE2v
    have fC : en2v 4 0 = some (al2v 4 0, aI dA (8) (fun j => g2v 2 j 0)) := ec_C hE2v
    have fR : en2v 9 r = some (al2v 9 r, .inr (3, [.int (iZ (g2v 30 r 0)), .int (iZ (g2v 31 r 0)), .ref (al2v 10 r), .int (iZ (g2v 33 r 0)), .int (iZ (g2v 34 r 0)), .int (iZ (g2v 35 r 0)), .int (iZ (g2v 36 r 0)), .long (lZ (g2v 37 r 0)), .long (lZ (g2v 38 r 0))])) := ec_R hE2v (by omega)
    have fF : en2v 7 ff = some (al2v 7 ff, .inr (2, [.int (iZ (g2v 20 ff 0)), .int (iZ (g2v 21 ff 0)), .int (iZ (g2v 22 ff 0)), .int (iZ (g2v 23 ff 0)), .int (iZ (g2v 24 ff 0)), .long (lZ (g2v 25 ff 0)), .ref (al2v 8 ff), .int (iZ (g2v 27 ff 0))])) := ec_F hE2v (by omega)
    have fFO : bA dA z en2v 8 ff (al2v 8 ff) (g2v 26 ff 0) (g2v 28 ff) := ec_FO hE2v (by omega)
    have hI2 : IB g2v := by rw [hg2v]; exact ib_take hI1 (by omega) (by omega) (by omega) (by omega) (by omega) (by omega)
    have hR_ := hI2.2.2.2.2.1 r (by omega) (by omega)
    unfold IR at hR_
    have hd2 : g2v = sTC1 g r ff := by rw [hg2v, hg1v]; rfl
    have e30_2 : g2v 30 r 0 = g 30 r 0 := by rw [hg2v]; simp [sTake, wr, wR]; exact e30_
    have e31_2 : g2v 31 r 0 = g 31 r 0 := by rw [hg2v]; simp [sTake, wr, wR]; exact e31_
    have e36_2 : g2v 36 r 0 = g 36 r 0 := by rw [hg2v]; simp [sTake, wr, wR]; exact e36_
    have e32_2 : g2v 32 r 0 = g 32 r 0 := by rw [hg2v]; simp [sTake, wr, wR]; exact e32_
    have e33_2 : g2v 33 r 0 = g 33 r 0 + g 26 ff 0 := by rw [hg2v]; simp [sTake, wr, wR]; omega
    have ekc : kC g2v = kC g := by rw [hg2v, hg1v]; rfl
    have eks : kS g2v = kS g := by rw [hg2v, hg1v]; rfl
    refine lv_aload_n hx hb dX3_takeConsecutive_43 rfl (lv_at hl 1 rfl) ?_
    refine va_calli (va_runV (As := []) (rest := []) ⟨hx, hb, hml, hown, hts⟩ (c_X1_isWhole l D dA z en2v 9 r (al2v 9 r) (al2v 10 r) (g2v 30 r 0) (g2v 31 r 0) (g2v 33 r 0) (g2v 34 r 0) (g2v 35 r 0) (g2v 36 r 0) (g2v 37 r 0) (g2v 38 r 0) (g2v 32 r 0) (g2v 39 r) 10 r (by omega) (by omega) fR (ec_RO hE2v (r := r) (by omega) (by omega))) (cwV 0 hts gX3_takeConsecutive_X1_isWhole rfl rfl rfl (by decide +kernel) ⟨Nat.le_of_ble_eq_true rfl, Nat.le_of_ble_eq_true rfl⟩) ⟨gBl, gRecv hK hW (ci := 3) rfl fR, gPre _ hg hS hW⟩ rfl rfl hl.1 rfl (lv_room (Nat.le_of_ble_eq_true rfl)) dX3_takeConsecutive_44 ⟨(show 0 + 0 + 0 ≤ kC (sTC g r ff) - kC g by omega), (show 0 + 0 + 0 ≤ kS (sTC g r ff) - kS g by omega)⟩) hS (fun _ _ h => h) (fun _ h => h) (fun r9 u9 t9 H locs ht9 hvm9 hw9 hB9 hz9 hk9 hS => ?_)
    have hW : Wd D (z 0) en2v H := by rw [← ht9]; exact hB9
    subst hw9
    by_cases hwh : g2v 32 r 0 ≤ g2v 33 r 0
    · rw [if_pos hwh]
      refine z_if_eq (tgt := 60) hx hb dX3_takeConsecutive_47 (by decide) (by omega) (fun c_47 => ?_) (fun c_47 => ?_)
      · exact absurd c_47 (by omega)
      · refine lv_aload_n hx hb dX3_takeConsecutive_50 rfl (lv_at hl 0 rfl) ?_
        refine lv_aload_n hx hb dX3_takeConsecutive_51 rfl (lv_at hl 1 rfl) ?_
        refine lv_aload_n hx hb dX3_takeConsecutive_52 rfl (lv_at hl 1 rfl) ?_
        refine g_get (C := RX1) (T := TX1) (N := 9) (ci := 3) (v := .ref (al2v 10 r)) hx hb hts hi3 hown hK hW fR rfl 2 (by decide) (hts (.fieldLink RX3 300 "LongTransfer$Receiver" "octets" "[B") (by decide +kernel)) (fun _ h9 => h9) rfl dX3_takeConsecutive_53 ?_
        have hgo : sTC g r ff = sWh g2v r (g2v 32 r 0) (g2v 39 r) := by unfold sTC; rw [if_pos (by omega), ← hd2, if_pos hwh]
        have hkc : kC (sTC g r ff) = kC g := by rw [hgo]; exact ekc
        have hks : kS (sTC g r ff) = kS g := by rw [hgo]; exact eks
        refine va_callv (va_runV (As := [.ref (al2v 9 r), .ref (al2v 10 r)]) (rest := []) ⟨hx, hb, hml, hown, hts⟩ (c_X3_becomeWhole l D dA z en2v g2v al2v r (al2v 10 r) (by omega) (by omega) hE2v hI2) (cwV 2 hts gX3_takeConsecutive_X3_becomeWhole rfl rfl rfl (by decide +kernel) ⟨Nat.le_of_ble_eq_true rfl, Nat.le_of_ble_eq_true rfl⟩) ⟨gBl, gRecv hK hW (ci := 5) rfl fX, gPre _ hg hS hW⟩ rfl rfl hl.1 rfl (lv_room (Nat.le_of_ble_eq_true rfl)) dX3_takeConsecutive_56 ⟨(show 0 + 0 + 0 + 0 ≤ kC (sTC g r ff) - kC g by omega), (show 0 + 0 + 0 + 0 ≤ kS (sTC g r ff) - kS g by omega)⟩) hS (fun _ _ h => h) (fun _ h => h) (fun u9 t9 H locs ht9 hvm9 hw9 hB9 hz9 hk9 hS => ?_)
        have hW : Wd D (z 0) (e2 (e2 (e2 en2v 0 0 (some (al2v 0 0, .inr (5, [.int (iZ (g2v 0 0 0)), .ref (al2v 1 0), .ref (al2v 1 1), .ref (al2v 3 0), .ref (al2v 4 0), .int (iZ (g2v 0 5 0)), .ref (al2v 10 r), .long (lZ (g2v 0 7 0)), .int (iZ (g2v 0 8 0)), .int (iZ (g2v 0 9 0)), .int (iZ (g2v 0 10 0)), .int (iZ (g2v 0 11 0)), .int (iZ (g2v 0 12 0)), .int (iZ (g2v 0 13 0))])))) 4 0 (some (al2v 4 0, aI dA (8) (uF (fun j => g2v 2 j 0) (0) (g2v 2 0 0 + 1))))) 9 r (some (al2v 9 r, .inr (3, [.int (iZ (2)), .int (iZ (g2v 31 r 0)), .ref (al2v 10 r), .int (iZ (g2v 33 r 0)), .int (iZ (g2v 34 r 0)), .int (iZ (g2v 35 r 0)), .int (iZ (g2v 36 r 0)), .long (lZ (9223372036854775807)), .long (lZ (9223372036854775807))])))) H := by rw [← ht9]; exact hB9
        have hrow := bA_in (ec_RO hE2v (r := r) (by omega) (by omega)) (by omega)
        have hrow2 : (e2 (e2 (e2 en2v 0 0 (some (al2v 0 0, .inr (5, [.int (iZ (g2v 0 0 0)), .ref (al2v 1 0), .ref (al2v 1 1), .ref (al2v 3 0), .ref (al2v 4 0), .int (iZ (g2v 0 5 0)), .ref (al2v 10 r), .long (lZ (g2v 0 7 0)), .int (iZ (g2v 0 8 0)), .int (iZ (g2v 0 9 0)), .int (iZ (g2v 0 10 0)), .int (iZ (g2v 0 11 0)), .int (iZ (g2v 0 12 0)), .int (iZ (g2v 0 13 0))])))) 4 0 (some (al2v 4 0, aI dA (8) (uF (fun j => g2v 2 j 0) (0) (g2v 2 0 0 + 1))))) 9 r (some (al2v 9 r, .inr (3, [.int (iZ (2)), .int (iZ (g2v 31 r 0)), .ref (al2v 10 r), .int (iZ (g2v 33 r 0)), .int (iZ (g2v 34 r 0)), .int (iZ (g2v 35 r 0)), .int (iZ (g2v 36 r 0)), .long (lZ (9223372036854775807)), .long (lZ (9223372036854775807))])))) 10 r = some (al2v 10 r, aB dA (g2v 32 r 0) (g2v 39 r)) := (e2_k (by decide)).trans ((e2_k (by decide)).trans ((e2_k (by decide)).trans hrow))
        have hW := Wd.move hW 11 0 hrow2
        obtain ⟨en3v, hen3v⟩ : ∃ x : en_T, x = (e2 (e2 (e2 (e2 (e2 en2v 0 0 (some (al2v 0 0, .inr (5, [.int (iZ (g2v 0 0 0)), .ref (al2v 1 0), .ref (al2v 1 1), .ref (al2v 3 0), .ref (al2v 4 0), .int (iZ (g2v 0 5 0)), .ref (al2v 10 r), .long (lZ (g2v 0 7 0)), .int (iZ (g2v 0 8 0)), .int (iZ (g2v 0 9 0)), .int (iZ (g2v 0 10 0)), .int (iZ (g2v 0 11 0)), .int (iZ (g2v 0 12 0)), .int (iZ (g2v 0 13 0))])))) 4 0 (some (al2v 4 0, aI dA (8) (uF (fun j => g2v 2 j 0) (0) (g2v 2 0 0 + 1))))) 9 r (some (al2v 9 r, .inr (3, [.int (iZ (2)), .int (iZ (g2v 31 r 0)), .ref (al2v 10 r), .int (iZ (g2v 33 r 0)), .int (iZ (g2v 34 r 0)), .int (iZ (g2v 35 r 0)), .int (iZ (g2v 36 r 0)), .long (lZ (9223372036854775807)), .long (lZ (9223372036854775807))])))) 10 r none) 11 0 (some (al2v 10 r, aB dA (g2v 32 r 0) (g2v 39 r)))) := ⟨_, rfl⟩
        rw [← hen3v] at hW
        obtain ⟨g3v, hg3v⟩ : ∃ x : St, x = sWh g2v r (g2v 32 r 0) (g2v 39 r) := ⟨_, rfl⟩
        obtain ⟨al3v, hal3v⟩ : ∃ x : Al, x = wa al2v 11 0 (al2v 10 r) := ⟨_, rfl⟩
        have hXq : en3v 0 0 = some (al2v 0 0, .inr (5, eX g2v (wa al2v 11 0 (al2v 10 r)))) := by rw [hen3v]; rw [e2_k (by decide), e2_k (by decide)]; rw [e2_k (by decide), e2_k (by decide), e2_s]; simp [wa]
        have hCq : en3v 4 0 = some (al2v 4 0, aI dA 8 (fun j => sCnt g2v 0 2 j 0)) := by rw [hen3v]; rw [e2_k (by decide), e2_k (by decide)]; rw [e2_k (by decide), e2_s]; congr 3; funext j; by_cases q : j = 0 <;> simp [uF, sCnt, wr, q]
        have hRq : en3v 9 r = some (al2v 9 r, .inr (3, eR (rRest g2v r 2) al2v r)) := by rw [hen3v]; rw [e2_k (by decide), e2_k (by decide)]; rw [e2_s]; simp [rRest, wr]
        have hGq : ∃ (kg : Nat) (ig : Int), (kg = 11 ∧ ig = 0 ∨ kg = 8 ∧ 1 ≤ ig ∧ ig ≤ g2v 1 1 0) ∧ bA dA z en3v kg ig (al2v 10 r) (g2v 32 r 0) (g2v 39 r) := ⟨11, 0, Or.inl ⟨rfl, rfl⟩, Or.inr ⟨by omega, by rw [hen3v]; exact e2_s _ _ _ _⟩⟩
        have heq : ∀ (k : Nat) (i : Int), ¬ ((k = 0 ∧ i = 0) ∨ (k = 4 ∧ i = 0) ∨ (k = 9 ∧ i = r) ∨ (k = 10 ∧ i = r) ∨ (k = 11 ∧ i = 0)) → en3v k i = en2v k i := fun k i h => by rw [hen3v]; repeat rw [e2_n (by omega)]
        have hE3v : EC dA z g3v al3v en3v := by rw [hg3v, hal3v]; exact ec_wh hE2v (by omega) hXq hCq hRq hGq heq
        have hFR3v : FR en2v en3v := fun k i h1 h2 => heq k i (by omega)
        have hAS3v : AS g2v g3v al2v al3v := ⟨⟨by rw [hg3v]; exact Int.le_refl _, by rw [hg3v]; exact Int.le_refl _, by rw [hg3v]; exact Int.le_refl _⟩, fun k i h => by rw [hal3v, wa_n (by omega)]⟩
        have hl : lv_has ls 3 [(0, .ref (al3v 0 0)), (1, .ref (al3v 9 r)), (2, .ref (al3v 7 ff))] := by rw [hAS3v.2 0 0 (by omega), hAS3v.2 9 r (by omega), hAS3v.2 7 ff (by omega)]; exact hl
        have hFR3v := FR.tr hFR2v hFR3v
        have hAS3v := AS.tr hAS2v hAS3v
        have hN3v := hAS3v.1
        have fX : en3v 0 0 = some (al3v 0 0, .inr (5, [.int (iZ (g3v 0 0 0)), .ref (al3v 1 0), .ref (al3v 1 1), .ref (al3v 3 0), .ref (al3v 4 0), .int (iZ (g3v 0 5 0)), .ref (al3v 11 0), .long (lZ (g3v 0 7 0)), .int (iZ (g3v 0 8 0)), .int (iZ (g3v 0 9 0)), .int (iZ (g3v 0 10 0)), .int (iZ (g3v 0 11 0)), .int (iZ (g3v 0 12 0)), .int (iZ (g3v 0 13 0))])) := ec_X hE3v
        have fL0 : en3v 1 0 = some (al3v 1 0, .inr (1, [.int (iZ (g3v 3 0 0)), .ref (al3v 2 0), .int (iZ (g3v 1 0 0))])) := ec_L0 hE3v
        have fL1 : en3v 1 1 = some (al3v 1 1, .inr (1, [.int (iZ (g3v 3 1 0)), .ref (al3v 2 1), .int (iZ (g3v 1 1 0))])) := ec_L1 hE3v
        have fQ : en3v 3 0 = some (al3v 3 0, aR dA (4) (fun j => some (al3v 9 j))) := ec_Q hE3v
        have fC : en3v 4 0 = some (al3v 4 0, aI dA (8) (fun j => g3v 2 j 0)) := ec_C hE3v
        have fR : en3v 9 r = some (al3v 9 r, .inr (3, [.int (iZ (g3v 30 r 0)), .int (iZ (g3v 31 r 0)), .ref (al3v 10 r), .int (iZ (g3v 33 r 0)), .int (iZ (g3v 34 r 0)), .int (iZ (g3v 35 r 0)), .int (iZ (g3v 36 r 0)), .long (lZ (g3v 37 r 0)), .long (lZ (g3v 38 r 0))])) := ec_R hE3v (by omega)
        have fF : en3v 7 ff = some (al3v 7 ff, .inr (2, [.int (iZ (g3v 20 ff 0)), .int (iZ (g3v 21 ff 0)), .int (iZ (g3v 22 ff 0)), .int (iZ (g3v 23 ff 0)), .int (iZ (g3v 24 ff 0)), .long (lZ (g3v 25 ff 0)), .ref (al3v 8 ff), .int (iZ (g3v 27 ff 0))])) := ec_F hE3v (by omega)
        have fFO : bA dA z en3v 8 ff (al3v 8 ff) (g3v 26 ff 0) (g3v 28 ff) := ec_FO hE3v (by omega)
        refine W.widen (k := kC (sTC g r ff) - kC g) (n := kS (sTC g r ff) - kS g) (show 0 + 0 + 0 + 0 ≤ kC (sTC g r ff) - kC g by omega) (show 0 + 0 + 0 + 0 ≤ kS (sTC g r ff) - kS g by omega) ?_
        have hgz : g3v = sTC g r ff := by subst hg3v; subst hg2v; subst hg1v; rw [hgo]; first | done | (unfold sTC3; first | rw [if_pos (by omega)] | rw [if_neg (by omega), if_neg (by omega)])
        rw [hgz] at hE3v hAS3v
        exact W.vret hx hb hr (fun t ht hw => ⟨⟨(en3v, al3v), rfl, ⟨hE3v, hFR3v, hAS3v⟩, by show Wd _ _ _ t.heap; rw [ht]; exact hW⟩, hS.F ht⟩) hS.2.2 dX3_takeConsecutive_59
    · rw [if_neg hwh]
      refine z_if_eq (tgt := 60) hx hb dX3_takeConsecutive_47 (by decide) (by omega) (fun c_47 => ?_) (fun c_47 => ?_)
      · refine lv_aload_n hx hb dX3_takeConsecutive_60 rfl (lv_at hl 1 rfl) ?_
        refine lv_dup hx hb dX3_takeConsecutive_61 rfl ?_
        refine g_get (C := RX1) (T := TX1) (N := 9) (ci := 3) (v := .int (iZ (g2v 36 r 0))) hx hb hts hi3 hown hK hW fR rfl 6 (by decide) (hts (.fieldLink RX3 301 "LongTransfer$Receiver" "come" "I") (by decide +kernel)) (fun _ h9 => h9) rfl dX3_takeConsecutive_62 ?_
        refine z_iconst hx hb dX3_takeConsecutive_65 ?_
        refine z_iadd hx hb dX3_takeConsecutive_66 ?_
        refine g_put (C := RX1) (T := TX1) (N := 9) (ci := 3) (ty := .int) (v := .int (iZ ((g2v 36 r 0) + 1))) (fs' := [.int (iZ (g2v 30 r 0)), .int (iZ (g2v 31 r 0)), .ref (al2v 10 r), .int (iZ (g2v 33 r 0)), .int (iZ (g2v 34 r 0)), .int (iZ (g2v 35 r 0)), .int (iZ ((g2v 36 r 0) + 1)), .long (lZ (g2v 37 r 0)), .long (lZ (g2v 38 r 0))]) hx hb hts hi3 tyX1 tyX1_ok nmX1 hown hK hW hS fR rfl 6 (by decide) (hts (.fieldLink RX3 301 "LongTransfer$Receiver" "come" "I") (by decide +kernel)) (fun _ h9 => h9) rfl (by decide +kernel) rfl rfl (Nat.le_of_ble_eq_true rfl) dX3_takeConsecutive_67 rfl (fun H locs hW hS => ?_)
        have fX : (e2 en2v 9 r (some (al2v 9 r, .inr (3, [.int (iZ (g2v 30 r 0)), .int (iZ (g2v 31 r 0)), .ref (al2v 10 r), .int (iZ (g2v 33 r 0)), .int (iZ (g2v 34 r 0)), .int (iZ (g2v 35 r 0)), .int (iZ ((g2v 36 r 0) + 1)), .long (lZ (g2v 37 r 0)), .long (lZ (g2v 38 r 0))])))) 0 0 = some (al2v 0 0, .inr (5, [.int (iZ (g2v 0 0 0)), .ref (al2v 1 0), .ref (al2v 1 1), .ref (al2v 3 0), .ref (al2v 4 0), .int (iZ (g2v 0 5 0)), .ref (al2v 11 0), .long (lZ (g2v 0 7 0)), .int (iZ (g2v 0 8 0)), .int (iZ (g2v 0 9 0)), .int (iZ (g2v 0 10 0)), .int (iZ (g2v 0 11 0)), .int (iZ (g2v 0 12 0)), .int (iZ (g2v 0 13 0))])) := (e2_k (by decide)).trans fX
        have fL0 : (e2 en2v 9 r (some (al2v 9 r, .inr (3, [.int (iZ (g2v 30 r 0)), .int (iZ (g2v 31 r 0)), .ref (al2v 10 r), .int (iZ (g2v 33 r 0)), .int (iZ (g2v 34 r 0)), .int (iZ (g2v 35 r 0)), .int (iZ ((g2v 36 r 0) + 1)), .long (lZ (g2v 37 r 0)), .long (lZ (g2v 38 r 0))])))) 1 0 = some (al2v 1 0, .inr (1, [.int (iZ (g2v 3 0 0)), .ref (al2v 2 0), .int (iZ (g2v 1 0 0))])) := (e2_k (by decide)).trans fL0
        have fL1 : (e2 en2v 9 r (some (al2v 9 r, .inr (3, [.int (iZ (g2v 30 r 0)), .int (iZ (g2v 31 r 0)), .ref (al2v 10 r), .int (iZ (g2v 33 r 0)), .int (iZ (g2v 34 r 0)), .int (iZ (g2v 35 r 0)), .int (iZ ((g2v 36 r 0) + 1)), .long (lZ (g2v 37 r 0)), .long (lZ (g2v 38 r 0))])))) 1 1 = some (al2v 1 1, .inr (1, [.int (iZ (g2v 3 1 0)), .ref (al2v 2 1), .int (iZ (g2v 1 1 0))])) := (e2_k (by decide)).trans fL1
        have fQ : (e2 en2v 9 r (some (al2v 9 r, .inr (3, [.int (iZ (g2v 30 r 0)), .int (iZ (g2v 31 r 0)), .ref (al2v 10 r), .int (iZ (g2v 33 r 0)), .int (iZ (g2v 34 r 0)), .int (iZ (g2v 35 r 0)), .int (iZ ((g2v 36 r 0) + 1)), .long (lZ (g2v 37 r 0)), .long (lZ (g2v 38 r 0))])))) 3 0 = some (al2v 3 0, aR dA (4) (fun j => some (al2v 9 j))) := (e2_k (by decide)).trans fQ
        have fC : (e2 en2v 9 r (some (al2v 9 r, .inr (3, [.int (iZ (g2v 30 r 0)), .int (iZ (g2v 31 r 0)), .ref (al2v 10 r), .int (iZ (g2v 33 r 0)), .int (iZ (g2v 34 r 0)), .int (iZ (g2v 35 r 0)), .int (iZ ((g2v 36 r 0) + 1)), .long (lZ (g2v 37 r 0)), .long (lZ (g2v 38 r 0))])))) 4 0 = some (al2v 4 0, aI dA (8) (fun j => g2v 2 j 0)) := (e2_k (by decide)).trans fC
        have fF : (e2 en2v 9 r (some (al2v 9 r, .inr (3, [.int (iZ (g2v 30 r 0)), .int (iZ (g2v 31 r 0)), .ref (al2v 10 r), .int (iZ (g2v 33 r 0)), .int (iZ (g2v 34 r 0)), .int (iZ (g2v 35 r 0)), .int (iZ ((g2v 36 r 0) + 1)), .long (lZ (g2v 37 r 0)), .long (lZ (g2v 38 r 0))])))) 7 ff = some (al2v 7 ff, .inr (2, [.int (iZ (g2v 20 ff 0)), .int (iZ (g2v 21 ff 0)), .int (iZ (g2v 22 ff 0)), .int (iZ (g2v 23 ff 0)), .int (iZ (g2v 24 ff 0)), .long (lZ (g2v 25 ff 0)), .ref (al2v 8 ff), .int (iZ (g2v 27 ff 0))])) := (e2_k (by decide)).trans fF
        have fFO : bA dA z (e2 en2v 9 r (some (al2v 9 r, .inr (3, [.int (iZ (g2v 30 r 0)), .int (iZ (g2v 31 r 0)), .ref (al2v 10 r), .int (iZ (g2v 33 r 0)), .int (iZ (g2v 34 r 0)), .int (iZ (g2v 35 r 0)), .int (iZ ((g2v 36 r 0) + 1)), .long (lZ (g2v 37 r 0)), .long (lZ (g2v 38 r 0))])))) 8 ff (al2v 8 ff) (g2v 26 ff 0) (g2v 28 ff) := bA_k (by decide) fFO
        have fR : (e2 en2v 9 r (some (al2v 9 r, .inr (3, [.int (iZ (g2v 30 r 0)), .int (iZ (g2v 31 r 0)), .ref (al2v 10 r), .int (iZ (g2v 33 r 0)), .int (iZ (g2v 34 r 0)), .int (iZ (g2v 35 r 0)), .int (iZ ((g2v 36 r 0) + 1)), .long (lZ (g2v 37 r 0)), .long (lZ (g2v 38 r 0))])))) 9 r = some (al2v 9 r, .inr (3, [.int (iZ (g2v 30 r 0)), .int (iZ (g2v 31 r 0)), .ref (al2v 10 r), .int (iZ (g2v 33 r 0)), .int (iZ (g2v 34 r 0)), .int (iZ (g2v 35 r 0)), .int (iZ ((g2v 36 r 0) + 1)), .long (lZ (g2v 37 r 0)), .long (lZ (g2v 38 r 0))])) := e2_s _ _ _ _
        obtain ⟨en4v, hen4v⟩ : ∃ x : en_T, x = (e2 en2v 9 r (some (al2v 9 r, .inr (3, [.int (iZ (g2v 30 r 0)), .int (iZ (g2v 31 r 0)), .ref (al2v 10 r), .int (iZ (g2v 33 r 0)), .int (iZ (g2v 34 r 0)), .int (iZ (g2v 35 r 0)), .int (iZ ((g2v 36 r 0) + 1)), .long (lZ (g2v 37 r 0)), .long (lZ (g2v 38 r 0))])))) := ⟨_, rfl⟩
        rw [← hen4v] at hW
        obtain ⟨g4v, hg4v⟩ : ∃ x : St, x = sTC2 g2v r := ⟨_, rfl⟩
        obtain ⟨al4v, hal4v⟩ : ∃ x : Al, x = al2v := ⟨_, rfl⟩
        have hE4v : EC dA z g4v al4v en4v := ec_r hE2v (r0 := r) (by omega) (fun t i j h => by rw [hg4v]; simp only [sTC2]; repeat rw [wr_n (by omega)]) (fun k i h => by rw [hal4v]) (fun k i h => by rw [hen4v]; exact e2_n (by omega)) (by rw [hen4v, hg4v, hal4v]; refine (e2_s _ _ _ _).trans ?_; simp [sTC2, wr]) (fun q9 => by rw [hen4v, hg4v, hal4v]; exact bA_e (e2_k (by decide)) (ec_RO hE2v (r := r) (by omega) (by rw [hg4v] at q9; simpa [sTC2, wr] using q9)))
        have hFR4v : FR en2v en4v := fun k i h1 h2 => by rw [hen4v]; exact e2_n (by omega)
        have hAS4v : AS g2v g4v al2v al4v := ⟨⟨by rw [hg4v]; exact Int.le_refl _, by rw [hg4v]; exact Int.le_refl _, by rw [hg4v]; exact Int.le_refl _⟩, fun k i h => by rw [hal4v]⟩
        have hl : lv_has ls 3 [(0, .ref (al4v 0 0)), (1, .ref (al4v 9 r)), (2, .ref (al4v 7 ff))] := by rw [hAS4v.2 0 0 (by omega), hAS4v.2 9 r (by omega), hAS4v.2 7 ff (by omega)]; exact hl
        have hFR4v := FR.tr hFR2v hFR4v
        have hAS4v := AS.tr hAS2v hAS4v
        have hN4v := hAS4v.1
        have fX : en4v 0 0 = some (al4v 0 0, .inr (5, [.int (iZ (g4v 0 0 0)), .ref (al4v 1 0), .ref (al4v 1 1), .ref (al4v 3 0), .ref (al4v 4 0), .int (iZ (g4v 0 5 0)), .ref (al4v 11 0), .long (lZ (g4v 0 7 0)), .int (iZ (g4v 0 8 0)), .int (iZ (g4v 0 9 0)), .int (iZ (g4v 0 10 0)), .int (iZ (g4v 0 11 0)), .int (iZ (g4v 0 12 0)), .int (iZ (g4v 0 13 0))])) := ec_X hE4v
        have fL0 : en4v 1 0 = some (al4v 1 0, .inr (1, [.int (iZ (g4v 3 0 0)), .ref (al4v 2 0), .int (iZ (g4v 1 0 0))])) := ec_L0 hE4v
        have fL1 : en4v 1 1 = some (al4v 1 1, .inr (1, [.int (iZ (g4v 3 1 0)), .ref (al4v 2 1), .int (iZ (g4v 1 1 0))])) := ec_L1 hE4v
        have fQ : en4v 3 0 = some (al4v 3 0, aR dA (4) (fun j => some (al4v 9 j))) := ec_Q hE4v
        have fC : en4v 4 0 = some (al4v 4 0, aI dA (8) (fun j => g4v 2 j 0)) := ec_C hE4v
        have fR : en4v 9 r = some (al4v 9 r, .inr (3, [.int (iZ (g4v 30 r 0)), .int (iZ (g4v 31 r 0)), .ref (al4v 10 r), .int (iZ (g4v 33 r 0)), .int (iZ (g4v 34 r 0)), .int (iZ (g4v 35 r 0)), .int (iZ (g4v 36 r 0)), .long (lZ (g4v 37 r 0)), .long (lZ (g4v 38 r 0))])) := ec_R hE4v (by omega)
        have fF : en4v 7 ff = some (al4v 7 ff, .inr (2, [.int (iZ (g4v 20 ff 0)), .int (iZ (g4v 21 ff 0)), .int (iZ (g4v 22 ff 0)), .int (iZ (g4v 23 ff 0)), .int (iZ (g4v 24 ff 0)), .long (lZ (g4v 25 ff 0)), .ref (al4v 8 ff), .int (iZ (g4v 27 ff 0))])) := ec_F hE4v (by omega)
        have fFO : bA dA z en4v 8 ff (al4v 8 ff) (g4v 26 ff 0) (g4v 28 ff) := ec_FO hE4v (by omega)
        have hI3 : IB g4v := by rw [hg4v]; exact ib_tc2 hI2 (by omega) (by omega) (by omega)
        have hR_ := hI3.2.2.2.2.1 r (by omega) (by omega)
        unfold IR at hR_
        have hgo : sTC g r ff = sTC3 g4v r := by unfold sTC; rw [if_pos (by omega), ← hd2, if_neg hwh, hg4v]
        have e31_3 : g4v 31 r 0 = g 31 r 0 := by rw [hg4v]; simp [sTC2, wr]; exact e31_2
        have ekc3 : kC g4v = kC g := by rw [hg4v]; exact ekc
        have eks3 : kS g4v = kS g := by rw [hg4v]; exact eks
        refine lv_aload_n hx hb dX3_takeConsecutive_70 rfl (lv_at hl 1 rfl) ?_
        refine g_get (C := RX1) (T := TX1) (N := 9) (ci := 3) (v := .int (iZ (g4v 35 r 0))) hx hb hts hi3 hown hK hW fR rfl 5 (by decide) (hts (.fieldLink RX3 304 "LongTransfer$Receiver" "block" "I") (by decide +kernel)) (fun _ h9 => h9) rfl dX3_takeConsecutive_71 ?_
        refine z_if_eq (tgt := 93) hx hb dX3_takeConsecutive_74 (by decide) (by omega) (fun c_74 => ?_) (fun c_74 => ?_)
        · refine W.widen (k := kC (sTC g r ff) - kC g) (n := kS (sTC g r ff) - kS g) (show 0 + 0 + 0 ≤ kC (sTC g r ff) - kC g by omega) (show 0 + 0 + 0 ≤ kS (sTC g r ff) - kS g by omega) ?_
          have hgz : g4v = sTC g r ff := by subst hg4v; subst hg2v; subst hg1v; rw [hgo]; first | done | (unfold sTC3; first | rw [if_pos (by omega)] | rw [if_neg (by omega), if_neg (by omega)])
          rw [hgz] at hE4v hAS4v
          exact W.vret hx hb hr (fun t ht hw => ⟨⟨(en4v, al4v), rfl, ⟨hE4v, hFR4v, hAS4v⟩, by show Wd _ _ _ t.heap; rw [ht]; exact hW⟩, hS.F ht⟩) hS.2.2 dX3_takeConsecutive_93
        · refine lv_aload_n hx hb dX3_takeConsecutive_77 rfl (lv_at hl 1 rfl) ?_
          refine g_get (C := RX1) (T := TX1) (N := 9) (ci := 3) (v := .int (iZ (g4v 36 r 0))) hx hb hts hi3 hown hK hW fR rfl 6 (by decide) (hts (.fieldLink RX3 301 "LongTransfer$Receiver" "come" "I") (by decide +kernel)) (fun _ h9 => h9) rfl dX3_takeConsecutive_78 ?_
          refine lv_aload_n hx hb dX3_takeConsecutive_81 rfl (lv_at hl 1 rfl) ?_
          refine g_get (C := RX1) (T := TX1) (N := 9) (ci := 3) (v := .int (iZ (g4v 35 r 0))) hx hb hts hi3 hown hK hW fR rfl 5 (by decide) (hts (.fieldLink RX3 304 "LongTransfer$Receiver" "block" "I") (by decide +kernel)) (fun _ h9 => h9) rfl dX3_takeConsecutive_82 ?_
          refine z_icmp_ne (tgt := 93) hx hb dX3_takeConsecutive_85 (by decide) (by omega) (by omega) (fun c_85 => ?_) (fun c_85 => ?_)
          · refine W.widen (k := kC (sTC g r ff) - kC g) (n := kS (sTC g r ff) - kS g) (show 0 + 0 + 0 ≤ kC (sTC g r ff) - kC g by omega) (show 0 + 0 + 0 ≤ kS (sTC g r ff) - kS g by omega) ?_
            have hgz : g4v = sTC g r ff := by subst hg4v; subst hg2v; subst hg1v; rw [hgo]; first | done | (unfold sTC3; first | rw [if_pos (by omega)] | rw [if_neg (by omega), if_neg (by omega)])
            rw [hgz] at hE4v hAS4v
            exact W.vret hx hb hr (fun t ht hw => ⟨⟨(en4v, al4v), rfl, ⟨hE4v, hFR4v, hAS4v⟩, by show Wd _ _ _ t.heap; rw [ht]; exact hW⟩, hS.F ht⟩) hS.2.2 dX3_takeConsecutive_93
          · refine lv_aload_n hx hb dX3_takeConsecutive_88 rfl (lv_at hl 0 rfl) ?_
            refine lv_aload_n hx hb dX3_takeConsecutive_89 rfl (lv_at hl 1 rfl) ?_
            have hg3 : sTC3 g4v r = sAns g4v r := by unfold sTC3; rw [if_neg (by omega), if_pos (by omega)]
            rw [hg3] at hgo
            have hkc : kC (sTC g r ff) = kC (sAns g4v r) := by rw [hgo]
            have hks : kS (sTC g r ff) = kS (sAns g4v r) := by rw [hgo]
            refine va_callv (va_runV (As := [.ref (al4v 9 r)]) (rest := []) ⟨hx, hb, hml, hown, hts⟩ (c_X3_answer l D dA z en4v g4v al4v r (by omega) (by omega) (by omega) hE4v hI3) (cwV 1 hts gX3_takeConsecutive_X3_answer rfl rfl rfl (by decide +kernel) ⟨Nat.le_of_ble_eq_true rfl, Nat.le_of_ble_eq_true rfl⟩) ⟨gBl, gRecv hK hW (ci := 5) rfl fX, gPre _ hg hS hW⟩ rfl rfl hl.1 rfl (lv_room (Nat.le_of_ble_eq_true rfl)) dX3_takeConsecutive_90 ⟨(show 0 + 0 + 0 + (kC (sAns g4v r) - kC g4v) ≤ kC (sTC g r ff) - kC g by omega), (show 0 + 0 + 0 + (kS (sAns g4v r) - kS g4v) ≤ kS (sTC g r ff) - kS g by omega)⟩) hS (fun _ _ h => h) (fun _ h => h) (fun u9 t9 H locs ht9 hvm9 hw9 hB9 hz9 hk9 hS => ?_)
            obtain ⟨en5v, al5v⟩ := u9
            obtain ⟨hE5v, hFR5v, hAS5v⟩ := hw9
            have hW : Wd D (z 0) en5v H := by rw [← ht9]; exact hB9
            obtain ⟨g5v, hg5v⟩ : ∃ x : St, x = sAns g4v r := ⟨_, rfl⟩
            rw [← hg5v] at hE5v hAS5v
            dsimp only at hE5v hFR5v hAS5v
            have hl : lv_has ls 3 [(0, .ref (al5v 0 0)), (1, .ref (al5v 9 r)), (2, .ref (al5v 7 ff))] := by rw [hAS5v.2 0 0 (by omega), hAS5v.2 9 r (by omega), hAS5v.2 7 ff (by omega)]; exact hl
            have hFR5v := FR.tr hFR4v hFR5v
            have hAS5v := AS.tr hAS4v hAS5v
            have hN5v := hAS5v.1
            have fX : en5v 0 0 = some (al5v 0 0, .inr (5, [.int (iZ (g5v 0 0 0)), .ref (al5v 1 0), .ref (al5v 1 1), .ref (al5v 3 0), .ref (al5v 4 0), .int (iZ (g5v 0 5 0)), .ref (al5v 11 0), .long (lZ (g5v 0 7 0)), .int (iZ (g5v 0 8 0)), .int (iZ (g5v 0 9 0)), .int (iZ (g5v 0 10 0)), .int (iZ (g5v 0 11 0)), .int (iZ (g5v 0 12 0)), .int (iZ (g5v 0 13 0))])) := ec_X hE5v
            have fL0 : en5v 1 0 = some (al5v 1 0, .inr (1, [.int (iZ (g5v 3 0 0)), .ref (al5v 2 0), .int (iZ (g5v 1 0 0))])) := ec_L0 hE5v
            have fL1 : en5v 1 1 = some (al5v 1 1, .inr (1, [.int (iZ (g5v 3 1 0)), .ref (al5v 2 1), .int (iZ (g5v 1 1 0))])) := ec_L1 hE5v
            have fQ : en5v 3 0 = some (al5v 3 0, aR dA (4) (fun j => some (al5v 9 j))) := ec_Q hE5v
            have fC : en5v 4 0 = some (al5v 4 0, aI dA (8) (fun j => g5v 2 j 0)) := ec_C hE5v
            have fR : en5v 9 r = some (al5v 9 r, .inr (3, [.int (iZ (g5v 30 r 0)), .int (iZ (g5v 31 r 0)), .ref (al5v 10 r), .int (iZ (g5v 33 r 0)), .int (iZ (g5v 34 r 0)), .int (iZ (g5v 35 r 0)), .int (iZ (g5v 36 r 0)), .long (lZ (g5v 37 r 0)), .long (lZ (g5v 38 r 0))])) := ec_R hE5v (by omega)
            have fF : en5v 7 ff = some (al5v 7 ff, .inr (2, [.int (iZ (g5v 20 ff 0)), .int (iZ (g5v 21 ff 0)), .int (iZ (g5v 22 ff 0)), .int (iZ (g5v 23 ff 0)), .int (iZ (g5v 24 ff 0)), .long (lZ (g5v 25 ff 0)), .ref (al5v 8 ff), .int (iZ (g5v 27 ff 0))])) := ec_F hE5v (by omega)
            have fFO : bA dA z en5v 8 ff (al5v 8 ff) (g5v 26 ff 0) (g5v 28 ff) := ec_FO hE5v (by omega)
            refine W.widen (k := kC (sTC g r ff) - kC g) (n := kS (sTC g r ff) - kS g) (show 0 + 0 + 0 + (kC (sAns g4v r) - kC g4v) ≤ kC (sTC g r ff) - kC g by omega) (show 0 + 0 + 0 + (kS (sAns g4v r) - kS g4v) ≤ kS (sTC g r ff) - kS g by omega) ?_
            have hgz : g5v = sTC g r ff := by subst hg5v; subst hg4v; subst hg2v; subst hg1v; rw [hgo]; first | done | (unfold sTC3; first | rw [if_pos (by omega)] | rw [if_neg (by omega), if_neg (by omega)])
            rw [hgz] at hE5v hAS5v
            exact W.vret hx hb hr (fun t ht hw => ⟨⟨(en5v, al5v), rfl, ⟨hE5v, hFR5v, hAS5v⟩, by show Wd _ _ _ t.heap; rw [ht]; exact hW⟩, hS.F ht⟩) hS.2.2 dX3_takeConsecutive_93
      · exact absurd c_47 (by omega)
  · refine lv_aload_n hx hb dX3_takeConsecutive_11 rfl (lv_at hl 0 rfl) ?_
    refine lv_aload_n hx hb dX3_takeConsecutive_12 rfl (lv_at hl 1 rfl) ?_
    refine z_iconst hx hb dX3_takeConsecutive_13 ?_
    have hgo : sTC g r ff = sEndR g r 3 := if_neg (by omega)
    refine va_callv (va_runV (As := [.ref (al 9 r), .int (iZ (3))]) (rest := []) ⟨hx, hb, hml, hown, hts⟩ (c_X3_endReceiver l D dA z en g al r 3 (by omega) (by omega) (by omega) (by omega) hE hI) (cwV 2 hts gX3_takeConsecutive_X3_endReceiver rfl rfl rfl (by decide +kernel) ⟨Nat.le_of_ble_eq_true rfl, Nat.le_of_ble_eq_true rfl⟩) ⟨gBl, gRecv hK hW (ci := 5) rfl fX, gPre _ hg hS hW⟩ rfl rfl hl.1 rfl (lv_room (Nat.le_of_ble_eq_true rfl)) dX3_takeConsecutive_14 ⟨(show 0 + 0 ≤ kC (sTC g r ff) - kC g by omega), (show 0 + 0 ≤ kS (sTC g r ff) - kS g by omega)⟩) hS (fun _ _ h => h) (fun _ h => h) (fun u9 t9 H locs ht9 hvm9 hw9 hB9 hz9 hk9 hS => ?_)
    obtain ⟨en6v, al6v⟩ := u9
    obtain ⟨hE6v, hFR6v, hAS6v⟩ := hw9
    have hW : Wd D (z 0) en6v H := by rw [← ht9]; exact hB9
    obtain ⟨g6v, hg6v⟩ : ∃ x : St, x = sEndR g r 3 := ⟨_, rfl⟩
    rw [← hg6v] at hE6v hAS6v
    dsimp only at hE6v hFR6v hAS6v
    have hl : lv_has ls 3 [(0, .ref (al6v 0 0)), (1, .ref (al6v 9 r)), (2, .ref (al6v 7 ff))] := by rw [hAS6v.2 0 0 (by omega), hAS6v.2 9 r (by omega), hAS6v.2 7 ff (by omega)]; exact hl
    have hN6v := hAS6v.1
    have fX : en6v 0 0 = some (al6v 0 0, .inr (5, [.int (iZ (g6v 0 0 0)), .ref (al6v 1 0), .ref (al6v 1 1), .ref (al6v 3 0), .ref (al6v 4 0), .int (iZ (g6v 0 5 0)), .ref (al6v 11 0), .long (lZ (g6v 0 7 0)), .int (iZ (g6v 0 8 0)), .int (iZ (g6v 0 9 0)), .int (iZ (g6v 0 10 0)), .int (iZ (g6v 0 11 0)), .int (iZ (g6v 0 12 0)), .int (iZ (g6v 0 13 0))])) := ec_X hE6v
    have fL0 : en6v 1 0 = some (al6v 1 0, .inr (1, [.int (iZ (g6v 3 0 0)), .ref (al6v 2 0), .int (iZ (g6v 1 0 0))])) := ec_L0 hE6v
    have fL1 : en6v 1 1 = some (al6v 1 1, .inr (1, [.int (iZ (g6v 3 1 0)), .ref (al6v 2 1), .int (iZ (g6v 1 1 0))])) := ec_L1 hE6v
    have fQ : en6v 3 0 = some (al6v 3 0, aR dA (4) (fun j => some (al6v 9 j))) := ec_Q hE6v
    have fC : en6v 4 0 = some (al6v 4 0, aI dA (8) (fun j => g6v 2 j 0)) := ec_C hE6v
    have fR : en6v 9 r = some (al6v 9 r, .inr (3, [.int (iZ (g6v 30 r 0)), .int (iZ (g6v 31 r 0)), .ref (al6v 10 r), .int (iZ (g6v 33 r 0)), .int (iZ (g6v 34 r 0)), .int (iZ (g6v 35 r 0)), .int (iZ (g6v 36 r 0)), .long (lZ (g6v 37 r 0)), .long (lZ (g6v 38 r 0))])) := ec_R hE6v (by omega)
    have fF : en6v 7 ff = some (al6v 7 ff, .inr (2, [.int (iZ (g6v 20 ff 0)), .int (iZ (g6v 21 ff 0)), .int (iZ (g6v 22 ff 0)), .int (iZ (g6v 23 ff 0)), .int (iZ (g6v 24 ff 0)), .long (lZ (g6v 25 ff 0)), .ref (al6v 8 ff), .int (iZ (g6v 27 ff 0))])) := ec_F hE6v (by omega)
    have fFO : bA dA z en6v 8 ff (al6v 8 ff) (g6v 26 ff 0) (g6v 28 ff) := ec_FO hE6v (by omega)
    refine W.widen (k := kC (sTC g r ff) - kC g) (n := kS (sTC g r ff) - kS g) (show 0 + 0 ≤ kC (sTC g r ff) - kC g by omega) (show 0 + 0 ≤ kS (sTC g r ff) - kS g by omega) ?_
    have hgz : g6v = sTC g r ff := by subst hg6v; rw [hgo]; first | done | (unfold sTC3; first | rw [if_pos (by omega)] | rw [if_neg (by omega), if_neg (by omega)])
    rw [hgz] at hE6v hAS6v
    exact W.vret hx hb hr (fun t ht hw => ⟨⟨(en6v, al6v), rfl, ⟨hE6v, hFR6v, hAS6v⟩, by show Wd _ _ _ t.heap; rw [ht]; exact hW⟩, hS.F ht⟩) hS.2.2 dX3_takeConsecutive_17
def aRR (g : St) (f : Int) : Int := sRR g f 30 (g 21 f 0 % 4) 0
set_option maxHeartbeats 4000000 in
set_option maxRecDepth 100000 in
theorem c_X3_reachReceiver (l : Launch) (D : va_G) (dA : Nat → ClassId) (z : Nat → Nat) (en : en_T) (g : St) (al : Al) (ff : Int) (hf0 : 1 ≤ ff) (hf1 : ff ≤ g 1 1 0) (hk3 : g 20 ff 0 ≠ 3) (hcs : g 20 ff 0 = 2 → g 30 (g 21 ff 0 % 4) 0 = 1 → g 31 (g 21 ff 0 % 4) 0 = g 21 ff 0 → g 33 (g 21 ff 0 % 4) 0 + g 26 ff 0 ≤ g 32 (g 21 ff 0 % 4) 0) (hfs : g 20 ff 0 = 1 → 1 ≤ g 22 ff 0 ∧ g 26 ff 0 ≤ g 22 ff 0) (hj : JB g) (hE : EC dA z g al en) (hI : IB g) : Met l yX3_reachReceiver wsX3_reachReceiver ({ frames := 10, cells := kC (sRR g ff) - kC g + 1, slots := kS (sRR g ff) - kS g + 10000, locals := 247 }) (gP D dA z en [.ref (al 0 0), .ref (al 7 ff)]) (va_Qi (fun (r8 : Int32) (u : en_T × Al) => r8 = iZ (aRR g ff) ∧ CP dA z (sRR g ff) g al en u) (fun u t9 => Wd D (z 0) u.1 t9.heap) (fun q => z 0 ≤ q)) (kC (sRR g ff) - kC g + 1) (kS (sRR g ff) - kS g + 10000) (fun q => z 0 ≤ q) := by
  refine gMet (own := RX3) (cc := cX3_reachReceiver) (maxL := 3) (ret := (some .int)) (by decide) rfl rfl (Nat.le_of_ble_eq_true rfl) ?_
  intro p e s m below meth c hx hb hml hown hts hr hlocks hnm hg hW ls hl
  have hK := hg.1
  have hS : va_S (fun q => z 0 ≤ q) s.heap s.heap [] := va_S.rf
  have hi2 : ∀ w ∈ u_ws RX0 TX0 8, w ∈ wsX3_reachReceiver := by decide +kernel
  have hi3 : ∀ w ∈ u_ws RX1 TX1 9, w ∈ wsX3_reachReceiver := by decide +kernel
  have hl : lv_has ls 3 [(0, .ref (al 0 0)), (1, .ref (al 7 ff))] := hl
  obtain ⟨hIX, hIL, hIS, hIF, hIR, hIG⟩ := id hI
  unfold IL at hIL
  unfold IX at hIX
  have hIFf := hIF ff (by omega) (by omega)
  unfold IF at hIFf
  obtain ⟨r, hrd⟩ : ∃ x : Int, x = g 21 ff 0 % 4 := ⟨_, rfl⟩
  rw [← hrd] at hcs
  have hJr := hj.2 r (by omega) (by omega)
  unfold JR at hJr
  have hIRr := hIR r (by omega) (by omega)
  unfold IR at hIRr
  have fX : en 0 0 = some (al 0 0, .inr (5, [.int (iZ (g 0 0 0)), .ref (al 1 0), .ref (al 1 1), .ref (al 3 0), .ref (al 4 0), .int (iZ (g 0 5 0)), .ref (al 11 0), .long (lZ (g 0 7 0)), .int (iZ (g 0 8 0)), .int (iZ (g 0 9 0)), .int (iZ (g 0 10 0)), .int (iZ (g 0 11 0)), .int (iZ (g 0 12 0)), .int (iZ (g 0 13 0))])) := ec_X hE
  have fL0 : en 1 0 = some (al 1 0, .inr (1, [.int (iZ (g 3 0 0)), .ref (al 2 0), .int (iZ (g 1 0 0))])) := ec_L0 hE
  have fL1 : en 1 1 = some (al 1 1, .inr (1, [.int (iZ (g 3 1 0)), .ref (al 2 1), .int (iZ (g 1 1 0))])) := ec_L1 hE
  have fQ : en 3 0 = some (al 3 0, aR dA (4) (fun j => some (al 9 j))) := ec_Q hE
  have fC : en 4 0 = some (al 4 0, aI dA (8) (fun j => g 2 j 0)) := ec_C hE
  have fF : en 7 ff = some (al 7 ff, .inr (2, [.int (iZ (g 20 ff 0)), .int (iZ (g 21 ff 0)), .int (iZ (g 22 ff 0)), .int (iZ (g 23 ff 0)), .int (iZ (g 24 ff 0)), .long (lZ (g 25 ff 0)), .ref (al 8 ff), .int (iZ (g 27 ff 0))])) := ec_F hE (by omega)
  have fFO : bA dA z en 8 ff (al 8 ff) (g 26 ff 0) (g 28 ff) := ec_FO hE (by omega)
  refine lv_aload_n hx hb dX3_reachReceiver_0 rfl (lv_at hl 0 rfl) ?_
  refine lv_aload_n hx hb dX3_reachReceiver_1 rfl (lv_at hl 1 rfl) ?_
  refine g_get (C := RX0) (T := TX0) (N := 8) (ci := 2) (v := .int (iZ (g 21 ff 0))) hx hb hts hi2 hown hK hW fF rfl 1 (by decide) (hts (.fieldLink RX3 85 "LongTransfer$Frame" "message" "I") (by decide +kernel)) (fun _ h9 => h9) rfl dX3_reachReceiver_2 ?_
  refine va_callr (va_runV (As := [.int (iZ (g 21 ff 0))]) (rest := []) ⟨hx, hb, hml, hown, hts⟩ (c_X3_receiverOf l D dA z en g al (g 21 ff 0) (by omega) (by omega) hE hI) (cwV 1 hts gX3_reachReceiver_X3_receiverOf rfl rfl rfl (by decide +kernel) ⟨Nat.le_of_ble_eq_true rfl, Nat.le_of_ble_eq_true rfl⟩) ⟨gBl, gRecv hK hW (ci := 5) rfl fX, gPre _ hg hS hW⟩ rfl rfl hl.1 rfl (lv_room (Nat.le_of_ble_eq_true rfl)) dX3_reachReceiver_5 ⟨(show 0 + 0 ≤ kC (sRR g ff) - kC g + 1 by omega), (show 0 + 0 ≤ kS (sRR g ff) - kS g + 10000 by omega)⟩) hS (fun _ _ h => h) (fun _ h => h) (fun u9 r9 t9 H locs ht9 hvm9 hw9 hB9 hz9 hk9 hS => ?_)
  obtain ⟨rfl, hB9⟩ := hB9
  have hW : Wd D (z 0) en H := by rw [← ht9]; exact hB9
  rw [← hrd]
  have fX : en 0 0 = some (al 0 0, .inr (5, [.int (iZ (g 0 0 0)), .ref (al 1 0), .ref (al 1 1), .ref (al 3 0), .ref (al 4 0), .int (iZ (g 0 5 0)), .ref (al 11 0), .long (lZ (g 0 7 0)), .int (iZ (g 0 8 0)), .int (iZ (g 0 9 0)), .int (iZ (g 0 10 0)), .int (iZ (g 0 11 0)), .int (iZ (g 0 12 0)), .int (iZ (g 0 13 0))])) := ec_X hE
  have fL0 : en 1 0 = some (al 1 0, .inr (1, [.int (iZ (g 3 0 0)), .ref (al 2 0), .int (iZ (g 1 0 0))])) := ec_L0 hE
  have fL1 : en 1 1 = some (al 1 1, .inr (1, [.int (iZ (g 3 1 0)), .ref (al 2 1), .int (iZ (g 1 1 0))])) := ec_L1 hE
  have fQ : en 3 0 = some (al 3 0, aR dA (4) (fun j => some (al 9 j))) := ec_Q hE
  have fC : en 4 0 = some (al 4 0, aI dA (8) (fun j => g 2 j 0)) := ec_C hE
  have fF : en 7 ff = some (al 7 ff, .inr (2, [.int (iZ (g 20 ff 0)), .int (iZ (g 21 ff 0)), .int (iZ (g 22 ff 0)), .int (iZ (g 23 ff 0)), .int (iZ (g 24 ff 0)), .long (lZ (g 25 ff 0)), .ref (al 8 ff), .int (iZ (g 27 ff 0))])) := ec_F hE (by omega)
  have fFO : bA dA z en 8 ff (al 8 ff) (g 26 ff 0) (g 28 ff) := ec_FO hE (by omega)
  have fR : en 9 r = some (al 9 r, .inr (3, [.int (iZ (g 30 r 0)), .int (iZ (g 31 r 0)), .ref (al 10 r), .int (iZ (g 33 r 0)), .int (iZ (g 34 r 0)), .int (iZ (g 35 r 0)), .int (iZ (g 36 r 0)), .long (lZ (g 37 r 0)), .long (lZ (g 38 r 0))])) := ec_R hE (by omega)
  refine lv_astore_n (lv' := [(2, .ref (al 9 r)), (0, .ref (al 0 0)), (1, .ref (al 7 ff))]) hx hb dX3_reachReceiver_8 rfl hl (by decide) rfl (fun ls hl => ?_)
  refine lv_aload_n hx hb dX3_reachReceiver_9 rfl (lv_at hl 2 rfl) ?_
  refine g_get (C := RX0) (T := TX0) (N := 8) (ci := 2) (v := .int (iZ (g 20 ff 0))) hx hb hts hi2 hown hK hW fF rfl 0 (by decide) (hts (.fieldLink RX3 82 "LongTransfer$Frame" "kind" "I") (by decide +kernel)) (fun _ h9 => h9) rfl dX3_reachReceiver_10 ?_
  refine z_iconst hx hb dX3_reachReceiver_13 ?_
  refine z_icmp_ne (tgt := 39) hx hb dX3_reachReceiver_14 (by decide) (by omega) (by omega) (fun c_14 => ?_) (fun c_14 => ?_)
  · refine lv_aload_n hx hb dX3_reachReceiver_39 rfl (lv_at hl 0 rfl) ?_
    refine g_get (C := RX1) (T := TX1) (N := 9) (ci := 3) (v := .int (iZ (g 30 r 0))) hx hb hts hi3 hown hK hW fR rfl 0 (by decide) (hts (.fieldLink RX3 275 "LongTransfer$Receiver" "state" "I") (by decide +kernel)) (fun _ h9 => h9) rfl dX3_reachReceiver_40 ?_
    refine z_iconst hx hb dX3_reachReceiver_43 ?_
    refine z_icmp_ne (tgt := 54) hx hb dX3_reachReceiver_44 (by decide) (by omega) (by omega) (fun c_44 => ?_) (fun c_44 => ?_)
    · have hg6 : sE6 g r = g := if_neg (by omega)
      have hI1 := hI
      have hq6 : g = g := rfl
      have e20_ : g 20 ff 0 = g 20 ff 0 := rfl
      have e21_ : g 21 ff 0 = g 21 ff 0 := rfl
      have e22_ : g 22 ff 0 = g 22 ff 0 := rfl
      have e23_ : g 23 ff 0 = g 23 ff 0 := rfl
      have e26_ : g 26 ff 0 = g 26 ff 0 := rfl
      have eLn : g 1 1 0 = g 1 1 0 := by rfl
      have ekc : kC g = kC g := by rfl
      have eks : kS g = kS g := by rfl
      have hF1 := hI1.2.2.2.1 ff (by omega) (by omega)
      unfold IF at hF1
      have hgo : sRR g ff = if g 20 ff 0 = 0 then sWh g r (g 26 ff 0) (g 28 ff) else sTF g r ff := by unfold sRR; rw [if_neg (by omega), ← hrd, hg6]
      refine lv_aload_n hx hb dX3_reachReceiver_54 rfl (lv_at hl 2 rfl) ?_
      refine g_get (C := RX0) (T := TX0) (N := 8) (ci := 2) (v := .int (iZ (g 20 ff 0))) hx hb hts hi2 hown hK hW fF rfl 0 (by decide) (hts (.fieldLink RX3 82 "LongTransfer$Frame" "kind" "I") (by decide +kernel)) (fun _ h9 => h9) rfl dX3_reachReceiver_55 ?_
      refine z_if_ne (tgt := 73) hx hb dX3_reachReceiver_58 (by decide) (by omega) (fun c_58 => ?_) (fun c_58 => ?_)
      · refine lv_aload_n hx hb dX3_reachReceiver_73 rfl (lv_at hl 1 rfl) ?_
        refine lv_aload_n hx hb dX3_reachReceiver_74 rfl (lv_at hl 0 rfl) ?_
        refine lv_aload_n hx hb dX3_reachReceiver_75 rfl (lv_at hl 2 rfl) ?_
        rw [if_neg (by omega)] at hgo
        have hfs1 := hfs (by omega)
        have hkc : kC (sRR g ff) = kC (sTF g r ff) := by rw [hgo]
        have hks : kS (sRR g ff) = kS (sTF g r ff) := by rw [hgo]
        have hMt := mo_tf hI1 (r := r) (f := ff)
        have q1 := mp_kC hMt
        have q2 := mp_kS hMt
        refine va_callv (va_runV (As := [.ref (al 9 r), .ref (al 7 ff)]) (rest := []) ⟨hx, hb, hml, hown, hts⟩ (c_X3_takeFirst l D dA z en g al r ff (by omega) (by omega) (by omega) (by omega) (by omega) (by omega) (by omega) hE hI1) (cwV 2 hts gX3_reachReceiver_X3_takeFirst rfl rfl rfl (by decide +kernel) ⟨Nat.le_of_ble_eq_true rfl, Nat.le_of_ble_eq_true rfl⟩) ⟨gBl, gRecv hK hW (ci := 5) rfl fX, gPre _ hg hS hW⟩ rfl rfl hl.1 rfl (lv_room (Nat.le_of_ble_eq_true rfl)) dX3_reachReceiver_76 ⟨(show 0 + 0 + (kC (sTF g r ff) - kC g + 1) ≤ kC (sRR g ff) - kC g + 1 by omega), (show 0 + 0 + (kS (sTF g r ff) - kS g + (g 22 ff 0).toNat) ≤ kS (sRR g ff) - kS g + 10000 by omega)⟩) hS (fun _ _ h => h) (fun _ h => h) (fun u9 t9 H locs ht9 hvm9 hw9 hB9 hz9 hk9 hS => ?_)
        obtain ⟨en1v, al1v⟩ := u9
        obtain ⟨hE1v, hFR1v, hAS1v⟩ := hw9
        have hW : Wd D (z 0) en1v H := by rw [← ht9]; exact hB9
        obtain ⟨g1v, hg1v⟩ : ∃ x : St, x = sTF g r ff := ⟨_, rfl⟩
        rw [← hg1v] at hE1v hAS1v
        dsimp only at hE1v hFR1v hAS1v
        have hl : lv_has ls 3 [(2, .ref (al1v 9 r)), (0, .ref (al1v 0 0)), (1, .ref (al1v 7 ff))] := by rw [hAS1v.2 9 r (by omega), hAS1v.2 0 0 (by omega), hAS1v.2 7 ff (by omega)]; exact hl
        have hN1v := hAS1v.1
        have fX : en1v 0 0 = some (al1v 0 0, .inr (5, [.int (iZ (g1v 0 0 0)), .ref (al1v 1 0), .ref (al1v 1 1), .ref (al1v 3 0), .ref (al1v 4 0), .int (iZ (g1v 0 5 0)), .ref (al1v 11 0), .long (lZ (g1v 0 7 0)), .int (iZ (g1v 0 8 0)), .int (iZ (g1v 0 9 0)), .int (iZ (g1v 0 10 0)), .int (iZ (g1v 0 11 0)), .int (iZ (g1v 0 12 0)), .int (iZ (g1v 0 13 0))])) := ec_X hE1v
        have fL0 : en1v 1 0 = some (al1v 1 0, .inr (1, [.int (iZ (g1v 3 0 0)), .ref (al1v 2 0), .int (iZ (g1v 1 0 0))])) := ec_L0 hE1v
        have fL1 : en1v 1 1 = some (al1v 1 1, .inr (1, [.int (iZ (g1v 3 1 0)), .ref (al1v 2 1), .int (iZ (g1v 1 1 0))])) := ec_L1 hE1v
        have fQ : en1v 3 0 = some (al1v 3 0, aR dA (4) (fun j => some (al1v 9 j))) := ec_Q hE1v
        have fC : en1v 4 0 = some (al1v 4 0, aI dA (8) (fun j => g1v 2 j 0)) := ec_C hE1v
        have fF : en1v 7 ff = some (al1v 7 ff, .inr (2, [.int (iZ (g1v 20 ff 0)), .int (iZ (g1v 21 ff 0)), .int (iZ (g1v 22 ff 0)), .int (iZ (g1v 23 ff 0)), .int (iZ (g1v 24 ff 0)), .long (lZ (g1v 25 ff 0)), .ref (al1v 8 ff), .int (iZ (g1v 27 ff 0))])) := ec_F hE1v (by omega)
        have fFO : bA dA z en1v 8 ff (al1v 8 ff) (g1v 26 ff 0) (g1v 28 ff) := ec_FO hE1v (by omega)
        have fR : en1v 9 r = some (al1v 9 r, .inr (3, [.int (iZ (g1v 30 r 0)), .int (iZ (g1v 31 r 0)), .ref (al1v 10 r), .int (iZ (g1v 33 r 0)), .int (iZ (g1v 34 r 0)), .int (iZ (g1v 35 r 0)), .int (iZ (g1v 36 r 0)), .long (lZ (g1v 37 r 0)), .long (lZ (g1v 38 r 0))])) := ec_R hE1v (by omega)
        refine lv_aload_n hx hb dX3_reachReceiver_79 rfl (lv_at hl 0 rfl) ?_
        refine g_get (C := RX1) (T := TX1) (N := 9) (ci := 3) (v := .int (iZ (g1v 30 r 0))) hx hb hts hi3 hown hK hW fR rfl 0 (by decide) (hts (.fieldLink RX3 275 "LongTransfer$Receiver" "state" "I") (by decide +kernel)) (fun _ h9 => h9) rfl dX3_reachReceiver_80 ?_
        refine W.widen (k := kC (sRR g ff) - kC g + 1) (n := kS (sRR g ff) - kS g + 10000) (show 0 + 0 + (kC (sTF g r ff) - kC g + 1) ≤ kC (sRR g ff) - kC g + 1 by omega) (show 0 + 0 + (kS (sTF g r ff) - kS g + (g 22 ff 0).toNat) ≤ kS (sRR g ff) - kS g + 10000 by omega) ?_
        have hgz : g1v = sRR g ff := by subst hg1v; rw [hgo]
        rw [hgz] at hE1v hAS1v
        exact W.iret hx hb hr (fun t ht hw => ⟨⟨_, (en1v, al1v), rfl, ⟨by unfold aRR; rw [← hrd, ← hgz], hE1v, hFR1v, hAS1v⟩, by show Wd _ _ _ t.heap; rw [ht]; exact hW⟩, hS.F ht⟩) hS.2.2 dX3_reachReceiver_83
      · refine lv_aload_n hx hb dX3_reachReceiver_61 rfl (lv_at hl 1 rfl) ?_
        refine lv_aload_n hx hb dX3_reachReceiver_62 rfl (lv_at hl 0 rfl) ?_
        refine lv_aload_n hx hb dX3_reachReceiver_63 rfl (lv_at hl 2 rfl) ?_
        refine g_get (C := RX0) (T := TX0) (N := 8) (ci := 2) (v := .ref (al 8 ff)) hx hb hts hi2 hown hK hW fF rfl 6 (by decide) (hts (.fieldLink RX3 276 "LongTransfer$Frame" "octets" "[B") (by decide +kernel)) (fun _ h9 => h9) rfl dX3_reachReceiver_64 ?_
        rw [if_pos (by omega)] at hgo
        have hkc : kC (sRR g ff) = kC g := by rw [hgo]; exact ekc
        have hks : kS (sRR g ff) = kS g := by rw [hgo]; exact eks
        refine va_callv (va_runV (As := [.ref (al 9 r), .ref (al 8 ff)]) (rest := []) ⟨hx, hb, hml, hown, hts⟩ (c_X3_becomeWhole l D dA z en g al r (al 8 ff) (by omega) (by omega) hE hI1) (cwV 2 hts gX3_reachReceiver_X3_becomeWhole rfl rfl rfl (by decide +kernel) ⟨Nat.le_of_ble_eq_true rfl, Nat.le_of_ble_eq_true rfl⟩) ⟨gBl, gRecv hK hW (ci := 5) rfl fX, gPre _ hg hS hW⟩ rfl rfl hl.1 rfl (lv_room (Nat.le_of_ble_eq_true rfl)) dX3_reachReceiver_67 ⟨(show 0 + 0 + 0 ≤ kC (sRR g ff) - kC g + 1 by omega), (show 0 + 0 + 0 ≤ kS (sRR g ff) - kS g + 10000 by omega)⟩) hS (fun _ _ h => h) (fun _ h => h) (fun u9 t9 H locs ht9 hvm9 hw9 hB9 hz9 hk9 hS => ?_)
        have hW : Wd D (z 0) (e2 (e2 (e2 en 0 0 (some (al 0 0, .inr (5, [.int (iZ (g 0 0 0)), .ref (al 1 0), .ref (al 1 1), .ref (al 3 0), .ref (al 4 0), .int (iZ (g 0 5 0)), .ref (al 8 ff), .long (lZ (g 0 7 0)), .int (iZ (g 0 8 0)), .int (iZ (g 0 9 0)), .int (iZ (g 0 10 0)), .int (iZ (g 0 11 0)), .int (iZ (g 0 12 0)), .int (iZ (g 0 13 0))])))) 4 0 (some (al 4 0, aI dA (8) (uF (fun j => g 2 j 0) (0) (g 2 0 0 + 1))))) 9 r (some (al 9 r, .inr (3, [.int (iZ (2)), .int (iZ (g 31 r 0)), .ref (al 10 r), .int (iZ (g 33 r 0)), .int (iZ (g 34 r 0)), .int (iZ (g 35 r 0)), .int (iZ (g 36 r 0)), .long (lZ (9223372036854775807)), .long (lZ (9223372036854775807))])))) H := by rw [← ht9]; exact hB9
        obtain ⟨en2v, hen2v⟩ : ∃ x : en_T, x = (e2 (e2 (e2 en 0 0 (some (al 0 0, .inr (5, [.int (iZ (g 0 0 0)), .ref (al 1 0), .ref (al 1 1), .ref (al 3 0), .ref (al 4 0), .int (iZ (g 0 5 0)), .ref (al 8 ff), .long (lZ (g 0 7 0)), .int (iZ (g 0 8 0)), .int (iZ (g 0 9 0)), .int (iZ (g 0 10 0)), .int (iZ (g 0 11 0)), .int (iZ (g 0 12 0)), .int (iZ (g 0 13 0))])))) 4 0 (some (al 4 0, aI dA (8) (uF (fun j => g 2 j 0) (0) (g 2 0 0 + 1))))) 9 r (some (al 9 r, .inr (3, [.int (iZ (2)), .int (iZ (g 31 r 0)), .ref (al 10 r), .int (iZ (g 33 r 0)), .int (iZ (g 34 r 0)), .int (iZ (g 35 r 0)), .int (iZ (g 36 r 0)), .long (lZ (9223372036854775807)), .long (lZ (9223372036854775807))])))) := ⟨_, rfl⟩
        rw [← hen2v] at hW
        obtain ⟨g2v, hg2v⟩ : ∃ x : St, x = sWh g r (g 26 ff 0) (g 28 ff) := ⟨_, rfl⟩
        obtain ⟨al2v, hal2v⟩ : ∃ x : Al, x = wa al 11 0 (al 8 ff) := ⟨_, rfl⟩
        have hXq : en2v 0 0 = some (al 0 0, .inr (5, eX g (wa al 11 0 (al 8 ff)))) := by rw [hen2v]; rw [e2_k (by decide), e2_k (by decide), e2_s]; simp [wa]
        have hCq : en2v 4 0 = some (al 4 0, aI dA 8 (fun j => sCnt g 0 2 j 0)) := by rw [hen2v]; rw [e2_k (by decide), e2_s]; congr 3; funext j; by_cases q : j = 0 <;> simp [uF, sCnt, wr, q]
        have hRq : en2v 9 r = some (al 9 r, .inr (3, eR (rRest g r 2) al r)) := by rw [hen2v]; rw [e2_s]; simp [rRest, wr]
        have hGq : ∃ (kg : Nat) (ig : Int), (kg = 11 ∧ ig = 0 ∨ kg = 8 ∧ 1 ≤ ig ∧ ig ≤ g 1 1 0) ∧ bA dA z en2v kg ig (al 8 ff) (g 26 ff 0) (g 28 ff) := ⟨8, ff, Or.inr ⟨rfl, by omega, by omega⟩, bA_e (by rw [hen2v]; exact (e2_k (by decide)).trans ((e2_k (by decide)).trans (e2_k (by decide)))) (ec_FO hE (f := ff) (by omega))⟩
        have heq : ∀ (k : Nat) (i : Int), ¬ ((k = 0 ∧ i = 0) ∨ (k = 4 ∧ i = 0) ∨ (k = 9 ∧ i = r) ∨ (k = 10 ∧ i = r) ∨ (k = 11 ∧ i = 0)) → en2v k i = en k i := fun k i h => by rw [hen2v]; repeat rw [e2_n (by omega)]
        have hE2v : EC dA z g2v al2v en2v := by rw [hg2v, hal2v]; exact ec_wh hE (by omega) hXq hCq hRq hGq heq
        have hFR2v : FR en en2v := fun k i h1 h2 => heq k i (by omega)
        have hAS2v : AS g g2v al al2v := ⟨⟨by rw [hg2v]; exact Int.le_refl _, by rw [hg2v]; exact Int.le_refl _, by rw [hg2v]; exact Int.le_refl _⟩, fun k i h => by rw [hal2v, wa_n (by omega)]⟩
        have hl : lv_has ls 3 [(2, .ref (al2v 9 r)), (0, .ref (al2v 0 0)), (1, .ref (al2v 7 ff))] := by rw [hAS2v.2 9 r (by omega), hAS2v.2 0 0 (by omega), hAS2v.2 7 ff (by omega)]; exact hl
        have hN2v := hAS2v.1
        have fX : en2v 0 0 = some (al2v 0 0, .inr (5, [.int (iZ (g2v 0 0 0)), .ref (al2v 1 0), .ref (al2v 1 1), .ref (al2v 3 0), .ref (al2v 4 0), .int (iZ (g2v 0 5 0)), .ref (al2v 11 0), .long (lZ (g2v 0 7 0)), .int (iZ (g2v 0 8 0)), .int (iZ (g2v 0 9 0)), .int (iZ (g2v 0 10 0)), .int (iZ (g2v 0 11 0)), .int (iZ (g2v 0 12 0)), .int (iZ (g2v 0 13 0))])) := ec_X hE2v
        have fL0 : en2v 1 0 = some (al2v 1 0, .inr (1, [.int (iZ (g2v 3 0 0)), .ref (al2v 2 0), .int (iZ (g2v 1 0 0))])) := ec_L0 hE2v
        have fL1 : en2v 1 1 = some (al2v 1 1, .inr (1, [.int (iZ (g2v 3 1 0)), .ref (al2v 2 1), .int (iZ (g2v 1 1 0))])) := ec_L1 hE2v
        have fQ : en2v 3 0 = some (al2v 3 0, aR dA (4) (fun j => some (al2v 9 j))) := ec_Q hE2v
        have fC : en2v 4 0 = some (al2v 4 0, aI dA (8) (fun j => g2v 2 j 0)) := ec_C hE2v
        have fF : en2v 7 ff = some (al2v 7 ff, .inr (2, [.int (iZ (g2v 20 ff 0)), .int (iZ (g2v 21 ff 0)), .int (iZ (g2v 22 ff 0)), .int (iZ (g2v 23 ff 0)), .int (iZ (g2v 24 ff 0)), .long (lZ (g2v 25 ff 0)), .ref (al2v 8 ff), .int (iZ (g2v 27 ff 0))])) := ec_F hE2v (by omega)
        have fFO : bA dA z en2v 8 ff (al2v 8 ff) (g2v 26 ff 0) (g2v 28 ff) := ec_FO hE2v (by omega)
        have fR : en2v 9 r = some (al2v 9 r, .inr (3, [.int (iZ (g2v 30 r 0)), .int (iZ (g2v 31 r 0)), .ref (al2v 10 r), .int (iZ (g2v 33 r 0)), .int (iZ (g2v 34 r 0)), .int (iZ (g2v 35 r 0)), .int (iZ (g2v 36 r 0)), .long (lZ (g2v 37 r 0)), .long (lZ (g2v 38 r 0))])) := ec_R hE2v (by omega)
        refine lv_goto (tgt := 79) hx hb dX3_reachReceiver_70 (by decide) ?_
        refine lv_aload_n hx hb dX3_reachReceiver_79 rfl (lv_at hl 0 rfl) ?_
        refine g_get (C := RX1) (T := TX1) (N := 9) (ci := 3) (v := .int (iZ (g2v 30 r 0))) hx hb hts hi3 hown hK hW fR rfl 0 (by decide) (hts (.fieldLink RX3 275 "LongTransfer$Receiver" "state" "I") (by decide +kernel)) (fun _ h9 => h9) rfl dX3_reachReceiver_80 ?_
        refine W.widen (k := kC (sRR g ff) - kC g + 1) (n := kS (sRR g ff) - kS g + 10000) (show 0 + 0 + 0 ≤ kC (sRR g ff) - kC g + 1 by omega) (show 0 + 0 + 0 ≤ kS (sRR g ff) - kS g + 10000 by omega) ?_
        have hgz : g2v = sRR g ff := by subst hg2v; rw [hgo]
        rw [hgz] at hE2v hAS2v
        exact W.iret hx hb hr (fun t ht hw => ⟨⟨_, (en2v, al2v), rfl, ⟨by unfold aRR; rw [← hrd, ← hgz], hE2v, hFR2v, hAS2v⟩, by show Wd _ _ _ t.heap; rw [ht]; exact hW⟩, hS.F ht⟩) hS.2.2 dX3_reachReceiver_83
    · refine lv_aload_n hx hb dX3_reachReceiver_47 rfl (lv_at hl 1 rfl) ?_
      refine lv_aload_n hx hb dX3_reachReceiver_48 rfl (lv_at hl 0 rfl) ?_
      refine z_bipush hx hb dX3_reachReceiver_49 (by decide) ?_
      refine va_callv (va_runV (As := [.ref (al 9 r), .int (iZ (6))]) (rest := []) ⟨hx, hb, hml, hown, hts⟩ (c_X3_endReceiver l D dA z en g al r 6 (by omega) (by omega) (by omega) (by omega) hE hI) (cwV 2 hts gX3_reachReceiver_X3_endReceiver rfl rfl rfl (by decide +kernel) ⟨Nat.le_of_ble_eq_true rfl, Nat.le_of_ble_eq_true rfl⟩) ⟨gBl, gRecv hK hW (ci := 5) rfl fX, gPre _ hg hS hW⟩ rfl rfl hl.1 rfl (lv_room (Nat.le_of_ble_eq_true rfl)) dX3_reachReceiver_51 ⟨(show 0 + 0 + 0 ≤ kC (sRR g ff) - kC g + 1 by omega), (show 0 + 0 + 0 ≤ kS (sRR g ff) - kS g + 10000 by omega)⟩) hS (fun _ _ h => h) (fun _ h => h) (fun u9 t9 H locs ht9 hvm9 hw9 hB9 hz9 hk9 hS => ?_)
      obtain ⟨en3v, al3v⟩ := u9
      obtain ⟨hE3v, hFR3v, hAS3v⟩ := hw9
      have hW : Wd D (z 0) en3v H := by rw [← ht9]; exact hB9
      obtain ⟨g3v, hg3v⟩ : ∃ x : St, x = sEndR g r 6 := ⟨_, rfl⟩
      rw [← hg3v] at hE3v hAS3v
      dsimp only at hE3v hFR3v hAS3v
      have hl : lv_has ls 3 [(2, .ref (al3v 9 r)), (0, .ref (al3v 0 0)), (1, .ref (al3v 7 ff))] := by rw [hAS3v.2 9 r (by omega), hAS3v.2 0 0 (by omega), hAS3v.2 7 ff (by omega)]; exact hl
      have hN3v := hAS3v.1
      have fX : en3v 0 0 = some (al3v 0 0, .inr (5, [.int (iZ (g3v 0 0 0)), .ref (al3v 1 0), .ref (al3v 1 1), .ref (al3v 3 0), .ref (al3v 4 0), .int (iZ (g3v 0 5 0)), .ref (al3v 11 0), .long (lZ (g3v 0 7 0)), .int (iZ (g3v 0 8 0)), .int (iZ (g3v 0 9 0)), .int (iZ (g3v 0 10 0)), .int (iZ (g3v 0 11 0)), .int (iZ (g3v 0 12 0)), .int (iZ (g3v 0 13 0))])) := ec_X hE3v
      have fL0 : en3v 1 0 = some (al3v 1 0, .inr (1, [.int (iZ (g3v 3 0 0)), .ref (al3v 2 0), .int (iZ (g3v 1 0 0))])) := ec_L0 hE3v
      have fL1 : en3v 1 1 = some (al3v 1 1, .inr (1, [.int (iZ (g3v 3 1 0)), .ref (al3v 2 1), .int (iZ (g3v 1 1 0))])) := ec_L1 hE3v
      have fQ : en3v 3 0 = some (al3v 3 0, aR dA (4) (fun j => some (al3v 9 j))) := ec_Q hE3v
      have fC : en3v 4 0 = some (al3v 4 0, aI dA (8) (fun j => g3v 2 j 0)) := ec_C hE3v
      have fF : en3v 7 ff = some (al3v 7 ff, .inr (2, [.int (iZ (g3v 20 ff 0)), .int (iZ (g3v 21 ff 0)), .int (iZ (g3v 22 ff 0)), .int (iZ (g3v 23 ff 0)), .int (iZ (g3v 24 ff 0)), .long (lZ (g3v 25 ff 0)), .ref (al3v 8 ff), .int (iZ (g3v 27 ff 0))])) := ec_F hE3v (by omega)
      have fFO : bA dA z en3v 8 ff (al3v 8 ff) (g3v 26 ff 0) (g3v 28 ff) := ec_FO hE3v (by omega)
      have fR : en3v 9 r = some (al3v 9 r, .inr (3, [.int (iZ (g3v 30 r 0)), .int (iZ (g3v 31 r 0)), .ref (al3v 10 r), .int (iZ (g3v 33 r 0)), .int (iZ (g3v 34 r 0)), .int (iZ (g3v 35 r 0)), .int (iZ (g3v 36 r 0)), .long (lZ (g3v 37 r 0)), .long (lZ (g3v 38 r 0))])) := ec_R hE3v (by omega)
      have hg6 : sE6 g r = g3v := by rw [hg3v]; exact if_pos (by omega)
      have hI1 : IB g3v := by rw [hg3v]; exact ib_er hI 6 (by omega) (by omega)
      have e20_ : g3v 20 ff 0 = g 20 ff 0 := by rw [hg3v]; exact v_er (by omega)
      have e21_ : g3v 21 ff 0 = g 21 ff 0 := by rw [hg3v]; exact v_er (by omega)
      have e22_ : g3v 22 ff 0 = g 22 ff 0 := by rw [hg3v]; exact v_er (by omega)
      have e23_ : g3v 23 ff 0 = g 23 ff 0 := by rw [hg3v]; exact v_er (by omega)
      have e26_ : g3v 26 ff 0 = g 26 ff 0 := by rw [hg3v]; exact v_er (by omega)
      have eLn : g3v 1 1 0 = g 1 1 0 := by rw [hg3v]; exact v_er (by omega)
      have ekc : kC g3v = kC g := by rw [hg3v]; rfl
      have eks : kS g3v = kS g := by rw [hg3v]; rfl
      have hF1 := hI1.2.2.2.1 ff (by omega) (by omega)
      unfold IF at hF1
      have hgo : sRR g ff = if g 20 ff 0 = 0 then sWh g3v r (g3v 26 ff 0) (g3v 28 ff) else sTF g3v r ff := by unfold sRR; rw [if_neg (by omega), ← hrd, hg6]
      refine lv_aload_n hx hb dX3_reachReceiver_54 rfl (lv_at hl 2 rfl) ?_
      refine g_get (C := RX0) (T := TX0) (N := 8) (ci := 2) (v := .int (iZ (g3v 20 ff 0))) hx hb hts hi2 hown hK hW fF rfl 0 (by decide) (hts (.fieldLink RX3 82 "LongTransfer$Frame" "kind" "I") (by decide +kernel)) (fun _ h9 => h9) rfl dX3_reachReceiver_55 ?_
      refine z_if_ne (tgt := 73) hx hb dX3_reachReceiver_58 (by decide) (by omega) (fun c_58 => ?_) (fun c_58 => ?_)
      · refine lv_aload_n hx hb dX3_reachReceiver_73 rfl (lv_at hl 1 rfl) ?_
        refine lv_aload_n hx hb dX3_reachReceiver_74 rfl (lv_at hl 0 rfl) ?_
        refine lv_aload_n hx hb dX3_reachReceiver_75 rfl (lv_at hl 2 rfl) ?_
        rw [if_neg (by omega)] at hgo
        have hfs1 := hfs (by omega)
        have hkc : kC (sRR g ff) = kC (sTF g3v r ff) := by rw [hgo]
        have hks : kS (sRR g ff) = kS (sTF g3v r ff) := by rw [hgo]
        have hMt := mo_tf hI1 (r := r) (f := ff)
        have q1 := mp_kC hMt
        have q2 := mp_kS hMt
        refine va_callv (va_runV (As := [.ref (al3v 9 r), .ref (al3v 7 ff)]) (rest := []) ⟨hx, hb, hml, hown, hts⟩ (c_X3_takeFirst l D dA z en3v g3v al3v r ff (by omega) (by omega) (by omega) (by omega) (by omega) (by omega) (by omega) hE3v hI1) (cwV 2 hts gX3_reachReceiver_X3_takeFirst rfl rfl rfl (by decide +kernel) ⟨Nat.le_of_ble_eq_true rfl, Nat.le_of_ble_eq_true rfl⟩) ⟨gBl, gRecv hK hW (ci := 5) rfl fX, gPre _ hg hS hW⟩ rfl rfl hl.1 rfl (lv_room (Nat.le_of_ble_eq_true rfl)) dX3_reachReceiver_76 ⟨(show 0 + 0 + 0 + (kC (sTF g3v r ff) - kC g3v + 1) ≤ kC (sRR g ff) - kC g + 1 by omega), (show 0 + 0 + 0 + (kS (sTF g3v r ff) - kS g3v + (g3v 22 ff 0).toNat) ≤ kS (sRR g ff) - kS g + 10000 by omega)⟩) hS (fun _ _ h => h) (fun _ h => h) (fun u9 t9 H locs ht9 hvm9 hw9 hB9 hz9 hk9 hS => ?_)
        obtain ⟨en4v, al4v⟩ := u9
        obtain ⟨hE4v, hFR4v, hAS4v⟩ := hw9
        have hW : Wd D (z 0) en4v H := by rw [← ht9]; exact hB9
        obtain ⟨g4v, hg4v⟩ : ∃ x : St, x = sTF g3v r ff := ⟨_, rfl⟩
        rw [← hg4v] at hE4v hAS4v
        dsimp only at hE4v hFR4v hAS4v
        have hl : lv_has ls 3 [(2, .ref (al4v 9 r)), (0, .ref (al4v 0 0)), (1, .ref (al4v 7 ff))] := by rw [hAS4v.2 9 r (by omega), hAS4v.2 0 0 (by omega), hAS4v.2 7 ff (by omega)]; exact hl
        have hFR4v := FR.tr hFR3v hFR4v
        have hAS4v := AS.tr hAS3v hAS4v
        have hN4v := hAS4v.1
        have fX : en4v 0 0 = some (al4v 0 0, .inr (5, [.int (iZ (g4v 0 0 0)), .ref (al4v 1 0), .ref (al4v 1 1), .ref (al4v 3 0), .ref (al4v 4 0), .int (iZ (g4v 0 5 0)), .ref (al4v 11 0), .long (lZ (g4v 0 7 0)), .int (iZ (g4v 0 8 0)), .int (iZ (g4v 0 9 0)), .int (iZ (g4v 0 10 0)), .int (iZ (g4v 0 11 0)), .int (iZ (g4v 0 12 0)), .int (iZ (g4v 0 13 0))])) := ec_X hE4v
        have fL0 : en4v 1 0 = some (al4v 1 0, .inr (1, [.int (iZ (g4v 3 0 0)), .ref (al4v 2 0), .int (iZ (g4v 1 0 0))])) := ec_L0 hE4v
        have fL1 : en4v 1 1 = some (al4v 1 1, .inr (1, [.int (iZ (g4v 3 1 0)), .ref (al4v 2 1), .int (iZ (g4v 1 1 0))])) := ec_L1 hE4v
        have fQ : en4v 3 0 = some (al4v 3 0, aR dA (4) (fun j => some (al4v 9 j))) := ec_Q hE4v
        have fC : en4v 4 0 = some (al4v 4 0, aI dA (8) (fun j => g4v 2 j 0)) := ec_C hE4v
        have fF : en4v 7 ff = some (al4v 7 ff, .inr (2, [.int (iZ (g4v 20 ff 0)), .int (iZ (g4v 21 ff 0)), .int (iZ (g4v 22 ff 0)), .int (iZ (g4v 23 ff 0)), .int (iZ (g4v 24 ff 0)), .long (lZ (g4v 25 ff 0)), .ref (al4v 8 ff), .int (iZ (g4v 27 ff 0))])) := ec_F hE4v (by omega)
        have fFO : bA dA z en4v 8 ff (al4v 8 ff) (g4v 26 ff 0) (g4v 28 ff) := ec_FO hE4v (by omega)
        have fR : en4v 9 r = some (al4v 9 r, .inr (3, [.int (iZ (g4v 30 r 0)), .int (iZ (g4v 31 r 0)), .ref (al4v 10 r), .int (iZ (g4v 33 r 0)), .int (iZ (g4v 34 r 0)), .int (iZ (g4v 35 r 0)), .int (iZ (g4v 36 r 0)), .long (lZ (g4v 37 r 0)), .long (lZ (g4v 38 r 0))])) := ec_R hE4v (by omega)
        refine lv_aload_n hx hb dX3_reachReceiver_79 rfl (lv_at hl 0 rfl) ?_
        refine g_get (C := RX1) (T := TX1) (N := 9) (ci := 3) (v := .int (iZ (g4v 30 r 0))) hx hb hts hi3 hown hK hW fR rfl 0 (by decide) (hts (.fieldLink RX3 275 "LongTransfer$Receiver" "state" "I") (by decide +kernel)) (fun _ h9 => h9) rfl dX3_reachReceiver_80 ?_
        refine W.widen (k := kC (sRR g ff) - kC g + 1) (n := kS (sRR g ff) - kS g + 10000) (show 0 + 0 + 0 + (kC (sTF g3v r ff) - kC g3v + 1) ≤ kC (sRR g ff) - kC g + 1 by omega) (show 0 + 0 + 0 + (kS (sTF g3v r ff) - kS g3v + (g3v 22 ff 0).toNat) ≤ kS (sRR g ff) - kS g + 10000 by omega) ?_
        have hgz : g4v = sRR g ff := by subst hg4v; subst hg3v; rw [hgo]
        rw [hgz] at hE4v hAS4v
        exact W.iret hx hb hr (fun t ht hw => ⟨⟨_, (en4v, al4v), rfl, ⟨by unfold aRR; rw [← hrd, ← hgz], hE4v, hFR4v, hAS4v⟩, by show Wd _ _ _ t.heap; rw [ht]; exact hW⟩, hS.F ht⟩) hS.2.2 dX3_reachReceiver_83
      · refine lv_aload_n hx hb dX3_reachReceiver_61 rfl (lv_at hl 1 rfl) ?_
        refine lv_aload_n hx hb dX3_reachReceiver_62 rfl (lv_at hl 0 rfl) ?_
        refine lv_aload_n hx hb dX3_reachReceiver_63 rfl (lv_at hl 2 rfl) ?_
        refine g_get (C := RX0) (T := TX0) (N := 8) (ci := 2) (v := .ref (al3v 8 ff)) hx hb hts hi2 hown hK hW fF rfl 6 (by decide) (hts (.fieldLink RX3 276 "LongTransfer$Frame" "octets" "[B") (by decide +kernel)) (fun _ h9 => h9) rfl dX3_reachReceiver_64 ?_
        rw [if_pos (by omega)] at hgo
        have hkc : kC (sRR g ff) = kC g := by rw [hgo]; exact ekc
        have hks : kS (sRR g ff) = kS g := by rw [hgo]; exact eks
        refine va_callv (va_runV (As := [.ref (al3v 9 r), .ref (al3v 8 ff)]) (rest := []) ⟨hx, hb, hml, hown, hts⟩ (c_X3_becomeWhole l D dA z en3v g3v al3v r (al3v 8 ff) (by omega) (by omega) hE3v hI1) (cwV 2 hts gX3_reachReceiver_X3_becomeWhole rfl rfl rfl (by decide +kernel) ⟨Nat.le_of_ble_eq_true rfl, Nat.le_of_ble_eq_true rfl⟩) ⟨gBl, gRecv hK hW (ci := 5) rfl fX, gPre _ hg hS hW⟩ rfl rfl hl.1 rfl (lv_room (Nat.le_of_ble_eq_true rfl)) dX3_reachReceiver_67 ⟨(show 0 + 0 + 0 + 0 ≤ kC (sRR g ff) - kC g + 1 by omega), (show 0 + 0 + 0 + 0 ≤ kS (sRR g ff) - kS g + 10000 by omega)⟩) hS (fun _ _ h => h) (fun _ h => h) (fun u9 t9 H locs ht9 hvm9 hw9 hB9 hz9 hk9 hS => ?_)
        have hW : Wd D (z 0) (e2 (e2 (e2 en3v 0 0 (some (al3v 0 0, .inr (5, [.int (iZ (g3v 0 0 0)), .ref (al3v 1 0), .ref (al3v 1 1), .ref (al3v 3 0), .ref (al3v 4 0), .int (iZ (g3v 0 5 0)), .ref (al3v 8 ff), .long (lZ (g3v 0 7 0)), .int (iZ (g3v 0 8 0)), .int (iZ (g3v 0 9 0)), .int (iZ (g3v 0 10 0)), .int (iZ (g3v 0 11 0)), .int (iZ (g3v 0 12 0)), .int (iZ (g3v 0 13 0))])))) 4 0 (some (al3v 4 0, aI dA (8) (uF (fun j => g3v 2 j 0) (0) (g3v 2 0 0 + 1))))) 9 r (some (al3v 9 r, .inr (3, [.int (iZ (2)), .int (iZ (g3v 31 r 0)), .ref (al3v 10 r), .int (iZ (g3v 33 r 0)), .int (iZ (g3v 34 r 0)), .int (iZ (g3v 35 r 0)), .int (iZ (g3v 36 r 0)), .long (lZ (9223372036854775807)), .long (lZ (9223372036854775807))])))) H := by rw [← ht9]; exact hB9
        obtain ⟨en5v, hen5v⟩ : ∃ x : en_T, x = (e2 (e2 (e2 en3v 0 0 (some (al3v 0 0, .inr (5, [.int (iZ (g3v 0 0 0)), .ref (al3v 1 0), .ref (al3v 1 1), .ref (al3v 3 0), .ref (al3v 4 0), .int (iZ (g3v 0 5 0)), .ref (al3v 8 ff), .long (lZ (g3v 0 7 0)), .int (iZ (g3v 0 8 0)), .int (iZ (g3v 0 9 0)), .int (iZ (g3v 0 10 0)), .int (iZ (g3v 0 11 0)), .int (iZ (g3v 0 12 0)), .int (iZ (g3v 0 13 0))])))) 4 0 (some (al3v 4 0, aI dA (8) (uF (fun j => g3v 2 j 0) (0) (g3v 2 0 0 + 1))))) 9 r (some (al3v 9 r, .inr (3, [.int (iZ (2)), .int (iZ (g3v 31 r 0)), .ref (al3v 10 r), .int (iZ (g3v 33 r 0)), .int (iZ (g3v 34 r 0)), .int (iZ (g3v 35 r 0)), .int (iZ (g3v 36 r 0)), .long (lZ (9223372036854775807)), .long (lZ (9223372036854775807))])))) := ⟨_, rfl⟩
        rw [← hen5v] at hW
        obtain ⟨g5v, hg5v⟩ : ∃ x : St, x = sWh g3v r (g3v 26 ff 0) (g3v 28 ff) := ⟨_, rfl⟩
        obtain ⟨al5v, hal5v⟩ : ∃ x : Al, x = wa al3v 11 0 (al3v 8 ff) := ⟨_, rfl⟩
        have hXq : en5v 0 0 = some (al3v 0 0, .inr (5, eX g3v (wa al3v 11 0 (al3v 8 ff)))) := by rw [hen5v]; rw [e2_k (by decide), e2_k (by decide), e2_s]; simp [wa]
        have hCq : en5v 4 0 = some (al3v 4 0, aI dA 8 (fun j => sCnt g3v 0 2 j 0)) := by rw [hen5v]; rw [e2_k (by decide), e2_s]; congr 3; funext j; by_cases q : j = 0 <;> simp [uF, sCnt, wr, q]
        have hRq : en5v 9 r = some (al3v 9 r, .inr (3, eR (rRest g3v r 2) al3v r)) := by rw [hen5v]; rw [e2_s]; simp [rRest, wr]
        have hGq : ∃ (kg : Nat) (ig : Int), (kg = 11 ∧ ig = 0 ∨ kg = 8 ∧ 1 ≤ ig ∧ ig ≤ g3v 1 1 0) ∧ bA dA z en5v kg ig (al3v 8 ff) (g3v 26 ff 0) (g3v 28 ff) := ⟨8, ff, Or.inr ⟨rfl, by omega, by omega⟩, bA_e (by rw [hen5v]; exact (e2_k (by decide)).trans ((e2_k (by decide)).trans (e2_k (by decide)))) (ec_FO hE3v (f := ff) (by omega))⟩
        have heq : ∀ (k : Nat) (i : Int), ¬ ((k = 0 ∧ i = 0) ∨ (k = 4 ∧ i = 0) ∨ (k = 9 ∧ i = r) ∨ (k = 10 ∧ i = r) ∨ (k = 11 ∧ i = 0)) → en5v k i = en3v k i := fun k i h => by rw [hen5v]; repeat rw [e2_n (by omega)]
        have hE5v : EC dA z g5v al5v en5v := by rw [hg5v, hal5v]; exact ec_wh hE3v (by omega) hXq hCq hRq hGq heq
        have hFR5v : FR en3v en5v := fun k i h1 h2 => heq k i (by omega)
        have hAS5v : AS g3v g5v al3v al5v := ⟨⟨by rw [hg5v]; exact Int.le_refl _, by rw [hg5v]; exact Int.le_refl _, by rw [hg5v]; exact Int.le_refl _⟩, fun k i h => by rw [hal5v, wa_n (by omega)]⟩
        have hl : lv_has ls 3 [(2, .ref (al5v 9 r)), (0, .ref (al5v 0 0)), (1, .ref (al5v 7 ff))] := by rw [hAS5v.2 9 r (by omega), hAS5v.2 0 0 (by omega), hAS5v.2 7 ff (by omega)]; exact hl
        have hFR5v := FR.tr hFR3v hFR5v
        have hAS5v := AS.tr hAS3v hAS5v
        have hN5v := hAS5v.1
        have fX : en5v 0 0 = some (al5v 0 0, .inr (5, [.int (iZ (g5v 0 0 0)), .ref (al5v 1 0), .ref (al5v 1 1), .ref (al5v 3 0), .ref (al5v 4 0), .int (iZ (g5v 0 5 0)), .ref (al5v 11 0), .long (lZ (g5v 0 7 0)), .int (iZ (g5v 0 8 0)), .int (iZ (g5v 0 9 0)), .int (iZ (g5v 0 10 0)), .int (iZ (g5v 0 11 0)), .int (iZ (g5v 0 12 0)), .int (iZ (g5v 0 13 0))])) := ec_X hE5v
        have fL0 : en5v 1 0 = some (al5v 1 0, .inr (1, [.int (iZ (g5v 3 0 0)), .ref (al5v 2 0), .int (iZ (g5v 1 0 0))])) := ec_L0 hE5v
        have fL1 : en5v 1 1 = some (al5v 1 1, .inr (1, [.int (iZ (g5v 3 1 0)), .ref (al5v 2 1), .int (iZ (g5v 1 1 0))])) := ec_L1 hE5v
        have fQ : en5v 3 0 = some (al5v 3 0, aR dA (4) (fun j => some (al5v 9 j))) := ec_Q hE5v
        have fC : en5v 4 0 = some (al5v 4 0, aI dA (8) (fun j => g5v 2 j 0)) := ec_C hE5v
        have fF : en5v 7 ff = some (al5v 7 ff, .inr (2, [.int (iZ (g5v 20 ff 0)), .int (iZ (g5v 21 ff 0)), .int (iZ (g5v 22 ff 0)), .int (iZ (g5v 23 ff 0)), .int (iZ (g5v 24 ff 0)), .long (lZ (g5v 25 ff 0)), .ref (al5v 8 ff), .int (iZ (g5v 27 ff 0))])) := ec_F hE5v (by omega)
        have fFO : bA dA z en5v 8 ff (al5v 8 ff) (g5v 26 ff 0) (g5v 28 ff) := ec_FO hE5v (by omega)
        have fR : en5v 9 r = some (al5v 9 r, .inr (3, [.int (iZ (g5v 30 r 0)), .int (iZ (g5v 31 r 0)), .ref (al5v 10 r), .int (iZ (g5v 33 r 0)), .int (iZ (g5v 34 r 0)), .int (iZ (g5v 35 r 0)), .int (iZ (g5v 36 r 0)), .long (lZ (g5v 37 r 0)), .long (lZ (g5v 38 r 0))])) := ec_R hE5v (by omega)
        refine lv_goto (tgt := 79) hx hb dX3_reachReceiver_70 (by decide) ?_
        refine lv_aload_n hx hb dX3_reachReceiver_79 rfl (lv_at hl 0 rfl) ?_
        refine g_get (C := RX1) (T := TX1) (N := 9) (ci := 3) (v := .int (iZ (g5v 30 r 0))) hx hb hts hi3 hown hK hW fR rfl 0 (by decide) (hts (.fieldLink RX3 275 "LongTransfer$Receiver" "state" "I") (by decide +kernel)) (fun _ h9 => h9) rfl dX3_reachReceiver_80 ?_
        refine W.widen (k := kC (sRR g ff) - kC g + 1) (n := kS (sRR g ff) - kS g + 10000) (show 0 + 0 + 0 + 0 ≤ kC (sRR g ff) - kC g + 1 by omega) (show 0 + 0 + 0 + 0 ≤ kS (sRR g ff) - kS g + 10000 by omega) ?_
        have hgz : g5v = sRR g ff := by subst hg5v; subst hg3v; rw [hgo]
        rw [hgz] at hE5v hAS5v
        exact W.iret hx hb hr (fun t ht hw => ⟨⟨_, (en5v, al5v), rfl, ⟨by unfold aRR; rw [← hrd, ← hgz], hE5v, hFR5v, hAS5v⟩, by show Wd _ _ _ t.heap; rw [ht]; exact hW⟩, hS.F ht⟩) hS.2.2 dX3_reachReceiver_83
  · refine lv_aload_n hx hb dX3_reachReceiver_17 rfl (lv_at hl 0 rfl) ?_
    refine lv_aload_n hx hb dX3_reachReceiver_18 rfl (lv_at hl 2 rfl) ?_
    refine g_get (C := RX0) (T := TX0) (N := 8) (ci := 2) (v := .int (iZ (g 21 ff 0))) hx hb hts hi2 hown hK hW fF rfl 1 (by decide) (hts (.fieldLink RX3 85 "LongTransfer$Frame" "message" "I") (by decide +kernel)) (fun _ h9 => h9) rfl dX3_reachReceiver_19 ?_
    refine va_calli (va_runV (As := [.int (iZ (g 21 ff 0))]) (rest := []) ⟨hx, hb, hml, hown, hts⟩ (c_X1_isReceiving l D dA z en 9 r (al 9 r) (al 10 r) (g 30 r 0) (g 31 r 0) (g 33 r 0) (g 34 r 0) (g 35 r 0) (g 36 r 0) (g 37 r 0) (g 38 r 0) (g 21 ff 0) (by omega) (by omega) (by omega) fR) (cwV 1 hts gX3_reachReceiver_X1_isReceiving rfl rfl rfl (by decide +kernel) ⟨Nat.le_of_ble_eq_true rfl, Nat.le_of_ble_eq_true rfl⟩) ⟨gBl, gRecv hK hW (ci := 3) rfl fR, gPre _ hg hS hW⟩ rfl rfl hl.1 rfl (lv_room (Nat.le_of_ble_eq_true rfl)) dX3_reachReceiver_22 ⟨(show 0 + 0 + 0 ≤ kC (sRR g ff) - kC g + 1 by omega), (show 0 + 0 + 0 ≤ kS (sRR g ff) - kS g + 10000 by omega)⟩) hS (fun _ _ h => h) (fun _ h => h) (fun r9 u9 t9 H locs ht9 hvm9 hw9 hB9 hz9 hk9 hS => ?_)
    have hW : Wd D (z 0) en H := by rw [← ht9]; exact hB9
    subst hw9
    by_cases hrec : g 30 r 0 = 1 ∧ g 31 r 0 = g 21 ff 0
    · rw [if_pos hrec]
      have hgo : sRR g ff = sTC g r ff := by unfold sRR; rw [if_pos (by omega), ← hrd, if_pos hrec]
      have hkc : kC (sRR g ff) = kC (sTC g r ff) := by rw [hgo]
      have hks : kS (sRR g ff) = kS (sTC g r ff) := by rw [hgo]
      have hJ2 := hJr.2 hrec.1
      refine z_if_eq (tgt := 34) hx hb dX3_reachReceiver_25 (by decide) (by omega) (fun c_25 => ?_) (fun c_25 => ?_)
      · exact absurd c_25 (by omega)
      · refine lv_aload_n hx hb dX3_reachReceiver_28 rfl (lv_at hl 1 rfl) ?_
        refine lv_aload_n hx hb dX3_reachReceiver_29 rfl (lv_at hl 0 rfl) ?_
        refine lv_aload_n hx hb dX3_reachReceiver_30 rfl (lv_at hl 2 rfl) ?_
        refine va_callv (va_runV (As := [.ref (al 9 r), .ref (al 7 ff)]) (rest := []) ⟨hx, hb, hml, hown, hts⟩ (c_X3_takeConsecutive l D dA z en g al r ff (by omega) (by omega) (by omega) (by omega) (by omega) (hcs (by omega) hrec.1 hrec.2) (by omega) (by omega) hrec.1 hE hI) (cwV 2 hts gX3_reachReceiver_X3_takeConsecutive rfl rfl rfl (by decide +kernel) ⟨Nat.le_of_ble_eq_true rfl, Nat.le_of_ble_eq_true rfl⟩) ⟨gBl, gRecv hK hW (ci := 5) rfl fX, gPre _ hg hS hW⟩ rfl rfl hl.1 rfl (lv_room (Nat.le_of_ble_eq_true rfl)) dX3_reachReceiver_31 ⟨(show 0 + 0 + 0 + (kC (sTC g r ff) - kC g) ≤ kC (sRR g ff) - kC g + 1 by omega), (show 0 + 0 + 0 + (kS (sTC g r ff) - kS g) ≤ kS (sRR g ff) - kS g + 10000 by omega)⟩) hS (fun _ _ h => h) (fun _ h => h) (fun u9 t9 H locs ht9 hvm9 hw9 hB9 hz9 hk9 hS => ?_)
        obtain ⟨en6v, al6v⟩ := u9
        obtain ⟨hE6v, hFR6v, hAS6v⟩ := hw9
        have hW : Wd D (z 0) en6v H := by rw [← ht9]; exact hB9
        obtain ⟨g6v, hg6v⟩ : ∃ x : St, x = sTC g r ff := ⟨_, rfl⟩
        rw [← hg6v] at hE6v hAS6v
        dsimp only at hE6v hFR6v hAS6v
        have hl : lv_has ls 3 [(2, .ref (al6v 9 r)), (0, .ref (al6v 0 0)), (1, .ref (al6v 7 ff))] := by rw [hAS6v.2 9 r (by omega), hAS6v.2 0 0 (by omega), hAS6v.2 7 ff (by omega)]; exact hl
        have hN6v := hAS6v.1
        have fX : en6v 0 0 = some (al6v 0 0, .inr (5, [.int (iZ (g6v 0 0 0)), .ref (al6v 1 0), .ref (al6v 1 1), .ref (al6v 3 0), .ref (al6v 4 0), .int (iZ (g6v 0 5 0)), .ref (al6v 11 0), .long (lZ (g6v 0 7 0)), .int (iZ (g6v 0 8 0)), .int (iZ (g6v 0 9 0)), .int (iZ (g6v 0 10 0)), .int (iZ (g6v 0 11 0)), .int (iZ (g6v 0 12 0)), .int (iZ (g6v 0 13 0))])) := ec_X hE6v
        have fL0 : en6v 1 0 = some (al6v 1 0, .inr (1, [.int (iZ (g6v 3 0 0)), .ref (al6v 2 0), .int (iZ (g6v 1 0 0))])) := ec_L0 hE6v
        have fL1 : en6v 1 1 = some (al6v 1 1, .inr (1, [.int (iZ (g6v 3 1 0)), .ref (al6v 2 1), .int (iZ (g6v 1 1 0))])) := ec_L1 hE6v
        have fQ : en6v 3 0 = some (al6v 3 0, aR dA (4) (fun j => some (al6v 9 j))) := ec_Q hE6v
        have fC : en6v 4 0 = some (al6v 4 0, aI dA (8) (fun j => g6v 2 j 0)) := ec_C hE6v
        have fF : en6v 7 ff = some (al6v 7 ff, .inr (2, [.int (iZ (g6v 20 ff 0)), .int (iZ (g6v 21 ff 0)), .int (iZ (g6v 22 ff 0)), .int (iZ (g6v 23 ff 0)), .int (iZ (g6v 24 ff 0)), .long (lZ (g6v 25 ff 0)), .ref (al6v 8 ff), .int (iZ (g6v 27 ff 0))])) := ec_F hE6v (by omega)
        have fFO : bA dA z en6v 8 ff (al6v 8 ff) (g6v 26 ff 0) (g6v 28 ff) := ec_FO hE6v (by omega)
        have fR : en6v 9 r = some (al6v 9 r, .inr (3, [.int (iZ (g6v 30 r 0)), .int (iZ (g6v 31 r 0)), .ref (al6v 10 r), .int (iZ (g6v 33 r 0)), .int (iZ (g6v 34 r 0)), .int (iZ (g6v 35 r 0)), .int (iZ (g6v 36 r 0)), .long (lZ (g6v 37 r 0)), .long (lZ (g6v 38 r 0))])) := ec_R hE6v (by omega)
        refine lv_aload_n hx hb dX3_reachReceiver_34 rfl (lv_at hl 0 rfl) ?_
        refine g_get (C := RX1) (T := TX1) (N := 9) (ci := 3) (v := .int (iZ (g6v 30 r 0))) hx hb hts hi3 hown hK hW fR rfl 0 (by decide) (hts (.fieldLink RX3 275 "LongTransfer$Receiver" "state" "I") (by decide +kernel)) (fun _ h9 => h9) rfl dX3_reachReceiver_35 ?_
        refine W.widen (k := kC (sRR g ff) - kC g + 1) (n := kS (sRR g ff) - kS g + 10000) (show 0 + 0 + 0 + (kC (sTC g r ff) - kC g) ≤ kC (sRR g ff) - kC g + 1 by omega) (show 0 + 0 + 0 + (kS (sTC g r ff) - kS g) ≤ kS (sRR g ff) - kS g + 10000 by omega) ?_
        have hgz : g6v = sRR g ff := by subst hg6v; rw [hgo]
        rw [hgz] at hE6v hAS6v
        exact W.iret hx hb hr (fun t ht hw => ⟨⟨_, (en6v, al6v), rfl, ⟨by unfold aRR; rw [← hrd, ← hgz], hE6v, hFR6v, hAS6v⟩, by show Wd _ _ _ t.heap; rw [ht]; exact hW⟩, hS.F ht⟩) hS.2.2 dX3_reachReceiver_38
    · rw [if_neg hrec]
      have hgo : sRR g ff = g := by unfold sRR; rw [if_pos (by omega), ← hrd, if_neg hrec]
      refine z_if_eq (tgt := 34) hx hb dX3_reachReceiver_25 (by decide) (by omega) (fun c_25 => ?_) (fun c_25 => ?_)
      · refine lv_aload_n hx hb dX3_reachReceiver_34 rfl (lv_at hl 0 rfl) ?_
        refine g_get (C := RX1) (T := TX1) (N := 9) (ci := 3) (v := .int (iZ (g 30 r 0))) hx hb hts hi3 hown hK hW fR rfl 0 (by decide) (hts (.fieldLink RX3 275 "LongTransfer$Receiver" "state" "I") (by decide +kernel)) (fun _ h9 => h9) rfl dX3_reachReceiver_35 ?_
        refine W.widen (k := kC (sRR g ff) - kC g + 1) (n := kS (sRR g ff) - kS g + 10000) (show 0 + 0 + 0 ≤ kC (sRR g ff) - kC g + 1 by omega) (show 0 + 0 + 0 ≤ kS (sRR g ff) - kS g + 10000 by omega) ?_
        have hFRz := FR.rf en
        have hASz := AS.rf g al
        have hgz : g = sRR g ff := by rw [hgo]
        have hEz := hgz ▸ hE
        exact W.iret hx hb hr (fun t ht hw => ⟨⟨_, (en, al), rfl, ⟨by unfold aRR; rw [← hrd, ← hgz], hgz ▸ hE, hFRz, hgz ▸ hASz⟩, by show Wd _ _ _ t.heap; rw [ht]; exact hW⟩, hS.F ht⟩) hS.2.2 dX3_reachReceiver_38
      · exact absurd c_25 (by omega)
