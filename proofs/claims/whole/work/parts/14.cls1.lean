def FR (en en' : en_T) : Prop := ∀ (k : Nat) (i : Int), 20 ≤ k → k ≠ 99 → en' k i = en k i
theorem FR.rf (en : en_T) : FR en en := fun _ _ _ _ => rfl
theorem FR.tr {a b c : en_T} (h1 : FR a b) (h2 : FR b c) : FR a c := fun k i q1 q2 => (h2 k i q1 q2).trans (h1 k i q1 q2)
def AS (g g' : St) (al al' : Al) : Prop := (g 1 0 0 ≤ g' 1 0 0 ∧ g 1 1 0 ≤ g' 1 1 0 ∧ g 4 1 0 ≤ g' 4 1 0) ∧ ∀ (k : Nat) (i : Int), (k = 0 ∨ k = 1 ∨ k = 3 ∨ k = 4 ∨ k = 9 ∨ ((k = 5 ∨ k = 6) ∧ i ≤ g 1 0 0) ∨ ((k = 7 ∨ k = 8) ∧ i ≤ g 1 1 0)) → al' k i = al k i
theorem AS.rf (g : St) (al : Al) : AS g g al al := ⟨⟨Int.le_refl _, Int.le_refl _, Int.le_refl _⟩, fun _ _ _ => rfl⟩
theorem AS_e {g g' : St} {al : Al} (h0 : g' 1 0 0 = g 1 0 0) (h1 : g' 1 1 0 = g 1 1 0) (h4 : g' 4 1 0 = g 4 1 0) : AS g g' al al := ⟨⟨by omega, by omega, by omega⟩, fun _ _ _ => rfl⟩
theorem AS.tr {g g' g2 : St} {al al' al2 : Al} (h1 : AS g g' al al') (h2 : AS g' g2 al' al2) : AS g g2 al al2 := by
  obtain ⟨⟨a1, a2, a4⟩, a3⟩ := h1
  obtain ⟨⟨b1, b2, b4⟩, b3⟩ := h2
  exact ⟨⟨by omega, by omega, by omega⟩, fun k i h => (b3 k i (by omega)).trans (a3 k i h)⟩
theorem kC_m {g g' : St} {al al' : Al} (h : AS g g' al al') : kC g ≤ kC g' := by
  have := h.1
  unfold kC
  omega
theorem kS_m {g g' : St} {al al' : Al} (h : AS g g' al al') : kS g ≤ kS g' := by
  have := h.1
  unfold kS
  omega
abbrev CP (dA : Nat → ClassId) (z : Nat → Nat) (g' g : St) (al : Al) (en : en_T) (u : en_T × Al) : Prop := EC dA z g' u.2 u.1 ∧ FR en u.1 ∧ AS g g' al u.2
section ECP
variable {dA : Nat → ClassId} {z : Nat → Nat} {g : St} {al : Al} {en : en_T}
theorem ec_X (h : EC dA z g al en) : en 0 0 = some (al 0 0, .inr (5, eX g al)) := h.1
theorem ec_L0 (h : EC dA z g al en) : en 1 0 = some (al 1 0, .inr (1, eL g al 0)) := h.2.1
theorem ec_L1 (h : EC dA z g al en) : en 1 1 = some (al 1 1, .inr (1, eL g al 1)) := h.2.2.1
theorem ec_Ar (h : EC dA z g al en) {li : Int} (hl : li = 0 ∨ li = 1) (hn : 0 < g 1 li 0) : 10 ≤ g 4 li 0 ∧ en 2 li = some (al 2 li, aO dA (g 4 li 0) (eA g al li)) := by
  rcases h.2.2.2.1 li hl with ⟨-, -, q⟩ | q
  · omega
  · exact q
theorem ec_Q (h : EC dA z g al en) : en 3 0 = some (al 3 0, aR dA 4 (fun j => some (al 9 j))) := h.2.2.2.2.1
theorem ec_C (h : EC dA z g al en) : en 4 0 = some (al 4 0, aI dA 8 (fun j => g 2 j 0)) := h.2.2.2.2.2.1
theorem ec_S (h : EC dA z g al en) {m : Int} (hm : 1 ≤ m ∧ m ≤ g 1 0 0) : en 5 m = some (al 5 m, .inr (4, eS g al m)) := (h.2.2.2.2.2.2.1 m hm.1 hm.2).1
theorem ec_SO (h : EC dA z g al en) {m : Int} (hm : 1 ≤ m ∧ m ≤ g 1 0 0) : en 6 m = some (al 6 m, aB dA (g 11 m 0) (g 19 m)) := (h.2.2.2.2.2.2.1 m hm.1 hm.2).2
theorem ec_F (h : EC dA z g al en) {f : Int} (hf : 1 ≤ f ∧ f ≤ g 1 1 0) : en 7 f = some (al 7 f, .inr (2, eF g al f)) := (h.2.2.2.2.2.2.2.1 f hf.1 hf.2).1
theorem ec_FO (h : EC dA z g al en) {f : Int} (hf : 1 ≤ f ∧ f ≤ g 1 1 0) : bA dA z en 8 f (al 8 f) (g 26 f 0) (g 28 f) := (h.2.2.2.2.2.2.2.1 f hf.1 hf.2).2
theorem ec_R (h : EC dA z g al en) {r : Int} (hr : 0 ≤ r ∧ r < 4) : en 9 r = some (al 9 r, .inr (3, eR g al r)) := (h.2.2.2.2.2.2.2.2.1 r hr.1 hr.2).1
theorem ec_RO (h : EC dA z g al en) {r : Int} (hr : 0 ≤ r ∧ r < 4) (hs : g 30 r 0 = 1) : bA dA z en 10 r (al 10 r) (g 32 r 0) (g 39 r) := (h.2.2.2.2.2.2.2.2.1 r hr.1 hr.2).2 hs
theorem eA_in {li j : Int} (h0 : 1 ≤ j) (h1 : j ≤ g 1 li 0) : eA g al li (j - 1) = some (al (if li = 0 then 5 else 7) j) := by
  unfold eA
  rw [if_pos (by omega), Int.sub_add_cancel]
theorem eA_out {li j : Int} (h : ¬ (0 ≤ j ∧ j < g 1 li 0)) : eA g al li j = none := if_neg h
end ECP

set_option maxHeartbeats 4000000 in
set_option maxRecDepth 100000 in
theorem c_X3_findSender (l : Launch) (D : va_G) (dA : Nat → ClassId) (z : Nat → Nat) (en : en_T) (g : St) (al : Al) (mm : Int) (hm : iB mm) (hE : EC dA z g al en) (hI : IB g) : Met l yX3_findSender wsX3_findSender ({ frames := 3, cells := 0, slots := 0, locals := 64 }) (gP D dA z en [.ref (al 0 0), .int (iZ (mm))]) (va_Qq (fun (r : Option Nat) (_ : Unit) => r = if 1 ≤ mm ∧ mm ≤ g 1 0 0 then some (al 5 mm) else none) (fun _ t9 => Wd D (z 0) en t9.heap) (fun q => z 0 ≤ q)) (0) (0) (fun q => z 0 ≤ q) := by
  refine gMet (own := RX3) (cc := cX3_findSender) (maxL := 2) (ret := (some (.object "LongTransfer$Sender"))) (by decide) rfl rfl (Nat.le_of_ble_eq_true rfl) ?_
  intro p e s m below meth c hx hb hml hown hts hr hlocks hnm hg hW ls hl
  have hK := hg.1
  have hS : va_S (fun q => z 0 ≤ q) s.heap s.heap [] := va_S.rf
  have hi5 : ∀ w ∈ u_ws RX3 TX3 14, w ∈ wsX3_findSender := by decide +kernel
  have hl : lv_has ls 2 [(0, .ref (al 0 0)), (1, .int (iZ (mm)))] := hl
  obtain ⟨hIX, hIL, hIS, hIF, hIR, hIG⟩ := id hI
  unfold IL at hIL
  have fX : en 0 0 = some (al 0 0, .inr (5, [.int (iZ (g 0 0 0)), .ref (al 1 0), .ref (al 1 1), .ref (al 3 0), .ref (al 4 0), .int (iZ (g 0 5 0)), .ref (al 11 0), .long (lZ (g 0 7 0)), .int (iZ (g 0 8 0)), .int (iZ (g 0 9 0)), .int (iZ (g 0 10 0)), .int (iZ (g 0 11 0)), .int (iZ (g 0 12 0)), .int (iZ (g 0 13 0))])) := ec_X hE
  have fL0 : en 1 0 = some (al 1 0, .inr (1, [.int (iZ (g 3 0 0)), .ref (al 2 0), .int (iZ (g 1 0 0))])) := ec_L0 hE
  have fL1 : en 1 1 = some (al 1 1, .inr (1, [.int (iZ (g 3 1 0)), .ref (al 2 1), .int (iZ (g 1 1 0))])) := ec_L1 hE
  have fQ : en 3 0 = some (al 3 0, aR dA (4) (fun j => some (al 9 j))) := ec_Q hE
  have fC : en 4 0 = some (al 4 0, aI dA (8) (fun j => g 2 j 0)) := ec_C hE
  refine lv_iload_n hx hb dX3_findSender_0 rfl (lv_at hl 1 rfl) ?_
  refine z_iconst hx hb dX3_findSender_1 ?_
  refine z_icmp_lt (tgt := 32) hx hb dX3_findSender_2 (by decide) (by omega) (by omega) (fun c_2 => ?_) (fun c_2 => ?_)
  · refine lv_null hx hb dX3_findSender_32 ?_
    exact W.aret hx hb hr (Or.inl ⟨_, rfl⟩) (Or.inl rfl) (fun t ht hw => ⟨⟨none, (), rfl, (if_neg (by omega)).symm, by show Wd _ _ _ t.heap; rw [ht]; exact hW⟩, hS.F ht⟩) hS.2.2 dX3_findSender_33
  · refine lv_iload_n hx hb dX3_findSender_5 rfl (lv_at hl 1 rfl) ?_
    refine lv_aload_n hx hb dX3_findSender_6 rfl (lv_at hl 0 rfl) ?_
    refine g_get (C := RX3) (T := TX3) (N := 14) (ci := 5) (v := .ref (al 1 0)) hx hb hts hi5 hown hK hW fX rfl 1 (by decide) (hts (.fieldLink RX3 10 "LongTransfer" "senders" "Ljava/util/ArrayList;") (by decide +kernel)) (fun _ h9 => h9) rfl dX3_findSender_7 ?_
    refine va_calli (va_runV (As := []) (rest := [.int (iZ (mm))]) ⟨hx, hb, hml, hown, hts⟩ (c_AL_size l D dA z en 0 (al 1 0) (al 2 0) (g 3 0 0) (g 1 0 0) fL0) (cwV 0 hts gX3_findSender_Jx4a65c_size_8abf5 rfl rfl rfl (by decide +kernel) ⟨Nat.le_of_ble_eq_true rfl, Nat.le_of_ble_eq_true rfl⟩) ⟨gBl, gRecv hK hW (ci := 1) rfl fL0, gPre _ hg hS hW⟩ rfl rfl hl.1 rfl (lv_room (Nat.le_of_ble_eq_true rfl)) dX3_findSender_10 ⟨(show 0 + 0 ≤ 0 by omega), (show 0 + 0 ≤ 0 by omega)⟩) hS (fun _ _ h => h) (fun _ h => h) (fun r9 u9 t9 H locs ht9 hvm9 hw9 hB9 hz9 hk9 hS => ?_)
    have hW : Wd D (z 0) en H := by rw [← ht9]; exact hB9
    subst hw9
    refine z_icmp_gt (tgt := 32) hx hb dX3_findSender_13 (by decide) (by omega) (by omega) (fun c_13 => ?_) (fun c_13 => ?_)
    · refine lv_null hx hb dX3_findSender_32 ?_
      exact W.aret hx hb hr (Or.inl ⟨_, rfl⟩) (Or.inl rfl) (fun t ht hw => ⟨⟨none, (), rfl, (if_neg (by omega)).symm, by show Wd _ _ _ t.heap; rw [ht]; exact hW⟩, hS.F ht⟩) hS.2.2 dX3_findSender_33
    · refine lv_aload_n hx hb dX3_findSender_16 rfl (lv_at hl 0 rfl) ?_
      refine g_get (C := RX3) (T := TX3) (N := 14) (ci := 5) (v := .ref (al 1 0)) hx hb hts hi5 hown hK hW fX rfl 1 (by decide) (hts (.fieldLink RX3 10 "LongTransfer" "senders" "Ljava/util/ArrayList;") (by decide +kernel)) (fun _ h9 => h9) rfl dX3_findSender_17 ?_
      refine lv_iload_n hx hb dX3_findSender_20 rfl (lv_at hl 1 rfl) ?_
      refine z_iconst hx hb dX3_findSender_21 ?_
      refine z_isub hx hb dX3_findSender_22 ?_
      obtain ⟨hcap, fA⟩ := ec_Ar hE (li := 0) (by omega) (by omega)
      refine va_callr (va_runV (As := [.int (iZ (mm - 1))]) (rest := []) ⟨hx, hb, hml, hown, hts⟩ (c_AL_get l D dA z en 0 (al 1 0) (al 2 0) (g 3 0 0) (g 1 0 0) (g 4 0 0) (mm - 1) (eA g al 0) (al 5 mm) (by omega) (by omega) (by omega) (by omega) (by omega) (eA_in (by omega) (by omega)) fL0 fA) (cwV 1 hts gX3_findSender_Jx4a65c_get_915e3 rfl rfl rfl (by decide +kernel) ⟨Nat.le_of_ble_eq_true rfl, Nat.le_of_ble_eq_true rfl⟩) ⟨gBl, gRecv hK hW (ci := 1) rfl fL0, gPre _ hg hS hW⟩ rfl rfl hl.1 rfl (lv_room (Nat.le_of_ble_eq_true rfl)) dX3_findSender_23 ⟨(show 0 + 0 + 0 ≤ 0 by omega), (show 0 + 0 + 0 ≤ 0 by omega)⟩) hS (fun _ _ h => h) (fun _ h => h) (fun u9 r9 t9 H locs ht9 hvm9 hw9 hB9 hz9 hk9 hS => ?_)
      obtain ⟨rfl, hB9⟩ := hB9
      have hW : Wd D (z 0) en H := by rw [← ht9]; exact hB9
      have fX : en 0 0 = some (al 0 0, .inr (5, [.int (iZ (g 0 0 0)), .ref (al 1 0), .ref (al 1 1), .ref (al 3 0), .ref (al 4 0), .int (iZ (g 0 5 0)), .ref (al 11 0), .long (lZ (g 0 7 0)), .int (iZ (g 0 8 0)), .int (iZ (g 0 9 0)), .int (iZ (g 0 10 0)), .int (iZ (g 0 11 0)), .int (iZ (g 0 12 0)), .int (iZ (g 0 13 0))])) := ec_X hE
      have fL0 : en 1 0 = some (al 1 0, .inr (1, [.int (iZ (g 3 0 0)), .ref (al 2 0), .int (iZ (g 1 0 0))])) := ec_L0 hE
      have fL1 : en 1 1 = some (al 1 1, .inr (1, [.int (iZ (g 3 1 0)), .ref (al 2 1), .int (iZ (g 1 1 0))])) := ec_L1 hE
      have fQ : en 3 0 = some (al 3 0, aR dA (4) (fun j => some (al 9 j))) := ec_Q hE
      have fC : en 4 0 = some (al 4 0, aI dA (8) (fun j => g 2 j 0)) := ec_C hE
      have fS : en 5 mm = some (al 5 mm, .inr (4, [.int (iZ (mm)), .ref (al 6 mm), .int (iZ (g 12 mm 0)), .int (iZ (g 13 mm 0)), .int (iZ (g 14 mm 0)), .int (iZ (g 15 mm 0)), .int (iZ (g 16 mm 0)), .int (iZ (g 17 mm 0)), .long (lZ (g 18 mm 0))])) := ec_S hE (by omega)
      have fO : en 6 mm = some (al 6 mm, aB dA (g 11 mm 0) (g 19 mm)) := ec_SO hE (by omega)
      refine g_castS (nm := RX2) (T := TX2) (N := 9) (ci := 4) hx hb hown (hts (.classLink RX3 56 "LongTransfer$Sender") (by decide +kernel)) hK hW rfl fS dX3_findSender_26 ?_
      refine lv_goto (tgt := 33) hx hb dX3_findSender_29 (by decide) ?_
      exact W.aret hx hb hr (Or.inl ⟨_, rfl⟩) (Or.inr ⟨_, rfl⟩) (fun t ht hw => ⟨⟨some (al 5 mm), (), rfl, (if_pos (by omega)).symm, by show Wd _ _ _ t.heap; rw [ht]; exact hW⟩, hS.F ht⟩) hS.2.2 dX3_findSender_33
set_option maxHeartbeats 4000000 in
set_option maxRecDepth 100000 in
theorem c_X3_findFrame (l : Launch) (D : va_G) (dA : Nat → ClassId) (z : Nat → Nat) (en : en_T) (g : St) (al : Al) (mm : Int) (hm : iB mm) (hE : EC dA z g al en) (hI : IB g) : Met l yX3_findFrame wsX3_findFrame ({ frames := 3, cells := 0, slots := 0, locals := 64 }) (gP D dA z en [.ref (al 0 0), .int (iZ (mm))]) (va_Qq (fun (r : Option Nat) (_ : Unit) => r = if 1 ≤ mm ∧ mm ≤ g 1 1 0 then some (al 7 mm) else none) (fun _ t9 => Wd D (z 0) en t9.heap) (fun q => z 0 ≤ q)) (0) (0) (fun q => z 0 ≤ q) := by
  refine gMet (own := RX3) (cc := cX3_findFrame) (maxL := 2) (ret := (some (.object "LongTransfer$Frame"))) (by decide) rfl rfl (Nat.le_of_ble_eq_true rfl) ?_
  intro p e s m below meth c hx hb hml hown hts hr hlocks hnm hg hW ls hl
  have hK := hg.1
  have hS : va_S (fun q => z 0 ≤ q) s.heap s.heap [] := va_S.rf
  have hi5 : ∀ w ∈ u_ws RX3 TX3 14, w ∈ wsX3_findFrame := by decide +kernel
  have hl : lv_has ls 2 [(0, .ref (al 0 0)), (1, .int (iZ (mm)))] := hl
  obtain ⟨hIX, hIL, hIS, hIF, hIR, hIG⟩ := id hI
  unfold IL at hIL
  have fX : en 0 0 = some (al 0 0, .inr (5, [.int (iZ (g 0 0 0)), .ref (al 1 0), .ref (al 1 1), .ref (al 3 0), .ref (al 4 0), .int (iZ (g 0 5 0)), .ref (al 11 0), .long (lZ (g 0 7 0)), .int (iZ (g 0 8 0)), .int (iZ (g 0 9 0)), .int (iZ (g 0 10 0)), .int (iZ (g 0 11 0)), .int (iZ (g 0 12 0)), .int (iZ (g 0 13 0))])) := ec_X hE
  have fL0 : en 1 0 = some (al 1 0, .inr (1, [.int (iZ (g 3 0 0)), .ref (al 2 0), .int (iZ (g 1 0 0))])) := ec_L0 hE
  have fL1 : en 1 1 = some (al 1 1, .inr (1, [.int (iZ (g 3 1 0)), .ref (al 2 1), .int (iZ (g 1 1 0))])) := ec_L1 hE
  have fQ : en 3 0 = some (al 3 0, aR dA (4) (fun j => some (al 9 j))) := ec_Q hE
  have fC : en 4 0 = some (al 4 0, aI dA (8) (fun j => g 2 j 0)) := ec_C hE
  refine lv_iload_n hx hb dX3_findFrame_0 rfl (lv_at hl 1 rfl) ?_
  refine z_iconst hx hb dX3_findFrame_1 ?_
  refine z_icmp_lt (tgt := 32) hx hb dX3_findFrame_2 (by decide) (by omega) (by omega) (fun c_2 => ?_) (fun c_2 => ?_)
  · refine lv_null hx hb dX3_findFrame_32 ?_
    exact W.aret hx hb hr (Or.inl ⟨_, rfl⟩) (Or.inl rfl) (fun t ht hw => ⟨⟨none, (), rfl, (if_neg (by omega)).symm, by show Wd _ _ _ t.heap; rw [ht]; exact hW⟩, hS.F ht⟩) hS.2.2 dX3_findFrame_33
  · refine lv_iload_n hx hb dX3_findFrame_5 rfl (lv_at hl 1 rfl) ?_
    refine lv_aload_n hx hb dX3_findFrame_6 rfl (lv_at hl 0 rfl) ?_
    refine g_get (C := RX3) (T := TX3) (N := 14) (ci := 5) (v := .ref (al 1 1)) hx hb hts hi5 hown hK hW fX rfl 2 (by decide) (hts (.fieldLink RX3 16 "LongTransfer" "frames" "Ljava/util/ArrayList;") (by decide +kernel)) (fun _ h9 => h9) rfl dX3_findFrame_7 ?_
    refine va_calli (va_runV (As := []) (rest := [.int (iZ (mm))]) ⟨hx, hb, hml, hown, hts⟩ (c_AL_size l D dA z en 1 (al 1 1) (al 2 1) (g 3 1 0) (g 1 1 0) fL1) (cwV 0 hts gX3_findFrame_Jx4a65c_size_8abf5 rfl rfl rfl (by decide +kernel) ⟨Nat.le_of_ble_eq_true rfl, Nat.le_of_ble_eq_true rfl⟩) ⟨gBl, gRecv hK hW (ci := 1) rfl fL1, gPre _ hg hS hW⟩ rfl rfl hl.1 rfl (lv_room (Nat.le_of_ble_eq_true rfl)) dX3_findFrame_10 ⟨(show 0 + 0 ≤ 0 by omega), (show 0 + 0 ≤ 0 by omega)⟩) hS (fun _ _ h => h) (fun _ h => h) (fun r9 u9 t9 H locs ht9 hvm9 hw9 hB9 hz9 hk9 hS => ?_)
    have hW : Wd D (z 0) en H := by rw [← ht9]; exact hB9
    subst hw9
    refine z_icmp_gt (tgt := 32) hx hb dX3_findFrame_13 (by decide) (by omega) (by omega) (fun c_13 => ?_) (fun c_13 => ?_)
    · refine lv_null hx hb dX3_findFrame_32 ?_
      exact W.aret hx hb hr (Or.inl ⟨_, rfl⟩) (Or.inl rfl) (fun t ht hw => ⟨⟨none, (), rfl, (if_neg (by omega)).symm, by show Wd _ _ _ t.heap; rw [ht]; exact hW⟩, hS.F ht⟩) hS.2.2 dX3_findFrame_33
    · refine lv_aload_n hx hb dX3_findFrame_16 rfl (lv_at hl 0 rfl) ?_
      refine g_get (C := RX3) (T := TX3) (N := 14) (ci := 5) (v := .ref (al 1 1)) hx hb hts hi5 hown hK hW fX rfl 2 (by decide) (hts (.fieldLink RX3 16 "LongTransfer" "frames" "Ljava/util/ArrayList;") (by decide +kernel)) (fun _ h9 => h9) rfl dX3_findFrame_17 ?_
      refine lv_iload_n hx hb dX3_findFrame_20 rfl (lv_at hl 1 rfl) ?_
      refine z_iconst hx hb dX3_findFrame_21 ?_
      refine z_isub hx hb dX3_findFrame_22 ?_
      obtain ⟨hcap, fA⟩ := ec_Ar hE (li := 1) (by omega) (by omega)
      refine va_callr (va_runV (As := [.int (iZ (mm - 1))]) (rest := []) ⟨hx, hb, hml, hown, hts⟩ (c_AL_get l D dA z en 1 (al 1 1) (al 2 1) (g 3 1 0) (g 1 1 0) (g 4 1 0) (mm - 1) (eA g al 1) (al 7 mm) (by omega) (by omega) (by omega) (by omega) (by omega) (eA_in (by omega) (by omega)) fL1 fA) (cwV 1 hts gX3_findFrame_Jx4a65c_get_915e3 rfl rfl rfl (by decide +kernel) ⟨Nat.le_of_ble_eq_true rfl, Nat.le_of_ble_eq_true rfl⟩) ⟨gBl, gRecv hK hW (ci := 1) rfl fL1, gPre _ hg hS hW⟩ rfl rfl hl.1 rfl (lv_room (Nat.le_of_ble_eq_true rfl)) dX3_findFrame_23 ⟨(show 0 + 0 + 0 ≤ 0 by omega), (show 0 + 0 + 0 ≤ 0 by omega)⟩) hS (fun _ _ h => h) (fun _ h => h) (fun u9 r9 t9 H locs ht9 hvm9 hw9 hB9 hz9 hk9 hS => ?_)
      obtain ⟨rfl, hB9⟩ := hB9
      have hW : Wd D (z 0) en H := by rw [← ht9]; exact hB9
      have fX : en 0 0 = some (al 0 0, .inr (5, [.int (iZ (g 0 0 0)), .ref (al 1 0), .ref (al 1 1), .ref (al 3 0), .ref (al 4 0), .int (iZ (g 0 5 0)), .ref (al 11 0), .long (lZ (g 0 7 0)), .int (iZ (g 0 8 0)), .int (iZ (g 0 9 0)), .int (iZ (g 0 10 0)), .int (iZ (g 0 11 0)), .int (iZ (g 0 12 0)), .int (iZ (g 0 13 0))])) := ec_X hE
      have fL0 : en 1 0 = some (al 1 0, .inr (1, [.int (iZ (g 3 0 0)), .ref (al 2 0), .int (iZ (g 1 0 0))])) := ec_L0 hE
      have fL1 : en 1 1 = some (al 1 1, .inr (1, [.int (iZ (g 3 1 0)), .ref (al 2 1), .int (iZ (g 1 1 0))])) := ec_L1 hE
      have fQ : en 3 0 = some (al 3 0, aR dA (4) (fun j => some (al 9 j))) := ec_Q hE
      have fC : en 4 0 = some (al 4 0, aI dA (8) (fun j => g 2 j 0)) := ec_C hE
      have fF : en 7 mm = some (al 7 mm, .inr (2, [.int (iZ (g 20 mm 0)), .int (iZ (g 21 mm 0)), .int (iZ (g 22 mm 0)), .int (iZ (g 23 mm 0)), .int (iZ (g 24 mm 0)), .long (lZ (g 25 mm 0)), .ref (al 8 mm), .int (iZ (g 27 mm 0))])) := ec_F hE (by omega)
      have fFO : bA dA z en 8 mm (al 8 mm) (g 26 mm 0) (g 28 mm) := ec_FO hE (by omega)
      refine g_castS (nm := RX0) (T := TX0) (N := 8) (ci := 2) hx hb hown (hts (.classLink RX3 77 "LongTransfer$Frame") (by decide +kernel)) hK hW rfl fF dX3_findFrame_26 ?_
      refine lv_goto (tgt := 33) hx hb dX3_findFrame_29 (by decide) ?_
      exact W.aret hx hb hr (Or.inl ⟨_, rfl⟩) (Or.inr ⟨_, rfl⟩) (fun t ht hw => ⟨⟨some (al 7 mm), (), rfl, (if_pos (by omega)).symm, by show Wd _ _ _ t.heap; rw [ht]; exact hW⟩, hS.F ht⟩) hS.2.2 dX3_findFrame_33
set_option maxHeartbeats 4000000 in
set_option maxRecDepth 100000 in
theorem c_X3_receiverOf (l : Launch) (D : va_G) (dA : Nat → ClassId) (z : Nat → Nat) (en : en_T) (g : St) (al : Al) (mm : Int) (h0 : 0 ≤ mm) (h1 : mm ≤ 1000) (hE : EC dA z g al en) (hI : IB g) : Met l yX3_receiverOf wsX3_receiverOf ({ frames := 1, cells := 0, slots := 0, locals := 22 }) (gP D dA z en [.ref (al 0 0), .int (iZ (mm))]) (va_Qr (fun _ : Unit => True) (fun _ r9 t9 => r9 = al 9 (mm % 4) ∧ Wd D (z 0) en t9.heap) (fun q => z 0 ≤ q)) (0) (0) (fun q => z 0 ≤ q) := by
  refine gMet (own := RX3) (cc := cX3_receiverOf) (maxL := 2) (ret := (some (.object "LongTransfer$Receiver"))) (by decide) rfl rfl (Nat.le_of_ble_eq_true rfl) ?_
  intro p e s m below meth c hx hb hml hown hts hr hlocks hnm hg hW ls hl
  have hK := hg.1
  have hS : va_S (fun q => z 0 ≤ q) s.heap s.heap [] := va_S.rf
  have hi5 : ∀ w ∈ u_ws RX3 TX3 14, w ∈ wsX3_receiverOf := by decide +kernel
  have hl : lv_has ls 2 [(0, .ref (al 0 0)), (1, .int (iZ (mm)))] := hl
  have fX : en 0 0 = some (al 0 0, .inr (5, [.int (iZ (g 0 0 0)), .ref (al 1 0), .ref (al 1 1), .ref (al 3 0), .ref (al 4 0), .int (iZ (g 0 5 0)), .ref (al 11 0), .long (lZ (g 0 7 0)), .int (iZ (g 0 8 0)), .int (iZ (g 0 9 0)), .int (iZ (g 0 10 0)), .int (iZ (g 0 11 0)), .int (iZ (g 0 12 0)), .int (iZ (g 0 13 0))])) := ec_X hE
  have fL0 : en 1 0 = some (al 1 0, .inr (1, [.int (iZ (g 3 0 0)), .ref (al 2 0), .int (iZ (g 1 0 0))])) := ec_L0 hE
  have fL1 : en 1 1 = some (al 1 1, .inr (1, [.int (iZ (g 3 1 0)), .ref (al 2 1), .int (iZ (g 1 1 0))])) := ec_L1 hE
  have fQ : en 3 0 = some (al 3 0, aR dA (4) (fun j => some (al 9 j))) := ec_Q hE
  have fC : en 4 0 = some (al 4 0, aI dA (8) (fun j => g 2 j 0)) := ec_C hE
  refine lv_aload_n hx hb dX3_receiverOf_0 rfl (lv_at hl 0 rfl) ?_
  refine g_get (C := RX3) (T := TX3) (N := 14) (ci := 5) (v := .ref (al 3 0)) hx hb hts hi5 hown hK hW fX rfl 3 (by decide) (hts (.fieldLink RX3 21 "LongTransfer" "receivers" "[LLongTransfer$Receiver;") (by decide +kernel)) (fun _ h9 => h9) rfl dX3_receiverOf_1 ?_
  refine lv_iload_n hx hb dX3_receiverOf_4 rfl (lv_at hl 1 rfl) ?_
  refine z_iconst hx hb dX3_receiverOf_5 ?_
  refine va_calli (va_runS (As := [.int (iZ (mm)), .int (iZ (4))]) (rest := [.ref (al 3 0)]) ⟨hx, hb, hml, hown, hts⟩ (c_J9_floorMod l D dA z en mm 4 (by omega) (by omega) (by omega) (by omega)) (va_cwS 2 hts gX3_receiverOf_J9_floorMod_7cf53 rfl rfl rfl (by decide +kernel) ⟨Nat.le_of_ble_eq_true rfl, Nat.le_of_ble_eq_true rfl⟩) ⟨gBl, gPre _ hg hS hW⟩ rfl rfl hl.1 rfl (lv_room (Nat.le_of_ble_eq_true rfl)) dX3_receiverOf_6 ⟨(show 0 + 0 ≤ 0 by omega), (show 0 + 0 ≤ 0 by omega)⟩) hS (fun _ _ h => h) (fun _ h => h) (fun r9 u9 t9 H locs ht9 hvm9 hw9 hB9 hz9 hk9 hS => ?_)
  have hW : Wd D (z 0) en H := by rw [← ht9]; exact hB9
  subst hw9
  refine g_ald_aR hx hb hK hW fQ (by omega) (by omega) (by omega) rfl dX3_receiverOf_9 ?_
  exact W.aret hx hb hr (by first | exact Or.inl ⟨_, rfl⟩ | exact Or.inr ⟨_, rfl⟩) (Or.inr ⟨_, rfl⟩) (fun t ht hw => ⟨⟨(), _, rfl, trivial, rfl, by show Wd _ _ _ t.heap; rw [ht]; exact hW⟩, hS.F ht⟩) hS.2.2 dX3_receiverOf_10
set_option maxHeartbeats 4000000 in
set_option maxRecDepth 100000 in
theorem c_X3_isFlowNumber (l : Launch) (D : va_G) (dA : Nat → ClassId) (z : Nat → Nat) (en : en_T) (n : Int) (hn : iB n) : Met l yX3_isFlowNumber wsX3_isFlowNumber ({ frames := 0, cells := 0, slots := 0, locals := 0 }) (gP D dA z en [.int (iZ (n))]) (va_Qi (fun (r : Int32) (_ : Unit) => r = iZ (if 0 ≤ n ∧ n ≤ 255 then 1 else 0)) (fun _ t9 => Wd D (z 0) en t9.heap) (fun q => z 0 ≤ q)) (0) (0) (fun q => z 0 ≤ q) := by
  refine gMet (own := RX3) (cc := cX3_isFlowNumber) (maxL := 1) (ret := (some .boolean)) (by decide) rfl rfl (Nat.le_of_ble_eq_true rfl) ?_
  intro p e s m below meth c hx hb hml hown hts hr hlocks hnm hg hW ls hl
  have hK := hg.1
  have hS : va_S (fun q => z 0 ≤ q) s.heap s.heap [] := va_S.rf
  have hl : lv_has ls 1 [(0, .int (iZ (n)))] := hl
  refine lv_iload_n hx hb dX3_isFlowNumber_0 rfl (lv_at hl 0 rfl) ?_
  refine z_if_lt (tgt := 15) hx hb dX3_isFlowNumber_1 (by decide) (by omega) (fun c_1 => ?_) (fun c_1 => ?_)
  · refine z_iconst hx hb dX3_isFlowNumber_15 ?_
    exact W.zret hx hb hr (by decide) (fun t ht hw => ⟨⟨_, (), rfl, congrArg iZ (if_neg (by omega)).symm, by show Wd _ _ _ t.heap; rw [ht]; exact hW⟩, hS.F ht⟩) hS.2.2 dX3_isFlowNumber_16
  · refine lv_iload_n hx hb dX3_isFlowNumber_4 rfl (lv_at hl 0 rfl) ?_
    refine z_sipush hx hb dX3_isFlowNumber_5 (by decide) ?_
    refine z_icmp_gt (tgt := 15) hx hb dX3_isFlowNumber_8 (by decide) (by omega) (by omega) (fun c_8 => ?_) (fun c_8 => ?_)
    · refine z_iconst hx hb dX3_isFlowNumber_15 ?_
      exact W.zret hx hb hr (by decide) (fun t ht hw => ⟨⟨_, (), rfl, congrArg iZ (if_neg (by omega)).symm, by show Wd _ _ _ t.heap; rw [ht]; exact hW⟩, hS.F ht⟩) hS.2.2 dX3_isFlowNumber_16
    · refine z_iconst hx hb dX3_isFlowNumber_11 ?_
      refine lv_goto (tgt := 16) hx hb dX3_isFlowNumber_12 (by decide) ?_
      exact W.zret hx hb hr (by decide) (fun t ht hw => ⟨⟨_, (), rfl, congrArg iZ (if_pos (by omega)).symm, by show Wd _ _ _ t.heap; rw [ht]; exact hW⟩, hS.F ht⟩) hS.2.2 dX3_isFlowNumber_16
set_option maxHeartbeats 4000000 in
set_option maxRecDepth 100000 in
theorem c_X3_areFramesFull (l : Launch) (D : va_G) (dA : Nat → ClassId) (z : Nat → Nat) (en : en_T) (g : St) (al : Al)  (hE : EC dA z g al en) (hI : IB g) : Met l yX3_areFramesFull wsX3_areFramesFull ({ frames := 1, cells := 0, slots := 0, locals := 20 }) (gP D dA z en [.ref (al 0 0)]) (va_Qi (fun (r : Int32) (_ : Unit) => r = iZ (if 6000 ≤ g 1 1 0 then 1 else 0)) (fun _ t9 => Wd D (z 0) en t9.heap) (fun q => z 0 ≤ q)) (0) (0) (fun q => z 0 ≤ q) := by
  refine gMet (own := RX3) (cc := cX3_areFramesFull) (maxL := 1) (ret := (some .boolean)) (by decide) rfl rfl (Nat.le_of_ble_eq_true rfl) ?_
  intro p e s m below meth c hx hb hml hown hts hr hlocks hnm hg hW ls hl
  have hK := hg.1
  have hS : va_S (fun q => z 0 ≤ q) s.heap s.heap [] := va_S.rf
  have hi5 : ∀ w ∈ u_ws RX3 TX3 14, w ∈ wsX3_areFramesFull := by decide +kernel
  have hl : lv_has ls 1 [(0, .ref (al 0 0))] := hl
  obtain ⟨hIX, hIL, hIS, hIF, hIR, hIG⟩ := id hI
  unfold IL at hIL
  have fX : en 0 0 = some (al 0 0, .inr (5, [.int (iZ (g 0 0 0)), .ref (al 1 0), .ref (al 1 1), .ref (al 3 0), .ref (al 4 0), .int (iZ (g 0 5 0)), .ref (al 11 0), .long (lZ (g 0 7 0)), .int (iZ (g 0 8 0)), .int (iZ (g 0 9 0)), .int (iZ (g 0 10 0)), .int (iZ (g 0 11 0)), .int (iZ (g 0 12 0)), .int (iZ (g 0 13 0))])) := ec_X hE
  have fL0 : en 1 0 = some (al 1 0, .inr (1, [.int (iZ (g 3 0 0)), .ref (al 2 0), .int (iZ (g 1 0 0))])) := ec_L0 hE
  have fL1 : en 1 1 = some (al 1 1, .inr (1, [.int (iZ (g 3 1 0)), .ref (al 2 1), .int (iZ (g 1 1 0))])) := ec_L1 hE
  have fQ : en 3 0 = some (al 3 0, aR dA (4) (fun j => some (al 9 j))) := ec_Q hE
  have fC : en 4 0 = some (al 4 0, aI dA (8) (fun j => g 2 j 0)) := ec_C hE
  refine lv_aload_n hx hb dX3_areFramesFull_0 rfl (lv_at hl 0 rfl) ?_
  refine g_get (C := RX3) (T := TX3) (N := 14) (ci := 5) (v := .ref (al 1 1)) hx hb hts hi5 hown hK hW fX rfl 2 (by decide) (hts (.fieldLink RX3 16 "LongTransfer" "frames" "Ljava/util/ArrayList;") (by decide +kernel)) (fun _ h9 => h9) rfl dX3_areFramesFull_1 ?_
  refine va_calli (va_runV (As := []) (rest := []) ⟨hx, hb, hml, hown, hts⟩ (c_AL_size l D dA z en 1 (al 1 1) (al 2 1) (g 3 1 0) (g 1 1 0) fL1) (cwV 0 hts gX3_areFramesFull_Jx4a65c_size_8abf5 rfl rfl rfl (by decide +kernel) ⟨Nat.le_of_ble_eq_true rfl, Nat.le_of_ble_eq_true rfl⟩) ⟨gBl, gRecv hK hW (ci := 1) rfl fL1, gPre _ hg hS hW⟩ rfl rfl hl.1 rfl (lv_room (Nat.le_of_ble_eq_true rfl)) dX3_areFramesFull_4 ⟨(show 0 + 0 ≤ 0 by omega), (show 0 + 0 ≤ 0 by omega)⟩) hS (fun _ _ h => h) (fun _ h => h) (fun r9 u9 t9 H locs ht9 hvm9 hw9 hB9 hz9 hk9 hS => ?_)
  have hW : Wd D (z 0) en H := by rw [← ht9]; exact hB9
  subst hw9
  refine z_sipush hx hb dX3_areFramesFull_7 (by decide) ?_
  refine z_icmp_lt (tgt := 17) hx hb dX3_areFramesFull_10 (by decide) (by omega) (by omega) (fun c_10 => ?_) (fun c_10 => ?_)
  · refine z_iconst hx hb dX3_areFramesFull_17 ?_
    exact W.zret hx hb hr (by decide) (fun t ht hw => ⟨⟨_, (), rfl, congrArg iZ (if_neg (by omega)).symm, by show Wd _ _ _ t.heap; rw [ht]; exact hW⟩, hS.F ht⟩) hS.2.2 dX3_areFramesFull_18
  · refine z_iconst hx hb dX3_areFramesFull_13 ?_
    refine lv_goto (tgt := 18) hx hb dX3_areFramesFull_14 (by decide) ?_
    exact W.zret hx hb hr (by decide) (fun t ht hw => ⟨⟨_, (), rfl, congrArg iZ (if_pos (by omega)).symm, by show Wd _ _ _ t.heap; rw [ht]; exact hW⟩, hS.F ht⟩) hS.2.2 dX3_areFramesFull_18
set_option maxHeartbeats 4000000 in
set_option maxRecDepth 100000 in
theorem c_X3_count (l : Launch) (D : va_G) (dA : Nat → ClassId) (z : Nat → Nat) (en : en_T) (g : St) (al : Al) (w9 : Int) (h0 : 0 ≤ w9) (h1 : w9 < 8) (hE : EC dA z g al en) (hI : IB g) : Met l yX3_count wsX3_count ({ frames := 0, cells := 0, slots := 0, locals := 0 }) (gP D dA z en [.ref (al 0 0), .int (iZ (w9))]) (va_Qv (fun u : en_T × Al => CP dA z (sCnt g w9) g al en u) (fun u t9 => Wd D (z 0) u.1 t9.heap) (fun q => z 0 ≤ q)) (0) (0) (fun q => z 0 ≤ q) := by
  refine gMet (own := RX3) (cc := cX3_count) (maxL := 2) (ret := none) (by decide) rfl rfl (Nat.le_of_ble_eq_true rfl) ?_
  intro p e s m below meth c hx hb hml hown hts hr hlocks hnm hg hW ls hl
  have hK := hg.1
  have hS : va_S (fun q => z 0 ≤ q) s.heap s.heap [] := va_S.rf
  have hi5 : ∀ w ∈ u_ws RX3 TX3 14, w ∈ wsX3_count := by decide +kernel
  have hl : lv_has ls 2 [(0, .ref (al 0 0)), (1, .int (iZ (w9)))] := hl
  have fX : en 0 0 = some (al 0 0, .inr (5, [.int (iZ (g 0 0 0)), .ref (al 1 0), .ref (al 1 1), .ref (al 3 0), .ref (al 4 0), .int (iZ (g 0 5 0)), .ref (al 11 0), .long (lZ (g 0 7 0)), .int (iZ (g 0 8 0)), .int (iZ (g 0 9 0)), .int (iZ (g 0 10 0)), .int (iZ (g 0 11 0)), .int (iZ (g 0 12 0)), .int (iZ (g 0 13 0))])) := ec_X hE
  have fL0 : en 1 0 = some (al 1 0, .inr (1, [.int (iZ (g 3 0 0)), .ref (al 2 0), .int (iZ (g 1 0 0))])) := ec_L0 hE
  have fL1 : en 1 1 = some (al 1 1, .inr (1, [.int (iZ (g 3 1 0)), .ref (al 2 1), .int (iZ (g 1 1 0))])) := ec_L1 hE
  have fQ : en 3 0 = some (al 3 0, aR dA (4) (fun j => some (al 9 j))) := ec_Q hE
  have fC : en 4 0 = some (al 4 0, aI dA (8) (fun j => g 2 j 0)) := ec_C hE
  refine lv_iload_n hx hb dX3_count_0 rfl (lv_at hl 1 rfl) ?_
  refine z_if_lt (tgt := 23) hx hb dX3_count_1 (by decide) (by omega) (fun c_1 => ?_) (fun c_1 => ?_)
  · exact absurd c_1 (by omega)
  · refine lv_iload_n hx hb dX3_count_4 rfl (lv_at hl 1 rfl) ?_
    refine lv_aload_n hx hb dX3_count_5 rfl (lv_at hl 0 rfl) ?_
    refine g_get (C := RX3) (T := TX3) (N := 14) (ci := 5) (v := .ref (al 4 0)) hx hb hts hi5 hown hK hW fX rfl 4 (by decide) (hts (.fieldLink RX3 25 "LongTransfer" "counts" "[I") (by decide +kernel)) (fun _ h9 => h9) rfl dX3_count_6 ?_
    refine g_len_aI hx hb hK hW fC (by omega) dX3_count_9 ?_
    refine z_icmp_ge (tgt := 23) hx hb dX3_count_10 (by decide) (by omega) (by omega) (fun c_10 => ?_) (fun c_10 => ?_)
    · exact absurd c_10 (by omega)
    · refine lv_aload_n hx hb dX3_count_13 rfl (lv_at hl 0 rfl) ?_
      refine g_get (C := RX3) (T := TX3) (N := 14) (ci := 5) (v := .ref (al 4 0)) hx hb hts hi5 hown hK hW fX rfl 4 (by decide) (hts (.fieldLink RX3 25 "LongTransfer" "counts" "[I") (by decide +kernel)) (fun _ h9 => h9) rfl dX3_count_14 ?_
      refine lv_iload_n hx hb dX3_count_17 rfl (lv_at hl 1 rfl) ?_
      refine lv_dup2_11 hx hb dX3_count_18 rfl rfl ?_
      refine g_iald hx hb hK hW fC (by omega) (by omega) (by omega) dX3_count_19 ?_
      refine z_iconst hx hb dX3_count_20 ?_
      refine z_iadd hx hb dX3_count_21 ?_
      refine g_iast (x := (g 2 w9 0) + 1) hx hb hK hW hS fC (by omega) (by omega) (by omega) dX3_count_22 (fun H locs hW hS => ?_)
      have fX : (e2 en 4 0 (some (al 4 0, aI dA (8) (uF (fun j => g 2 j 0) (w9) ((g 2 w9 0) + 1))))) 0 0 = some (al 0 0, .inr (5, [.int (iZ (g 0 0 0)), .ref (al 1 0), .ref (al 1 1), .ref (al 3 0), .ref (al 4 0), .int (iZ (g 0 5 0)), .ref (al 11 0), .long (lZ (g 0 7 0)), .int (iZ (g 0 8 0)), .int (iZ (g 0 9 0)), .int (iZ (g 0 10 0)), .int (iZ (g 0 11 0)), .int (iZ (g 0 12 0)), .int (iZ (g 0 13 0))])) := (e2_k (by decide)).trans fX
      have fL0 : (e2 en 4 0 (some (al 4 0, aI dA (8) (uF (fun j => g 2 j 0) (w9) ((g 2 w9 0) + 1))))) 1 0 = some (al 1 0, .inr (1, [.int (iZ (g 3 0 0)), .ref (al 2 0), .int (iZ (g 1 0 0))])) := (e2_k (by decide)).trans fL0
      have fL1 : (e2 en 4 0 (some (al 4 0, aI dA (8) (uF (fun j => g 2 j 0) (w9) ((g 2 w9 0) + 1))))) 1 1 = some (al 1 1, .inr (1, [.int (iZ (g 3 1 0)), .ref (al 2 1), .int (iZ (g 1 1 0))])) := (e2_k (by decide)).trans fL1
      have fQ : (e2 en 4 0 (some (al 4 0, aI dA (8) (uF (fun j => g 2 j 0) (w9) ((g 2 w9 0) + 1))))) 3 0 = some (al 3 0, aR dA (4) (fun j => some (al 9 j))) := (e2_k (by decide)).trans fQ
      have fC : (e2 en 4 0 (some (al 4 0, aI dA (8) (uF (fun j => g 2 j 0) (w9) ((g 2 w9 0) + 1))))) 4 0 = some (al 4 0, aI dA (8) (uF (fun j => g 2 j 0) (w9) ((g 2 w9 0) + 1))) := e2_s _ _ _ _
      obtain ⟨en1, hen1⟩ : ∃ x : en_T, x = (e2 en 4 0 (some (al 4 0, aI dA (8) (uF (fun j => g 2 j 0) (w9) ((g 2 w9 0) + 1))))) := ⟨_, rfl⟩
      rw [← hen1] at hW
      obtain ⟨g1, hg1⟩ : ∃ x : St, x = sCnt g w9 := ⟨_, rfl⟩
      have hE1 : EC dA z g1 al en1 := ec_c hE (fun t i j h => by rw [hg1]; simp only [sCnt]; rw [wr_n (by omega)]) (fun _ _ _ => rfl) (fun k i h => by rw [hen1]; exact e2_n (by omega)) (by rw [hen1, hg1]; refine (e2_s _ _ _ _).trans ?_; congr 3; funext j; by_cases q : j = w9 <;> simp [uF, sCnt, wr, q])
      have hFR1 : FR en en1 := fun k i h1 h2 => by rw [hen1]; exact e2_n (by omega)
      have hAS1 : AS g g1 al al := AS_e (by rw [hg1]; rfl) (by rw [hg1]; rfl) (by rw [hg1]; rfl)
      have hN1 := hAS1.1
      have fX : en1 0 0 = some (al 0 0, .inr (5, [.int (iZ (g1 0 0 0)), .ref (al 1 0), .ref (al 1 1), .ref (al 3 0), .ref (al 4 0), .int (iZ (g1 0 5 0)), .ref (al 11 0), .long (lZ (g1 0 7 0)), .int (iZ (g1 0 8 0)), .int (iZ (g1 0 9 0)), .int (iZ (g1 0 10 0)), .int (iZ (g1 0 11 0)), .int (iZ (g1 0 12 0)), .int (iZ (g1 0 13 0))])) := ec_X hE1
      have fL0 : en1 1 0 = some (al 1 0, .inr (1, [.int (iZ (g1 3 0 0)), .ref (al 2 0), .int (iZ (g1 1 0 0))])) := ec_L0 hE1
      have fL1 : en1 1 1 = some (al 1 1, .inr (1, [.int (iZ (g1 3 1 0)), .ref (al 2 1), .int (iZ (g1 1 1 0))])) := ec_L1 hE1
      have fQ : en1 3 0 = some (al 3 0, aR dA (4) (fun j => some (al 9 j))) := ec_Q hE1
      have fC : en1 4 0 = some (al 4 0, aI dA (8) (fun j => g1 2 j 0)) := ec_C hE1
      have hgz : g1 = sCnt g w9 := by subst hg1; rfl
      rw [hgz] at hE1 hAS1
      exact W.vret hx hb hr (fun t ht hw => ⟨⟨(en1, al), rfl, ⟨hE1, hFR1, hAS1⟩, by show Wd _ _ _ t.heap; rw [ht]; exact hW⟩, hS.F ht⟩) hS.2.2 dX3_count_23
theorem ib_sr {g : St} (h : IB g) {m st : Int} (h1 : 1 ≤ m) (h2 : m ≤ g 1 0 0) (h3 : 0 ≤ st) (h4 : st ≤ 4) : IB (sRest g m st) := by
  have q := h.2.2.1 m h1 h2
  refine ib_s (m := m) h (fun t i j w => by simp only [sRest]; rw [wr_n (by omega), wr_n (by omega)]) ?_
  unfold IS at q ⊢
  obtain ⟨q1, q2, q3, q4, q5, q6, q7, q8, q9⟩ := q
  refine ⟨?_, ?_, ?_, ?_, ?_, ?_, ?_, ?_, ?_⟩ <;> simp [sRest, wr] <;> first | omega | exact q9
theorem ib_en {g : St} (h : IB g) : IB (sEnds g) := by
  refine ib_x h (fun t i j w => by simp only [sEnds]; rw [wr_n (by omega)]) ?_
  have q := h.1
  unfold IX at q ⊢
  simpa [sEnds, wr] using q
theorem ib_ct {g : St} (h : IB g) (w : Int) : IB (sCnt g w) := ib_c h (fun t i j q => by simp only [sCnt]; rw [wr_n (by omega)])
theorem ib_ends {g : St} (h : IB g) {m : Int} (h1 : 1 ≤ m) (h2 : m ≤ g 1 0 0) : IB (sEnds (sRest g m 4)) := ib_en (ib_sr h h1 h2 (by omega) (by omega))
theorem ib_es {g : St} (h : IB g) {m : Int} (w : Int) (h1 : 1 ≤ m) (h2 : m ≤ g 1 0 0) : IB (sEndS g m w) := ib_ct (ib_ends h h1 h2) w
set_option maxHeartbeats 4000000 in
set_option maxRecDepth 100000 in
theorem c_X3_endSender (l : Launch) (D : va_G) (dA : Nat → ClassId) (z : Nat → Nat) (en : en_T) (g : St) (al : Al) (mm w9 : Int) (h0 : 0 ≤ w9) (h1 : w9 < 8) (h2 : 1 ≤ mm) (h3 : mm ≤ g 1 0 0) (hE : EC dA z g al en) (hI : IB g) : Met l yX3_endSender wsX3_endSender ({ frames := 1, cells := 0, slots := 0, locals := 22 }) (gP D dA z en [.ref (al 0 0), .ref (al 5 mm), .int (iZ (w9))]) (va_Qv (fun u : en_T × Al => CP dA z (sEndS g mm w9) g al en u) (fun u t9 => Wd D (z 0) u.1 t9.heap) (fun q => z 0 ≤ q)) (0) (0) (fun q => z 0 ≤ q) := by
  refine gMet (own := RX3) (cc := cX3_endSender) (maxL := 3) (ret := none) (by decide) rfl rfl (Nat.le_of_ble_eq_true rfl) ?_
  intro p e s m below meth c hx hb hml hown hts hr hlocks hnm hg hW ls hl
  have hK := hg.1
  have hS : va_S (fun q => z 0 ≤ q) s.heap s.heap [] := va_S.rf
  have hi5 : ∀ w ∈ u_ws RX3 TX3 14, w ∈ wsX3_endSender := by decide +kernel
  have hl : lv_has ls 3 [(0, .ref (al 0 0)), (1, .ref (al 5 mm)), (2, .int (iZ (w9)))] := hl
  have fX : en 0 0 = some (al 0 0, .inr (5, [.int (iZ (g 0 0 0)), .ref (al 1 0), .ref (al 1 1), .ref (al 3 0), .ref (al 4 0), .int (iZ (g 0 5 0)), .ref (al 11 0), .long (lZ (g 0 7 0)), .int (iZ (g 0 8 0)), .int (iZ (g 0 9 0)), .int (iZ (g 0 10 0)), .int (iZ (g 0 11 0)), .int (iZ (g 0 12 0)), .int (iZ (g 0 13 0))])) := ec_X hE
  have fL0 : en 1 0 = some (al 1 0, .inr (1, [.int (iZ (g 3 0 0)), .ref (al 2 0), .int (iZ (g 1 0 0))])) := ec_L0 hE
  have fL1 : en 1 1 = some (al 1 1, .inr (1, [.int (iZ (g 3 1 0)), .ref (al 2 1), .int (iZ (g 1 1 0))])) := ec_L1 hE
  have fQ : en 3 0 = some (al 3 0, aR dA (4) (fun j => some (al 9 j))) := ec_Q hE
  have fC : en 4 0 = some (al 4 0, aI dA (8) (fun j => g 2 j 0)) := ec_C hE
  have fS : en 5 mm = some (al 5 mm, .inr (4, [.int (iZ (mm)), .ref (al 6 mm), .int (iZ (g 12 mm 0)), .int (iZ (g 13 mm 0)), .int (iZ (g 14 mm 0)), .int (iZ (g 15 mm 0)), .int (iZ (g 16 mm 0)), .int (iZ (g 17 mm 0)), .long (lZ (g 18 mm 0))])) := ec_S hE (by omega)
  have fO : en 6 mm = some (al 6 mm, aB dA (g 11 mm 0) (g 19 mm)) := ec_SO hE (by omega)
  refine lv_aload_n hx hb dX3_endSender_0 rfl (lv_at hl 1 rfl) ?_
  refine z_iconst hx hb dX3_endSender_1 ?_
  refine va_callv (va_runV (As := [.int (iZ (4))]) (rest := []) ⟨hx, hb, hml, hown, hts⟩ (c_X2_rest l D dA z en 5 mm (al 5 mm) (al 6 mm) mm (g 12 mm 0) (g 13 mm 0) (g 14 mm 0) (g 15 mm 0) (g 16 mm 0) (g 17 mm 0) (g 18 mm 0) 4 fS) (cwV 1 hts gX3_endSender_X2_rest rfl rfl rfl (by decide +kernel) ⟨Nat.le_of_ble_eq_true rfl, Nat.le_of_ble_eq_true rfl⟩) ⟨gBl, gRecv hK hW (ci := 4) rfl fS, gPre _ hg hS hW⟩ rfl rfl hl.1 rfl (lv_room (Nat.le_of_ble_eq_true rfl)) dX3_endSender_2 ⟨(show 0 + 0 ≤ 0 by omega), (show 0 + 0 ≤ 0 by omega)⟩) hS (fun _ _ h => h) (fun _ h => h) (fun u9 t9 H locs ht9 hvm9 hw9 hB9 hz9 hk9 hS => ?_)
  have hW : Wd D (z 0) (e2 en 5 mm (some (al 5 mm, .inr (4, [.int (iZ (mm)), .ref (al 6 mm), .int (iZ (4)), .int (iZ (g 13 mm 0)), .int (iZ (g 14 mm 0)), .int (iZ (g 15 mm 0)), .int (iZ (g 16 mm 0)), .int (iZ (g 17 mm 0)), .long (lZ (9223372036854775807))])))) H := by rw [← ht9]; exact hB9
  have fX : (e2 en 5 mm (some (al 5 mm, .inr (4, [.int (iZ (mm)), .ref (al 6 mm), .int (iZ (4)), .int (iZ (g 13 mm 0)), .int (iZ (g 14 mm 0)), .int (iZ (g 15 mm 0)), .int (iZ (g 16 mm 0)), .int (iZ (g 17 mm 0)), .long (lZ (9223372036854775807))])))) 0 0 = some (al 0 0, .inr (5, [.int (iZ (g 0 0 0)), .ref (al 1 0), .ref (al 1 1), .ref (al 3 0), .ref (al 4 0), .int (iZ (g 0 5 0)), .ref (al 11 0), .long (lZ (g 0 7 0)), .int (iZ (g 0 8 0)), .int (iZ (g 0 9 0)), .int (iZ (g 0 10 0)), .int (iZ (g 0 11 0)), .int (iZ (g 0 12 0)), .int (iZ (g 0 13 0))])) := (e2_k (by decide)).trans fX
  have fL0 : (e2 en 5 mm (some (al 5 mm, .inr (4, [.int (iZ (mm)), .ref (al 6 mm), .int (iZ (4)), .int (iZ (g 13 mm 0)), .int (iZ (g 14 mm 0)), .int (iZ (g 15 mm 0)), .int (iZ (g 16 mm 0)), .int (iZ (g 17 mm 0)), .long (lZ (9223372036854775807))])))) 1 0 = some (al 1 0, .inr (1, [.int (iZ (g 3 0 0)), .ref (al 2 0), .int (iZ (g 1 0 0))])) := (e2_k (by decide)).trans fL0
  have fL1 : (e2 en 5 mm (some (al 5 mm, .inr (4, [.int (iZ (mm)), .ref (al 6 mm), .int (iZ (4)), .int (iZ (g 13 mm 0)), .int (iZ (g 14 mm 0)), .int (iZ (g 15 mm 0)), .int (iZ (g 16 mm 0)), .int (iZ (g 17 mm 0)), .long (lZ (9223372036854775807))])))) 1 1 = some (al 1 1, .inr (1, [.int (iZ (g 3 1 0)), .ref (al 2 1), .int (iZ (g 1 1 0))])) := (e2_k (by decide)).trans fL1
  have fQ : (e2 en 5 mm (some (al 5 mm, .inr (4, [.int (iZ (mm)), .ref (al 6 mm), .int (iZ (4)), .int (iZ (g 13 mm 0)), .int (iZ (g 14 mm 0)), .int (iZ (g 15 mm 0)), .int (iZ (g 16 mm 0)), .int (iZ (g 17 mm 0)), .long (lZ (9223372036854775807))])))) 3 0 = some (al 3 0, aR dA (4) (fun j => some (al 9 j))) := (e2_k (by decide)).trans fQ
  have fC : (e2 en 5 mm (some (al 5 mm, .inr (4, [.int (iZ (mm)), .ref (al 6 mm), .int (iZ (4)), .int (iZ (g 13 mm 0)), .int (iZ (g 14 mm 0)), .int (iZ (g 15 mm 0)), .int (iZ (g 16 mm 0)), .int (iZ (g 17 mm 0)), .long (lZ (9223372036854775807))])))) 4 0 = some (al 4 0, aI dA (8) (fun j => g 2 j 0)) := (e2_k (by decide)).trans fC
  have fO : (e2 en 5 mm (some (al 5 mm, .inr (4, [.int (iZ (mm)), .ref (al 6 mm), .int (iZ (4)), .int (iZ (g 13 mm 0)), .int (iZ (g 14 mm 0)), .int (iZ (g 15 mm 0)), .int (iZ (g 16 mm 0)), .int (iZ (g 17 mm 0)), .long (lZ (9223372036854775807))])))) 6 mm = some (al 6 mm, aB dA (g 11 mm 0) (g 19 mm)) := (e2_k (by decide)).trans fO
  have fS : (e2 en 5 mm (some (al 5 mm, .inr (4, [.int (iZ (mm)), .ref (al 6 mm), .int (iZ (4)), .int (iZ (g 13 mm 0)), .int (iZ (g 14 mm 0)), .int (iZ (g 15 mm 0)), .int (iZ (g 16 mm 0)), .int (iZ (g 17 mm 0)), .long (lZ (9223372036854775807))])))) 5 mm = some (al 5 mm, .inr (4, [.int (iZ (mm)), .ref (al 6 mm), .int (iZ (4)), .int (iZ (g 13 mm 0)), .int (iZ (g 14 mm 0)), .int (iZ (g 15 mm 0)), .int (iZ (g 16 mm 0)), .int (iZ (g 17 mm 0)), .long (lZ (9223372036854775807))])) := e2_s _ _ _ _
  obtain ⟨en1, hen1⟩ : ∃ x : en_T, x = (e2 en 5 mm (some (al 5 mm, .inr (4, [.int (iZ (mm)), .ref (al 6 mm), .int (iZ (4)), .int (iZ (g 13 mm 0)), .int (iZ (g 14 mm 0)), .int (iZ (g 15 mm 0)), .int (iZ (g 16 mm 0)), .int (iZ (g 17 mm 0)), .long (lZ (9223372036854775807))])))) := ⟨_, rfl⟩
  rw [← hen1] at hW
  obtain ⟨g1, hg1⟩ : ∃ x : St, x = sRest g mm 4 := ⟨_, rfl⟩
  have hE1 : EC dA z g1 al en1 := ec_s hE (m := mm) (by omega) (fun t i j h => by rw [hg1]; simp only [sRest]; repeat rw [wr_n (by omega)]) (fun _ _ _ => rfl) (fun k i h => by rw [hen1]; exact e2_n (by omega)) (by rw [hen1, hg1]; refine (e2_s _ _ _ _).trans ?_; simp [sRest, wr])
  have hFR1 : FR en en1 := fun k i h1 h2 => by rw [hen1]; exact e2_n (by omega)
  have hAS1 : AS g g1 al al := AS_e (by rw [hg1]; rfl) (by rw [hg1]; rfl) (by rw [hg1]; rfl)
  have hN1 := hAS1.1
  have fX : en1 0 0 = some (al 0 0, .inr (5, [.int (iZ (g1 0 0 0)), .ref (al 1 0), .ref (al 1 1), .ref (al 3 0), .ref (al 4 0), .int (iZ (g1 0 5 0)), .ref (al 11 0), .long (lZ (g1 0 7 0)), .int (iZ (g1 0 8 0)), .int (iZ (g1 0 9 0)), .int (iZ (g1 0 10 0)), .int (iZ (g1 0 11 0)), .int (iZ (g1 0 12 0)), .int (iZ (g1 0 13 0))])) := ec_X hE1
  have fL0 : en1 1 0 = some (al 1 0, .inr (1, [.int (iZ (g1 3 0 0)), .ref (al 2 0), .int (iZ (g1 1 0 0))])) := ec_L0 hE1
  have fL1 : en1 1 1 = some (al 1 1, .inr (1, [.int (iZ (g1 3 1 0)), .ref (al 2 1), .int (iZ (g1 1 1 0))])) := ec_L1 hE1
  have fQ : en1 3 0 = some (al 3 0, aR dA (4) (fun j => some (al 9 j))) := ec_Q hE1
  have fC : en1 4 0 = some (al 4 0, aI dA (8) (fun j => g1 2 j 0)) := ec_C hE1
  have fS : en1 5 mm = some (al 5 mm, .inr (4, [.int (iZ (mm)), .ref (al 6 mm), .int (iZ (g1 12 mm 0)), .int (iZ (g1 13 mm 0)), .int (iZ (g1 14 mm 0)), .int (iZ (g1 15 mm 0)), .int (iZ (g1 16 mm 0)), .int (iZ (g1 17 mm 0)), .long (lZ (g1 18 mm 0))])) := ec_S hE1 (by omega)
  have fO : en1 6 mm = some (al 6 mm, aB dA (g1 11 mm 0) (g1 19 mm)) := ec_SO hE1 (by omega)
  refine lv_aload_n hx hb dX3_endSender_5 rfl (lv_at hl 0 rfl) ?_
  refine lv_dup hx hb dX3_endSender_6 rfl ?_
  refine g_get (C := RX3) (T := TX3) (N := 14) (ci := 5) (v := .int (iZ (g1 0 5 0))) hx hb hts hi5 hown hK hW fX rfl 5 (by decide) (hts (.fieldLink RX3 125 "LongTransfer" "endings" "I") (by decide +kernel)) (fun _ h9 => h9) rfl dX3_endSender_7 ?_
  refine z_iconst hx hb dX3_endSender_10 ?_
  refine z_iadd hx hb dX3_endSender_11 ?_
  refine g_put (C := RX3) (T := TX3) (N := 14) (ci := 5) (ty := .int) (v := .int (iZ ((g1 0 5 0) + 1))) (fs' := [.int (iZ (g1 0 0 0)), .ref (al 1 0), .ref (al 1 1), .ref (al 3 0), .ref (al 4 0), .int (iZ ((g1 0 5 0) + 1)), .ref (al 11 0), .long (lZ (g1 0 7 0)), .int (iZ (g1 0 8 0)), .int (iZ (g1 0 9 0)), .int (iZ (g1 0 10 0)), .int (iZ (g1 0 11 0)), .int (iZ (g1 0 12 0)), .int (iZ (g1 0 13 0))]) hx hb hts hi5 tyX3 tyX3_ok nmX3 hown hK hW hS fX rfl 5 (by decide) (hts (.fieldLink RX3 125 "LongTransfer" "endings" "I") (by decide +kernel)) (fun _ h9 => h9) rfl (by decide +kernel) rfl rfl (Nat.le_of_ble_eq_true rfl) dX3_endSender_12 rfl (fun H locs hW hS => ?_)
  have fL0 : (e2 en1 0 0 (some (al 0 0, .inr (5, [.int (iZ (g1 0 0 0)), .ref (al 1 0), .ref (al 1 1), .ref (al 3 0), .ref (al 4 0), .int (iZ ((g1 0 5 0) + 1)), .ref (al 11 0), .long (lZ (g1 0 7 0)), .int (iZ (g1 0 8 0)), .int (iZ (g1 0 9 0)), .int (iZ (g1 0 10 0)), .int (iZ (g1 0 11 0)), .int (iZ (g1 0 12 0)), .int (iZ (g1 0 13 0))])))) 1 0 = some (al 1 0, .inr (1, [.int (iZ (g1 3 0 0)), .ref (al 2 0), .int (iZ (g1 1 0 0))])) := (e2_k (by decide)).trans fL0
  have fL1 : (e2 en1 0 0 (some (al 0 0, .inr (5, [.int (iZ (g1 0 0 0)), .ref (al 1 0), .ref (al 1 1), .ref (al 3 0), .ref (al 4 0), .int (iZ ((g1 0 5 0) + 1)), .ref (al 11 0), .long (lZ (g1 0 7 0)), .int (iZ (g1 0 8 0)), .int (iZ (g1 0 9 0)), .int (iZ (g1 0 10 0)), .int (iZ (g1 0 11 0)), .int (iZ (g1 0 12 0)), .int (iZ (g1 0 13 0))])))) 1 1 = some (al 1 1, .inr (1, [.int (iZ (g1 3 1 0)), .ref (al 2 1), .int (iZ (g1 1 1 0))])) := (e2_k (by decide)).trans fL1
  have fQ : (e2 en1 0 0 (some (al 0 0, .inr (5, [.int (iZ (g1 0 0 0)), .ref (al 1 0), .ref (al 1 1), .ref (al 3 0), .ref (al 4 0), .int (iZ ((g1 0 5 0) + 1)), .ref (al 11 0), .long (lZ (g1 0 7 0)), .int (iZ (g1 0 8 0)), .int (iZ (g1 0 9 0)), .int (iZ (g1 0 10 0)), .int (iZ (g1 0 11 0)), .int (iZ (g1 0 12 0)), .int (iZ (g1 0 13 0))])))) 3 0 = some (al 3 0, aR dA (4) (fun j => some (al 9 j))) := (e2_k (by decide)).trans fQ
  have fC : (e2 en1 0 0 (some (al 0 0, .inr (5, [.int (iZ (g1 0 0 0)), .ref (al 1 0), .ref (al 1 1), .ref (al 3 0), .ref (al 4 0), .int (iZ ((g1 0 5 0) + 1)), .ref (al 11 0), .long (lZ (g1 0 7 0)), .int (iZ (g1 0 8 0)), .int (iZ (g1 0 9 0)), .int (iZ (g1 0 10 0)), .int (iZ (g1 0 11 0)), .int (iZ (g1 0 12 0)), .int (iZ (g1 0 13 0))])))) 4 0 = some (al 4 0, aI dA (8) (fun j => g1 2 j 0)) := (e2_k (by decide)).trans fC
  have fS : (e2 en1 0 0 (some (al 0 0, .inr (5, [.int (iZ (g1 0 0 0)), .ref (al 1 0), .ref (al 1 1), .ref (al 3 0), .ref (al 4 0), .int (iZ ((g1 0 5 0) + 1)), .ref (al 11 0), .long (lZ (g1 0 7 0)), .int (iZ (g1 0 8 0)), .int (iZ (g1 0 9 0)), .int (iZ (g1 0 10 0)), .int (iZ (g1 0 11 0)), .int (iZ (g1 0 12 0)), .int (iZ (g1 0 13 0))])))) 5 mm = some (al 5 mm, .inr (4, [.int (iZ (mm)), .ref (al 6 mm), .int (iZ (g1 12 mm 0)), .int (iZ (g1 13 mm 0)), .int (iZ (g1 14 mm 0)), .int (iZ (g1 15 mm 0)), .int (iZ (g1 16 mm 0)), .int (iZ (g1 17 mm 0)), .long (lZ (g1 18 mm 0))])) := (e2_k (by decide)).trans fS
  have fO : (e2 en1 0 0 (some (al 0 0, .inr (5, [.int (iZ (g1 0 0 0)), .ref (al 1 0), .ref (al 1 1), .ref (al 3 0), .ref (al 4 0), .int (iZ ((g1 0 5 0) + 1)), .ref (al 11 0), .long (lZ (g1 0 7 0)), .int (iZ (g1 0 8 0)), .int (iZ (g1 0 9 0)), .int (iZ (g1 0 10 0)), .int (iZ (g1 0 11 0)), .int (iZ (g1 0 12 0)), .int (iZ (g1 0 13 0))])))) 6 mm = some (al 6 mm, aB dA (g1 11 mm 0) (g1 19 mm)) := (e2_k (by decide)).trans fO
  have fX : (e2 en1 0 0 (some (al 0 0, .inr (5, [.int (iZ (g1 0 0 0)), .ref (al 1 0), .ref (al 1 1), .ref (al 3 0), .ref (al 4 0), .int (iZ ((g1 0 5 0) + 1)), .ref (al 11 0), .long (lZ (g1 0 7 0)), .int (iZ (g1 0 8 0)), .int (iZ (g1 0 9 0)), .int (iZ (g1 0 10 0)), .int (iZ (g1 0 11 0)), .int (iZ (g1 0 12 0)), .int (iZ (g1 0 13 0))])))) 0 0 = some (al 0 0, .inr (5, [.int (iZ (g1 0 0 0)), .ref (al 1 0), .ref (al 1 1), .ref (al 3 0), .ref (al 4 0), .int (iZ ((g1 0 5 0) + 1)), .ref (al 11 0), .long (lZ (g1 0 7 0)), .int (iZ (g1 0 8 0)), .int (iZ (g1 0 9 0)), .int (iZ (g1 0 10 0)), .int (iZ (g1 0 11 0)), .int (iZ (g1 0 12 0)), .int (iZ (g1 0 13 0))])) := e2_s _ _ _ _
  obtain ⟨en2, hen2⟩ : ∃ x : en_T, x = (e2 en1 0 0 (some (al 0 0, .inr (5, [.int (iZ (g1 0 0 0)), .ref (al 1 0), .ref (al 1 1), .ref (al 3 0), .ref (al 4 0), .int (iZ ((g1 0 5 0) + 1)), .ref (al 11 0), .long (lZ (g1 0 7 0)), .int (iZ (g1 0 8 0)), .int (iZ (g1 0 9 0)), .int (iZ (g1 0 10 0)), .int (iZ (g1 0 11 0)), .int (iZ (g1 0 12 0)), .int (iZ (g1 0 13 0))])))) := ⟨_, rfl⟩
  rw [← hen2] at hW
  obtain ⟨g2, hg2⟩ : ∃ x : St, x = sEnds g1 := ⟨_, rfl⟩
  have hE2 : EC dA z g2 al en2 := ec_x hE1  (fun t i j h => by rw [hg2]; simp only [sEnds]; repeat rw [wr_n (by omega)]) (fun _ _ _ => rfl) (fun k i h => by rw [hen2]; exact e2_n (by omega)) (by rw [hen2, hg2]; refine (e2_s _ _ _ _).trans ?_; simp [sEnds, wr])
  have hFR2 : FR en1 en2 := fun k i h1 h2 => by rw [hen2]; exact e2_n (by omega)
  have hAS2 : AS g1 g2 al al := AS_e (by rw [hg2]; rfl) (by rw [hg2]; rfl) (by rw [hg2]; rfl)
  have hFR2 := FR.tr hFR1 hFR2
  have hAS2 := AS.tr hAS1 hAS2
  have hN2 := hAS2.1
  have fX : en2 0 0 = some (al 0 0, .inr (5, [.int (iZ (g2 0 0 0)), .ref (al 1 0), .ref (al 1 1), .ref (al 3 0), .ref (al 4 0), .int (iZ (g2 0 5 0)), .ref (al 11 0), .long (lZ (g2 0 7 0)), .int (iZ (g2 0 8 0)), .int (iZ (g2 0 9 0)), .int (iZ (g2 0 10 0)), .int (iZ (g2 0 11 0)), .int (iZ (g2 0 12 0)), .int (iZ (g2 0 13 0))])) := ec_X hE2
  have fL0 : en2 1 0 = some (al 1 0, .inr (1, [.int (iZ (g2 3 0 0)), .ref (al 2 0), .int (iZ (g2 1 0 0))])) := ec_L0 hE2
  have fL1 : en2 1 1 = some (al 1 1, .inr (1, [.int (iZ (g2 3 1 0)), .ref (al 2 1), .int (iZ (g2 1 1 0))])) := ec_L1 hE2
  have fQ : en2 3 0 = some (al 3 0, aR dA (4) (fun j => some (al 9 j))) := ec_Q hE2
  have fC : en2 4 0 = some (al 4 0, aI dA (8) (fun j => g2 2 j 0)) := ec_C hE2
  have fS : en2 5 mm = some (al 5 mm, .inr (4, [.int (iZ (mm)), .ref (al 6 mm), .int (iZ (g2 12 mm 0)), .int (iZ (g2 13 mm 0)), .int (iZ (g2 14 mm 0)), .int (iZ (g2 15 mm 0)), .int (iZ (g2 16 mm 0)), .int (iZ (g2 17 mm 0)), .long (lZ (g2 18 mm 0))])) := ec_S hE2 (by omega)
  have fO : en2 6 mm = some (al 6 mm, aB dA (g2 11 mm 0) (g2 19 mm)) := ec_SO hE2 (by omega)
  refine lv_aload_n hx hb dX3_endSender_15 rfl (lv_at hl 0 rfl) ?_
  refine lv_iload_n hx hb dX3_endSender_16 rfl (lv_at hl 2 rfl) ?_
  have hI2 : IB g2 := by rw [hg2, hg1]; exact ib_ends hI (m := mm) (by omega) (by omega)
  refine va_callv (va_runV (As := [.int (iZ (w9))]) (rest := []) ⟨hx, hb, hml, hown, hts⟩ (c_X3_count l D dA z en2 g2 al w9 h0 h1 hE2 hI2) (cwV 1 hts gX3_endSender_X3_count rfl rfl rfl (by decide +kernel) ⟨Nat.le_of_ble_eq_true rfl, Nat.le_of_ble_eq_true rfl⟩) ⟨gBl, gRecv hK hW (ci := 5) rfl fX, gPre _ hg hS hW⟩ rfl rfl hl.1 rfl (lv_room (Nat.le_of_ble_eq_true rfl)) dX3_endSender_17 ⟨(show 0 + 0 + 0 ≤ 0 by omega), (show 0 + 0 + 0 ≤ 0 by omega)⟩) hS (fun _ _ h => h) (fun _ h => h) (fun u9 t9 H locs ht9 hvm9 hw9 hB9 hz9 hk9 hS => ?_)
  obtain ⟨en3, al3⟩ := u9
  obtain ⟨hE3, hFR3, hAS3⟩ := hw9
  have hW : Wd D (z 0) en3 H := by rw [← ht9]; exact hB9
  obtain ⟨g3, hg3⟩ : ∃ x : St, x = sCnt g2 w9 := ⟨_, rfl⟩
  rw [← hg3] at hE3 hAS3
  dsimp only at hE3 hFR3 hAS3
  have hl : lv_has ls 3 [(0, .ref (al3 0 0)), (1, .ref (al3 5 mm)), (2, .int (iZ (w9)))] := by rw [hAS3.2 0 0 (by omega), hAS3.2 5 mm (by omega)]; exact hl
  have hFR3 := FR.tr hFR2 hFR3
  have hAS3 := AS.tr hAS2 hAS3
  have hN3 := hAS3.1
  have fX : en3 0 0 = some (al3 0 0, .inr (5, [.int (iZ (g3 0 0 0)), .ref (al3 1 0), .ref (al3 1 1), .ref (al3 3 0), .ref (al3 4 0), .int (iZ (g3 0 5 0)), .ref (al3 11 0), .long (lZ (g3 0 7 0)), .int (iZ (g3 0 8 0)), .int (iZ (g3 0 9 0)), .int (iZ (g3 0 10 0)), .int (iZ (g3 0 11 0)), .int (iZ (g3 0 12 0)), .int (iZ (g3 0 13 0))])) := ec_X hE3
  have fL0 : en3 1 0 = some (al3 1 0, .inr (1, [.int (iZ (g3 3 0 0)), .ref (al3 2 0), .int (iZ (g3 1 0 0))])) := ec_L0 hE3
  have fL1 : en3 1 1 = some (al3 1 1, .inr (1, [.int (iZ (g3 3 1 0)), .ref (al3 2 1), .int (iZ (g3 1 1 0))])) := ec_L1 hE3
  have fQ : en3 3 0 = some (al3 3 0, aR dA (4) (fun j => some (al3 9 j))) := ec_Q hE3
  have fC : en3 4 0 = some (al3 4 0, aI dA (8) (fun j => g3 2 j 0)) := ec_C hE3
  have fS : en3 5 mm = some (al3 5 mm, .inr (4, [.int (iZ (mm)), .ref (al3 6 mm), .int (iZ (g3 12 mm 0)), .int (iZ (g3 13 mm 0)), .int (iZ (g3 14 mm 0)), .int (iZ (g3 15 mm 0)), .int (iZ (g3 16 mm 0)), .int (iZ (g3 17 mm 0)), .long (lZ (g3 18 mm 0))])) := ec_S hE3 (by omega)
  have fO : en3 6 mm = some (al3 6 mm, aB dA (g3 11 mm 0) (g3 19 mm)) := ec_SO hE3 (by omega)
  have hgz : g3 = sEndS g mm w9 := by subst hg3; subst hg2; subst hg1; rfl
  rw [hgz] at hE3 hAS3
  exact W.vret hx hb hr (fun t ht hw => ⟨⟨(en3, al3), rfl, ⟨hE3, hFR3, hAS3⟩, by show Wd _ _ _ t.heap; rw [ht]; exact hW⟩, hS.F ht⟩) hS.2.2 dX3_endSender_20
