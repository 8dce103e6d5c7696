theorem arr_x {c : ClassId} {n : Nat} {f g : Nat → Value} (h : ∀ j : Nat, j < n → f j = g j) : arrV c n f = arrV c n g := by
  unfold arrV
  congr 1
  apply congrArg
  funext j
  exact h j.val j.isLt
theorem Wd.xR {D : va_G} {B0 : Nat} {en : en_T} {H : Heap} {dA : Nat → ClassId} (h : Wd D B0 en H) {k : Nat} {i : Int} {a : Nat} {n : Int} {F G : Int → Option Nat} (he : en k i = some (a, aR dA n F)) (hFG : ∀ j : Int, 0 ≤ j → j < n → F j = G j) : Wd D B0 (e2 en k i (some (a, aR dA n G))) H := by
  obtain ⟨ws, hP, hD, hm, hi⟩ := h
  obtain ⟨q0, h0⟩ := hm k i _ he
  have hlt : q0 < ws.length := (List.getElem?_eq_some_iff.mp h0).1
  refine Wd.set hm hi he h0 ?_ (hD.set h0)
  intro k' q hq
  by_cases z : k' = q0
  · subst z
    rw [List.getElem?_set_self hlt] at hq
    cases hq
    have h1 := hP _ _ h0
    have e : vp_cell (dA 5) (n.toNat, .inr (.inr (.inr (.inr (fun j : Nat => G j))))) = vp_cell (dA 5) (n.toNat, .inr (.inr (.inr (.inr (fun j : Nat => F j))))) := show arrV (dA 5) n.toNat (fun j : Nat => va_rf (G j)) = arrV (dA 5) n.toNat (fun j : Nat => va_rf (F j)) from arr_x (fun j hj => congrArg va_rf (hFG j (by omega) (by omega)).symm)
    show H[a]? = some (vp_cell (dA 5) (n.toNat, .inr (.inr (.inr (.inr (fun j : Nat => G j))))))
    rw [e]
    exact h1
  · rw [List.getElem?_set_ne (fun w => z w.symm)] at hq
    exact hP _ _ hq
theorem il_grow0 {g : St} (h : IB g) (hf : ¬ 100 ≤ g 1 0 0) : g 1 0 0 + 1 ≤ (if g 1 0 0 < g 4 0 0 then g 4 0 0 else lcap (g 4 0 0)) ∧ (if g 1 0 0 < g 4 0 0 then g 4 0 0 else lcap (g 4 0 0)) ≤ 20000 := by
  have q := h.2.1
  unfold IL at q
  have hl := lc_pos (cap := g 4 0 0) (by omega)
  split <;> omega
theorem ec_cap0 {dA : Nat → ClassId} {z : Nat → Nat} {g : St} {al : Al} {en : en_T} (h : EC dA z g al en) : g 4 0 0 = 0 ∨ 10 ≤ g 4 0 0 := by
  rcases h.2.2.2.1 0 (Or.inl rfl) with q | q
  · exact Or.inl q.1
  · exact Or.inr q.1
theorem lc_150 {n c : Int} (h0 : 0 ≤ n) (h1 : n < 100) (h2 : n ≤ c) (h3 : ¬ n < c) : (lcap c).toNat ≤ 160 := by
  unfold lcap
  split <;> omega
set_option maxHeartbeats 4000000 in
set_option maxRecDepth 100000 in
theorem c_X3_send (l : Launch) (D : va_G) (dA : Nat → ClassId) (z : Nat → Nat) (en : en_T) (g : St) (al : Al) (n : Int) (hn : iB n) (hE : EC dA z g al en) (hI : IB g) : Met l yX3_send wsX3_send ({ frames := 7, cells := 3, slots := 10200, locals := 175 }) (gP D dA z en [.ref (al 0 0), .int (iZ (n))]) (va_Qi (fun (r8 : Int32) (u : en_T × Al) => r8 = iZ (aSend g n) ∧ CP dA z (sSend g n) g al en u) (fun u t9 => Wd D (z 0) u.1 t9.heap) (fun q => z 0 ≤ q)) (3) (10200) (fun q => z 0 ≤ q) := by
  refine gMet (own := RX3) (cc := cX3_send) (maxL := 3) (ret := (some .int)) (by decide) rfl rfl (Nat.le_of_ble_eq_true rfl) ?_
  intro p e s m below meth c hx hb hml hown hts hr hlocks hnm hg hW ls hl
  have hK := hg.1
  have hS : va_S (fun q => z 0 ≤ q) s.heap s.heap [] := va_S.rf
  have hi4 : ∀ w ∈ u_ws RX2 TX2 9, w ∈ wsX3_send := by decide +kernel
  have hi5 : ∀ w ∈ u_ws RX3 TX3 14, w ∈ wsX3_send := by decide +kernel
  have hl : lv_has ls 3 [(0, .ref (al 0 0)), (1, .int (iZ (n)))] := hl
  obtain ⟨hIX, hIL, hIS, hIF, hIR, hIG⟩ := id hI
  unfold IL at hIL
  unfold IX at hIX
  have fX : en 0 0 = some (al 0 0, .inr (5, [.int (iZ (g 0 0 0)), .ref (al 1 0), .ref (al 1 1), .ref (al 3 0), .ref (al 4 0), .int (iZ (g 0 5 0)), .ref (al 11 0), .long (lZ (g 0 7 0)), .int (iZ (g 0 8 0)), .int (iZ (g 0 9 0)), .int (iZ (g 0 10 0)), .int (iZ (g 0 11 0)), .int (iZ (g 0 12 0)), .int (iZ (g 0 13 0))])) := ec_X hE
  have fL0 : en 1 0 = some (al 1 0, .inr (1, [.int (iZ (g 3 0 0)), .ref (al 2 0), .int (iZ (g 1 0 0))])) := ec_L0 hE
  have fL1 : en 1 1 = some (al 1 1, .inr (1, [.int (iZ (g 3 1 0)), .ref (al 2 1), .int (iZ (g 1 1 0))])) := ec_L1 hE
  have fQ : en 3 0 = some (al 3 0, aR dA (4) (fun j => some (al 9 j))) := ec_Q hE
  have fC : en 4 0 = some (al 4 0, aI dA (8) (fun j => g 2 j 0)) := ec_C hE
  refine lv_iload_n hx hb dX3_send_0 rfl (lv_at hl 1 rfl) ?_
  refine z_if_lt (tgt := 11) hx hb dX3_send_1 (by decide) (by omega) (fun c_1 => ?_) (fun c_1 => ?_)
  · refine z_bipush hx hb dX3_send_11 (by decide) ?_
    refine W.widen (k := 3) (n := 10200) (show 0 ≤ 3 by omega) (show 0 ≤ 10200 by omega) ?_
    have hFRz := FR.rf en
    have hASz := AS.rf g al
    have hgz : g = sSend g n := by exact (if_pos (by omega)).symm
    have hEz := hgz ▸ hE
    exact W.iret hx hb hr (fun t ht hw => ⟨⟨_, (en, al), rfl, ⟨congrArg iZ (if_pos (by omega)).symm, hgz ▸ hE, hFRz, hgz ▸ hASz⟩, by show Wd _ _ _ t.heap; rw [ht]; exact hW⟩, hS.F ht⟩) hS.2.2 dX3_send_13
  · refine lv_iload_n hx hb dX3_send_4 rfl (lv_at hl 1 rfl) ?_
    refine z_sipush hx hb dX3_send_5 (by decide) ?_
    refine z_icmp_le (tgt := 14) hx hb dX3_send_8 (by decide) (by omega) (by omega) (fun c_8 => ?_) (fun c_8 => ?_)
    · refine lv_aload_n hx hb dX3_send_14 rfl (lv_at hl 0 rfl) ?_
      refine g_get (C := RX3) (T := TX3) (N := 14) (ci := 5) (v := .ref (al 1 0)) hx hb hts hi5 hown hK hW fX rfl 1 (by decide) (hts (.fieldLink RX3 10 "LongTransfer" "senders" "Ljava/util/ArrayList;") (by decide +kernel)) (fun _ h9 => h9) rfl dX3_send_15 ?_
      refine va_calli (va_runV (As := []) (rest := []) ⟨hx, hb, hml, hown, hts⟩ (c_AL_size l D dA z en 0 (al 1 0) (al 2 0) (g 3 0 0) (g 1 0 0) fL0) (cwV 0 hts gX3_send_Jx4a65c_size_8abf5 rfl rfl rfl (by decide +kernel) ⟨Nat.le_of_ble_eq_true rfl, Nat.le_of_ble_eq_true rfl⟩) ⟨gBl, gRecv hK hW (ci := 1) rfl fL0, gPre _ hg hS hW⟩ rfl rfl hl.1 rfl (lv_room (Nat.le_of_ble_eq_true rfl)) dX3_send_18 ⟨(show 0 + 0 ≤ 3 by omega), (show 0 + 0 ≤ 10200 by omega)⟩) hS (fun _ _ h => h) (fun _ h => h) (fun r9 u9 t9 H locs ht9 hvm9 hw9 hB9 hz9 hk9 hS => ?_)
      have hW : Wd D (z 0) en H := by rw [← ht9]; exact hB9
      subst hw9
      refine z_bipush hx hb dX3_send_21 (by decide) ?_
      refine z_icmp_lt (tgt := 29) hx hb dX3_send_23 (by decide) (by omega) (by omega) (fun c_23 => ?_) (fun c_23 => ?_)
      · refine lv_iload_n hx hb dX3_send_29 rfl (lv_at hl 1 rfl) ?_
        refine z_if_eq (tgt := 46) hx hb dX3_send_30 (by decide) (by omega) (fun c_30 => ?_) (fun c_30 => ?_)
        · refine z_iconst hx hb dX3_send_46 ?_
          refine W.widen (k := 3) (n := 10200) (show 0 + 0 ≤ 3 by omega) (show 0 + 0 ≤ 10200 by omega) ?_
          have hFRz := FR.rf en
          have hASz := AS.rf g al
          have hgz : g = sSend g n := by exact ((if_neg (by omega)).trans ((if_neg (by omega)).trans (if_pos (by omega)))).symm
          have hEz := hgz ▸ hE
          exact W.iret hx hb hr (fun t ht hw => ⟨⟨_, (en, al), rfl, ⟨congrArg iZ ((if_neg (by omega)).trans ((if_neg (by omega)).trans (if_pos (by omega)))).symm, hgz ▸ hE, hFRz, hgz ▸ hASz⟩, by show Wd _ _ _ t.heap; rw [ht]; exact hW⟩, hS.F ht⟩) hS.2.2 dX3_send_47
        · refine lv_aload_n hx hb dX3_send_33 rfl (lv_at hl 0 rfl) ?_
          refine g_get (C := RX3) (T := TX3) (N := 14) (ci := 5) (v := .int (iZ (g 0 13 0))) hx hb hts hi5 hown hK hW fX rfl 13 (by decide) (hts (.fieldLink RX3 52 "LongTransfer" "onlySingle" "Z") (by decide +kernel)) (fun _ h9 => h9) rfl dX3_send_34 ?_
          refine z_if_eq (tgt := 48) hx hb dX3_send_37 (by decide) (by omega) (fun c_37 => ?_) (fun c_37 => ?_)
          · refine lv_aload_n hx hb dX3_send_48 rfl (lv_at hl 0 rfl) ?_
            refine g_get (C := RX3) (T := TX3) (N := 14) (ci := 5) (v := .ref (al 1 0)) hx hb hts hi5 hown hK hW fX rfl 1 (by decide) (hts (.fieldLink RX3 10 "LongTransfer" "senders" "Ljava/util/ArrayList;") (by decide +kernel)) (fun _ h9 => h9) rfl dX3_send_49 ?_
            refine va_calli (va_runV (As := []) (rest := []) ⟨hx, hb, hml, hown, hts⟩ (c_AL_size l D dA z en 0 (al 1 0) (al 2 0) (g 3 0 0) (g 1 0 0) fL0) (cwV 0 hts gX3_send_Jx4a65c_size_8abf5 rfl rfl rfl (by decide +kernel) ⟨Nat.le_of_ble_eq_true rfl, Nat.le_of_ble_eq_true rfl⟩) ⟨gBl, gRecv hK hW (ci := 1) rfl fL0, gPre _ hg hS hW⟩ rfl rfl hl.1 rfl (lv_room (Nat.le_of_ble_eq_true rfl)) dX3_send_52 ⟨(show 0 + 0 + 0 ≤ 3 by omega), (show 0 + 0 + 0 ≤ 10200 by omega)⟩) hS (fun _ _ h => h) (fun _ h => h) (fun r9 u9 t9 H locs ht9 hvm9 hw9 hB9 hz9 hk9 hS => ?_)
            have hW : Wd D (z 0) en H := by rw [← ht9]; exact hB9
            subst hw9
            refine z_iconst hx hb dX3_send_55 ?_
            refine z_iadd hx hb dX3_send_56 ?_
            refine lv_istore_n (lv' := [(2, .int (iZ ((g 1 0 0) + 1))), (0, .ref (al 0 0)), (1, .int (iZ (n)))]) hx hb dX3_send_57 rfl hl (by decide) rfl (fun ls hl => ?_)
            refine lv_aload_n hx hb dX3_send_58 rfl (lv_at hl 1 rfl) ?_
            refine g_get (C := RX3) (T := TX3) (N := 14) (ci := 5) (v := .ref (al 1 0)) hx hb hts hi5 hown hK hW fX rfl 1 (by decide) (hts (.fieldLink RX3 10 "LongTransfer" "senders" "Ljava/util/ArrayList;") (by decide +kernel)) (fun _ h9 => h9) rfl dX3_send_59 ?_
            have hgoal : sSend g n = sPush g n := by unfold sSend; rw [if_neg (by omega), if_neg (by omega), if_neg (by omega)]
            have hin : (if g 1 0 0 < g 4 0 0 then 0 else 1) ≤ 1 := by split <;> omega
            have hin2 : (if g 1 0 0 < g 4 0 0 then 0 else (lcap (g 4 0 0)).toNat) ≤ 160 := by by_cases q : g 1 0 0 < g 4 0 0 <;> simp only [q, if_true, if_false] <;> first | omega | exact lc_150 (n := g 1 0 0) (by omega) (by omega) (by omega) q
            refine g_new (C := RX2) (T := TX2) (N := 9) (ci := 4) (fs := [.int (iZ (0)), .null, .int (iZ (0)), .int (iZ (0)), .int (iZ (0)), .int (iZ (0)), .int (iZ (0)), .int (iZ (0)), .long (lZ (0))]) hx hb hts hi4 tyX2 tyX2_ok hown (hts (.classLink RX3 56 RX2) (by decide +kernel)) (hts (.instantiable RX2 9) (by decide +kernel)) (hts (.initialized RX2) (by decide +kernel)) hK hW hS hg.2.1 rfl (fun j hj => by match j, hj with | 0, _ => rfl | 1, _ => rfl | 2, _ => rfl | 3, _ => rfl | 4, _ => rfl | 5, _ => rfl | 6, _ => rfl | 7, _ => rfl | 8, _ => rfl | j + 9, h => omega) (show 0 + 0 + 0 + 1 ≤ 3 by omega) (show 0 + 0 + 0 + 9 ≤ 10200 by omega) dX3_send_62 5 (g 1 0 0 + 1) (fun sq H hW hS => ?_)
            have fX : (e2 en 5 (g 1 0 0 + 1) (some (sq, .inr (4, [.int (iZ (0)), .null, .int (iZ (0)), .int (iZ (0)), .int (iZ (0)), .int (iZ (0)), .int (iZ (0)), .int (iZ (0)), .long (lZ (0))])))) 0 0 = some (al 0 0, .inr (5, [.int (iZ (g 0 0 0)), .ref (al 1 0), .ref (al 1 1), .ref (al 3 0), .ref (al 4 0), .int (iZ (g 0 5 0)), .ref (al 11 0), .long (lZ (g 0 7 0)), .int (iZ (g 0 8 0)), .int (iZ (g 0 9 0)), .int (iZ (g 0 10 0)), .int (iZ (g 0 11 0)), .int (iZ (g 0 12 0)), .int (iZ (g 0 13 0))])) := (e2_k (by decide)).trans fX
            have fL0 : (e2 en 5 (g 1 0 0 + 1) (some (sq, .inr (4, [.int (iZ (0)), .null, .int (iZ (0)), .int (iZ (0)), .int (iZ (0)), .int (iZ (0)), .int (iZ (0)), .int (iZ (0)), .long (lZ (0))])))) 1 0 = some (al 1 0, .inr (1, [.int (iZ (g 3 0 0)), .ref (al 2 0), .int (iZ (g 1 0 0))])) := (e2_k (by decide)).trans fL0
            have fL1 : (e2 en 5 (g 1 0 0 + 1) (some (sq, .inr (4, [.int (iZ (0)), .null, .int (iZ (0)), .int (iZ (0)), .int (iZ (0)), .int (iZ (0)), .int (iZ (0)), .int (iZ (0)), .long (lZ (0))])))) 1 1 = some (al 1 1, .inr (1, [.int (iZ (g 3 1 0)), .ref (al 2 1), .int (iZ (g 1 1 0))])) := (e2_k (by decide)).trans fL1
            have fQ : (e2 en 5 (g 1 0 0 + 1) (some (sq, .inr (4, [.int (iZ (0)), .null, .int (iZ (0)), .int (iZ (0)), .int (iZ (0)), .int (iZ (0)), .int (iZ (0)), .int (iZ (0)), .long (lZ (0))])))) 3 0 = some (al 3 0, aR dA (4) (fun j => some (al 9 j))) := (e2_k (by decide)).trans fQ
            have fC : (e2 en 5 (g 1 0 0 + 1) (some (sq, .inr (4, [.int (iZ (0)), .null, .int (iZ (0)), .int (iZ (0)), .int (iZ (0)), .int (iZ (0)), .int (iZ (0)), .int (iZ (0)), .long (lZ (0))])))) 4 0 = some (al 4 0, aI dA (8) (fun j => g 2 j 0)) := (e2_k (by decide)).trans fC
            have fN : (e2 en 5 (g 1 0 0 + 1) (some (sq, .inr (4, [.int (iZ (0)), .null, .int (iZ (0)), .int (iZ (0)), .int (iZ (0)), .int (iZ (0)), .int (iZ (0)), .int (iZ (0)), .long (lZ (0))])))) 5 (g 1 0 0 + 1) = some (sq, .inr (4, [.int (iZ (0)), .null, .int (iZ (0)), .int (iZ (0)), .int (iZ (0)), .int (iZ (0)), .int (iZ (0)), .int (iZ (0)), .long (lZ (0))])) := e2_s _ _ _ _
            refine lv_dup hx hb dX3_send_65 rfl ?_
            refine lv_iload_n hx hb dX3_send_66 rfl (lv_at hl 0 rfl) ?_
            refine lv_iload_n hx hb dX3_send_67 rfl (lv_at hl 2 rfl) ?_
            refine g_newa_aB (n := n) hx hb rfl (hts (.arrayClass .byte) (by decide +kernel)) hK hW hS hg.2.1 (by omega) (by omega) (show 0 + 0 + 0 + 1 + 1 ≤ 3 by omega) (show 0 + 0 + 0 + 9 + (n : Int).toNat ≤ 10200 by omega) dX3_send_68 6 (g 1 0 0 + 1) (fun bq H hW hS => ?_)
            have fX : (e2 (e2 en 5 (g 1 0 0 + 1) (some (sq, .inr (4, [.int (iZ (0)), .null, .int (iZ (0)), .int (iZ (0)), .int (iZ (0)), .int (iZ (0)), .int (iZ (0)), .int (iZ (0)), .long (lZ (0))])))) 6 (g 1 0 0 + 1) (some (bq, aB dA (n) (fun _ => 0)))) 0 0 = some (al 0 0, .inr (5, [.int (iZ (g 0 0 0)), .ref (al 1 0), .ref (al 1 1), .ref (al 3 0), .ref (al 4 0), .int (iZ (g 0 5 0)), .ref (al 11 0), .long (lZ (g 0 7 0)), .int (iZ (g 0 8 0)), .int (iZ (g 0 9 0)), .int (iZ (g 0 10 0)), .int (iZ (g 0 11 0)), .int (iZ (g 0 12 0)), .int (iZ (g 0 13 0))])) := (e2_k (by decide)).trans fX
            have fL0 : (e2 (e2 en 5 (g 1 0 0 + 1) (some (sq, .inr (4, [.int (iZ (0)), .null, .int (iZ (0)), .int (iZ (0)), .int (iZ (0)), .int (iZ (0)), .int (iZ (0)), .int (iZ (0)), .long (lZ (0))])))) 6 (g 1 0 0 + 1) (some (bq, aB dA (n) (fun _ => 0)))) 1 0 = some (al 1 0, .inr (1, [.int (iZ (g 3 0 0)), .ref (al 2 0), .int (iZ (g 1 0 0))])) := (e2_k (by decide)).trans fL0
            have fL1 : (e2 (e2 en 5 (g 1 0 0 + 1) (some (sq, .inr (4, [.int (iZ (0)), .null, .int (iZ (0)), .int (iZ (0)), .int (iZ (0)), .int (iZ (0)), .int (iZ (0)), .int (iZ (0)), .long (lZ (0))])))) 6 (g 1 0 0 + 1) (some (bq, aB dA (n) (fun _ => 0)))) 1 1 = some (al 1 1, .inr (1, [.int (iZ (g 3 1 0)), .ref (al 2 1), .int (iZ (g 1 1 0))])) := (e2_k (by decide)).trans fL1
            have fQ : (e2 (e2 en 5 (g 1 0 0 + 1) (some (sq, .inr (4, [.int (iZ (0)), .null, .int (iZ (0)), .int (iZ (0)), .int (iZ (0)), .int (iZ (0)), .int (iZ (0)), .int (iZ (0)), .long (lZ (0))])))) 6 (g 1 0 0 + 1) (some (bq, aB dA (n) (fun _ => 0)))) 3 0 = some (al 3 0, aR dA (4) (fun j => some (al 9 j))) := (e2_k (by decide)).trans fQ
            have fC : (e2 (e2 en 5 (g 1 0 0 + 1) (some (sq, .inr (4, [.int (iZ (0)), .null, .int (iZ (0)), .int (iZ (0)), .int (iZ (0)), .int (iZ (0)), .int (iZ (0)), .int (iZ (0)), .long (lZ (0))])))) 6 (g 1 0 0 + 1) (some (bq, aB dA (n) (fun _ => 0)))) 4 0 = some (al 4 0, aI dA (8) (fun j => g 2 j 0)) := (e2_k (by decide)).trans fC
            have fN : (e2 (e2 en 5 (g 1 0 0 + 1) (some (sq, .inr (4, [.int (iZ (0)), .null, .int (iZ (0)), .int (iZ (0)), .int (iZ (0)), .int (iZ (0)), .int (iZ (0)), .int (iZ (0)), .long (lZ (0))])))) 6 (g 1 0 0 + 1) (some (bq, aB dA (n) (fun _ => 0)))) 5 (g 1 0 0 + 1) = some (sq, .inr (4, [.int (iZ (0)), .null, .int (iZ (0)), .int (iZ (0)), .int (iZ (0)), .int (iZ (0)), .int (iZ (0)), .int (iZ (0)), .long (lZ (0))])) := (e2_k (by decide)).trans fN
            have fB : (e2 (e2 en 5 (g 1 0 0 + 1) (some (sq, .inr (4, [.int (iZ (0)), .null, .int (iZ (0)), .int (iZ (0)), .int (iZ (0)), .int (iZ (0)), .int (iZ (0)), .int (iZ (0)), .long (lZ (0))])))) 6 (g 1 0 0 + 1) (some (bq, aB dA (n) (fun _ => 0)))) 6 (g 1 0 0 + 1) = some (bq, aB dA (n) (fun _ => 0)) := e2_s _ _ _ _
            refine va_callv (va_runI (As := [.int (iZ ((g 1 0 0) + 1)), .ref bq]) (rest := [.ref sq, .ref (al 1 0)]) ⟨hx, hb, hml, hown, hts⟩ (c_X2_init l D dA z (e2 (e2 en 5 (g 1 0 0 + 1) (some (sq, .inr (4, [.int (iZ (0)), .null, .int (iZ (0)), .int (iZ (0)), .int (iZ (0)), .int (iZ (0)), .int (iZ (0)), .int (iZ (0)), .long (lZ (0))])))) 6 (g 1 0 0 + 1) (some (bq, aB dA (n) (fun _ => 0)))) 5 (g 1 0 0 + 1) sq bq (g 1 0 0 + 1) fN) (cwI 2 hts gX3_send_X2_init rfl rfl rfl (hts (.initialized RX2) (by decide +kernel)) (hts (.methodLink RX3 58 yX2_init) (by decide +kernel)) (hts (.instanceMethod yX2_init) (by decide +kernel)) rfl (by decide +kernel) ⟨Nat.le_of_ble_eq_true rfl, Nat.le_of_ble_eq_true rfl⟩) ⟨gBl, gPre _ hg hS hW⟩ rfl rfl hl.1 rfl (lv_room (Nat.le_of_ble_eq_true rfl)) dX3_send_70 ⟨(show 0 + 0 + 0 + 1 + 1 + 0 ≤ 3 by omega), (show 0 + 0 + 0 + 9 + (n : Int).toNat + 0 ≤ 10200 by omega)⟩) hS (fun _ _ h => h) (fun _ h => h) (fun u9 t9 H locs ht9 hvm9 hw9 hB9 hz9 hk9 hS => ?_)
            have hW : Wd D (z 0) (e2 (e2 (e2 en 5 (g 1 0 0 + 1) (some (sq, .inr (4, [.int (iZ (0)), .null, .int (iZ (0)), .int (iZ (0)), .int (iZ (0)), .int (iZ (0)), .int (iZ (0)), .int (iZ (0)), .long (lZ (0))])))) 6 (g 1 0 0 + 1) (some (bq, aB dA (n) (fun _ => 0)))) 5 (g 1 0 0 + 1) (some (sq, .inr (4, [.int (iZ (g 1 0 0 + 1)), .ref bq, .int (iZ (0)), .int (iZ (0)), .int (iZ (1)), .int (iZ (0)), .int (iZ (0)), .int (iZ (0)), .long (lZ (9223372036854775807))])))) H := by rw [← ht9]; exact hB9
            have fX : (e2 (e2 (e2 en 5 (g 1 0 0 + 1) (some (sq, .inr (4, [.int (iZ (0)), .null, .int (iZ (0)), .int (iZ (0)), .int (iZ (0)), .int (iZ (0)), .int (iZ (0)), .int (iZ (0)), .long (lZ (0))])))) 6 (g 1 0 0 + 1) (some (bq, aB dA (n) (fun _ => 0)))) 5 (g 1 0 0 + 1) (some (sq, .inr (4, [.int (iZ (g 1 0 0 + 1)), .ref bq, .int (iZ (0)), .int (iZ (0)), .int (iZ (1)), .int (iZ (0)), .int (iZ (0)), .int (iZ (0)), .long (lZ (9223372036854775807))])))) 0 0 = some (al 0 0, .inr (5, [.int (iZ (g 0 0 0)), .ref (al 1 0), .ref (al 1 1), .ref (al 3 0), .ref (al 4 0), .int (iZ (g 0 5 0)), .ref (al 11 0), .long (lZ (g 0 7 0)), .int (iZ (g 0 8 0)), .int (iZ (g 0 9 0)), .int (iZ (g 0 10 0)), .int (iZ (g 0 11 0)), .int (iZ (g 0 12 0)), .int (iZ (g 0 13 0))])) := (e2_k (by decide)).trans fX
            have fL0 : (e2 (e2 (e2 en 5 (g 1 0 0 + 1) (some (sq, .inr (4, [.int (iZ (0)), .null, .int (iZ (0)), .int (iZ (0)), .int (iZ (0)), .int (iZ (0)), .int (iZ (0)), .int (iZ (0)), .long (lZ (0))])))) 6 (g 1 0 0 + 1) (some (bq, aB dA (n) (fun _ => 0)))) 5 (g 1 0 0 + 1) (some (sq, .inr (4, [.int (iZ (g 1 0 0 + 1)), .ref bq, .int (iZ (0)), .int (iZ (0)), .int (iZ (1)), .int (iZ (0)), .int (iZ (0)), .int (iZ (0)), .long (lZ (9223372036854775807))])))) 1 0 = some (al 1 0, .inr (1, [.int (iZ (g 3 0 0)), .ref (al 2 0), .int (iZ (g 1 0 0))])) := (e2_k (by decide)).trans fL0
            have fL1 : (e2 (e2 (e2 en 5 (g 1 0 0 + 1) (some (sq, .inr (4, [.int (iZ (0)), .null, .int (iZ (0)), .int (iZ (0)), .int (iZ (0)), .int (iZ (0)), .int (iZ (0)), .int (iZ (0)), .long (lZ (0))])))) 6 (g 1 0 0 + 1) (some (bq, aB dA (n) (fun _ => 0)))) 5 (g 1 0 0 + 1) (some (sq, .inr (4, [.int (iZ (g 1 0 0 + 1)), .ref bq, .int (iZ (0)), .int (iZ (0)), .int (iZ (1)), .int (iZ (0)), .int (iZ (0)), .int (iZ (0)), .long (lZ (9223372036854775807))])))) 1 1 = some (al 1 1, .inr (1, [.int (iZ (g 3 1 0)), .ref (al 2 1), .int (iZ (g 1 1 0))])) := (e2_k (by decide)).trans fL1
            have fQ : (e2 (e2 (e2 en 5 (g 1 0 0 + 1) (some (sq, .inr (4, [.int (iZ (0)), .null, .int (iZ (0)), .int (iZ (0)), .int (iZ (0)), .int (iZ (0)), .int (iZ (0)), .int (iZ (0)), .long (lZ (0))])))) 6 (g 1 0 0 + 1) (some (bq, aB dA (n) (fun _ => 0)))) 5 (g 1 0 0 + 1) (some (sq, .inr (4, [.int (iZ (g 1 0 0 + 1)), .ref bq, .int (iZ (0)), .int (iZ (0)), .int (iZ (1)), .int (iZ (0)), .int (iZ (0)), .int (iZ (0)), .long (lZ (9223372036854775807))])))) 3 0 = some (al 3 0, aR dA (4) (fun j => some (al 9 j))) := (e2_k (by decide)).trans fQ
            have fC : (e2 (e2 (e2 en 5 (g 1 0 0 + 1) (some (sq, .inr (4, [.int (iZ (0)), .null, .int (iZ (0)), .int (iZ (0)), .int (iZ (0)), .int (iZ (0)), .int (iZ (0)), .int (iZ (0)), .long (lZ (0))])))) 6 (g 1 0 0 + 1) (some (bq, aB dA (n) (fun _ => 0)))) 5 (g 1 0 0 + 1) (some (sq, .inr (4, [.int (iZ (g 1 0 0 + 1)), .ref bq, .int (iZ (0)), .int (iZ (0)), .int (iZ (1)), .int (iZ (0)), .int (iZ (0)), .int (iZ (0)), .long (lZ (9223372036854775807))])))) 4 0 = some (al 4 0, aI dA (8) (fun j => g 2 j 0)) := (e2_k (by decide)).trans fC
            have fB : (e2 (e2 (e2 en 5 (g 1 0 0 + 1) (some (sq, .inr (4, [.int (iZ (0)), .null, .int (iZ (0)), .int (iZ (0)), .int (iZ (0)), .int (iZ (0)), .int (iZ (0)), .int (iZ (0)), .long (lZ (0))])))) 6 (g 1 0 0 + 1) (some (bq, aB dA (n) (fun _ => 0)))) 5 (g 1 0 0 + 1) (some (sq, .inr (4, [.int (iZ (g 1 0 0 + 1)), .ref bq, .int (iZ (0)), .int (iZ (0)), .int (iZ (1)), .int (iZ (0)), .int (iZ (0)), .int (iZ (0)), .long (lZ (9223372036854775807))])))) 6 (g 1 0 0 + 1) = some (bq, aB dA (n) (fun _ => 0)) := (e2_k (by decide)).trans fB
            have fN : (e2 (e2 (e2 en 5 (g 1 0 0 + 1) (some (sq, .inr (4, [.int (iZ (0)), .null, .int (iZ (0)), .int (iZ (0)), .int (iZ (0)), .int (iZ (0)), .int (iZ (0)), .int (iZ (0)), .long (lZ (0))])))) 6 (g 1 0 0 + 1) (some (bq, aB dA (n) (fun _ => 0)))) 5 (g 1 0 0 + 1) (some (sq, .inr (4, [.int (iZ (g 1 0 0 + 1)), .ref bq, .int (iZ (0)), .int (iZ (0)), .int (iZ (1)), .int (iZ (0)), .int (iZ (0)), .int (iZ (0)), .long (lZ (9223372036854775807))])))) 5 (g 1 0 0 + 1) = some (sq, .inr (4, [.int (iZ (g 1 0 0 + 1)), .ref bq, .int (iZ (0)), .int (iZ (0)), .int (iZ (1)), .int (iZ (0)), .int (iZ (0)), .int (iZ (0)), .long (lZ (9223372036854775807))])) := e2_s _ _ _ _
            refine va_calli (va_runV (As := [.ref sq]) (rest := []) ⟨hx, hb, hml, hown, hts⟩ (c_AL_add l D dA z (e2 (e2 (e2 en 5 (g 1 0 0 + 1) (some (sq, .inr (4, [.int (iZ (0)), .null, .int (iZ (0)), .int (iZ (0)), .int (iZ (0)), .int (iZ (0)), .int (iZ (0)), .int (iZ (0)), .long (lZ (0))])))) 6 (g 1 0 0 + 1) (some (bq, aB dA (n) (fun _ => 0)))) 5 (g 1 0 0 + 1) (some (sq, .inr (4, [.int (iZ (g 1 0 0 + 1)), .ref bq, .int (iZ (0)), .int (iZ (0)), .int (iZ (1)), .int (iZ (0)), .int (iZ (0)), .int (iZ (0)), .long (lZ (9223372036854775807))])))) 0 (al 1 0) (al 2 0) (g 3 0 0) (g 1 0 0) (g 4 0 0) (eA g al 0) (by omega) (by omega) (by omega) (fun j hj => eA_out hj) fL0 ((hE.2.2.2.1 0 (Or.inl rfl)).imp id (fun q => ⟨q.1, (e2_k (by decide)).trans ((e2_k (by decide)).trans ((e2_k (by decide)).trans (q.2)))⟩)) (fun j y hy => by obtain ⟨hj, rfl⟩ := eA_some hy; exact ⟨5, j + 1, 4, _, (e2_n (by omega)).trans ((e2_n (by omega)).trans ((e2_n (by omega)).trans (ec_S hE (m := j + 1) (by omega)))), Or.inr rfl, by decide, by decide⟩) sq 5 4 (g 1 0 0 + 1) [.int (iZ (g 1 0 0 + 1)), .ref bq, .int (iZ (0)), .int (iZ (0)), .int (iZ (1)), .int (iZ (0)), .int (iZ (0)), .int (iZ (0)), .long (lZ (9223372036854775807))] (Or.inr rfl) (by decide) (by decide) (by decide) fN) (cwV 1 hts gX3_send_Jx4a65c_add_9ea2d rfl rfl rfl (by decide +kernel) ⟨Nat.le_of_ble_eq_true rfl, Nat.le_of_ble_eq_true rfl⟩) ⟨gBl, gRecv hK hW (ci := 1) rfl fL0, gPre _ hg hS hW⟩ rfl rfl hl.1 rfl (lv_room (Nat.le_of_ble_eq_true rfl)) dX3_send_73 ⟨(show 0 + 0 + 0 + 1 + 1 + 0 + (if g 1 0 0 < g 4 0 0 then 0 else 1) ≤ 3 by omega), (show 0 + 0 + 0 + 9 + (n : Int).toNat + 0 + (if g 1 0 0 < g 4 0 0 then 0 else (lcap (g 4 0 0)).toNat) ≤ 10200 by omega)⟩) hS (fun _ _ h => h) (fun _ h => h) (fun r9 u9 t9 H locs ht9 hvm9 hw9 hB9 hz9 hk9 hS => ?_)
            obtain ⟨rfl, ⟨q9, hu1, hu2⟩, hu3⟩ := hw9
            have hW : Wd D (z 0) u9 H := by rw [← ht9]; exact hB9
            refine lv_pop hx hb dX3_send_76 rfl ?_
            refine lv_iload_n hx hb dX3_send_77 rfl (lv_at hl 0 rfl) ?_
            obtain ⟨gF, hgF⟩ : ∃ x : St, x = sPush g n := ⟨_, rfl⟩
            obtain ⟨alF, halF⟩ : ∃ x : Al, x = wa (wa (wa al 2 0 q9) 5 (g 1 0 0 + 1) sq) 6 (g 1 0 0 + 1) bq := ⟨_, rfl⟩
            have hc1 : gF 1 0 0 = g 1 0 0 + 1 := by rw [hgF]; simp [sPush, lGrow, wr, wR]
            have hc4 : gF 4 0 0 = (if g 1 0 0 < g 4 0 0 then g 4 0 0 else lcap (g 4 0 0)) := by rw [hgF]; simp [sPush, lGrow, wr, wR]
            have ha5 : alF 5 (g 1 0 0 + 1) = sq := by rw [halF]; simp [wa]
            have ha6 : alF 6 (g 1 0 0 + 1) = bq := by rw [halF]; simp [wa]
            have ha2 : alF 2 0 = q9 := by rw [halF]; simp [wa]
            have haO : ∀ (k : Nat) (i : Int), ¬ ((k = 2 ∧ i = 0) ∨ ((k = 5 ∨ k = 6) ∧ i = g 1 0 0 + 1)) → alF k i = al k i := fun k i h => by rw [halF, wa_n (by omega), wa_n (by omega), wa_n (by omega)]
            have h11 : gF 11 (g 1 0 0 + 1) 0 = n := by rw [hgF]; simp [sPush, lGrow, wr, wR]
            have h19 : gF 19 (g 1 0 0 + 1) = fun _ => 0 := by rw [hgF]; funext j; simp [sPush, lGrow, wr, wR]
            have hlp := lc_pos (cap := g 4 0 0) (by omega)
            have h10 : 10 ≤ gF 4 0 0 := by rw [hc4]; rcases ec_cap0 hE with q | q <;> (split <;> first | omega | (unfold lcap; split <;> omega))
            have heA : uF (eA g al 0) (g 1 0 0) (some sq) = eA gF alF 0 := eA_push (li := 0) rfl (by omega) hc1 ha5 (fun j hj => haO 5 j (by omega))
            have hgz : ∀ (t : Nat) (i j : Int), ¬ (((t = 1 ∨ t = 3 ∨ t = 4) ∧ i = 0) ∨ (11 ≤ t ∧ t ≤ 19 ∧ i = g 1 0 0 + 1)) → gF t i j = g t i j := by
              intro t i j h
              rw [hgF]
              simp only [sPush, lGrow]
              rw [wR_n (by omega)]
              repeat rw [wr_n (by omega)]
            have hez : ∀ (k : Nat) (i : Int), ¬ (((k = 1 ∨ k = 2) ∧ i = 0) ∨ (k = 5 ∧ i = g 1 0 0 + 1) ∨ (k = 6 ∧ i = g 1 0 0 + 1) ∨ k = 99) → u9 k i = en k i := by
              intro k i h
              rw [hu3 k i (by omega) (by omega) (by omega)]
              exact (e2_n (by omega)).trans ((e2_n (by omega)).trans ((e2_n (by omega)).trans (rfl)))
            have hEF : EC dA z gF alF u9 := by
              refine ec_ns hE (n := g 1 0 0) rfl (by omega) hgz haO hez hc1 ?_ ⟨h10, ?_⟩ ?_ ?_
              · show u9 1 0 = some (al 1 0, .inr (1, [.int (iZ (gF 3 0 0)), .ref (alF 2 0), .int (iZ (gF 1 0 0))]))
                rw [hu1, hc1, ha2, hgF]; simp [sPush, lGrow, wr, wR]
              · rw [hu2, ha2, hc4, heA]
              · rw [hu3 5 _ (by omega) (by omega) (by omega), fN, ha5]; simp only [eS]; rw [ha6, hgF]; simp [sPush, lGrow, wr, wR]
              · rw [hu3 6 _ (by omega) (by omega) (by omega), fB, ha6, h19, h11]
            have hFRF : FR en u9 := fun k i h1 h2 => by rw [hu3 k i h2 (by omega) (by omega)]; exact (e2_n (by omega)).trans ((e2_n (by omega)).trans ((e2_n (by omega)).trans (rfl)))
            have hn1 : gF 1 1 0 = g 1 1 0 := hgz 1 1 0 (by omega)
            have hn4 : gF 4 1 0 = g 4 1 0 := hgz 4 1 0 (by omega)
            have hASF : AS g gF al alF := ⟨⟨by omega, by omega, by omega⟩, fun k i h => haO k i (by omega)⟩
            rw [hgF, ← hgoal] at hEF hASF
            refine W.widen (k := 3) (n := 10200) (show 0 + 0 + 0 + 1 + 1 + 0 + (if g 1 0 0 < g 4 0 0 then 0 else 1) ≤ 3 by omega) (show 0 + 0 + 0 + 9 + (n : Int).toNat + 0 + (if g 1 0 0 < g 4 0 0 then 0 else (lcap (g 4 0 0)).toNat) ≤ 10200 by omega) ?_
            exact W.iret hx hb hr (fun t ht hw => ⟨⟨_, (u9, alF), rfl, ⟨congrArg iZ ((if_neg (by omega)).trans ((if_neg (by omega)).trans (if_neg (by omega)))).symm, hEF, hFRF, hASF⟩, by show Wd _ _ _ t.heap; rw [ht]; exact hW⟩, hS.F ht⟩) hS.2.2 dX3_send_78
          · refine lv_iload_n hx hb dX3_send_40 rfl (lv_at hl 1 rfl) ?_
            refine z_bipush hx hb dX3_send_41 (by decide) ?_
            refine z_icmp_le (tgt := 48) hx hb dX3_send_43 (by decide) (by omega) (by omega) (fun c_43 => ?_) (fun c_43 => ?_)
            · refine lv_aload_n hx hb dX3_send_48 rfl (lv_at hl 0 rfl) ?_
              refine g_get (C := RX3) (T := TX3) (N := 14) (ci := 5) (v := .ref (al 1 0)) hx hb hts hi5 hown hK hW fX rfl 1 (by decide) (hts (.fieldLink RX3 10 "LongTransfer" "senders" "Ljava/util/ArrayList;") (by decide +kernel)) (fun _ h9 => h9) rfl dX3_send_49 ?_
              refine va_calli (va_runV (As := []) (rest := []) ⟨hx, hb, hml, hown, hts⟩ (c_AL_size l D dA z en 0 (al 1 0) (al 2 0) (g 3 0 0) (g 1 0 0) fL0) (cwV 0 hts gX3_send_Jx4a65c_size_8abf5 rfl rfl rfl (by decide +kernel) ⟨Nat.le_of_ble_eq_true rfl, Nat.le_of_ble_eq_true rfl⟩) ⟨gBl, gRecv hK hW (ci := 1) rfl fL0, gPre _ hg hS hW⟩ rfl rfl hl.1 rfl (lv_room (Nat.le_of_ble_eq_true rfl)) dX3_send_52 ⟨(show 0 + 0 + 0 ≤ 3 by omega), (show 0 + 0 + 0 ≤ 10200 by omega)⟩) hS (fun _ _ h => h) (fun _ h => h) (fun r9 u9 t9 H locs ht9 hvm9 hw9 hB9 hz9 hk9 hS => ?_)
              have hW : Wd D (z 0) en H := by rw [← ht9]; exact hB9
              subst hw9
              refine z_iconst hx hb dX3_send_55 ?_
              refine z_iadd hx hb dX3_send_56 ?_
              refine lv_istore_n (lv' := [(2, .int (iZ ((g 1 0 0) + 1))), (0, .ref (al 0 0)), (1, .int (iZ (n)))]) hx hb dX3_send_57 rfl hl (by decide) rfl (fun ls hl => ?_)
              refine lv_aload_n hx hb dX3_send_58 rfl (lv_at hl 1 rfl) ?_
              refine g_get (C := RX3) (T := TX3) (N := 14) (ci := 5) (v := .ref (al 1 0)) hx hb hts hi5 hown hK hW fX rfl 1 (by decide) (hts (.fieldLink RX3 10 "LongTransfer" "senders" "Ljava/util/ArrayList;") (by decide +kernel)) (fun _ h9 => h9) rfl dX3_send_59 ?_
              have hgoal : sSend g n = sPush g n := by unfold sSend; rw [if_neg (by omega), if_neg (by omega), if_neg (by omega)]
              have hin : (if g 1 0 0 < g 4 0 0 then 0 else 1) ≤ 1 := by split <;> omega
              have hin2 : (if g 1 0 0 < g 4 0 0 then 0 else (lcap (g 4 0 0)).toNat) ≤ 160 := by by_cases q : g 1 0 0 < g 4 0 0 <;> simp only [q, if_true, if_false] <;> first | omega | exact lc_150 (n := g 1 0 0) (by omega) (by omega) (by omega) q
              refine g_new (C := RX2) (T := TX2) (N := 9) (ci := 4) (fs := [.int (iZ (0)), .null, .int (iZ (0)), .int (iZ (0)), .int (iZ (0)), .int (iZ (0)), .int (iZ (0)), .int (iZ (0)), .long (lZ (0))]) hx hb hts hi4 tyX2 tyX2_ok hown (hts (.classLink RX3 56 RX2) (by decide +kernel)) (hts (.instantiable RX2 9) (by decide +kernel)) (hts (.initialized RX2) (by decide +kernel)) hK hW hS hg.2.1 rfl (fun j hj => by match j, hj with | 0, _ => rfl | 1, _ => rfl | 2, _ => rfl | 3, _ => rfl | 4, _ => rfl | 5, _ => rfl | 6, _ => rfl | 7, _ => rfl | 8, _ => rfl | j + 9, h => omega) (show 0 + 0 + 0 + 1 ≤ 3 by omega) (show 0 + 0 + 0 + 9 ≤ 10200 by omega) dX3_send_62 5 (g 1 0 0 + 1) (fun sq H hW hS => ?_)
              have fX : (e2 en 5 (g 1 0 0 + 1) (some (sq, .inr (4, [.int (iZ (0)), .null, .int (iZ (0)), .int (iZ (0)), .int (iZ (0)), .int (iZ (0)), .int (iZ (0)), .int (iZ (0)), .long (lZ (0))])))) 0 0 = some (al 0 0, .inr (5, [.int (iZ (g 0 0 0)), .ref (al 1 0), .ref (al 1 1), .ref (al 3 0), .ref (al 4 0), .int (iZ (g 0 5 0)), .ref (al 11 0), .long (lZ (g 0 7 0)), .int (iZ (g 0 8 0)), .int (iZ (g 0 9 0)), .int (iZ (g 0 10 0)), .int (iZ (g 0 11 0)), .int (iZ (g 0 12 0)), .int (iZ (g 0 13 0))])) := (e2_k (by decide)).trans fX
              have fL0 : (e2 en 5 (g 1 0 0 + 1) (some (sq, .inr (4, [.int (iZ (0)), .null, .int (iZ (0)), .int (iZ (0)), .int (iZ (0)), .int (iZ (0)), .int (iZ (0)), .int (iZ (0)), .long (lZ (0))])))) 1 0 = some (al 1 0, .inr (1, [.int (iZ (g 3 0 0)), .ref (al 2 0), .int (iZ (g 1 0 0))])) := (e2_k (by decide)).trans fL0
              have fL1 : (e2 en 5 (g 1 0 0 + 1) (some (sq, .inr (4, [.int (iZ (0)), .null, .int (iZ (0)), .int (iZ (0)), .int (iZ (0)), .int (iZ (0)), .int (iZ (0)), .int (iZ (0)), .long (lZ (0))])))) 1 1 = some (al 1 1, .inr (1, [.int (iZ (g 3 1 0)), .ref (al 2 1), .int (iZ (g 1 1 0))])) := (e2_k (by decide)).trans fL1
              have fQ : (e2 en 5 (g 1 0 0 + 1) (some (sq, .inr (4, [.int (iZ (0)), .null, .int (iZ (0)), .int (iZ (0)), .int (iZ (0)), .int (iZ (0)), .int (iZ (0)), .int (iZ (0)), .long (lZ (0))])))) 3 0 = some (al 3 0, aR dA (4) (fun j => some (al 9 j))) := (e2_k (by decide)).trans fQ
              have fC : (e2 en 5 (g 1 0 0 + 1) (some (sq, .inr (4, [.int (iZ (0)), .null, .int (iZ (0)), .int (iZ (0)), .int (iZ (0)), .int (iZ (0)), .int (iZ (0)), .int (iZ (0)), .long (lZ (0))])))) 4 0 = some (al 4 0, aI dA (8) (fun j => g 2 j 0)) := (e2_k (by decide)).trans fC
              have fN : (e2 en 5 (g 1 0 0 + 1) (some (sq, .inr (4, [.int (iZ (0)), .null, .int (iZ (0)), .int (iZ (0)), .int (iZ (0)), .int (iZ (0)), .int (iZ (0)), .int (iZ (0)), .long (lZ (0))])))) 5 (g 1 0 0 + 1) = some (sq, .inr (4, [.int (iZ (0)), .null, .int (iZ (0)), .int (iZ (0)), .int (iZ (0)), .int (iZ (0)), .int (iZ (0)), .int (iZ (0)), .long (lZ (0))])) := e2_s _ _ _ _
              refine lv_dup hx hb dX3_send_65 rfl ?_
              refine lv_iload_n hx hb dX3_send_66 rfl (lv_at hl 0 rfl) ?_
              refine lv_iload_n hx hb dX3_send_67 rfl (lv_at hl 2 rfl) ?_
              refine g_newa_aB (n := n) hx hb rfl (hts (.arrayClass .byte) (by decide +kernel)) hK hW hS hg.2.1 (by omega) (by omega) (show 0 + 0 + 0 + 1 + 1 ≤ 3 by omega) (show 0 + 0 + 0 + 9 + (n : Int).toNat ≤ 10200 by omega) dX3_send_68 6 (g 1 0 0 + 1) (fun bq H hW hS => ?_)
              have fX : (e2 (e2 en 5 (g 1 0 0 + 1) (some (sq, .inr (4, [.int (iZ (0)), .null, .int (iZ (0)), .int (iZ (0)), .int (iZ (0)), .int (iZ (0)), .int (iZ (0)), .int (iZ (0)), .long (lZ (0))])))) 6 (g 1 0 0 + 1) (some (bq, aB dA (n) (fun _ => 0)))) 0 0 = some (al 0 0, .inr (5, [.int (iZ (g 0 0 0)), .ref (al 1 0), .ref (al 1 1), .ref (al 3 0), .ref (al 4 0), .int (iZ (g 0 5 0)), .ref (al 11 0), .long (lZ (g 0 7 0)), .int (iZ (g 0 8 0)), .int (iZ (g 0 9 0)), .int (iZ (g 0 10 0)), .int (iZ (g 0 11 0)), .int (iZ (g 0 12 0)), .int (iZ (g 0 13 0))])) := (e2_k (by decide)).trans fX
              have fL0 : (e2 (e2 en 5 (g 1 0 0 + 1) (some (sq, .inr (4, [.int (iZ (0)), .null, .int (iZ (0)), .int (iZ (0)), .int (iZ (0)), .int (iZ (0)), .int (iZ (0)), .int (iZ (0)), .long (lZ (0))])))) 6 (g 1 0 0 + 1) (some (bq, aB dA (n) (fun _ => 0)))) 1 0 = some (al 1 0, .inr (1, [.int (iZ (g 3 0 0)), .ref (al 2 0), .int (iZ (g 1 0 0))])) := (e2_k (by decide)).trans fL0
              have fL1 : (e2 (e2 en 5 (g 1 0 0 + 1) (some (sq, .inr (4, [.int (iZ (0)), .null, .int (iZ (0)), .int (iZ (0)), .int (iZ (0)), .int (iZ (0)), .int (iZ (0)), .int (iZ (0)), .long (lZ (0))])))) 6 (g 1 0 0 + 1) (some (bq, aB dA (n) (fun _ => 0)))) 1 1 = some (al 1 1, .inr (1, [.int (iZ (g 3 1 0)), .ref (al 2 1), .int (iZ (g 1 1 0))])) := (e2_k (by decide)).trans fL1
              have fQ : (e2 (e2 en 5 (g 1 0 0 + 1) (some (sq, .inr (4, [.int (iZ (0)), .null, .int (iZ (0)), .int (iZ (0)), .int (iZ (0)), .int (iZ (0)), .int (iZ (0)), .int (iZ (0)), .long (lZ (0))])))) 6 (g 1 0 0 + 1) (some (bq, aB dA (n) (fun _ => 0)))) 3 0 = some (al 3 0, aR dA (4) (fun j => some (al 9 j))) := (e2_k (by decide)).trans fQ
              have fC : (e2 (e2 en 5 (g 1 0 0 + 1) (some (sq, .inr (4, [.int (iZ (0)), .null, .int (iZ (0)), .int (iZ (0)), .int (iZ (0)), .int (iZ (0)), .int (iZ (0)), .int (iZ (0)), .long (lZ (0))])))) 6 (g 1 0 0 + 1) (some (bq, aB dA (n) (fun _ => 0)))) 4 0 = some (al 4 0, aI dA (8) (fun j => g 2 j 0)) := (e2_k (by decide)).trans fC
              have fN : (e2 (e2 en 5 (g 1 0 0 + 1) (some (sq, .inr (4, [.int (iZ (0)), .null, .int (iZ (0)), .int (iZ (0)), .int (iZ (0)), .int (iZ (0)), .int (iZ (0)), .int (iZ (0)), .long (lZ (0))])))) 6 (g 1 0 0 + 1) (some (bq, aB dA (n) (fun _ => 0)))) 5 (g 1 0 0 + 1) = some (sq, .inr (4, [.int (iZ (0)), .null, .int (iZ (0)), .int (iZ (0)), .int (iZ (0)), .int (iZ (0)), .int (iZ (0)), .int (iZ (0)), .long (lZ (0))])) := (e2_k (by decide)).trans fN
              have fB : (e2 (e2 en 5 (g 1 0 0 + 1) (some (sq, .inr (4, [.int (iZ (0)), .null, .int (iZ (0)), .int (iZ (0)), .int (iZ (0)), .int (iZ (0)), .int (iZ (0)), .int (iZ (0)), .long (lZ (0))])))) 6 (g 1 0 0 + 1) (some (bq, aB dA (n) (fun _ => 0)))) 6 (g 1 0 0 + 1) = some (bq, aB dA (n) (fun _ => 0)) := e2_s _ _ _ _
              refine va_callv (va_runI (As := [.int (iZ ((g 1 0 0) + 1)), .ref bq]) (rest := [.ref sq, .ref (al 1 0)]) ⟨hx, hb, hml, hown, hts⟩ (c_X2_init l D dA z (e2 (e2 en 5 (g 1 0 0 + 1) (some (sq, .inr (4, [.int (iZ (0)), .null, .int (iZ (0)), .int (iZ (0)), .int (iZ (0)), .int (iZ (0)), .int (iZ (0)), .int (iZ (0)), .long (lZ (0))])))) 6 (g 1 0 0 + 1) (some (bq, aB dA (n) (fun _ => 0)))) 5 (g 1 0 0 + 1) sq bq (g 1 0 0 + 1) fN) (cwI 2 hts gX3_send_X2_init rfl rfl rfl (hts (.initialized RX2) (by decide +kernel)) (hts (.methodLink RX3 58 yX2_init) (by decide +kernel)) (hts (.instanceMethod yX2_init) (by decide +kernel)) rfl (by decide +kernel) ⟨Nat.le_of_ble_eq_true rfl, Nat.le_of_ble_eq_true rfl⟩) ⟨gBl, gPre _ hg hS hW⟩ rfl rfl hl.1 rfl (lv_room (Nat.le_of_ble_eq_true rfl)) dX3_send_70 ⟨(show 0 + 0 + 0 + 1 + 1 + 0 ≤ 3 by omega), (show 0 + 0 + 0 + 9 + (n : Int).toNat + 0 ≤ 10200 by omega)⟩) hS (fun _ _ h => h) (fun _ h => h) (fun u9 t9 H locs ht9 hvm9 hw9 hB9 hz9 hk9 hS => ?_)
              have hW : Wd D (z 0) (e2 (e2 (e2 en 5 (g 1 0 0 + 1) (some (sq, .inr (4, [.int (iZ (0)), .null, .int (iZ (0)), .int (iZ (0)), .int (iZ (0)), .int (iZ (0)), .int (iZ (0)), .int (iZ (0)), .long (lZ (0))])))) 6 (g 1 0 0 + 1) (some (bq, aB dA (n) (fun _ => 0)))) 5 (g 1 0 0 + 1) (some (sq, .inr (4, [.int (iZ (g 1 0 0 + 1)), .ref bq, .int (iZ (0)), .int (iZ (0)), .int (iZ (1)), .int (iZ (0)), .int (iZ (0)), .int (iZ (0)), .long (lZ (9223372036854775807))])))) H := by rw [← ht9]; exact hB9
              have fX : (e2 (e2 (e2 en 5 (g 1 0 0 + 1) (some (sq, .inr (4, [.int (iZ (0)), .null, .int (iZ (0)), .int (iZ (0)), .int (iZ (0)), .int (iZ (0)), .int (iZ (0)), .int (iZ (0)), .long (lZ (0))])))) 6 (g 1 0 0 + 1) (some (bq, aB dA (n) (fun _ => 0)))) 5 (g 1 0 0 + 1) (some (sq, .inr (4, [.int (iZ (g 1 0 0 + 1)), .ref bq, .int (iZ (0)), .int (iZ (0)), .int (iZ (1)), .int (iZ (0)), .int (iZ (0)), .int (iZ (0)), .long (lZ (9223372036854775807))])))) 0 0 = some (al 0 0, .inr (5, [.int (iZ (g 0 0 0)), .ref (al 1 0), .ref (al 1 1), .ref (al 3 0), .ref (al 4 0), .int (iZ (g 0 5 0)), .ref (al 11 0), .long (lZ (g 0 7 0)), .int (iZ (g 0 8 0)), .int (iZ (g 0 9 0)), .int (iZ (g 0 10 0)), .int (iZ (g 0 11 0)), .int (iZ (g 0 12 0)), .int (iZ (g 0 13 0))])) := (e2_k (by decide)).trans fX
              have fL0 : (e2 (e2 (e2 en 5 (g 1 0 0 + 1) (some (sq, .inr (4, [.int (iZ (0)), .null, .int (iZ (0)), .int (iZ (0)), .int (iZ (0)), .int (iZ (0)), .int (iZ (0)), .int (iZ (0)), .long (lZ (0))])))) 6 (g 1 0 0 + 1) (some (bq, aB dA (n) (fun _ => 0)))) 5 (g 1 0 0 + 1) (some (sq, .inr (4, [.int (iZ (g 1 0 0 + 1)), .ref bq, .int (iZ (0)), .int (iZ (0)), .int (iZ (1)), .int (iZ (0)), .int (iZ (0)), .int (iZ (0)), .long (lZ (9223372036854775807))])))) 1 0 = some (al 1 0, .inr (1, [.int (iZ (g 3 0 0)), .ref (al 2 0), .int (iZ (g 1 0 0))])) := (e2_k (by decide)).trans fL0
              have fL1 : (e2 (e2 (e2 en 5 (g 1 0 0 + 1) (some (sq, .inr (4, [.int (iZ (0)), .null, .int (iZ (0)), .int (iZ (0)), .int (iZ (0)), .int (iZ (0)), .int (iZ (0)), .int (iZ (0)), .long (lZ (0))])))) 6 (g 1 0 0 + 1) (some (bq, aB dA (n) (fun _ => 0)))) 5 (g 1 0 0 + 1) (some (sq, .inr (4, [.int (iZ (g 1 0 0 + 1)), .ref bq, .int (iZ (0)), .int (iZ (0)), .int (iZ (1)), .int (iZ (0)), .int (iZ (0)), .int (iZ (0)), .long (lZ (9223372036854775807))])))) 1 1 = some (al 1 1, .inr (1, [.int (iZ (g 3 1 0)), .ref (al 2 1), .int (iZ (g 1 1 0))])) := (e2_k (by decide)).trans fL1
              have fQ : (e2 (e2 (e2 en 5 (g 1 0 0 + 1) (some (sq, .inr (4, [.int (iZ (0)), .null, .int (iZ (0)), .int (iZ (0)), .int (iZ (0)), .int (iZ (0)), .int (iZ (0)), .int (iZ (0)), .long (lZ (0))])))) 6 (g 1 0 0 + 1) (some (bq, aB dA (n) (fun _ => 0)))) 5 (g 1 0 0 + 1) (some (sq, .inr (4, [.int (iZ (g 1 0 0 + 1)), .ref bq, .int (iZ (0)), .int (iZ (0)), .int (iZ (1)), .int (iZ (0)), .int (iZ (0)), .int (iZ (0)), .long (lZ (9223372036854775807))])))) 3 0 = some (al 3 0, aR dA (4) (fun j => some (al 9 j))) := (e2_k (by decide)).trans fQ
              have fC : (e2 (e2 (e2 en 5 (g 1 0 0 + 1) (some (sq, .inr (4, [.int (iZ (0)), .null, .int (iZ (0)), .int (iZ (0)), .int (iZ (0)), .int (iZ (0)), .int (iZ (0)), .int (iZ (0)), .long (lZ (0))])))) 6 (g 1 0 0 + 1) (some (bq, aB dA (n) (fun _ => 0)))) 5 (g 1 0 0 + 1) (some (sq, .inr (4, [.int (iZ (g 1 0 0 + 1)), .ref bq, .int (iZ (0)), .int (iZ (0)), .int (iZ (1)), .int (iZ (0)), .int (iZ (0)), .int (iZ (0)), .long (lZ (9223372036854775807))])))) 4 0 = some (al 4 0, aI dA (8) (fun j => g 2 j 0)) := (e2_k (by decide)).trans fC
              have fB : (e2 (e2 (e2 en 5 (g 1 0 0 + 1) (some (sq, .inr (4, [.int (iZ (0)), .null, .int (iZ (0)), .int (iZ (0)), .int (iZ (0)), .int (iZ (0)), .int (iZ (0)), .int (iZ (0)), .long (lZ (0))])))) 6 (g 1 0 0 + 1) (some (bq, aB dA (n) (fun _ => 0)))) 5 (g 1 0 0 + 1) (some (sq, .inr (4, [.int (iZ (g 1 0 0 + 1)), .ref bq, .int (iZ (0)), .int (iZ (0)), .int (iZ (1)), .int (iZ (0)), .int (iZ (0)), .int (iZ (0)), .long (lZ (9223372036854775807))])))) 6 (g 1 0 0 + 1) = some (bq, aB dA (n) (fun _ => 0)) := (e2_k (by decide)).trans fB
              have fN : (e2 (e2 (e2 en 5 (g 1 0 0 + 1) (some (sq, .inr (4, [.int (iZ (0)), .null, .int (iZ (0)), .int (iZ (0)), .int (iZ (0)), .int (iZ (0)), .int (iZ (0)), .int (iZ (0)), .long (lZ (0))])))) 6 (g 1 0 0 + 1) (some (bq, aB dA (n) (fun _ => 0)))) 5 (g 1 0 0 + 1) (some (sq, .inr (4, [.int (iZ (g 1 0 0 + 1)), .ref bq, .int (iZ (0)), .int (iZ (0)), .int (iZ (1)), .int (iZ (0)), .int (iZ (0)), .int (iZ (0)), .long (lZ (9223372036854775807))])))) 5 (g 1 0 0 + 1) = some (sq, .inr (4, [.int (iZ (g 1 0 0 + 1)), .ref bq, .int (iZ (0)), .int (iZ (0)), .int (iZ (1)), .int (iZ (0)), .int (iZ (0)), .int (iZ (0)), .long (lZ (9223372036854775807))])) := e2_s _ _ _ _
              refine va_calli (va_runV (As := [.ref sq]) (rest := []) ⟨hx, hb, hml, hown, hts⟩ (c_AL_add l D dA z (e2 (e2 (e2 en 5 (g 1 0 0 + 1) (some (sq, .inr (4, [.int (iZ (0)), .null, .int (iZ (0)), .int (iZ (0)), .int (iZ (0)), .int (iZ (0)), .int (iZ (0)), .int (iZ (0)), .long (lZ (0))])))) 6 (g 1 0 0 + 1) (some (bq, aB dA (n) (fun _ => 0)))) 5 (g 1 0 0 + 1) (some (sq, .inr (4, [.int (iZ (g 1 0 0 + 1)), .ref bq, .int (iZ (0)), .int (iZ (0)), .int (iZ (1)), .int (iZ (0)), .int (iZ (0)), .int (iZ (0)), .long (lZ (9223372036854775807))])))) 0 (al 1 0) (al 2 0) (g 3 0 0) (g 1 0 0) (g 4 0 0) (eA g al 0) (by omega) (by omega) (by omega) (fun j hj => eA_out hj) fL0 ((hE.2.2.2.1 0 (Or.inl rfl)).imp id (fun q => ⟨q.1, (e2_k (by decide)).trans ((e2_k (by decide)).trans ((e2_k (by decide)).trans (q.2)))⟩)) (fun j y hy => by obtain ⟨hj, rfl⟩ := eA_some hy; exact ⟨5, j + 1, 4, _, (e2_n (by omega)).trans ((e2_n (by omega)).trans ((e2_n (by omega)).trans (ec_S hE (m := j + 1) (by omega)))), Or.inr rfl, by decide, by decide⟩) sq 5 4 (g 1 0 0 + 1) [.int (iZ (g 1 0 0 + 1)), .ref bq, .int (iZ (0)), .int (iZ (0)), .int (iZ (1)), .int (iZ (0)), .int (iZ (0)), .int (iZ (0)), .long (lZ (9223372036854775807))] (Or.inr rfl) (by decide) (by decide) (by decide) fN) (cwV 1 hts gX3_send_Jx4a65c_add_9ea2d rfl rfl rfl (by decide +kernel) ⟨Nat.le_of_ble_eq_true rfl, Nat.le_of_ble_eq_true rfl⟩) ⟨gBl, gRecv hK hW (ci := 1) rfl fL0, gPre _ hg hS hW⟩ rfl rfl hl.1 rfl (lv_room (Nat.le_of_ble_eq_true rfl)) dX3_send_73 ⟨(show 0 + 0 + 0 + 1 + 1 + 0 + (if g 1 0 0 < g 4 0 0 then 0 else 1) ≤ 3 by omega), (show 0 + 0 + 0 + 9 + (n : Int).toNat + 0 + (if g 1 0 0 < g 4 0 0 then 0 else (lcap (g 4 0 0)).toNat) ≤ 10200 by omega)⟩) hS (fun _ _ h => h) (fun _ h => h) (fun r9 u9 t9 H locs ht9 hvm9 hw9 hB9 hz9 hk9 hS => ?_)
              obtain ⟨rfl, ⟨q9, hu1, hu2⟩, hu3⟩ := hw9
              have hW : Wd D (z 0) u9 H := by rw [← ht9]; exact hB9
              refine lv_pop hx hb dX3_send_76 rfl ?_
              refine lv_iload_n hx hb dX3_send_77 rfl (lv_at hl 0 rfl) ?_
              obtain ⟨gF, hgF⟩ : ∃ x : St, x = sPush g n := ⟨_, rfl⟩
              obtain ⟨alF, halF⟩ : ∃ x : Al, x = wa (wa (wa al 2 0 q9) 5 (g 1 0 0 + 1) sq) 6 (g 1 0 0 + 1) bq := ⟨_, rfl⟩
              have hc1 : gF 1 0 0 = g 1 0 0 + 1 := by rw [hgF]; simp [sPush, lGrow, wr, wR]
              have hc4 : gF 4 0 0 = (if g 1 0 0 < g 4 0 0 then g 4 0 0 else lcap (g 4 0 0)) := by rw [hgF]; simp [sPush, lGrow, wr, wR]
              have ha5 : alF 5 (g 1 0 0 + 1) = sq := by rw [halF]; simp [wa]
              have ha6 : alF 6 (g 1 0 0 + 1) = bq := by rw [halF]; simp [wa]
              have ha2 : alF 2 0 = q9 := by rw [halF]; simp [wa]
              have haO : ∀ (k : Nat) (i : Int), ¬ ((k = 2 ∧ i = 0) ∨ ((k = 5 ∨ k = 6) ∧ i = g 1 0 0 + 1)) → alF k i = al k i := fun k i h => by rw [halF, wa_n (by omega), wa_n (by omega), wa_n (by omega)]
              have h11 : gF 11 (g 1 0 0 + 1) 0 = n := by rw [hgF]; simp [sPush, lGrow, wr, wR]
              have h19 : gF 19 (g 1 0 0 + 1) = fun _ => 0 := by rw [hgF]; funext j; simp [sPush, lGrow, wr, wR]
              have hlp := lc_pos (cap := g 4 0 0) (by omega)
              have h10 : 10 ≤ gF 4 0 0 := by rw [hc4]; rcases ec_cap0 hE with q | q <;> (split <;> first | omega | (unfold lcap; split <;> omega))
              have heA : uF (eA g al 0) (g 1 0 0) (some sq) = eA gF alF 0 := eA_push (li := 0) rfl (by omega) hc1 ha5 (fun j hj => haO 5 j (by omega))
              have hgz : ∀ (t : Nat) (i j : Int), ¬ (((t = 1 ∨ t = 3 ∨ t = 4) ∧ i = 0) ∨ (11 ≤ t ∧ t ≤ 19 ∧ i = g 1 0 0 + 1)) → gF t i j = g t i j := by
                intro t i j h
                rw [hgF]
                simp only [sPush, lGrow]
                rw [wR_n (by omega)]
                repeat rw [wr_n (by omega)]
              have hez : ∀ (k : Nat) (i : Int), ¬ (((k = 1 ∨ k = 2) ∧ i = 0) ∨ (k = 5 ∧ i = g 1 0 0 + 1) ∨ (k = 6 ∧ i = g 1 0 0 + 1) ∨ k = 99) → u9 k i = en k i := by
                intro k i h
                rw [hu3 k i (by omega) (by omega) (by omega)]
                exact (e2_n (by omega)).trans ((e2_n (by omega)).trans ((e2_n (by omega)).trans (rfl)))
              have hEF : EC dA z gF alF u9 := by
                refine ec_ns hE (n := g 1 0 0) rfl (by omega) hgz haO hez hc1 ?_ ⟨h10, ?_⟩ ?_ ?_
                · show u9 1 0 = some (al 1 0, .inr (1, [.int (iZ (gF 3 0 0)), .ref (alF 2 0), .int (iZ (gF 1 0 0))]))
                  rw [hu1, hc1, ha2, hgF]; simp [sPush, lGrow, wr, wR]
                · rw [hu2, ha2, hc4, heA]
                · rw [hu3 5 _ (by omega) (by omega) (by omega), fN, ha5]; simp only [eS]; rw [ha6, hgF]; simp [sPush, lGrow, wr, wR]
                · rw [hu3 6 _ (by omega) (by omega) (by omega), fB, ha6, h19, h11]
              have hFRF : FR en u9 := fun k i h1 h2 => by rw [hu3 k i h2 (by omega) (by omega)]; exact (e2_n (by omega)).trans ((e2_n (by omega)).trans ((e2_n (by omega)).trans (rfl)))
              have hn1 : gF 1 1 0 = g 1 1 0 := hgz 1 1 0 (by omega)
              have hn4 : gF 4 1 0 = g 4 1 0 := hgz 4 1 0 (by omega)
              have hASF : AS g gF al alF := ⟨⟨by omega, by omega, by omega⟩, fun k i h => haO k i (by omega)⟩
              rw [hgF, ← hgoal] at hEF hASF
              refine W.widen (k := 3) (n := 10200) (show 0 + 0 + 0 + 1 + 1 + 0 + (if g 1 0 0 < g 4 0 0 then 0 else 1) ≤ 3 by omega) (show 0 + 0 + 0 + 9 + (n : Int).toNat + 0 + (if g 1 0 0 < g 4 0 0 then 0 else (lcap (g 4 0 0)).toNat) ≤ 10200 by omega) ?_
              exact W.iret hx hb hr (fun t ht hw => ⟨⟨_, (u9, alF), rfl, ⟨congrArg iZ ((if_neg (by omega)).trans ((if_neg (by omega)).trans (if_neg (by omega)))).symm, hEF, hFRF, hASF⟩, by show Wd _ _ _ t.heap; rw [ht]; exact hW⟩, hS.F ht⟩) hS.2.2 dX3_send_78
            · refine z_iconst hx hb dX3_send_46 ?_
              refine W.widen (k := 3) (n := 10200) (show 0 + 0 ≤ 3 by omega) (show 0 + 0 ≤ 10200 by omega) ?_
              have hFRz := FR.rf en
              have hASz := AS.rf g al
              have hgz : g = sSend g n := by exact ((if_neg (by omega)).trans ((if_neg (by omega)).trans (if_pos (by omega)))).symm
              have hEz := hgz ▸ hE
              exact W.iret hx hb hr (fun t ht hw => ⟨⟨_, (en, al), rfl, ⟨congrArg iZ ((if_neg (by omega)).trans ((if_neg (by omega)).trans (if_pos (by omega)))).symm, hgz ▸ hE, hFRz, hgz ▸ hASz⟩, by show Wd _ _ _ t.heap; rw [ht]; exact hW⟩, hS.F ht⟩) hS.2.2 dX3_send_47
      · refine z_bipush hx hb dX3_send_26 (by decide) ?_
        refine W.widen (k := 3) (n := 10200) (show 0 + 0 ≤ 3 by omega) (show 0 + 0 ≤ 10200 by omega) ?_
        have hFRz := FR.rf en
        have hASz := AS.rf g al
        have hgz : g = sSend g n := by exact ((if_neg (by omega)).trans (if_pos (by omega))).symm
        have hEz := hgz ▸ hE
        exact W.iret hx hb hr (fun t ht hw => ⟨⟨_, (en, al), rfl, ⟨congrArg iZ ((if_neg (by omega)).trans (if_pos (by omega))).symm, hgz ▸ hE, hFRz, hgz ▸ hASz⟩, by show Wd _ _ _ t.heap; rw [ht]; exact hW⟩, hS.F ht⟩) hS.2.2 dX3_send_28
    · refine z_bipush hx hb dX3_send_11 (by decide) ?_
      refine W.widen (k := 3) (n := 10200) (show 0 ≤ 3 by omega) (show 0 ≤ 10200 by omega) ?_
      have hFRz := FR.rf en
      have hASz := AS.rf g al
      have hgz : g = sSend g n := by exact (if_pos (by omega)).symm
      have hEz := hgz ▸ hE
      exact W.iret hx hb hr (fun t ht hw => ⟨⟨_, (en, al), rfl, ⟨congrArg iZ (if_pos (by omega)).symm, hgz ▸ hE, hFRz, hgz ▸ hASz⟩, by show Wd _ _ _ t.heap; rw [ht]; exact hW⟩, hS.F ht⟩) hS.2.2 dX3_send_13
