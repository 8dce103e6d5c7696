def sRecv (g : St) (f : Int) : St := if 1 ≤ f ∧ f ≤ g 1 1 0 then (if g 27 f 0 = 0 then g else if g 20 f 0 = 3 then sRcS (wr g 27 f 0) f else sRR (wr g 27 f 0) f) else g
def aRecv (g : St) (f : Int) : Int := if 1 ≤ f ∧ f ≤ g 1 1 0 then (if g 27 f 0 = 0 then -3 else if g 20 f 0 = 3 then sRcS (wr g 27 f 0) f 12 (g 21 f 0) 0 else aRR (wr g 27 f 0) f) else -1
def sLose (g : St) (f : Int) : St := if (1 ≤ f ∧ f ≤ g 1 1 0) ∧ g 27 f 0 ≠ 0 then wr g 27 f 0 else g
def aLose (g : St) (f : Int) : Int := if (1 ≤ f ∧ f ≤ g 1 1 0) ∧ g 27 f 0 ≠ 0 then 1 else 0
def pFlw (b s k : Int) : Prop := (0 ≤ b ∧ b ≤ 255) ∧ (0 ≤ s ∧ s ≤ 255) ∧ (0 ≤ k ∧ k ≤ 2)
def sFlw (g : St) (b s k : Int) : St := if (0 ≤ b ∧ b ≤ 255) ∧ (0 ≤ s ∧ s ≤ 255) ∧ (0 ≤ k ∧ k ≤ 2) then wr (wr (wr g 0 10 b) 0 11 s) 0 9 k else g
def aFlw (b s k : Int) : Int := if (0 ≤ b ∧ b ≤ 255) ∧ (0 ≤ s ∧ s ≤ 255) ∧ (0 ≤ k ∧ k ≤ 2) then 1 else -2
def aEnd (g : St) (n : Int) : Int := if 0 ≤ n ∧ n < 8 then g 2 n 0 else -2
def sWai (g : St) (n : Int) : St := if 0 ≤ n ∧ n ≤ 100 then wr g 0 12 n else g
def aWai (g : St) (n : Int) : Int := if 0 ≤ n ∧ n ≤ 100 then g 0 12 0 else -2
def sOct (g : St) (m i b : Int) : St := if (1 ≤ m ∧ m ≤ g 1 0 0) ∧ 0 ≤ i ∧ i < g 11 m 0 then wR g 19 m (uF (g 19 m) i b) else g
def aFrm (g : St) (i w : Int) : Int := if i = 0 ∧ w = 0 then g 1 1 0 else if 1 ≤ i ∧ i ≤ g 1 1 0 then (if 8 ≤ w ∧ w ≤ 14 then (if 0 ≤ w - 8 ∧ w - 8 < g 26 i 0 then g 28 i (w - 8) % 256 else 0) else if w = 0 then g 20 i 0 else if w = 1 then g 21 i 0 else if w = 2 then g 22 i 0 else if w = 3 then g 23 i 0 else if w = 4 then g 25 i 0 else if w = 5 then g 24 i 0 else -2) else -1
def sPush (g : St) (n : Int) : St := wR (wr (wr (wr (wr (wr (wr (wr (wr (lGrow g 0) 11 (g 1 0 0 + 1) n) 12 (g 1 0 0 + 1) 0) 13 (g 1 0 0 + 1) 0) 14 (g 1 0 0 + 1) 1) 15 (g 1 0 0 + 1) 0) 16 (g 1 0 0 + 1) 0) 17 (g 1 0 0 + 1) 0) 18 (g 1 0 0 + 1) 9223372036854775807) 19 (g 1 0 0 + 1) (fun _ => 0)
def sSend (g : St) (n : Int) : St := if n < 0 ∨ 10000 < n then g else if 100 ≤ g 1 0 0 then g else if n = 0 ∨ (g 0 13 0 ≠ 0 ∧ 7 < n) then g else sPush g n
def aSend (g : St) (n : Int) : Int := if n < 0 ∨ 10000 < n then -2 else if 100 ≤ g 1 0 0 then -4 else if n = 0 ∨ (g 0 13 0 ≠ 0 ∧ 7 < n) then 0 else g 1 0 0 + 1
theorem ib_ow {g : St} (h : IB g) {f : Int} (h1 : 1 ≤ f) (h2 : f ≤ g 1 1 0) : IB (wr g 27 f 0) := by
  have q := h.2.2.2.1 f h1 h2
  refine ib_f (f := f) h (fun t i j w => wr_n (by omega)) ?_
  unfold IF at q ⊢
  have e28 : ∀ j : Int, wr g 27 f 0 28 f j = g 28 f j := fun j => wr_n (by omega)
  refine ⟨q.1, q.2.1, q.2.2.1, q.2.2.2.1, q.2.2.2.2.1, q.2.2.2.2.2.1, Or.inl (wr_s _ _ _ _), q.2.2.2.2.2.2.2.1, q.2.2.2.2.2.2.2.2.1, fun j => by rw [e28]; exact q.2.2.2.2.2.2.2.2.2 j⟩
theorem mp_o {g g' : St} (h : ∀ (t : Nat) (i : Int), t = 1 ∨ t = 4 → i ≠ 2 → g' t i 0 = g t i 0) : Mp g g' := ⟨h 1 0 (by omega) (by omega), by rw [h 1 1 (by omega) (by omega)]; exact Int.le_refl _, by rw [h 4 1 (by omega) (by omega)]; exact Int.le_refl _⟩
theorem mp_wh {g : St} {r ln : Int} {F : Int → Int} : Mp g (sWh g r ln F) := mp_o (fun t i h1 h2 => by unfold sWh rRest sCnt sGt; rw [wr_n (by omega), wr_n (by omega), wr_n (by omega), wr_n (by omega), wR_n (by omega), wr_n (by omega)])
theorem mo_tc {g : St} (h : IB g) {r f : Int} : Mp g (sTC g r f) := by
  unfold sTC
  have m1 : Mp g (sTC1 g r f) := mp_o (fun t i h1 h2 => by unfold sTC1 sTake sSq; rw [wR_n (by omega), wr_n (by omega), wr_n (by omega), wr_n (by omega), wr_n (by omega)])
  split
  · split
    · exact m1.tr mp_wh
    · have m2 : Mp (sTC1 g r f) (sTC2 (sTC1 g r f) r) := mp_o (fun t i h1 h2 => by unfold sTC2; rw [wr_n (by omega)])
      refine (m1.tr m2).tr ?_
      unfold sTC3
      split
      · exact Mp.rf _
      · split
        · have e : ∀ (t : Nat) (i j : Int), t < 5 → sTC2 (sTC1 g r f) r t i j = g t i j := fun t i j ht => by
            unfold sTC2 sTC1 sTake sSq
            rw [wr_n (by omega), wR_n (by omega), wr_n (by omega), wr_n (by omega), wr_n (by omega), wr_n (by omega)]
          refine (mo_an ?_).p
          have hl := h.2.1
          unfold IL at hl ⊢
          rw [e 1 0 0 (by decide), e 1 1 0 (by decide), e 4 0 0 (by decide), e 4 1 0 (by decide)]
          exact hl
        · exact Mp.rf _
  · exact mo_er.p
theorem mo_rr {g : St} (h : IB g) {f : Int} : Mp g (sRR g f) := by
  have m6 : Mp g (sE6 g (g 21 f 0 % 4)) := by
    unfold sE6
    split
    · exact mo_er.p
    · exact Mp.rf _
  have i6 : IB (sE6 g (g 21 f 0 % 4)) := by
    unfold sE6
    split
    · exact ib_er h 6 (by omega) (by omega)
    · exact h
  unfold sRR
  split
  · split
    · exact mo_tc h
    · exact Mp.rf _
  · split
    · exact m6.tr mp_wh
    · exact m6.tr (mo_tf i6)
theorem kC_rcs {g : St} {f : Int} : kC (sRcS g f) = kC g := by
  unfold sRcS sTkF sTkW
  split
  · split
    · rfl
    · split
      · split <;> rfl
      · rfl
  · rfl
theorem kS_rcs {g : St} {f : Int} : kS (sRcS g f) = kS g := by
  unfold sRcS sTkF sTkW
  split
  · split
    · rfl
    · split
      · split <;> rfl
      · rfl
  · rfl
set_option maxHeartbeats 4000000 in
set_option maxRecDepth 100000 in
theorem c_X3_receive (l : Launch) (D : va_G) (dA : Nat → ClassId) (z : Nat → Nat) (en : en_T) (g : St) (al : Al) (ff : Int) (hff : iB ff) (hcs : 1 ≤ ff ∧ ff ≤ g 1 1 0 ∧ g 27 ff 0 = 1 → g 20 ff 0 = 2 → g 30 (g 21 ff 0 % 4) 0 = 1 → g 31 (g 21 ff 0 % 4) 0 = g 21 ff 0 → g 33 (g 21 ff 0 % 4) 0 + g 26 ff 0 ≤ g 32 (g 21 ff 0 % 4) 0) (hfs : 1 ≤ ff ∧ ff ≤ g 1 1 0 ∧ g 27 ff 0 = 1 → g 20 ff 0 = 1 → 1 ≤ g 22 ff 0 ∧ g 26 ff 0 ≤ g 22 ff 0) (hj : JB g) (hE : EC dA z g al en) (hI : IB g) : Met l yX3_receive wsX3_receive ({ frames := 11, cells := kC (sRecv g ff) - kC g + 1, slots := kS (sRecv g ff) - kS g + 10000, locals := 275 }) (gP D dA z en [.ref (al 0 0), .int (iZ (ff))]) (va_Qi (fun (r8 : Int32) (u : en_T × Al) => r8 = iZ (aRecv g ff) ∧ CP dA z (sRecv g ff) g al en u) (fun u t9 => Wd D (z 0) u.1 t9.heap) (fun q => z 0 ≤ q)) (kC (sRecv g ff) - kC g + 1) (kS (sRecv g ff) - kS g + 10000) (fun q => z 0 ≤ q) := by
  refine gMet (own := RX3) (cc := cX3_receive) (maxL := 3) (ret := (some .int)) (by decide) rfl rfl (Nat.le_of_ble_eq_true rfl) ?_
  intro p e s m below meth c hx hb hml hown hts hr hlocks hnm hg hW ls hl
  have hK := hg.1
  have hS : va_S (fun q => z 0 ≤ q) s.heap s.heap [] := va_S.rf
  have hi2 : ∀ w ∈ u_ws RX0 TX0 8, w ∈ wsX3_receive := by decide +kernel
  have hl : lv_has ls 3 [(0, .ref (al 0 0)), (1, .int (iZ (ff)))] := hl
  obtain ⟨hIX, hIL, hIS, hIF, hIR, hIG⟩ := id hI
  unfold IL at hIL
  unfold IX at hIX
  have fX : en 0 0 = some (al 0 0, .inr (5, [.int (iZ (g 0 0 0)), .ref (al 1 0), .ref (al 1 1), .ref (al 3 0), .ref (al 4 0), .int (iZ (g 0 5 0)), .ref (al 11 0), .long (lZ (g 0 7 0)), .int (iZ (g 0 8 0)), .int (iZ (g 0 9 0)), .int (iZ (g 0 10 0)), .int (iZ (g 0 11 0)), .int (iZ (g 0 12 0)), .int (iZ (g 0 13 0))])) := ec_X hE
  have fL0 : en 1 0 = some (al 1 0, .inr (1, [.int (iZ (g 3 0 0)), .ref (al 2 0), .int (iZ (g 1 0 0))])) := ec_L0 hE
  have fL1 : en 1 1 = some (al 1 1, .inr (1, [.int (iZ (g 3 1 0)), .ref (al 2 1), .int (iZ (g 1 1 0))])) := ec_L1 hE
  have fQ : en 3 0 = some (al 3 0, aR dA (4) (fun j => some (al 9 j))) := ec_Q hE
  have fC : en 4 0 = some (al 4 0, aI dA (8) (fun j => g 2 j 0)) := ec_C hE
  refine lv_aload_n hx hb dX3_receive_0 rfl (lv_at hl 0 rfl) ?_
  refine lv_iload_n hx hb dX3_receive_1 rfl (lv_at hl 1 rfl) ?_
  refine va_callq (va_runV (As := [.int (iZ (ff))]) (rest := []) ⟨hx, hb, hml, hown, hts⟩ (c_X3_findFrame l D dA z en g al ff (by omega) hE hI) (cwV 1 hts gX3_receive_X3_findFrame rfl rfl rfl (by decide +kernel) ⟨Nat.le_of_ble_eq_true rfl, Nat.le_of_ble_eq_true rfl⟩) ⟨gBl, gRecv hK hW (ci := 5) rfl fX, gPre _ hg hS hW⟩ rfl rfl hl.1 rfl (lv_room (Nat.le_of_ble_eq_true rfl)) dX3_receive_2 ⟨(show 0 + 0 ≤ kC (sRecv g ff) - kC g + 1 by omega), (show 0 + 0 ≤ kS (sRecv g ff) - kS g + 10000 by omega)⟩) hS (fun _ _ h => h) (fun _ h => h) (fun r9 u9 t9 H locs ht9 hvm9 hw9 hB9 hz9 hk9 hS => ?_)
  have hW : Wd D (z 0) en H := by rw [← ht9]; exact hB9
  by_cases hq : 1 ≤ ff ∧ ff ≤ g 1 1 0
  · rw [if_pos hq] at hw9
    subst hw9
    refine W.eq (g2 := F0 m 5 ls [.ref (al 7 ff)]) rfl ?_
    have fX : en 0 0 = some (al 0 0, .inr (5, [.int (iZ (g 0 0 0)), .ref (al 1 0), .ref (al 1 1), .ref (al 3 0), .ref (al 4 0), .int (iZ (g 0 5 0)), .ref (al 11 0), .long (lZ (g 0 7 0)), .int (iZ (g 0 8 0)), .int (iZ (g 0 9 0)), .int (iZ (g 0 10 0)), .int (iZ (g 0 11 0)), .int (iZ (g 0 12 0)), .int (iZ (g 0 13 0))])) := ec_X hE
    have fL0 : en 1 0 = some (al 1 0, .inr (1, [.int (iZ (g 3 0 0)), .ref (al 2 0), .int (iZ (g 1 0 0))])) := ec_L0 hE
    have fL1 : en 1 1 = some (al 1 1, .inr (1, [.int (iZ (g 3 1 0)), .ref (al 2 1), .int (iZ (g 1 1 0))])) := ec_L1 hE
    have fQ : en 3 0 = some (al 3 0, aR dA (4) (fun j => some (al 9 j))) := ec_Q hE
    have fC : en 4 0 = some (al 4 0, aI dA (8) (fun j => g 2 j 0)) := ec_C hE
    have fF : en 7 ff = some (al 7 ff, .inr (2, [.int (iZ (g 20 ff 0)), .int (iZ (g 21 ff 0)), .int (iZ (g 22 ff 0)), .int (iZ (g 23 ff 0)), .int (iZ (g 24 ff 0)), .long (lZ (g 25 ff 0)), .ref (al 8 ff), .int (iZ (g 27 ff 0))])) := ec_F hE (by omega)
    have fFO : bA dA z en 8 ff (al 8 ff) (g 26 ff 0) (g 28 ff) := ec_FO hE (by omega)
    refine lv_astore_n (lv' := [(2, .ref (al 7 ff)), (0, .ref (al 0 0)), (1, .int (iZ (ff)))]) hx hb dX3_receive_5 rfl hl (by decide) rfl (fun ls hl => ?_)
    refine lv_aload_n hx hb dX3_receive_6 rfl (lv_at hl 0 rfl) ?_
    refine lv_ifnonnull (tgt := 12) hx hb dX3_receive_7 (by decide) ?_
    refine lv_aload_n hx hb dX3_receive_12 rfl (lv_at hl 0 rfl) ?_
    have hIFf := hIF ff (by omega) (by omega)
    unfold IF at hIFf
    refine g_get (C := RX0) (T := TX0) (N := 8) (ci := 2) (v := .int (iZ (g 27 ff 0))) hx hb hts hi2 hown hK hW fF rfl 7 (by decide) (hts (.fieldLink RX3 100 "LongTransfer$Frame" "onItsWay" "Z") (by decide +kernel)) (fun _ h9 => h9) rfl dX3_receive_13 ?_
    refine z_if_ne (tgt := 22) hx hb dX3_receive_16 (by decide) (by omega) (fun c_16 => ?_) (fun c_16 => ?_)
    · refine lv_aload_n hx hb dX3_receive_22 rfl (lv_at hl 0 rfl) ?_
      refine z_iconst hx hb dX3_receive_23 ?_
      refine g_put (C := RX0) (T := TX0) (N := 8) (ci := 2) (ty := .boolean) (v := .int (iZ (0))) (fs' := [.int (iZ (g 20 ff 0)), .int (iZ (g 21 ff 0)), .int (iZ (g 22 ff 0)), .int (iZ (g 23 ff 0)), .int (iZ (g 24 ff 0)), .long (lZ (g 25 ff 0)), .ref (al 8 ff), .int (iZ (0))]) hx hb hts hi2 tyX0 tyX0_ok nmX0 hown hK hW hS fF rfl 7 (by decide) (hts (.fieldLink RX3 100 "LongTransfer$Frame" "onItsWay" "Z") (by decide +kernel)) (fun _ h9 => h9) rfl (by decide +kernel) (by decide) (by decide) (Nat.le_of_ble_eq_true rfl) dX3_receive_24 rfl (fun H locs hW hS => ?_)
      have fX : (e2 en 7 ff (some (al 7 ff, .inr (2, [.int (iZ (g 20 ff 0)), .int (iZ (g 21 ff 0)), .int (iZ (g 22 ff 0)), .int (iZ (g 23 ff 0)), .int (iZ (g 24 ff 0)), .long (lZ (g 25 ff 0)), .ref (al 8 ff), .int (iZ (0))])))) 0 0 = some (al 0 0, .inr (5, [.int (iZ (g 0 0 0)), .ref (al 1 0), .ref (al 1 1), .ref (al 3 0), .ref (al 4 0), .int (iZ (g 0 5 0)), .ref (al 11 0), .long (lZ (g 0 7 0)), .int (iZ (g 0 8 0)), .int (iZ (g 0 9 0)), .int (iZ (g 0 10 0)), .int (iZ (g 0 11 0)), .int (iZ (g 0 12 0)), .int (iZ (g 0 13 0))])) := (e2_k (by decide)).trans fX
      have fL0 : (e2 en 7 ff (some (al 7 ff, .inr (2, [.int (iZ (g 20 ff 0)), .int (iZ (g 21 ff 0)), .int (iZ (g 22 ff 0)), .int (iZ (g 23 ff 0)), .int (iZ (g 24 ff 0)), .long (lZ (g 25 ff 0)), .ref (al 8 ff), .int (iZ (0))])))) 1 0 = some (al 1 0, .inr (1, [.int (iZ (g 3 0 0)), .ref (al 2 0), .int (iZ (g 1 0 0))])) := (e2_k (by decide)).trans fL0
      have fL1 : (e2 en 7 ff (some (al 7 ff, .inr (2, [.int (iZ (g 20 ff 0)), .int (iZ (g 21 ff 0)), .int (iZ (g 22 ff 0)), .int (iZ (g 23 ff 0)), .int (iZ (g 24 ff 0)), .long (lZ (g 25 ff 0)), .ref (al 8 ff), .int (iZ (0))])))) 1 1 = some (al 1 1, .inr (1, [.int (iZ (g 3 1 0)), .ref (al 2 1), .int (iZ (g 1 1 0))])) := (e2_k (by decide)).trans fL1
      have fQ : (e2 en 7 ff (some (al 7 ff, .inr (2, [.int (iZ (g 20 ff 0)), .int (iZ (g 21 ff 0)), .int (iZ (g 22 ff 0)), .int (iZ (g 23 ff 0)), .int (iZ (g 24 ff 0)), .long (lZ (g 25 ff 0)), .ref (al 8 ff), .int (iZ (0))])))) 3 0 = some (al 3 0, aR dA (4) (fun j => some (al 9 j))) := (e2_k (by decide)).trans fQ
      have fC : (e2 en 7 ff (some (al 7 ff, .inr (2, [.int (iZ (g 20 ff 0)), .int (iZ (g 21 ff 0)), .int (iZ (g 22 ff 0)), .int (iZ (g 23 ff 0)), .int (iZ (g 24 ff 0)), .long (lZ (g 25 ff 0)), .ref (al 8 ff), .int (iZ (0))])))) 4 0 = some (al 4 0, aI dA (8) (fun j => g 2 j 0)) := (e2_k (by decide)).trans fC
      have fFO : bA dA z (e2 en 7 ff (some (al 7 ff, .inr (2, [.int (iZ (g 20 ff 0)), .int (iZ (g 21 ff 0)), .int (iZ (g 22 ff 0)), .int (iZ (g 23 ff 0)), .int (iZ (g 24 ff 0)), .long (lZ (g 25 ff 0)), .ref (al 8 ff), .int (iZ (0))])))) 8 ff (al 8 ff) (g 26 ff 0) (g 28 ff) := bA_k (by decide) fFO
      have fF : (e2 en 7 ff (some (al 7 ff, .inr (2, [.int (iZ (g 20 ff 0)), .int (iZ (g 21 ff 0)), .int (iZ (g 22 ff 0)), .int (iZ (g 23 ff 0)), .int (iZ (g 24 ff 0)), .long (lZ (g 25 ff 0)), .ref (al 8 ff), .int (iZ (0))])))) 7 ff = some (al 7 ff, .inr (2, [.int (iZ (g 20 ff 0)), .int (iZ (g 21 ff 0)), .int (iZ (g 22 ff 0)), .int (iZ (g 23 ff 0)), .int (iZ (g 24 ff 0)), .long (lZ (g 25 ff 0)), .ref (al 8 ff), .int (iZ (0))])) := e2_s _ _ _ _
      obtain ⟨en1v, hen1v⟩ : ∃ x : en_T, x = (e2 en 7 ff (some (al 7 ff, .inr (2, [.int (iZ (g 20 ff 0)), .int (iZ (g 21 ff 0)), .int (iZ (g 22 ff 0)), .int (iZ (g 23 ff 0)), .int (iZ (g 24 ff 0)), .long (lZ (g 25 ff 0)), .ref (al 8 ff), .int (iZ (0))])))) := ⟨_, rfl⟩
      rw [← hen1v] at hW
      obtain ⟨g1v, hg1v⟩ : ∃ x : St, x = wr g 27 ff 0 := ⟨_, rfl⟩
      have hE1v : EC dA z g1v al en1v := ec_f hE (f0 := ff) (by omega) (fun t i j h => by rw [hg1v]; repeat rw [wr_n (by omega)]) (fun _ _ _ => rfl) (fun k i h => by rw [hen1v]; exact e2_n (by omega)) (by rw [hen1v, hg1v]; refine (e2_s _ _ _ _).trans ?_; simp [wr])
      have hFR1v : FR en en1v := fun k i h1 h2 => by rw [hen1v]; exact e2_n (by omega)
      have hAS1v : AS g g1v al al := AS_e (by rw [hg1v]; rfl) (by rw [hg1v]; rfl) (by rw [hg1v]; rfl)
      have hN1v := hAS1v.1
      have fX : en1v 0 0 = some (al 0 0, .inr (5, [.int (iZ (g1v 0 0 0)), .ref (al 1 0), .ref (al 1 1), .ref (al 3 0), .ref (al 4 0), .int (iZ (g1v 0 5 0)), .ref (al 11 0), .long (lZ (g1v 0 7 0)), .int (iZ (g1v 0 8 0)), .int (iZ (g1v 0 9 0)), .int (iZ (g1v 0 10 0)), .int (iZ (g1v 0 11 0)), .int (iZ (g1v 0 12 0)), .int (iZ (g1v 0 13 0))])) := ec_X hE1v
      have fL0 : en1v 1 0 = some (al 1 0, .inr (1, [.int (iZ (g1v 3 0 0)), .ref (al 2 0), .int (iZ (g1v 1 0 0))])) := ec_L0 hE1v
      have fL1 : en1v 1 1 = some (al 1 1, .inr (1, [.int (iZ (g1v 3 1 0)), .ref (al 2 1), .int (iZ (g1v 1 1 0))])) := ec_L1 hE1v
      have fQ : en1v 3 0 = some (al 3 0, aR dA (4) (fun j => some (al 9 j))) := ec_Q hE1v
      have fC : en1v 4 0 = some (al 4 0, aI dA (8) (fun j => g1v 2 j 0)) := ec_C hE1v
      have fF : en1v 7 ff = some (al 7 ff, .inr (2, [.int (iZ (g1v 20 ff 0)), .int (iZ (g1v 21 ff 0)), .int (iZ (g1v 22 ff 0)), .int (iZ (g1v 23 ff 0)), .int (iZ (g1v 24 ff 0)), .long (lZ (g1v 25 ff 0)), .ref (al 8 ff), .int (iZ (g1v 27 ff 0))])) := ec_F hE1v (by omega)
      have fFO : bA dA z en1v 8 ff (al 8 ff) (g1v 26 ff 0) (g1v 28 ff) := ec_FO hE1v (by omega)
      have ew : ∀ (t : Nat) (i j : Int), t ≠ 27 → g1v t i j = g t i j := fun t i j ht => by rw [hg1v]; exact wr_n (by omega)
      have hI1 : IB g1v := by rw [hg1v]; exact ib_ow hI (by omega) (by omega)
      have hj1 : JB g1v := jb_o hj (fun t i w => ew t i 0 (by omega))
      have hg1 : sRecv g ff = if g 20 ff 0 = 3 then sRcS g1v ff else sRR g1v ff := by unfold sRecv; rw [if_pos hq, if_neg (by omega), hg1v]
      have hF1 := hI1.2.2.2.1 ff (by omega) (by rw [ew 1 1 0 (by decide)]; omega)
      unfold IF at hF1
      have e20 := ew 20 ff 0 (by decide)
      have e21 := ew 21 ff 0 (by decide)
      have e11 := ew 1 1 0 (by decide)
      have e10 := ew 1 0 0 (by decide)
      have ekc : kC g1v = kC g := by rw [hg1v]; rfl
      have eks : kS g1v = kS g := by rw [hg1v]; rfl
      refine lv_aload_n hx hb dX3_receive_27 rfl (lv_at hl 0 rfl) ?_
      refine g_get (C := RX0) (T := TX0) (N := 8) (ci := 2) (v := .int (iZ (g1v 20 ff 0))) hx hb hts hi2 hown hK hW fF rfl 0 (by decide) (hts (.fieldLink RX3 82 "LongTransfer$Frame" "kind" "I") (by decide +kernel)) (fun _ h9 => h9) rfl dX3_receive_28 ?_
      refine z_iconst hx hb dX3_receive_31 ?_
      refine z_icmp_ne (tgt := 43) hx hb dX3_receive_32 (by decide) (by omega) (by omega) (fun c_32 => ?_) (fun c_32 => ?_)
      · refine lv_aload_n hx hb dX3_receive_43 rfl (lv_at hl 1 rfl) ?_
        refine lv_aload_n hx hb dX3_receive_44 rfl (lv_at hl 0 rfl) ?_
        rw [if_neg (by omega)] at hg1
        have hkc : kC (sRecv g ff) = kC (sRR g1v ff) := by rw [hg1]
        have hks : kS (sRecv g ff) = kS (sRR g1v ff) := by rw [hg1]
        have hcs1 : g1v 20 ff 0 = 2 → g1v 30 (g1v 21 ff 0 % 4) 0 = 1 → g1v 31 (g1v 21 ff 0 % 4) 0 = g1v 21 ff 0 → g1v 33 (g1v 21 ff 0 % 4) 0 + g1v 26 ff 0 ≤ g1v 32 (g1v 21 ff 0 % 4) 0 := by rw [e20, e21, ew 30 _ _ (by decide), ew 31 _ _ (by decide), ew 33 _ _ (by decide), ew 26 _ _ (by decide), ew 32 _ _ (by decide)]; exact hcs (by omega)
        have hfs1 : g1v 20 ff 0 = 1 → 1 ≤ g1v 22 ff 0 ∧ g1v 26 ff 0 ≤ g1v 22 ff 0 := by rw [e20, ew 22 _ _ (by decide), ew 26 _ _ (by decide)]; exact hfs (by omega)
        have hMr := mo_rr hI1 (f := ff)
        have q1 := mp_kC hMr
        have q2 := mp_kS hMr
        refine va_calli (va_runV (As := [.ref (al 7 ff)]) (rest := []) ⟨hx, hb, hml, hown, hts⟩ (c_X3_reachReceiver l D dA z en1v g1v al ff (by omega) (by omega) (by omega) hcs1 hfs1 hj1 hE1v hI1) (cwV 1 hts gX3_receive_X3_reachReceiver rfl rfl rfl (by decide +kernel) ⟨Nat.le_of_ble_eq_true rfl, Nat.le_of_ble_eq_true rfl⟩) ⟨gBl, gRecv hK hW (ci := 5) rfl fX, gPre _ hg hS hW⟩ rfl rfl hl.1 rfl (lv_room (Nat.le_of_ble_eq_true rfl)) dX3_receive_45 ⟨(show 0 + 0 + (kC (sRR g1v ff) - kC g1v + 1) ≤ kC (sRecv g ff) - kC g + 1 by omega), (show 0 + 0 + (kS (sRR g1v ff) - kS g1v + 10000) ≤ kS (sRecv g ff) - kS g + 10000 by omega)⟩) hS (fun _ _ h => h) (fun _ h => h) (fun r9 u9 t9 H locs ht9 hvm9 hw9 hB9 hz9 hk9 hS => ?_)
        obtain ⟨en2v, al2v⟩ := u9
        obtain ⟨hr9, hE2v, hFR2v, hAS2v⟩ := hw9
        have hW : Wd D (z 0) en2v H := by rw [← ht9]; exact hB9
        obtain ⟨g2v, hg2v⟩ : ∃ x : St, x = sRR g1v ff := ⟨_, rfl⟩
        rw [← hg2v] at hE2v hAS2v
        dsimp only at hE2v hFR2v hAS2v
        subst hr9
        have hl : lv_has ls 3 [(2, .ref (al2v 7 ff)), (0, .ref (al2v 0 0)), (1, .int (iZ (ff)))] := by rw [hAS2v.2 7 ff (by omega), hAS2v.2 0 0 (by omega)]; exact hl
        have hFR2v := FR.tr hFR1v hFR2v
        have hAS2v := AS.tr hAS1v hAS2v
        have hN2v := hAS2v.1
        have fX : en2v 0 0 = some (al2v 0 0, .inr (5, [.int (iZ (g2v 0 0 0)), .ref (al2v 1 0), .ref (al2v 1 1), .ref (al2v 3 0), .ref (al2v 4 0), .int (iZ (g2v 0 5 0)), .ref (al2v 11 0), .long (lZ (g2v 0 7 0)), .int (iZ (g2v 0 8 0)), .int (iZ (g2v 0 9 0)), .int (iZ (g2v 0 10 0)), .int (iZ (g2v 0 11 0)), .int (iZ (g2v 0 12 0)), .int (iZ (g2v 0 13 0))])) := ec_X hE2v
        have fL0 : en2v 1 0 = some (al2v 1 0, .inr (1, [.int (iZ (g2v 3 0 0)), .ref (al2v 2 0), .int (iZ (g2v 1 0 0))])) := ec_L0 hE2v
        have fL1 : en2v 1 1 = some (al2v 1 1, .inr (1, [.int (iZ (g2v 3 1 0)), .ref (al2v 2 1), .int (iZ (g2v 1 1 0))])) := ec_L1 hE2v
        have fQ : en2v 3 0 = some (al2v 3 0, aR dA (4) (fun j => some (al2v 9 j))) := ec_Q hE2v
        have fC : en2v 4 0 = some (al2v 4 0, aI dA (8) (fun j => g2v 2 j 0)) := ec_C hE2v
        have fF : en2v 7 ff = some (al2v 7 ff, .inr (2, [.int (iZ (g2v 20 ff 0)), .int (iZ (g2v 21 ff 0)), .int (iZ (g2v 22 ff 0)), .int (iZ (g2v 23 ff 0)), .int (iZ (g2v 24 ff 0)), .long (lZ (g2v 25 ff 0)), .ref (al2v 8 ff), .int (iZ (g2v 27 ff 0))])) := ec_F hE2v (by omega)
        have fFO : bA dA z en2v 8 ff (al2v 8 ff) (g2v 26 ff 0) (g2v 28 ff) := ec_FO hE2v (by omega)
        have hans : aRR g1v ff = aRecv g ff := by unfold aRecv; rw [if_pos hq, if_neg (by omega), if_neg (by omega), ← hg1v]
        refine W.widen (k := kC (sRecv g ff) - kC g + 1) (n := kS (sRecv g ff) - kS g + 10000) (show 0 + 0 + (kC (sRR g1v ff) - kC g1v + 1) ≤ kC (sRecv g ff) - kC g + 1 by omega) (show 0 + 0 + (kS (sRR g1v ff) - kS g1v + 10000) ≤ kS (sRecv g ff) - kS g + 10000 by omega) ?_
        have hgz : g2v = sRecv g ff := by subst hg2v; subst hg1v; rw [hg1]
        rw [hgz] at hE2v hAS2v
        exact W.iret hx hb hr (fun t ht hw => ⟨⟨_, (en2v, al2v), rfl, ⟨congrArg iZ hans, hE2v, hFR2v, hAS2v⟩, by show Wd _ _ _ t.heap; rw [ht]; exact hW⟩, hS.F ht⟩) hS.2.2 dX3_receive_48
      · refine lv_aload_n hx hb dX3_receive_35 rfl (lv_at hl 1 rfl) ?_
        refine lv_aload_n hx hb dX3_receive_36 rfl (lv_at hl 0 rfl) ?_
        rw [if_pos (by omega)] at hg1
        have hJm := hj1.1 (g1v 21 ff 0) (by omega) (by omega)
        unfold JS at hJm
        have hkc : kC (sRecv g ff) = kC g := by rw [hg1]; exact (kC_rcs).trans ekc
        have hks : kS (sRecv g ff) = kS g := by rw [hg1]; exact (kS_rcs).trans eks
        refine va_calli (va_runV (As := [.ref (al 7 ff)]) (rest := []) ⟨hx, hb, hml, hown, hts⟩ (c_X3_reachSender l D dA z en1v g1v al ff (by omega) (by omega) (fun q => (hJm.1 (Or.inl q)).2) hE1v hI1) (cwV 1 hts gX3_receive_X3_reachSender rfl rfl rfl (by decide +kernel) ⟨Nat.le_of_ble_eq_true rfl, Nat.le_of_ble_eq_true rfl⟩) ⟨gBl, gRecv hK hW (ci := 5) rfl fX, gPre _ hg hS hW⟩ rfl rfl hl.1 rfl (lv_room (Nat.le_of_ble_eq_true rfl)) dX3_receive_37 ⟨(show 0 + 0 + 0 ≤ kC (sRecv g ff) - kC g + 1 by omega), (show 0 + 0 + 0 ≤ kS (sRecv g ff) - kS g + 10000 by omega)⟩) hS (fun _ _ h => h) (fun _ h => h) (fun r9 u9 t9 H locs ht9 hvm9 hw9 hB9 hz9 hk9 hS => ?_)
        obtain ⟨en3v, al3v⟩ := u9
        obtain ⟨hr9, hE3v, hFR3v, hAS3v⟩ := hw9
        have hW : Wd D (z 0) en3v H := by rw [← ht9]; exact hB9
        obtain ⟨g3v, hg3v⟩ : ∃ x : St, x = sRcS g1v ff := ⟨_, rfl⟩
        rw [← hg3v] at hE3v hAS3v
        dsimp only at hE3v hFR3v hAS3v
        subst hr9
        have hl : lv_has ls 3 [(2, .ref (al3v 7 ff)), (0, .ref (al3v 0 0)), (1, .int (iZ (ff)))] := by rw [hAS3v.2 7 ff (by omega), hAS3v.2 0 0 (by omega)]; exact hl
        have hFR3v := FR.tr hFR1v hFR3v
        have hAS3v := AS.tr hAS1v hAS3v
        have hN3v := hAS3v.1
        have fX : en3v 0 0 = some (al3v 0 0, .inr (5, [.int (iZ (g3v 0 0 0)), .ref (al3v 1 0), .ref (al3v 1 1), .ref (al3v 3 0), .ref (al3v 4 0), .int (iZ (g3v 0 5 0)), .ref (al3v 11 0), .long (lZ (g3v 0 7 0)), .int (iZ (g3v 0 8 0)), .int (iZ (g3v 0 9 0)), .int (iZ (g3v 0 10 0)), .int (iZ (g3v 0 11 0)), .int (iZ (g3v 0 12 0)), .int (iZ (g3v 0 13 0))])) := ec_X hE3v
        have fL0 : en3v 1 0 = some (al3v 1 0, .inr (1, [.int (iZ (g3v 3 0 0)), .ref (al3v 2 0), .int (iZ (g3v 1 0 0))])) := ec_L0 hE3v
        have fL1 : en3v 1 1 = some (al3v 1 1, .inr (1, [.int (iZ (g3v 3 1 0)), .ref (al3v 2 1), .int (iZ (g3v 1 1 0))])) := ec_L1 hE3v
        have fQ : en3v 3 0 = some (al3v 3 0, aR dA (4) (fun j => some (al3v 9 j))) := ec_Q hE3v
        have fC : en3v 4 0 = some (al3v 4 0, aI dA (8) (fun j => g3v 2 j 0)) := ec_C hE3v
        have fF : en3v 7 ff = some (al3v 7 ff, .inr (2, [.int (iZ (g3v 20 ff 0)), .int (iZ (g3v 21 ff 0)), .int (iZ (g3v 22 ff 0)), .int (iZ (g3v 23 ff 0)), .int (iZ (g3v 24 ff 0)), .long (lZ (g3v 25 ff 0)), .ref (al3v 8 ff), .int (iZ (g3v 27 ff 0))])) := ec_F hE3v (by omega)
        have fFO : bA dA z en3v 8 ff (al3v 8 ff) (g3v 26 ff 0) (g3v 28 ff) := ec_FO hE3v (by omega)
        have hans : sRcS g1v ff 12 (g1v 21 ff 0) 0 = aRecv g ff := by unfold aRecv; rw [if_pos hq, if_neg (by omega), if_pos (by omega), ← hg1v, e21]
        refine lv_goto (tgt := 48) hx hb dX3_receive_40 (by decide) ?_
        refine W.widen (k := kC (sRecv g ff) - kC g + 1) (n := kS (sRecv g ff) - kS g + 10000) (show 0 + 0 + 0 ≤ kC (sRecv g ff) - kC g + 1 by omega) (show 0 + 0 + 0 ≤ kS (sRecv g ff) - kS g + 10000 by omega) ?_
        have hgz : g3v = sRecv g ff := by subst hg3v; subst hg1v; rw [hg1]
        rw [hgz] at hE3v hAS3v
        exact W.iret hx hb hr (fun t ht hw => ⟨⟨_, (en3v, al3v), rfl, ⟨congrArg iZ hans, hE3v, hFR3v, hAS3v⟩, by show Wd _ _ _ t.heap; rw [ht]; exact hW⟩, hS.F ht⟩) hS.2.2 dX3_receive_48
    · refine z_bipush hx hb dX3_receive_19 (by decide) ?_
      refine W.widen (k := kC (sRecv g ff) - kC g + 1) (n := kS (sRecv g ff) - kS g + 10000) (show 0 + 0 ≤ kC (sRecv g ff) - kC g + 1 by omega) (show 0 + 0 ≤ kS (sRecv g ff) - kS g + 10000 by omega) ?_
      have hFRz := FR.rf en
      have hASz := AS.rf g al
      have hgz : g = sRecv g ff := by unfold sRecv; rw [if_pos hq, if_pos (by omega)]
      have hEz := hgz ▸ hE
      exact W.iret hx hb hr (fun t ht hw => ⟨⟨_, (en, al), rfl, ⟨congrArg iZ (by unfold aRecv; rw [if_pos hq, if_pos (by omega)]), hgz ▸ hE, hFRz, hgz ▸ hASz⟩, by show Wd _ _ _ t.heap; rw [ht]; exact hW⟩, hS.F ht⟩) hS.2.2 dX3_receive_21
  · rw [if_neg hq] at hw9
    subst hw9
    refine W.eq (g2 := F0 m 5 ls [.null]) rfl ?_
    refine lv_astore_nN (lv' := [(2, .null), (0, .ref (al 0 0)), (1, .int (iZ (ff)))]) hx hb dX3_receive_5 rfl hl (by decide) rfl (fun ls hl => ?_)
    refine lv_aload_nN hx hb dX3_receive_6 rfl (lv_at hl 0 rfl) ?_
    refine lv_ifnonnullN hx hb dX3_receive_7 ?_
    refine z_iconst hx hb dX3_receive_10 ?_
    refine W.widen (k := kC (sRecv g ff) - kC g + 1) (n := kS (sRecv g ff) - kS g + 10000) (show 0 + 0 ≤ kC (sRecv g ff) - kC g + 1 by omega) (show 0 + 0 ≤ kS (sRecv g ff) - kS g + 10000 by omega) ?_
    have hFRz := FR.rf en
    have hASz := AS.rf g al
    have hgz : g = sRecv g ff := by exact (if_neg hq).symm
    have hEz := hgz ▸ hE
    exact W.iret hx hb hr (fun t ht hw => ⟨⟨_, (en, al), rfl, ⟨congrArg iZ (if_neg hq).symm, hgz ▸ hE, hFRz, hgz ▸ hASz⟩, by show Wd _ _ _ t.heap; rw [ht]; exact hW⟩, hS.F ht⟩) hS.2.2 dX3_receive_11
set_option maxHeartbeats 4000000 in
set_option maxRecDepth 100000 in
theorem c_X3_lose (l : Launch) (D : va_G) (dA : Nat → ClassId) (z : Nat → Nat) (en : en_T) (g : St) (al : Al) (ff : Int) (hff : iB ff) (hE : EC dA z g al en) (hI : IB g) : Met l yX3_lose wsX3_lose ({ frames := 4, cells := 0, slots := 0, locals := 90 }) (gP D dA z en [.ref (al 0 0), .int (iZ (ff))]) (va_Qi (fun (r8 : Int32) (u : en_T × Al) => r8 = iZ (aLose g ff) ∧ CP dA z (sLose g ff) g al en u) (fun u t9 => Wd D (z 0) u.1 t9.heap) (fun q => z 0 ≤ q)) (0) (0) (fun q => z 0 ≤ q) := by
  refine gMet (own := RX3) (cc := cX3_lose) (maxL := 3) (ret := (some .boolean)) (by decide) rfl rfl (Nat.le_of_ble_eq_true rfl) ?_
  intro p e s m below meth c hx hb hml hown hts hr hlocks hnm hg hW ls hl
  have hK := hg.1
  have hS : va_S (fun q => z 0 ≤ q) s.heap s.heap [] := va_S.rf
  have hi2 : ∀ w ∈ u_ws RX0 TX0 8, w ∈ wsX3_lose := by decide +kernel
  have hl : lv_has ls 3 [(0, .ref (al 0 0)), (1, .int (iZ (ff)))] := hl
  obtain ⟨hIX, hIL, hIS, hIF, hIR, hIG⟩ := id hI
  unfold IL at hIL
  unfold IX at hIX
  have fX : en 0 0 = some (al 0 0, .inr (5, [.int (iZ (g 0 0 0)), .ref (al 1 0), .ref (al 1 1), .ref (al 3 0), .ref (al 4 0), .int (iZ (g 0 5 0)), .ref (al 11 0), .long (lZ (g 0 7 0)), .int (iZ (g 0 8 0)), .int (iZ (g 0 9 0)), .int (iZ (g 0 10 0)), .int (iZ (g 0 11 0)), .int (iZ (g 0 12 0)), .int (iZ (g 0 13 0))])) := ec_X hE
  have fL0 : en 1 0 = some (al 1 0, .inr (1, [.int (iZ (g 3 0 0)), .ref (al 2 0), .int (iZ (g 1 0 0))])) := ec_L0 hE
  have fL1 : en 1 1 = some (al 1 1, .inr (1, [.int (iZ (g 3 1 0)), .ref (al 2 1), .int (iZ (g 1 1 0))])) := ec_L1 hE
  have fQ : en 3 0 = some (al 3 0, aR dA (4) (fun j => some (al 9 j))) := ec_Q hE
  have fC : en 4 0 = some (al 4 0, aI dA (8) (fun j => g 2 j 0)) := ec_C hE
  refine lv_aload_n hx hb dX3_lose_0 rfl (lv_at hl 0 rfl) ?_
  refine lv_iload_n hx hb dX3_lose_1 rfl (lv_at hl 1 rfl) ?_
  refine va_callq (va_runV (As := [.int (iZ (ff))]) (rest := []) ⟨hx, hb, hml, hown, hts⟩ (c_X3_findFrame l D dA z en g al ff (by omega) hE hI) (cwV 1 hts gX3_lose_X3_findFrame rfl rfl rfl (by decide +kernel) ⟨Nat.le_of_ble_eq_true rfl, Nat.le_of_ble_eq_true rfl⟩) ⟨gBl, gRecv hK hW (ci := 5) rfl fX, gPre _ hg hS hW⟩ rfl rfl hl.1 rfl (lv_room (Nat.le_of_ble_eq_true rfl)) dX3_lose_2 ⟨(show 0 + 0 ≤ 0 by omega), (show 0 + 0 ≤ 0 by omega)⟩) hS (fun _ _ h => h) (fun _ h => h) (fun r9 u9 t9 H locs ht9 hvm9 hw9 hB9 hz9 hk9 hS => ?_)
  have hW : Wd D (z 0) en H := by rw [← ht9]; exact hB9
  by_cases hq : 1 ≤ ff ∧ ff ≤ g 1 1 0
  · rw [if_pos hq] at hw9
    subst hw9
    refine W.eq (g2 := F0 m 5 ls [.ref (al 7 ff)]) rfl ?_
    have fX : en 0 0 = some (al 0 0, .inr (5, [.int (iZ (g 0 0 0)), .ref (al 1 0), .ref (al 1 1), .ref (al 3 0), .ref (al 4 0), .int (iZ (g 0 5 0)), .ref (al 11 0), .long (lZ (g 0 7 0)), .int (iZ (g 0 8 0)), .int (iZ (g 0 9 0)), .int (iZ (g 0 10 0)), .int (iZ (g 0 11 0)), .int (iZ (g 0 12 0)), .int (iZ (g 0 13 0))])) := ec_X hE
    have fL0 : en 1 0 = some (al 1 0, .inr (1, [.int (iZ (g 3 0 0)), .ref (al 2 0), .int (iZ (g 1 0 0))])) := ec_L0 hE
    have fL1 : en 1 1 = some (al 1 1, .inr (1, [.int (iZ (g 3 1 0)), .ref (al 2 1), .int (iZ (g 1 1 0))])) := ec_L1 hE
    have fQ : en 3 0 = some (al 3 0, aR dA (4) (fun j => some (al 9 j))) := ec_Q hE
    have fC : en 4 0 = some (al 4 0, aI dA (8) (fun j => g 2 j 0)) := ec_C hE
    have fF : en 7 ff = some (al 7 ff, .inr (2, [.int (iZ (g 20 ff 0)), .int (iZ (g 21 ff 0)), .int (iZ (g 22 ff 0)), .int (iZ (g 23 ff 0)), .int (iZ (g 24 ff 0)), .long (lZ (g 25 ff 0)), .ref (al 8 ff), .int (iZ (g 27 ff 0))])) := ec_F hE (by omega)
    have fFO : bA dA z en 8 ff (al 8 ff) (g 26 ff 0) (g 28 ff) := ec_FO hE (by omega)
    refine lv_astore_n (lv' := [(2, .ref (al 7 ff)), (0, .ref (al 0 0)), (1, .int (iZ (ff)))]) hx hb dX3_lose_5 rfl hl (by decide) rfl (fun ls hl => ?_)
    refine lv_aload_n hx hb dX3_lose_6 rfl (lv_at hl 0 rfl) ?_
    refine lv_ifnull hx hb dX3_lose_7 ?_
    refine lv_aload_n hx hb dX3_lose_10 rfl (lv_at hl 0 rfl) ?_
    have hIFf := hIF ff (by omega) (by omega)
    unfold IF at hIFf
    refine g_get (C := RX0) (T := TX0) (N := 8) (ci := 2) (v := .int (iZ (g 27 ff 0))) hx hb hts hi2 hown hK hW fF rfl 7 (by decide) (hts (.fieldLink RX3 100 "LongTransfer$Frame" "onItsWay" "Z") (by decide +kernel)) (fun _ h9 => h9) rfl dX3_lose_11 ?_
    refine z_if_ne (tgt := 19) hx hb dX3_lose_14 (by decide) (by omega) (fun c_14 => ?_) (fun c_14 => ?_)
    · refine lv_aload_n hx hb dX3_lose_19 rfl (lv_at hl 0 rfl) ?_
      refine z_iconst hx hb dX3_lose_20 ?_
      refine g_put (C := RX0) (T := TX0) (N := 8) (ci := 2) (ty := .boolean) (v := .int (iZ (0))) (fs' := [.int (iZ (g 20 ff 0)), .int (iZ (g 21 ff 0)), .int (iZ (g 22 ff 0)), .int (iZ (g 23 ff 0)), .int (iZ (g 24 ff 0)), .long (lZ (g 25 ff 0)), .ref (al 8 ff), .int (iZ (0))]) hx hb hts hi2 tyX0 tyX0_ok nmX0 hown hK hW hS fF rfl 7 (by decide) (hts (.fieldLink RX3 100 "LongTransfer$Frame" "onItsWay" "Z") (by decide +kernel)) (fun _ h9 => h9) rfl (by decide +kernel) (by decide) (by decide) (Nat.le_of_ble_eq_true rfl) dX3_lose_21 rfl (fun H locs hW hS => ?_)
      have fX : (e2 en 7 ff (some (al 7 ff, .inr (2, [.int (iZ (g 20 ff 0)), .int (iZ (g 21 ff 0)), .int (iZ (g 22 ff 0)), .int (iZ (g 23 ff 0)), .int (iZ (g 24 ff 0)), .long (lZ (g 25 ff 0)), .ref (al 8 ff), .int (iZ (0))])))) 0 0 = some (al 0 0, .inr (5, [.int (iZ (g 0 0 0)), .ref (al 1 0), .ref (al 1 1), .ref (al 3 0), .ref (al 4 0), .int (iZ (g 0 5 0)), .ref (al 11 0), .long (lZ (g 0 7 0)), .int (iZ (g 0 8 0)), .int (iZ (g 0 9 0)), .int (iZ (g 0 10 0)), .int (iZ (g 0 11 0)), .int (iZ (g 0 12 0)), .int (iZ (g 0 13 0))])) := (e2_k (by decide)).trans fX
      have fL0 : (e2 en 7 ff (some (al 7 ff, .inr (2, [.int (iZ (g 20 ff 0)), .int (iZ (g 21 ff 0)), .int (iZ (g 22 ff 0)), .int (iZ (g 23 ff 0)), .int (iZ (g 24 ff 0)), .long (lZ (g 25 ff 0)), .ref (al 8 ff), .int (iZ (0))])))) 1 0 = some (al 1 0, .inr (1, [.int (iZ (g 3 0 0)), .ref (al 2 0), .int (iZ (g 1 0 0))])) := (e2_k (by decide)).trans fL0
      have fL1 : (e2 en 7 ff (some (al 7 ff, .inr (2, [.int (iZ (g 20 ff 0)), .int (iZ (g 21 ff 0)), .int (iZ (g 22 ff 0)), .int (iZ (g 23 ff 0)), .int (iZ (g 24 ff 0)), .long (lZ (g 25 ff 0)), .ref (al 8 ff), .int (iZ (0))])))) 1 1 = some (al 1 1, .inr (1, [.int (iZ (g 3 1 0)), .ref (al 2 1), .int (iZ (g 1 1 0))])) := (e2_k (by decide)).trans fL1
      have fQ : (e2 en 7 ff (some (al 7 ff, .inr (2, [.int (iZ (g 20 ff 0)), .int (iZ (g 21 ff 0)), .int (iZ (g 22 ff 0)), .int (iZ (g 23 ff 0)), .int (iZ (g 24 ff 0)), .long (lZ (g 25 ff 0)), .ref (al 8 ff), .int (iZ (0))])))) 3 0 = some (al 3 0, aR dA (4) (fun j => some (al 9 j))) := (e2_k (by decide)).trans fQ
      have fC : (e2 en 7 ff (some (al 7 ff, .inr (2, [.int (iZ (g 20 ff 0)), .int (iZ (g 21 ff 0)), .int (iZ (g 22 ff 0)), .int (iZ (g 23 ff 0)), .int (iZ (g 24 ff 0)), .long (lZ (g 25 ff 0)), .ref (al 8 ff), .int (iZ (0))])))) 4 0 = some (al 4 0, aI dA (8) (fun j => g 2 j 0)) := (e2_k (by decide)).trans fC
      have fFO : bA dA z (e2 en 7 ff (some (al 7 ff, .inr (2, [.int (iZ (g 20 ff 0)), .int (iZ (g 21 ff 0)), .int (iZ (g 22 ff 0)), .int (iZ (g 23 ff 0)), .int (iZ (g 24 ff 0)), .long (lZ (g 25 ff 0)), .ref (al 8 ff), .int (iZ (0))])))) 8 ff (al 8 ff) (g 26 ff 0) (g 28 ff) := bA_k (by decide) fFO
      have fF : (e2 en 7 ff (some (al 7 ff, .inr (2, [.int (iZ (g 20 ff 0)), .int (iZ (g 21 ff 0)), .int (iZ (g 22 ff 0)), .int (iZ (g 23 ff 0)), .int (iZ (g 24 ff 0)), .long (lZ (g 25 ff 0)), .ref (al 8 ff), .int (iZ (0))])))) 7 ff = some (al 7 ff, .inr (2, [.int (iZ (g 20 ff 0)), .int (iZ (g 21 ff 0)), .int (iZ (g 22 ff 0)), .int (iZ (g 23 ff 0)), .int (iZ (g 24 ff 0)), .long (lZ (g 25 ff 0)), .ref (al 8 ff), .int (iZ (0))])) := e2_s _ _ _ _
      obtain ⟨en1v, hen1v⟩ : ∃ x : en_T, x = (e2 en 7 ff (some (al 7 ff, .inr (2, [.int (iZ (g 20 ff 0)), .int (iZ (g 21 ff 0)), .int (iZ (g 22 ff 0)), .int (iZ (g 23 ff 0)), .int (iZ (g 24 ff 0)), .long (lZ (g 25 ff 0)), .ref (al 8 ff), .int (iZ (0))])))) := ⟨_, rfl⟩
      rw [← hen1v] at hW
      obtain ⟨g1v, hg1v⟩ : ∃ x : St, x = wr g 27 ff 0 := ⟨_, rfl⟩
      have hE1v : EC dA z g1v al en1v := ec_f hE (f0 := ff) (by omega) (fun t i j h => by rw [hg1v]; repeat rw [wr_n (by omega)]) (fun _ _ _ => rfl) (fun k i h => by rw [hen1v]; exact e2_n (by omega)) (by rw [hen1v, hg1v]; refine (e2_s _ _ _ _).trans ?_; simp [wr])
      have hFR1v : FR en en1v := fun k i h1 h2 => by rw [hen1v]; exact e2_n (by omega)
      have hAS1v : AS g g1v al al := AS_e (by rw [hg1v]; rfl) (by rw [hg1v]; rfl) (by rw [hg1v]; rfl)
      have hN1v := hAS1v.1
      have fX : en1v 0 0 = some (al 0 0, .inr (5, [.int (iZ (g1v 0 0 0)), .ref (al 1 0), .ref (al 1 1), .ref (al 3 0), .ref (al 4 0), .int (iZ (g1v 0 5 0)), .ref (al 11 0), .long (lZ (g1v 0 7 0)), .int (iZ (g1v 0 8 0)), .int (iZ (g1v 0 9 0)), .int (iZ (g1v 0 10 0)), .int (iZ (g1v 0 11 0)), .int (iZ (g1v 0 12 0)), .int (iZ (g1v 0 13 0))])) := ec_X hE1v
      have fL0 : en1v 1 0 = some (al 1 0, .inr (1, [.int (iZ (g1v 3 0 0)), .ref (al 2 0), .int (iZ (g1v 1 0 0))])) := ec_L0 hE1v
      have fL1 : en1v 1 1 = some (al 1 1, .inr (1, [.int (iZ (g1v 3 1 0)), .ref (al 2 1), .int (iZ (g1v 1 1 0))])) := ec_L1 hE1v
      have fQ : en1v 3 0 = some (al 3 0, aR dA (4) (fun j => some (al 9 j))) := ec_Q hE1v
      have fC : en1v 4 0 = some (al 4 0, aI dA (8) (fun j => g1v 2 j 0)) := ec_C hE1v
      have fF : en1v 7 ff = some (al 7 ff, .inr (2, [.int (iZ (g1v 20 ff 0)), .int (iZ (g1v 21 ff 0)), .int (iZ (g1v 22 ff 0)), .int (iZ (g1v 23 ff 0)), .int (iZ (g1v 24 ff 0)), .long (lZ (g1v 25 ff 0)), .ref (al 8 ff), .int (iZ (g1v 27 ff 0))])) := ec_F hE1v (by omega)
      have fFO : bA dA z en1v 8 ff (al 8 ff) (g1v 26 ff 0) (g1v 28 ff) := ec_FO hE1v (by omega)
      refine z_iconst hx hb dX3_lose_24 ?_
      have hgz : g1v = sLose g ff := by subst hg1v; exact (if_pos ⟨hq, by omega⟩).symm
      rw [hgz] at hE1v hAS1v
      exact W.zret hx hb hr (by decide) (fun t ht hw => ⟨⟨_, (en1v, al), rfl, ⟨congrArg iZ (if_pos ⟨hq, by omega⟩).symm, hE1v, hFR1v, hAS1v⟩, by show Wd _ _ _ t.heap; rw [ht]; exact hW⟩, hS.F ht⟩) hS.2.2 dX3_lose_25
    · refine z_iconst hx hb dX3_lose_17 ?_
      have hFRz := FR.rf en
      have hASz := AS.rf g al
      have hgz : g = sLose g ff := by exact (if_neg (fun q => by omega)).symm
      have hEz := hgz ▸ hE
      exact W.zret hx hb hr (by decide) (fun t ht hw => ⟨⟨_, (en, al), rfl, ⟨congrArg iZ (if_neg (fun q => by omega)).symm, hgz ▸ hE, hFRz, hgz ▸ hASz⟩, by show Wd _ _ _ t.heap; rw [ht]; exact hW⟩, hS.F ht⟩) hS.2.2 dX3_lose_18
  · rw [if_neg hq] at hw9
    subst hw9
    refine W.eq (g2 := F0 m 5 ls [.null]) rfl ?_
    refine lv_astore_nN (lv' := [(2, .null), (0, .ref (al 0 0)), (1, .int (iZ (ff)))]) hx hb dX3_lose_5 rfl hl (by decide) rfl (fun ls hl => ?_)
    refine lv_aload_nN hx hb dX3_lose_6 rfl (lv_at hl 0 rfl) ?_
    refine lv_ifnullN (tgt := 17) hx hb dX3_lose_7 (by decide) ?_
    refine z_iconst hx hb dX3_lose_17 ?_
    have hFRz := FR.rf en
    have hASz := AS.rf g al
    have hgz : g = sLose g ff := by exact (if_neg (fun q => by omega)).symm
    have hEz := hgz ▸ hE
    exact W.zret hx hb hr (by decide) (fun t ht hw => ⟨⟨_, (en, al), rfl, ⟨congrArg iZ (if_neg (fun q => by omega)).symm, hgz ▸ hE, hFRz, hgz ▸ hASz⟩, by show Wd _ _ _ t.heap; rw [ht]; exact hW⟩, hS.F ht⟩) hS.2.2 dX3_lose_18
set_option maxHeartbeats 4000000 in
set_option maxRecDepth 100000 in
theorem c_X3_flow (l : Launch) (D : va_G) (dA : Nat → ClassId) (z : Nat → Nat) (en : en_T) (g : St) (al : Al) (b9 s9 k9 : Int) (hb9 : iB b9) (hs9 : iB s9) (hk9 : iB k9) (hE : EC dA z g al en) (hI : IB g) : Met l yX3_flow wsX3_flow ({ frames := 1, cells := 0, slots := 0, locals := 25 }) (gP D dA z en [.ref (al 0 0), .int (iZ (b9)), .int (iZ (s9)), .int (iZ (k9))]) (va_Qi (fun (r8 : Int32) (u : en_T × Al) => r8 = iZ (aFlw b9 s9 k9) ∧ CP dA z (sFlw g b9 s9 k9) g al en u) (fun u t9 => Wd D (z 0) u.1 t9.heap) (fun q => z 0 ≤ q)) (0) (0) (fun q => z 0 ≤ q) := by
  refine gMet (own := RX3) (cc := cX3_flow) (maxL := 4) (ret := (some .int)) (by decide) rfl rfl (Nat.le_of_ble_eq_true rfl) ?_
  intro p e s m below meth c hx hb hml hown hts hr hlocks hnm hg hW ls hl
  have hK := hg.1
  have hS : va_S (fun q => z 0 ≤ q) s.heap s.heap [] := va_S.rf
  have hi5 : ∀ w ∈ u_ws RX3 TX3 14, w ∈ wsX3_flow := by decide +kernel
  have hl : lv_has ls 4 [(0, .ref (al 0 0)), (1, .int (iZ (b9))), (2, .int (iZ (s9))), (3, .int (iZ (k9)))] := hl
  have fX : en 0 0 = some (al 0 0, .inr (5, [.int (iZ (g 0 0 0)), .ref (al 1 0), .ref (al 1 1), .ref (al 3 0), .ref (al 4 0), .int (iZ (g 0 5 0)), .ref (al 11 0), .long (lZ (g 0 7 0)), .int (iZ (g 0 8 0)), .int (iZ (g 0 9 0)), .int (iZ (g 0 10 0)), .int (iZ (g 0 11 0)), .int (iZ (g 0 12 0)), .int (iZ (g 0 13 0))])) := ec_X hE
  have fL0 : en 1 0 = some (al 1 0, .inr (1, [.int (iZ (g 3 0 0)), .ref (al 2 0), .int (iZ (g 1 0 0))])) := ec_L0 hE
  have fL1 : en 1 1 = some (al 1 1, .inr (1, [.int (iZ (g 3 1 0)), .ref (al 2 1), .int (iZ (g 1 1 0))])) := ec_L1 hE
  have fQ : en 3 0 = some (al 3 0, aR dA (4) (fun j => some (al 9 j))) := ec_Q hE
  have fC : en 4 0 = some (al 4 0, aI dA (8) (fun j => g 2 j 0)) := ec_C hE
  refine lv_iload_n hx hb dX3_flow_0 rfl (lv_at hl 1 rfl) ?_
  refine va_calli (va_runS (As := [.int (iZ (b9))]) (rest := []) ⟨hx, hb, hml, hown, hts⟩ (c_X3_isFlowNumber l D dA z en b9 (by omega)) (va_cwS 1 hts gX3_flow_X3_isFlowNumber rfl rfl rfl (by decide +kernel) ⟨Nat.le_of_ble_eq_true rfl, Nat.le_of_ble_eq_true rfl⟩) ⟨gBl, gPre _ hg hS hW⟩ rfl rfl hl.1 rfl (lv_room (Nat.le_of_ble_eq_true rfl)) dX3_flow_1 ⟨(show 0 + 0 ≤ 0 by omega), (show 0 + 0 ≤ 0 by omega)⟩) hS (fun _ _ h => h) (fun _ h => h) (fun r9 u9 t9 H locs ht9 hvm9 hw9 hB9 hz9 hk9 hS => ?_)
  have hW : Wd D (z 0) en H := by rw [← ht9]; exact hB9
  subst hw9
  by_cases hb1 : 0 ≤ b9 ∧ b9 ≤ 255
  · rw [if_pos hb1]
    refine z_if_eq (tgt := 23) hx hb dX3_flow_4 (by decide) (by omega) (fun c_4 => ?_) (fun c_4 => ?_)
    · exact absurd c_4 (by omega)
    · refine lv_iload_n hx hb dX3_flow_7 rfl (lv_at hl 2 rfl) ?_
      refine va_calli (va_runS (As := [.int (iZ (s9))]) (rest := []) ⟨hx, hb, hml, hown, hts⟩ (c_X3_isFlowNumber l D dA z en s9 (by omega)) (va_cwS 1 hts gX3_flow_X3_isFlowNumber rfl rfl rfl (by decide +kernel) ⟨Nat.le_of_ble_eq_true rfl, Nat.le_of_ble_eq_true rfl⟩) ⟨gBl, gPre _ hg hS hW⟩ rfl rfl hl.1 rfl (lv_room (Nat.le_of_ble_eq_true rfl)) dX3_flow_8 ⟨(show 0 + 0 + 0 ≤ 0 by omega), (show 0 + 0 + 0 ≤ 0 by omega)⟩) hS (fun _ _ h => h) (fun _ h => h) (fun r9 u9 t9 H locs ht9 hvm9 hw9 hB9 hz9 hk9 hS => ?_)
      have hW : Wd D (z 0) en H := by rw [← ht9]; exact hB9
      subst hw9
      by_cases hs1 : 0 ≤ s9 ∧ s9 ≤ 255
      · rw [if_pos hs1]
        refine z_if_eq (tgt := 23) hx hb dX3_flow_11 (by decide) (by omega) (fun c_11 => ?_) (fun c_11 => ?_)
        · exact absurd c_11 (by omega)
        · refine lv_iload_n hx hb dX3_flow_14 rfl (lv_at hl 3 rfl) ?_
          refine z_if_lt (tgt := 23) hx hb dX3_flow_15 (by decide) (by omega) (fun c_15 => ?_) (fun c_15 => ?_)
          · refine z_bipush hx hb dX3_flow_23 (by decide) ?_
            have hFRz := FR.rf en
            have hASz := AS.rf g al
            have hgz : g = sFlw g b9 s9 k9 := by exact (if_neg (by omega)).symm
            have hEz := hgz ▸ hE
            exact W.iret hx hb hr (fun t ht hw => ⟨⟨_, (en, al), rfl, ⟨congrArg iZ (if_neg (by omega)).symm, hgz ▸ hE, hFRz, hgz ▸ hASz⟩, by show Wd _ _ _ t.heap; rw [ht]; exact hW⟩, hS.F ht⟩) hS.2.2 dX3_flow_25
          · refine lv_iload_n hx hb dX3_flow_18 rfl (lv_at hl 3 rfl) ?_
            refine z_iconst hx hb dX3_flow_19 ?_
            refine z_icmp_le (tgt := 26) hx hb dX3_flow_20 (by decide) (by omega) (by omega) (fun c_20 => ?_) (fun c_20 => ?_)
            · refine lv_aload_n hx hb dX3_flow_26 rfl (lv_at hl 0 rfl) ?_
              refine lv_iload_n hx hb dX3_flow_27 rfl (lv_at hl 1 rfl) ?_
              refine g_put (C := RX3) (T := TX3) (N := 14) (ci := 5) (ty := .int) (v := .int (iZ (b9))) (fs' := [.int (iZ (g 0 0 0)), .ref (al 1 0), .ref (al 1 1), .ref (al 3 0), .ref (al 4 0), .int (iZ (g 0 5 0)), .ref (al 11 0), .long (lZ (g 0 7 0)), .int (iZ (g 0 8 0)), .int (iZ (g 0 9 0)), .int (iZ (b9)), .int (iZ (g 0 11 0)), .int (iZ (g 0 12 0)), .int (iZ (g 0 13 0))]) hx hb hts hi5 tyX3 tyX3_ok nmX3 hown hK hW hS fX rfl 10 (by decide) (hts (.fieldLink RX3 114 "LongTransfer" "answerBlock" "I") (by decide +kernel)) (fun _ h9 => h9) rfl (by decide +kernel) rfl rfl (Nat.le_of_ble_eq_true rfl) dX3_flow_28 rfl (fun H locs hW hS => ?_)
              have fL0 : (e2 en 0 0 (some (al 0 0, .inr (5, [.int (iZ (g 0 0 0)), .ref (al 1 0), .ref (al 1 1), .ref (al 3 0), .ref (al 4 0), .int (iZ (g 0 5 0)), .ref (al 11 0), .long (lZ (g 0 7 0)), .int (iZ (g 0 8 0)), .int (iZ (g 0 9 0)), .int (iZ (b9)), .int (iZ (g 0 11 0)), .int (iZ (g 0 12 0)), .int (iZ (g 0 13 0))])))) 1 0 = some (al 1 0, .inr (1, [.int (iZ (g 3 0 0)), .ref (al 2 0), .int (iZ (g 1 0 0))])) := (e2_k (by decide)).trans fL0
              have fL1 : (e2 en 0 0 (some (al 0 0, .inr (5, [.int (iZ (g 0 0 0)), .ref (al 1 0), .ref (al 1 1), .ref (al 3 0), .ref (al 4 0), .int (iZ (g 0 5 0)), .ref (al 11 0), .long (lZ (g 0 7 0)), .int (iZ (g 0 8 0)), .int (iZ (g 0 9 0)), .int (iZ (b9)), .int (iZ (g 0 11 0)), .int (iZ (g 0 12 0)), .int (iZ (g 0 13 0))])))) 1 1 = some (al 1 1, .inr (1, [.int (iZ (g 3 1 0)), .ref (al 2 1), .int (iZ (g 1 1 0))])) := (e2_k (by decide)).trans fL1
              have fQ : (e2 en 0 0 (some (al 0 0, .inr (5, [.int (iZ (g 0 0 0)), .ref (al 1 0), .ref (al 1 1), .ref (al 3 0), .ref (al 4 0), .int (iZ (g 0 5 0)), .ref (al 11 0), .long (lZ (g 0 7 0)), .int (iZ (g 0 8 0)), .int (iZ (g 0 9 0)), .int (iZ (b9)), .int (iZ (g 0 11 0)), .int (iZ (g 0 12 0)), .int (iZ (g 0 13 0))])))) 3 0 = some (al 3 0, aR dA (4) (fun j => some (al 9 j))) := (e2_k (by decide)).trans fQ
              have fC : (e2 en 0 0 (some (al 0 0, .inr (5, [.int (iZ (g 0 0 0)), .ref (al 1 0), .ref (al 1 1), .ref (al 3 0), .ref (al 4 0), .int (iZ (g 0 5 0)), .ref (al 11 0), .long (lZ (g 0 7 0)), .int (iZ (g 0 8 0)), .int (iZ (g 0 9 0)), .int (iZ (b9)), .int (iZ (g 0 11 0)), .int (iZ (g 0 12 0)), .int (iZ (g 0 13 0))])))) 4 0 = some (al 4 0, aI dA (8) (fun j => g 2 j 0)) := (e2_k (by decide)).trans fC
              have fX : (e2 en 0 0 (some (al 0 0, .inr (5, [.int (iZ (g 0 0 0)), .ref (al 1 0), .ref (al 1 1), .ref (al 3 0), .ref (al 4 0), .int (iZ (g 0 5 0)), .ref (al 11 0), .long (lZ (g 0 7 0)), .int (iZ (g 0 8 0)), .int (iZ (g 0 9 0)), .int (iZ (b9)), .int (iZ (g 0 11 0)), .int (iZ (g 0 12 0)), .int (iZ (g 0 13 0))])))) 0 0 = some (al 0 0, .inr (5, [.int (iZ (g 0 0 0)), .ref (al 1 0), .ref (al 1 1), .ref (al 3 0), .ref (al 4 0), .int (iZ (g 0 5 0)), .ref (al 11 0), .long (lZ (g 0 7 0)), .int (iZ (g 0 8 0)), .int (iZ (g 0 9 0)), .int (iZ (b9)), .int (iZ (g 0 11 0)), .int (iZ (g 0 12 0)), .int (iZ (g 0 13 0))])) := e2_s _ _ _ _
              obtain ⟨en1v, hen1v⟩ : ∃ x : en_T, x = (e2 en 0 0 (some (al 0 0, .inr (5, [.int (iZ (g 0 0 0)), .ref (al 1 0), .ref (al 1 1), .ref (al 3 0), .ref (al 4 0), .int (iZ (g 0 5 0)), .ref (al 11 0), .long (lZ (g 0 7 0)), .int (iZ (g 0 8 0)), .int (iZ (g 0 9 0)), .int (iZ (b9)), .int (iZ (g 0 11 0)), .int (iZ (g 0 12 0)), .int (iZ (g 0 13 0))])))) := ⟨_, rfl⟩
              rw [← hen1v] at hW
              obtain ⟨g1v, hg1v⟩ : ∃ x : St, x = wr g 0 10 b9 := ⟨_, rfl⟩
              have hE1v : EC dA z g1v al en1v := ec_x hE  (fun t i j h => by rw [hg1v]; repeat rw [wr_n (by omega)]) (fun _ _ _ => rfl) (fun k i h => by rw [hen1v]; exact e2_n (by omega)) (by rw [hen1v, hg1v]; refine (e2_s _ _ _ _).trans ?_; simp [wr])
              have hFR1v : FR en en1v := fun k i h1 h2 => by rw [hen1v]; exact e2_n (by omega)
              have hAS1v : AS g g1v al al := AS_e (by rw [hg1v]; rfl) (by rw [hg1v]; rfl) (by rw [hg1v]; rfl)
              have hN1v := hAS1v.1
              have fX : en1v 0 0 = some (al 0 0, .inr (5, [.int (iZ (g1v 0 0 0)), .ref (al 1 0), .ref (al 1 1), .ref (al 3 0), .ref (al 4 0), .int (iZ (g1v 0 5 0)), .ref (al 11 0), .long (lZ (g1v 0 7 0)), .int (iZ (g1v 0 8 0)), .int (iZ (g1v 0 9 0)), .int (iZ (g1v 0 10 0)), .int (iZ (g1v 0 11 0)), .int (iZ (g1v 0 12 0)), .int (iZ (g1v 0 13 0))])) := ec_X hE1v
              have fL0 : en1v 1 0 = some (al 1 0, .inr (1, [.int (iZ (g1v 3 0 0)), .ref (al 2 0), .int (iZ (g1v 1 0 0))])) := ec_L0 hE1v
              have fL1 : en1v 1 1 = some (al 1 1, .inr (1, [.int (iZ (g1v 3 1 0)), .ref (al 2 1), .int (iZ (g1v 1 1 0))])) := ec_L1 hE1v
              have fQ : en1v 3 0 = some (al 3 0, aR dA (4) (fun j => some (al 9 j))) := ec_Q hE1v
              have fC : en1v 4 0 = some (al 4 0, aI dA (8) (fun j => g1v 2 j 0)) := ec_C hE1v
              refine lv_aload_n hx hb dX3_flow_31 rfl (lv_at hl 0 rfl) ?_
              refine lv_iload_n hx hb dX3_flow_32 rfl (lv_at hl 2 rfl) ?_
              refine g_put (C := RX3) (T := TX3) (N := 14) (ci := 5) (ty := .int) (v := .int (iZ (s9))) (fs' := [.int (iZ (g1v 0 0 0)), .ref (al 1 0), .ref (al 1 1), .ref (al 3 0), .ref (al 4 0), .int (iZ (g1v 0 5 0)), .ref (al 11 0), .long (lZ (g1v 0 7 0)), .int (iZ (g1v 0 8 0)), .int (iZ (g1v 0 9 0)), .int (iZ (g1v 0 10 0)), .int (iZ (s9)), .int (iZ (g1v 0 12 0)), .int (iZ (g1v 0 13 0))]) hx hb hts hi5 tyX3 tyX3_ok nmX3 hown hK hW hS fX rfl 11 (by decide) (hts (.fieldLink RX3 117 "LongTransfer" "answerSeparation" "I") (by decide +kernel)) (fun _ h9 => h9) rfl (by decide +kernel) rfl rfl (Nat.le_of_ble_eq_true rfl) dX3_flow_33 rfl (fun H locs hW hS => ?_)
              have fL0 : (e2 en1v 0 0 (some (al 0 0, .inr (5, [.int (iZ (g1v 0 0 0)), .ref (al 1 0), .ref (al 1 1), .ref (al 3 0), .ref (al 4 0), .int (iZ (g1v 0 5 0)), .ref (al 11 0), .long (lZ (g1v 0 7 0)), .int (iZ (g1v 0 8 0)), .int (iZ (g1v 0 9 0)), .int (iZ (g1v 0 10 0)), .int (iZ (s9)), .int (iZ (g1v 0 12 0)), .int (iZ (g1v 0 13 0))])))) 1 0 = some (al 1 0, .inr (1, [.int (iZ (g1v 3 0 0)), .ref (al 2 0), .int (iZ (g1v 1 0 0))])) := (e2_k (by decide)).trans fL0
              have fL1 : (e2 en1v 0 0 (some (al 0 0, .inr (5, [.int (iZ (g1v 0 0 0)), .ref (al 1 0), .ref (al 1 1), .ref (al 3 0), .ref (al 4 0), .int (iZ (g1v 0 5 0)), .ref (al 11 0), .long (lZ (g1v 0 7 0)), .int (iZ (g1v 0 8 0)), .int (iZ (g1v 0 9 0)), .int (iZ (g1v 0 10 0)), .int (iZ (s9)), .int (iZ (g1v 0 12 0)), .int (iZ (g1v 0 13 0))])))) 1 1 = some (al 1 1, .inr (1, [.int (iZ (g1v 3 1 0)), .ref (al 2 1), .int (iZ (g1v 1 1 0))])) := (e2_k (by decide)).trans fL1
              have fQ : (e2 en1v 0 0 (some (al 0 0, .inr (5, [.int (iZ (g1v 0 0 0)), .ref (al 1 0), .ref (al 1 1), .ref (al 3 0), .ref (al 4 0), .int (iZ (g1v 0 5 0)), .ref (al 11 0), .long (lZ (g1v 0 7 0)), .int (iZ (g1v 0 8 0)), .int (iZ (g1v 0 9 0)), .int (iZ (g1v 0 10 0)), .int (iZ (s9)), .int (iZ (g1v 0 12 0)), .int (iZ (g1v 0 13 0))])))) 3 0 = some (al 3 0, aR dA (4) (fun j => some (al 9 j))) := (e2_k (by decide)).trans fQ
              have fC : (e2 en1v 0 0 (some (al 0 0, .inr (5, [.int (iZ (g1v 0 0 0)), .ref (al 1 0), .ref (al 1 1), .ref (al 3 0), .ref (al 4 0), .int (iZ (g1v 0 5 0)), .ref (al 11 0), .long (lZ (g1v 0 7 0)), .int (iZ (g1v 0 8 0)), .int (iZ (g1v 0 9 0)), .int (iZ (g1v 0 10 0)), .int (iZ (s9)), .int (iZ (g1v 0 12 0)), .int (iZ (g1v 0 13 0))])))) 4 0 = some (al 4 0, aI dA (8) (fun j => g1v 2 j 0)) := (e2_k (by decide)).trans fC
              have fX : (e2 en1v 0 0 (some (al 0 0, .inr (5, [.int (iZ (g1v 0 0 0)), .ref (al 1 0), .ref (al 1 1), .ref (al 3 0), .ref (al 4 0), .int (iZ (g1v 0 5 0)), .ref (al 11 0), .long (lZ (g1v 0 7 0)), .int (iZ (g1v 0 8 0)), .int (iZ (g1v 0 9 0)), .int (iZ (g1v 0 10 0)), .int (iZ (s9)), .int (iZ (g1v 0 12 0)), .int (iZ (g1v 0 13 0))])))) 0 0 = some (al 0 0, .inr (5, [.int (iZ (g1v 0 0 0)), .ref (al 1 0), .ref (al 1 1), .ref (al 3 0), .ref (al 4 0), .int (iZ (g1v 0 5 0)), .ref (al 11 0), .long (lZ (g1v 0 7 0)), .int (iZ (g1v 0 8 0)), .int (iZ (g1v 0 9 0)), .int (iZ (g1v 0 10 0)), .int (iZ (s9)), .int (iZ (g1v 0 12 0)), .int (iZ (g1v 0 13 0))])) := e2_s _ _ _ _
              obtain ⟨en2v, hen2v⟩ : ∃ x : en_T, x = (e2 en1v 0 0 (some (al 0 0, .inr (5, [.int (iZ (g1v 0 0 0)), .ref (al 1 0), .ref (al 1 1), .ref (al 3 0), .ref (al 4 0), .int (iZ (g1v 0 5 0)), .ref (al 11 0), .long (lZ (g1v 0 7 0)), .int (iZ (g1v 0 8 0)), .int (iZ (g1v 0 9 0)), .int (iZ (g1v 0 10 0)), .int (iZ (s9)), .int (iZ (g1v 0 12 0)), .int (iZ (g1v 0 13 0))])))) := ⟨_, rfl⟩
              rw [← hen2v] at hW
              obtain ⟨g2v, hg2v⟩ : ∃ x : St, x = wr g1v 0 11 s9 := ⟨_, rfl⟩
              have hE2v : EC dA z g2v al en2v := ec_x hE1v  (fun t i j h => by rw [hg2v]; repeat rw [wr_n (by omega)]) (fun _ _ _ => rfl) (fun k i h => by rw [hen2v]; exact e2_n (by omega)) (by rw [hen2v, hg2v]; refine (e2_s _ _ _ _).trans ?_; simp [wr])
              have hFR2v : FR en1v en2v := fun k i h1 h2 => by rw [hen2v]; exact e2_n (by omega)
              have hAS2v : AS g1v g2v al al := AS_e (by rw [hg2v]; rfl) (by rw [hg2v]; rfl) (by rw [hg2v]; rfl)
              have hFR2v := FR.tr hFR1v hFR2v
              have hAS2v := AS.tr hAS1v hAS2v
              have hN2v := hAS2v.1
              have fX : en2v 0 0 = some (al 0 0, .inr (5, [.int (iZ (g2v 0 0 0)), .ref (al 1 0), .ref (al 1 1), .ref (al 3 0), .ref (al 4 0), .int (iZ (g2v 0 5 0)), .ref (al 11 0), .long (lZ (g2v 0 7 0)), .int (iZ (g2v 0 8 0)), .int (iZ (g2v 0 9 0)), .int (iZ (g2v 0 10 0)), .int (iZ (g2v 0 11 0)), .int (iZ (g2v 0 12 0)), .int (iZ (g2v 0 13 0))])) := ec_X hE2v
              have fL0 : en2v 1 0 = some (al 1 0, .inr (1, [.int (iZ (g2v 3 0 0)), .ref (al 2 0), .int (iZ (g2v 1 0 0))])) := ec_L0 hE2v
              have fL1 : en2v 1 1 = some (al 1 1, .inr (1, [.int (iZ (g2v 3 1 0)), .ref (al 2 1), .int (iZ (g2v 1 1 0))])) := ec_L1 hE2v
              have fQ : en2v 3 0 = some (al 3 0, aR dA (4) (fun j => some (al 9 j))) := ec_Q hE2v
              have fC : en2v 4 0 = some (al 4 0, aI dA (8) (fun j => g2v 2 j 0)) := ec_C hE2v
              refine lv_aload_n hx hb dX3_flow_36 rfl (lv_at hl 0 rfl) ?_
              refine lv_iload_n hx hb dX3_flow_37 rfl (lv_at hl 3 rfl) ?_
              refine g_put (C := RX3) (T := TX3) (N := 14) (ci := 5) (ty := .int) (v := .int (iZ (k9))) (fs' := [.int (iZ (g2v 0 0 0)), .ref (al 1 0), .ref (al 1 1), .ref (al 3 0), .ref (al 4 0), .int (iZ (g2v 0 5 0)), .ref (al 11 0), .long (lZ (g2v 0 7 0)), .int (iZ (g2v 0 8 0)), .int (iZ (k9)), .int (iZ (g2v 0 10 0)), .int (iZ (g2v 0 11 0)), .int (iZ (g2v 0 12 0)), .int (iZ (g2v 0 13 0))]) hx hb hts hi5 tyX3 tyX3_ok nmX3 hown hK hW hS fX rfl 9 (by decide) (hts (.fieldLink RX3 36 "LongTransfer" "answerKind" "I") (by decide +kernel)) (fun _ h9 => h9) rfl (by decide +kernel) rfl rfl (Nat.le_of_ble_eq_true rfl) dX3_flow_38 rfl (fun H locs hW hS => ?_)
              have fL0 : (e2 en2v 0 0 (some (al 0 0, .inr (5, [.int (iZ (g2v 0 0 0)), .ref (al 1 0), .ref (al 1 1), .ref (al 3 0), .ref (al 4 0), .int (iZ (g2v 0 5 0)), .ref (al 11 0), .long (lZ (g2v 0 7 0)), .int (iZ (g2v 0 8 0)), .int (iZ (k9)), .int (iZ (g2v 0 10 0)), .int (iZ (g2v 0 11 0)), .int (iZ (g2v 0 12 0)), .int (iZ (g2v 0 13 0))])))) 1 0 = some (al 1 0, .inr (1, [.int (iZ (g2v 3 0 0)), .ref (al 2 0), .int (iZ (g2v 1 0 0))])) := (e2_k (by decide)).trans fL0
              have fL1 : (e2 en2v 0 0 (some (al 0 0, .inr (5, [.int (iZ (g2v 0 0 0)), .ref (al 1 0), .ref (al 1 1), .ref (al 3 0), .ref (al 4 0), .int (iZ (g2v 0 5 0)), .ref (al 11 0), .long (lZ (g2v 0 7 0)), .int (iZ (g2v 0 8 0)), .int (iZ (k9)), .int (iZ (g2v 0 10 0)), .int (iZ (g2v 0 11 0)), .int (iZ (g2v 0 12 0)), .int (iZ (g2v 0 13 0))])))) 1 1 = some (al 1 1, .inr (1, [.int (iZ (g2v 3 1 0)), .ref (al 2 1), .int (iZ (g2v 1 1 0))])) := (e2_k (by decide)).trans fL1
              have fQ : (e2 en2v 0 0 (some (al 0 0, .inr (5, [.int (iZ (g2v 0 0 0)), .ref (al 1 0), .ref (al 1 1), .ref (al 3 0), .ref (al 4 0), .int (iZ (g2v 0 5 0)), .ref (al 11 0), .long (lZ (g2v 0 7 0)), .int (iZ (g2v 0 8 0)), .int (iZ (k9)), .int (iZ (g2v 0 10 0)), .int (iZ (g2v 0 11 0)), .int (iZ (g2v 0 12 0)), .int (iZ (g2v 0 13 0))])))) 3 0 = some (al 3 0, aR dA (4) (fun j => some (al 9 j))) := (e2_k (by decide)).trans fQ
              have fC : (e2 en2v 0 0 (some (al 0 0, .inr (5, [.int (iZ (g2v 0 0 0)), .ref (al 1 0), .ref (al 1 1), .ref (al 3 0), .ref (al 4 0), .int (iZ (g2v 0 5 0)), .ref (al 11 0), .long (lZ (g2v 0 7 0)), .int (iZ (g2v 0 8 0)), .int (iZ (k9)), .int (iZ (g2v 0 10 0)), .int (iZ (g2v 0 11 0)), .int (iZ (g2v 0 12 0)), .int (iZ (g2v 0 13 0))])))) 4 0 = some (al 4 0, aI dA (8) (fun j => g2v 2 j 0)) := (e2_k (by decide)).trans fC
              have fX : (e2 en2v 0 0 (some (al 0 0, .inr (5, [.int (iZ (g2v 0 0 0)), .ref (al 1 0), .ref (al 1 1), .ref (al 3 0), .ref (al 4 0), .int (iZ (g2v 0 5 0)), .ref (al 11 0), .long (lZ (g2v 0 7 0)), .int (iZ (g2v 0 8 0)), .int (iZ (k9)), .int (iZ (g2v 0 10 0)), .int (iZ (g2v 0 11 0)), .int (iZ (g2v 0 12 0)), .int (iZ (g2v 0 13 0))])))) 0 0 = some (al 0 0, .inr (5, [.int (iZ (g2v 0 0 0)), .ref (al 1 0), .ref (al 1 1), .ref (al 3 0), .ref (al 4 0), .int (iZ (g2v 0 5 0)), .ref (al 11 0), .long (lZ (g2v 0 7 0)), .int (iZ (g2v 0 8 0)), .int (iZ (k9)), .int (iZ (g2v 0 10 0)), .int (iZ (g2v 0 11 0)), .int (iZ (g2v 0 12 0)), .int (iZ (g2v 0 13 0))])) := e2_s _ _ _ _
              obtain ⟨en3v, hen3v⟩ : ∃ x : en_T, x = (e2 en2v 0 0 (some (al 0 0, .inr (5, [.int (iZ (g2v 0 0 0)), .ref (al 1 0), .ref (al 1 1), .ref (al 3 0), .ref (al 4 0), .int (iZ (g2v 0 5 0)), .ref (al 11 0), .long (lZ (g2v 0 7 0)), .int (iZ (g2v 0 8 0)), .int (iZ (k9)), .int (iZ (g2v 0 10 0)), .int (iZ (g2v 0 11 0)), .int (iZ (g2v 0 12 0)), .int (iZ (g2v 0 13 0))])))) := ⟨_, rfl⟩
              rw [← hen3v] at hW
              obtain ⟨g3v, hg3v⟩ : ∃ x : St, x = wr g2v 0 9 k9 := ⟨_, rfl⟩
              have hE3v : EC dA z g3v al en3v := ec_x hE2v  (fun t i j h => by rw [hg3v]; repeat rw [wr_n (by omega)]) (fun _ _ _ => rfl) (fun k i h => by rw [hen3v]; exact e2_n (by omega)) (by rw [hen3v, hg3v]; refine (e2_s _ _ _ _).trans ?_; simp [wr])
              have hFR3v : FR en2v en3v := fun k i h1 h2 => by rw [hen3v]; exact e2_n (by omega)
              have hAS3v : AS g2v g3v al al := AS_e (by rw [hg3v]; rfl) (by rw [hg3v]; rfl) (by rw [hg3v]; rfl)
              have hFR3v := FR.tr hFR2v hFR3v
              have hAS3v := AS.tr hAS2v hAS3v
              have hN3v := hAS3v.1
              have fX : en3v 0 0 = some (al 0 0, .inr (5, [.int (iZ (g3v 0 0 0)), .ref (al 1 0), .ref (al 1 1), .ref (al 3 0), .ref (al 4 0), .int (iZ (g3v 0 5 0)), .ref (al 11 0), .long (lZ (g3v 0 7 0)), .int (iZ (g3v 0 8 0)), .int (iZ (g3v 0 9 0)), .int (iZ (g3v 0 10 0)), .int (iZ (g3v 0 11 0)), .int (iZ (g3v 0 12 0)), .int (iZ (g3v 0 13 0))])) := ec_X hE3v
              have fL0 : en3v 1 0 = some (al 1 0, .inr (1, [.int (iZ (g3v 3 0 0)), .ref (al 2 0), .int (iZ (g3v 1 0 0))])) := ec_L0 hE3v
              have fL1 : en3v 1 1 = some (al 1 1, .inr (1, [.int (iZ (g3v 3 1 0)), .ref (al 2 1), .int (iZ (g3v 1 1 0))])) := ec_L1 hE3v
              have fQ : en3v 3 0 = some (al 3 0, aR dA (4) (fun j => some (al 9 j))) := ec_Q hE3v
              have fC : en3v 4 0 = some (al 4 0, aI dA (8) (fun j => g3v 2 j 0)) := ec_C hE3v
              refine z_iconst hx hb dX3_flow_41 ?_
              have hgz : g3v = sFlw g b9 s9 k9 := by subst hg3v; subst hg2v; subst hg1v; exact (if_pos (by omega)).symm
              rw [hgz] at hE3v hAS3v
              exact W.iret hx hb hr (fun t ht hw => ⟨⟨_, (en3v, al), rfl, ⟨congrArg iZ (if_pos (by omega)).symm, hE3v, hFR3v, hAS3v⟩, by show Wd _ _ _ t.heap; rw [ht]; exact hW⟩, hS.F ht⟩) hS.2.2 dX3_flow_42
            · refine z_bipush hx hb dX3_flow_23 (by decide) ?_
              have hFRz := FR.rf en
              have hASz := AS.rf g al
              have hgz : g = sFlw g b9 s9 k9 := by exact (if_neg (by omega)).symm
              have hEz := hgz ▸ hE
              exact W.iret hx hb hr (fun t ht hw => ⟨⟨_, (en, al), rfl, ⟨congrArg iZ (if_neg (by omega)).symm, hgz ▸ hE, hFRz, hgz ▸ hASz⟩, by show Wd _ _ _ t.heap; rw [ht]; exact hW⟩, hS.F ht⟩) hS.2.2 dX3_flow_25
      · rw [if_neg hs1]
        refine z_if_eq (tgt := 23) hx hb dX3_flow_11 (by decide) (by omega) (fun c_11 => ?_) (fun c_11 => ?_)
        · refine z_bipush hx hb dX3_flow_23 (by decide) ?_
          have hFRz := FR.rf en
          have hASz := AS.rf g al
          have hgz : g = sFlw g b9 s9 k9 := by exact (if_neg (by omega)).symm
          have hEz := hgz ▸ hE
          exact W.iret hx hb hr (fun t ht hw => ⟨⟨_, (en, al), rfl, ⟨congrArg iZ (if_neg (by omega)).symm, hgz ▸ hE, hFRz, hgz ▸ hASz⟩, by show Wd _ _ _ t.heap; rw [ht]; exact hW⟩, hS.F ht⟩) hS.2.2 dX3_flow_25
        · exact absurd c_11 (by omega)
  · rw [if_neg hb1]
    refine z_if_eq (tgt := 23) hx hb dX3_flow_4 (by decide) (by omega) (fun c_4 => ?_) (fun c_4 => ?_)
    · refine z_bipush hx hb dX3_flow_23 (by decide) ?_
      have hFRz := FR.rf en
      have hASz := AS.rf g al
      have hgz : g = sFlw g b9 s9 k9 := by exact (if_neg (by omega)).symm
      have hEz := hgz ▸ hE
      exact W.iret hx hb hr (fun t ht hw => ⟨⟨_, (en, al), rfl, ⟨congrArg iZ (if_neg (by omega)).symm, hgz ▸ hE, hFRz, hgz ▸ hASz⟩, by show Wd _ _ _ t.heap; rw [ht]; exact hW⟩, hS.F ht⟩) hS.2.2 dX3_flow_25
    · exact absurd c_4 (by omega)
set_option maxHeartbeats 4000000 in
set_option maxRecDepth 100000 in
theorem c_X3_length (l : Launch) (D : va_G) (dA : Nat → ClassId) (z : Nat → Nat) (en : en_T) (g : St) (al : Al)  (hE : EC dA z g al en) (hI : IB g) : Met l yX3_length wsX3_length ({ frames := 0, cells := 0, slots := 0, locals := 0 }) (gP D dA z en [.ref (al 0 0)]) (va_Qi (fun (r : Int32) (_ : Unit) => r = iZ (g 1 2 0)) (fun _ t9 => Wd D (z 0) en t9.heap) (fun q => z 0 ≤ q)) (0) (0) (fun q => z 0 ≤ q) := by
  refine gMet (own := RX3) (cc := cX3_length) (maxL := 1) (ret := (some .int)) (by decide) rfl rfl (Nat.le_of_ble_eq_true rfl) ?_
  intro p e s m below meth c hx hb hml hown hts hr hlocks hnm hg hW ls hl
  have hK := hg.1
  have hS : va_S (fun q => z 0 ≤ q) s.heap s.heap [] := va_S.rf
  have hi5 : ∀ w ∈ u_ws RX3 TX3 14, w ∈ wsX3_length := by decide +kernel
  have hl : lv_has ls 1 [(0, .ref (al 0 0))] := hl
  obtain ⟨kg, ig, hkg, fG⟩ := hE.2.2.2.2.2.2.2.2.2
  have fX : en 0 0 = some (al 0 0, .inr (5, [.int (iZ (g 0 0 0)), .ref (al 1 0), .ref (al 1 1), .ref (al 3 0), .ref (al 4 0), .int (iZ (g 0 5 0)), .ref (al 11 0), .long (lZ (g 0 7 0)), .int (iZ (g 0 8 0)), .int (iZ (g 0 9 0)), .int (iZ (g 0 10 0)), .int (iZ (g 0 11 0)), .int (iZ (g 0 12 0)), .int (iZ (g 0 13 0))])) := ec_X hE
  have fL0 : en 1 0 = some (al 1 0, .inr (1, [.int (iZ (g 3 0 0)), .ref (al 2 0), .int (iZ (g 1 0 0))])) := ec_L0 hE
  have fL1 : en 1 1 = some (al 1 1, .inr (1, [.int (iZ (g 3 1 0)), .ref (al 2 1), .int (iZ (g 1 1 0))])) := ec_L1 hE
  have fQ : en 3 0 = some (al 3 0, aR dA (4) (fun j => some (al 9 j))) := ec_Q hE
  have fC : en 4 0 = some (al 4 0, aI dA (8) (fun j => g 2 j 0)) := ec_C hE
  refine lv_aload_n hx hb dX3_length_0 rfl (lv_at hl 0 rfl) ?_
  refine g_get (C := RX3) (T := TX3) (N := 14) (ci := 5) (v := .ref (al 11 0)) hx hb hts hi5 hown hK hW fX rfl 6 (by decide) (hts (.fieldLink RX3 33 "LongTransfer" "gotOctets" "[B") (by decide +kernel)) (fun _ h9 => h9) rfl dX3_length_1 ?_
  refine g_blen hx hb hg hW hS fG dX3_length_4 ?_
  exact W.iret hx hb hr (fun t ht hw => ⟨⟨_, (), rfl, rfl, by show Wd _ _ _ t.heap; rw [ht]; exact hW⟩, hS.F ht⟩) hS.2.2 dX3_length_5
set_option maxHeartbeats 4000000 in
set_option maxRecDepth 100000 in
theorem c_X3_ended (l : Launch) (D : va_G) (dA : Nat → ClassId) (z : Nat → Nat) (en : en_T) (g : St) (al : Al) (n : Int) (hn : iB n) (hE : EC dA z g al en) (hI : IB g) : Met l yX3_ended wsX3_ended ({ frames := 0, cells := 0, slots := 0, locals := 0 }) (gP D dA z en [.ref (al 0 0), .int (iZ (n))]) (va_Qi (fun (r : Int32) (_ : Unit) => r = iZ (aEnd g n)) (fun _ t9 => Wd D (z 0) en t9.heap) (fun q => z 0 ≤ q)) (0) (0) (fun q => z 0 ≤ q) := by
  refine gMet (own := RX3) (cc := cX3_ended) (maxL := 2) (ret := (some .int)) (by decide) rfl rfl (Nat.le_of_ble_eq_true rfl) ?_
  intro p e s m below meth c hx hb hml hown hts hr hlocks hnm hg hW ls hl
  have hK := hg.1
  have hS : va_S (fun q => z 0 ≤ q) s.heap s.heap [] := va_S.rf
  have hi5 : ∀ w ∈ u_ws RX3 TX3 14, w ∈ wsX3_ended := by decide +kernel
  have hl : lv_has ls 2 [(0, .ref (al 0 0)), (1, .int (iZ (n)))] := hl
  have fX : en 0 0 = some (al 0 0, .inr (5, [.int (iZ (g 0 0 0)), .ref (al 1 0), .ref (al 1 1), .ref (al 3 0), .ref (al 4 0), .int (iZ (g 0 5 0)), .ref (al 11 0), .long (lZ (g 0 7 0)), .int (iZ (g 0 8 0)), .int (iZ (g 0 9 0)), .int (iZ (g 0 10 0)), .int (iZ (g 0 11 0)), .int (iZ (g 0 12 0)), .int (iZ (g 0 13 0))])) := ec_X hE
  have fL0 : en 1 0 = some (al 1 0, .inr (1, [.int (iZ (g 3 0 0)), .ref (al 2 0), .int (iZ (g 1 0 0))])) := ec_L0 hE
  have fL1 : en 1 1 = some (al 1 1, .inr (1, [.int (iZ (g 3 1 0)), .ref (al 2 1), .int (iZ (g 1 1 0))])) := ec_L1 hE
  have fQ : en 3 0 = some (al 3 0, aR dA (4) (fun j => some (al 9 j))) := ec_Q hE
  have fC : en 4 0 = some (al 4 0, aI dA (8) (fun j => g 2 j 0)) := ec_C hE
  refine lv_iload_n hx hb dX3_ended_0 rfl (lv_at hl 1 rfl) ?_
  refine z_if_lt (tgt := 22) hx hb dX3_ended_1 (by decide) (by omega) (fun c_1 => ?_) (fun c_1 => ?_)
  · refine z_bipush hx hb dX3_ended_22 (by decide) ?_
    exact W.iret hx hb hr (fun t ht hw => ⟨⟨_, (), rfl, congrArg iZ (if_neg (by omega)).symm, by show Wd _ _ _ t.heap; rw [ht]; exact hW⟩, hS.F ht⟩) hS.2.2 dX3_ended_24
  · refine lv_iload_n hx hb dX3_ended_4 rfl (lv_at hl 1 rfl) ?_
    refine lv_aload_n hx hb dX3_ended_5 rfl (lv_at hl 0 rfl) ?_
    refine g_get (C := RX3) (T := TX3) (N := 14) (ci := 5) (v := .ref (al 4 0)) hx hb hts hi5 hown hK hW fX rfl 4 (by decide) (hts (.fieldLink RX3 25 "LongTransfer" "counts" "[I") (by decide +kernel)) (fun _ h9 => h9) rfl dX3_ended_6 ?_
    refine g_len_aI hx hb hK hW fC (by omega) dX3_ended_9 ?_
    refine z_icmp_ge (tgt := 22) hx hb dX3_ended_10 (by decide) (by omega) (by omega) (fun c_10 => ?_) (fun c_10 => ?_)
    · refine z_bipush hx hb dX3_ended_22 (by decide) ?_
      exact W.iret hx hb hr (fun t ht hw => ⟨⟨_, (), rfl, congrArg iZ (if_neg (by omega)).symm, by show Wd _ _ _ t.heap; rw [ht]; exact hW⟩, hS.F ht⟩) hS.2.2 dX3_ended_24
    · refine lv_aload_n hx hb dX3_ended_13 rfl (lv_at hl 0 rfl) ?_
      refine g_get (C := RX3) (T := TX3) (N := 14) (ci := 5) (v := .ref (al 4 0)) hx hb hts hi5 hown hK hW fX rfl 4 (by decide) (hts (.fieldLink RX3 25 "LongTransfer" "counts" "[I") (by decide +kernel)) (fun _ h9 => h9) rfl dX3_ended_14 ?_
      refine lv_iload_n hx hb dX3_ended_17 rfl (lv_at hl 1 rfl) ?_
      refine g_iald hx hb hK hW fC (by omega) (by omega) (by omega) dX3_ended_18 ?_
      refine lv_goto (tgt := 24) hx hb dX3_ended_19 (by decide) ?_
      exact W.iret hx hb hr (fun t ht hw => ⟨⟨_, (), rfl, congrArg iZ (if_pos (by omega)).symm, by show Wd _ _ _ t.heap; rw [ht]; exact hW⟩, hS.F ht⟩) hS.2.2 dX3_ended_24
set_option maxHeartbeats 4000000 in
set_option maxRecDepth 100000 in
theorem c_X3_wait2 (l : Launch) (D : va_G) (dA : Nat → ClassId) (z : Nat → Nat) (en : en_T) (g : St) (al : Al) (n : Int) (hn : iB n) (hE : EC dA z g al en) (hI : IB g) : Met l yX3_wait2 wsX3_wait2 ({ frames := 0, cells := 0, slots := 0, locals := 0 }) (gP D dA z en [.ref (al 0 0), .int (iZ (n))]) (va_Qi (fun (r8 : Int32) (u : en_T × Al) => r8 = iZ (aWai g n) ∧ CP dA z (sWai g n) g al en u) (fun u t9 => Wd D (z 0) u.1 t9.heap) (fun q => z 0 ≤ q)) (0) (0) (fun q => z 0 ≤ q) := by
  refine gMet (own := RX3) (cc := cX3_wait2) (maxL := 3) (ret := (some .int)) (by decide) rfl rfl (Nat.le_of_ble_eq_true rfl) ?_
  intro p e s m below meth c hx hb hml hown hts hr hlocks hnm hg hW ls hl
  have hK := hg.1
  have hS : va_S (fun q => z 0 ≤ q) s.heap s.heap [] := va_S.rf
  have hi5 : ∀ w ∈ u_ws RX3 TX3 14, w ∈ wsX3_wait2 := by decide +kernel
  have hl : lv_has ls 3 [(0, .ref (al 0 0)), (1, .int (iZ (n)))] := hl
  have fX : en 0 0 = some (al 0 0, .inr (5, [.int (iZ (g 0 0 0)), .ref (al 1 0), .ref (al 1 1), .ref (al 3 0), .ref (al 4 0), .int (iZ (g 0 5 0)), .ref (al 11 0), .long (lZ (g 0 7 0)), .int (iZ (g 0 8 0)), .int (iZ (g 0 9 0)), .int (iZ (g 0 10 0)), .int (iZ (g 0 11 0)), .int (iZ (g 0 12 0)), .int (iZ (g 0 13 0))])) := ec_X hE
  have fL0 : en 1 0 = some (al 1 0, .inr (1, [.int (iZ (g 3 0 0)), .ref (al 2 0), .int (iZ (g 1 0 0))])) := ec_L0 hE
  have fL1 : en 1 1 = some (al 1 1, .inr (1, [.int (iZ (g 3 1 0)), .ref (al 2 1), .int (iZ (g 1 1 0))])) := ec_L1 hE
  have fQ : en 3 0 = some (al 3 0, aR dA (4) (fun j => some (al 9 j))) := ec_Q hE
  have fC : en 4 0 = some (al 4 0, aI dA (8) (fun j => g 2 j 0)) := ec_C hE
  refine lv_iload_n hx hb dX3_wait2_0 rfl (lv_at hl 1 rfl) ?_
  refine z_if_lt (tgt := 10) hx hb dX3_wait2_1 (by decide) (by omega) (fun c_1 => ?_) (fun c_1 => ?_)
  · refine z_bipush hx hb dX3_wait2_10 (by decide) ?_
    have hFRz := FR.rf en
    have hASz := AS.rf g al
    have hgz : g = sWai g n := by exact (if_neg (by omega)).symm
    have hEz := hgz ▸ hE
    exact W.iret hx hb hr (fun t ht hw => ⟨⟨_, (en, al), rfl, ⟨congrArg iZ (if_neg (by omega)).symm, hgz ▸ hE, hFRz, hgz ▸ hASz⟩, by show Wd _ _ _ t.heap; rw [ht]; exact hW⟩, hS.F ht⟩) hS.2.2 dX3_wait2_12
  · refine lv_iload_n hx hb dX3_wait2_4 rfl (lv_at hl 1 rfl) ?_
    refine z_bipush hx hb dX3_wait2_5 (by decide) ?_
    refine z_icmp_le (tgt := 13) hx hb dX3_wait2_7 (by decide) (by omega) (by omega) (fun c_7 => ?_) (fun c_7 => ?_)
    · refine lv_aload_n hx hb dX3_wait2_13 rfl (lv_at hl 0 rfl) ?_
      refine g_get (C := RX3) (T := TX3) (N := 14) (ci := 5) (v := .int (iZ (g 0 12 0))) hx hb hts hi5 hown hK hW fX rfl 12 (by decide) (hts (.fieldLink RX3 40 "LongTransfer" "waitLimit" "I") (by decide +kernel)) (fun _ h9 => h9) rfl dX3_wait2_14 ?_
      refine lv_istore_n (lv' := [(2, .int (iZ (g 0 12 0))), (0, .ref (al 0 0)), (1, .int (iZ (n)))]) hx hb dX3_wait2_17 rfl hl (by decide) rfl (fun ls hl => ?_)
      refine lv_aload_n hx hb dX3_wait2_18 rfl (lv_at hl 1 rfl) ?_
      refine lv_iload_n hx hb dX3_wait2_19 rfl (lv_at hl 2 rfl) ?_
      refine g_put (C := RX3) (T := TX3) (N := 14) (ci := 5) (ty := .int) (v := .int (iZ (n))) (fs' := [.int (iZ (g 0 0 0)), .ref (al 1 0), .ref (al 1 1), .ref (al 3 0), .ref (al 4 0), .int (iZ (g 0 5 0)), .ref (al 11 0), .long (lZ (g 0 7 0)), .int (iZ (g 0 8 0)), .int (iZ (g 0 9 0)), .int (iZ (g 0 10 0)), .int (iZ (g 0 11 0)), .int (iZ (n)), .int (iZ (g 0 13 0))]) hx hb hts hi5 tyX3 tyX3_ok nmX3 hown hK hW hS fX rfl 12 (by decide) (hts (.fieldLink RX3 40 "LongTransfer" "waitLimit" "I") (by decide +kernel)) (fun _ h9 => h9) rfl (by decide +kernel) rfl rfl (Nat.le_of_ble_eq_true rfl) dX3_wait2_20 rfl (fun H locs hW hS => ?_)
      have fL0 : (e2 en 0 0 (some (al 0 0, .inr (5, [.int (iZ (g 0 0 0)), .ref (al 1 0), .ref (al 1 1), .ref (al 3 0), .ref (al 4 0), .int (iZ (g 0 5 0)), .ref (al 11 0), .long (lZ (g 0 7 0)), .int (iZ (g 0 8 0)), .int (iZ (g 0 9 0)), .int (iZ (g 0 10 0)), .int (iZ (g 0 11 0)), .int (iZ (n)), .int (iZ (g 0 13 0))])))) 1 0 = some (al 1 0, .inr (1, [.int (iZ (g 3 0 0)), .ref (al 2 0), .int (iZ (g 1 0 0))])) := (e2_k (by decide)).trans fL0
      have fL1 : (e2 en 0 0 (some (al 0 0, .inr (5, [.int (iZ (g 0 0 0)), .ref (al 1 0), .ref (al 1 1), .ref (al 3 0), .ref (al 4 0), .int (iZ (g 0 5 0)), .ref (al 11 0), .long (lZ (g 0 7 0)), .int (iZ (g 0 8 0)), .int (iZ (g 0 9 0)), .int (iZ (g 0 10 0)), .int (iZ (g 0 11 0)), .int (iZ (n)), .int (iZ (g 0 13 0))])))) 1 1 = some (al 1 1, .inr (1, [.int (iZ (g 3 1 0)), .ref (al 2 1), .int (iZ (g 1 1 0))])) := (e2_k (by decide)).trans fL1
      have fQ : (e2 en 0 0 (some (al 0 0, .inr (5, [.int (iZ (g 0 0 0)), .ref (al 1 0), .ref (al 1 1), .ref (al 3 0), .ref (al 4 0), .int (iZ (g 0 5 0)), .ref (al 11 0), .long (lZ (g 0 7 0)), .int (iZ (g 0 8 0)), .int (iZ (g 0 9 0)), .int (iZ (g 0 10 0)), .int (iZ (g 0 11 0)), .int (iZ (n)), .int (iZ (g 0 13 0))])))) 3 0 = some (al 3 0, aR dA (4) (fun j => some (al 9 j))) := (e2_k (by decide)).trans fQ
      have fC : (e2 en 0 0 (some (al 0 0, .inr (5, [.int (iZ (g 0 0 0)), .ref (al 1 0), .ref (al 1 1), .ref (al 3 0), .ref (al 4 0), .int (iZ (g 0 5 0)), .ref (al 11 0), .long (lZ (g 0 7 0)), .int (iZ (g 0 8 0)), .int (iZ (g 0 9 0)), .int (iZ (g 0 10 0)), .int (iZ (g 0 11 0)), .int (iZ (n)), .int (iZ (g 0 13 0))])))) 4 0 = some (al 4 0, aI dA (8) (fun j => g 2 j 0)) := (e2_k (by decide)).trans fC
      have fX : (e2 en 0 0 (some (al 0 0, .inr (5, [.int (iZ (g 0 0 0)), .ref (al 1 0), .ref (al 1 1), .ref (al 3 0), .ref (al 4 0), .int (iZ (g 0 5 0)), .ref (al 11 0), .long (lZ (g 0 7 0)), .int (iZ (g 0 8 0)), .int (iZ (g 0 9 0)), .int (iZ (g 0 10 0)), .int (iZ (g 0 11 0)), .int (iZ (n)), .int (iZ (g 0 13 0))])))) 0 0 = some (al 0 0, .inr (5, [.int (iZ (g 0 0 0)), .ref (al 1 0), .ref (al 1 1), .ref (al 3 0), .ref (al 4 0), .int (iZ (g 0 5 0)), .ref (al 11 0), .long (lZ (g 0 7 0)), .int (iZ (g 0 8 0)), .int (iZ (g 0 9 0)), .int (iZ (g 0 10 0)), .int (iZ (g 0 11 0)), .int (iZ (n)), .int (iZ (g 0 13 0))])) := e2_s _ _ _ _
      obtain ⟨en1v, hen1v⟩ : ∃ x : en_T, x = (e2 en 0 0 (some (al 0 0, .inr (5, [.int (iZ (g 0 0 0)), .ref (al 1 0), .ref (al 1 1), .ref (al 3 0), .ref (al 4 0), .int (iZ (g 0 5 0)), .ref (al 11 0), .long (lZ (g 0 7 0)), .int (iZ (g 0 8 0)), .int (iZ (g 0 9 0)), .int (iZ (g 0 10 0)), .int (iZ (g 0 11 0)), .int (iZ (n)), .int (iZ (g 0 13 0))])))) := ⟨_, rfl⟩
      rw [← hen1v] at hW
      obtain ⟨g1v, hg1v⟩ : ∃ x : St, x = wr g 0 12 n := ⟨_, rfl⟩
      have hE1v : EC dA z g1v al en1v := ec_x hE  (fun t i j h => by rw [hg1v]; repeat rw [wr_n (by omega)]) (fun _ _ _ => rfl) (fun k i h => by rw [hen1v]; exact e2_n (by omega)) (by rw [hen1v, hg1v]; refine (e2_s _ _ _ _).trans ?_; simp [wr])
      have hFR1v : FR en en1v := fun k i h1 h2 => by rw [hen1v]; exact e2_n (by omega)
      have hAS1v : AS g g1v al al := AS_e (by rw [hg1v]; rfl) (by rw [hg1v]; rfl) (by rw [hg1v]; rfl)
      have hN1v := hAS1v.1
      have fX : en1v 0 0 = some (al 0 0, .inr (5, [.int (iZ (g1v 0 0 0)), .ref (al 1 0), .ref (al 1 1), .ref (al 3 0), .ref (al 4 0), .int (iZ (g1v 0 5 0)), .ref (al 11 0), .long (lZ (g1v 0 7 0)), .int (iZ (g1v 0 8 0)), .int (iZ (g1v 0 9 0)), .int (iZ (g1v 0 10 0)), .int (iZ (g1v 0 11 0)), .int (iZ (g1v 0 12 0)), .int (iZ (g1v 0 13 0))])) := ec_X hE1v
      have fL0 : en1v 1 0 = some (al 1 0, .inr (1, [.int (iZ (g1v 3 0 0)), .ref (al 2 0), .int (iZ (g1v 1 0 0))])) := ec_L0 hE1v
      have fL1 : en1v 1 1 = some (al 1 1, .inr (1, [.int (iZ (g1v 3 1 0)), .ref (al 2 1), .int (iZ (g1v 1 1 0))])) := ec_L1 hE1v
      have fQ : en1v 3 0 = some (al 3 0, aR dA (4) (fun j => some (al 9 j))) := ec_Q hE1v
      have fC : en1v 4 0 = some (al 4 0, aI dA (8) (fun j => g1v 2 j 0)) := ec_C hE1v
      refine lv_iload_n hx hb dX3_wait2_23 rfl (lv_at hl 0 rfl) ?_
      have hgz : g1v = sWai g n := by subst hg1v; exact (if_pos (by omega)).symm
      rw [hgz] at hE1v hAS1v
      exact W.iret hx hb hr (fun t ht hw => ⟨⟨_, (en1v, al), rfl, ⟨congrArg iZ (if_pos (by omega)).symm, hE1v, hFR1v, hAS1v⟩, by show Wd _ _ _ t.heap; rw [ht]; exact hW⟩, hS.F ht⟩) hS.2.2 dX3_wait2_24
    · refine z_bipush hx hb dX3_wait2_10 (by decide) ?_
      have hFRz := FR.rf en
      have hASz := AS.rf g al
      have hgz : g = sWai g n := by exact (if_neg (by omega)).symm
      have hEz := hgz ▸ hE
      exact W.iret hx hb hr (fun t ht hw => ⟨⟨_, (en, al), rfl, ⟨congrArg iZ (if_neg (by omega)).symm, hgz ▸ hE, hFRz, hgz ▸ hASz⟩, by show Wd _ _ _ t.heap; rw [ht]; exact hW⟩, hS.F ht⟩) hS.2.2 dX3_wait2_12
set_option maxHeartbeats 4000000 in
set_option maxRecDepth 100000 in
theorem c_X3_functional (l : Launch) (D : va_G) (dA : Nat → ClassId) (z : Nat → Nat) (en : en_T) (g : St) (al : Al) (b9 : Int) (hb9 : b9 = 0 ∨ b9 = 1) (hE : EC dA z g al en) (hI : IB g) : Met l yX3_functional wsX3_functional ({ frames := 1, cells := 0, slots := 0, locals := 20 }) (gP D dA z en [.ref (al 0 0), .int (iZ (b9))]) (va_Qi (fun (r8 : Int32) (u : en_T × Al) => r8 = iZ (g 1 0 0) ∧ CP dA z (wr g 0 13 b9) g al en u) (fun u t9 => Wd D (z 0) u.1 t9.heap) (fun q => z 0 ≤ q)) (0) (0) (fun q => z 0 ≤ q) := by
  refine gMet (own := RX3) (cc := cX3_functional) (maxL := 2) (ret := (some .int)) (by decide) rfl rfl (Nat.le_of_ble_eq_true rfl) ?_
  intro p e s m below meth c hx hb hml hown hts hr hlocks hnm hg hW ls hl
  have hK := hg.1
  have hS : va_S (fun q => z 0 ≤ q) s.heap s.heap [] := va_S.rf
  have hi5 : ∀ w ∈ u_ws RX3 TX3 14, w ∈ wsX3_functional := by decide +kernel
  have hl : lv_has ls 2 [(0, .ref (al 0 0)), (1, .int (iZ (b9)))] := hl
  obtain ⟨hIX, hIL, hIS, hIF, hIR, hIG⟩ := id hI
  unfold IL at hIL
  have fX : en 0 0 = some (al 0 0, .inr (5, [.int (iZ (g 0 0 0)), .ref (al 1 0), .ref (al 1 1), .ref (al 3 0), .ref (al 4 0), .int (iZ (g 0 5 0)), .ref (al 11 0), .long (lZ (g 0 7 0)), .int (iZ (g 0 8 0)), .int (iZ (g 0 9 0)), .int (iZ (g 0 10 0)), .int (iZ (g 0 11 0)), .int (iZ (g 0 12 0)), .int (iZ (g 0 13 0))])) := ec_X hE
  have fL0 : en 1 0 = some (al 1 0, .inr (1, [.int (iZ (g 3 0 0)), .ref (al 2 0), .int (iZ (g 1 0 0))])) := ec_L0 hE
  have fL1 : en 1 1 = some (al 1 1, .inr (1, [.int (iZ (g 3 1 0)), .ref (al 2 1), .int (iZ (g 1 1 0))])) := ec_L1 hE
  have fQ : en 3 0 = some (al 3 0, aR dA (4) (fun j => some (al 9 j))) := ec_Q hE
  have fC : en 4 0 = some (al 4 0, aI dA (8) (fun j => g 2 j 0)) := ec_C hE
  refine lv_aload_n hx hb dX3_functional_0 rfl (lv_at hl 0 rfl) ?_
  refine lv_iload_n hx hb dX3_functional_1 rfl (lv_at hl 1 rfl) ?_
  refine g_put (C := RX3) (T := TX3) (N := 14) (ci := 5) (ty := .boolean) (v := .int (iZ (b9))) (fs' := [.int (iZ (g 0 0 0)), .ref (al 1 0), .ref (al 1 1), .ref (al 3 0), .ref (al 4 0), .int (iZ (g 0 5 0)), .ref (al 11 0), .long (lZ (g 0 7 0)), .int (iZ (g 0 8 0)), .int (iZ (g 0 9 0)), .int (iZ (g 0 10 0)), .int (iZ (g 0 11 0)), .int (iZ (g 0 12 0)), .int (iZ (b9))]) hx hb hts hi5 tyX3 tyX3_ok nmX3 hown hK hW hS fX rfl 13 (by decide) (hts (.fieldLink RX3 52 "LongTransfer" "onlySingle" "Z") (by decide +kernel)) (fun _ h9 => h9) rfl (by decide +kernel) (nz_z (by omega)) (ft_z (by omega)) (Nat.le_of_ble_eq_true rfl) dX3_functional_2 rfl (fun H locs hW hS => ?_)
  have fL0 : (e2 en 0 0 (some (al 0 0, .inr (5, [.int (iZ (g 0 0 0)), .ref (al 1 0), .ref (al 1 1), .ref (al 3 0), .ref (al 4 0), .int (iZ (g 0 5 0)), .ref (al 11 0), .long (lZ (g 0 7 0)), .int (iZ (g 0 8 0)), .int (iZ (g 0 9 0)), .int (iZ (g 0 10 0)), .int (iZ (g 0 11 0)), .int (iZ (g 0 12 0)), .int (iZ (b9))])))) 1 0 = some (al 1 0, .inr (1, [.int (iZ (g 3 0 0)), .ref (al 2 0), .int (iZ (g 1 0 0))])) := (e2_k (by decide)).trans fL0
  have fL1 : (e2 en 0 0 (some (al 0 0, .inr (5, [.int (iZ (g 0 0 0)), .ref (al 1 0), .ref (al 1 1), .ref (al 3 0), .ref (al 4 0), .int (iZ (g 0 5 0)), .ref (al 11 0), .long (lZ (g 0 7 0)), .int (iZ (g 0 8 0)), .int (iZ (g 0 9 0)), .int (iZ (g 0 10 0)), .int (iZ (g 0 11 0)), .int (iZ (g 0 12 0)), .int (iZ (b9))])))) 1 1 = some (al 1 1, .inr (1, [.int (iZ (g 3 1 0)), .ref (al 2 1), .int (iZ (g 1 1 0))])) := (e2_k (by decide)).trans fL1
  have fQ : (e2 en 0 0 (some (al 0 0, .inr (5, [.int (iZ (g 0 0 0)), .ref (al 1 0), .ref (al 1 1), .ref (al 3 0), .ref (al 4 0), .int (iZ (g 0 5 0)), .ref (al 11 0), .long (lZ (g 0 7 0)), .int (iZ (g 0 8 0)), .int (iZ (g 0 9 0)), .int (iZ (g 0 10 0)), .int (iZ (g 0 11 0)), .int (iZ (g 0 12 0)), .int (iZ (b9))])))) 3 0 = some (al 3 0, aR dA (4) (fun j => some (al 9 j))) := (e2_k (by decide)).trans fQ
  have fC : (e2 en 0 0 (some (al 0 0, .inr (5, [.int (iZ (g 0 0 0)), .ref (al 1 0), .ref (al 1 1), .ref (al 3 0), .ref (al 4 0), .int (iZ (g 0 5 0)), .ref (al 11 0), .long (lZ (g 0 7 0)), .int (iZ (g 0 8 0)), .int (iZ (g 0 9 0)), .int (iZ (g 0 10 0)), .int (iZ (g 0 11 0)), .int (iZ (g 0 12 0)), .int (iZ (b9))])))) 4 0 = some (al 4 0, aI dA (8) (fun j => g 2 j 0)) := (e2_k (by decide)).trans fC
  have fX : (e2 en 0 0 (some (al 0 0, .inr (5, [.int (iZ (g 0 0 0)), .ref (al 1 0), .ref (al 1 1), .ref (al 3 0), .ref (al 4 0), .int (iZ (g 0 5 0)), .ref (al 11 0), .long (lZ (g 0 7 0)), .int (iZ (g 0 8 0)), .int (iZ (g 0 9 0)), .int (iZ (g 0 10 0)), .int (iZ (g 0 11 0)), .int (iZ (g 0 12 0)), .int (iZ (b9))])))) 0 0 = some (al 0 0, .inr (5, [.int (iZ (g 0 0 0)), .ref (al 1 0), .ref (al 1 1), .ref (al 3 0), .ref (al 4 0), .int (iZ (g 0 5 0)), .ref (al 11 0), .long (lZ (g 0 7 0)), .int (iZ (g 0 8 0)), .int (iZ (g 0 9 0)), .int (iZ (g 0 10 0)), .int (iZ (g 0 11 0)), .int (iZ (g 0 12 0)), .int (iZ (b9))])) := e2_s _ _ _ _
  obtain ⟨en1v, hen1v⟩ : ∃ x : en_T, x = (e2 en 0 0 (some (al 0 0, .inr (5, [.int (iZ (g 0 0 0)), .ref (al 1 0), .ref (al 1 1), .ref (al 3 0), .ref (al 4 0), .int (iZ (g 0 5 0)), .ref (al 11 0), .long (lZ (g 0 7 0)), .int (iZ (g 0 8 0)), .int (iZ (g 0 9 0)), .int (iZ (g 0 10 0)), .int (iZ (g 0 11 0)), .int (iZ (g 0 12 0)), .int (iZ (b9))])))) := ⟨_, rfl⟩
  rw [← hen1v] at hW
  obtain ⟨g1v, hg1v⟩ : ∃ x : St, x = wr g 0 13 b9 := ⟨_, rfl⟩
  have hE1v : EC dA z g1v al en1v := ec_x hE  (fun t i j h => by rw [hg1v]; repeat rw [wr_n (by omega)]) (fun _ _ _ => rfl) (fun k i h => by rw [hen1v]; exact e2_n (by omega)) (by rw [hen1v, hg1v]; refine (e2_s _ _ _ _).trans ?_; simp [wr])
  have hFR1v : FR en en1v := fun k i h1 h2 => by rw [hen1v]; exact e2_n (by omega)
  have hAS1v : AS g g1v al al := AS_e (by rw [hg1v]; rfl) (by rw [hg1v]; rfl) (by rw [hg1v]; rfl)
  have hN1v := hAS1v.1
  have fX : en1v 0 0 = some (al 0 0, .inr (5, [.int (iZ (g1v 0 0 0)), .ref (al 1 0), .ref (al 1 1), .ref (al 3 0), .ref (al 4 0), .int (iZ (g1v 0 5 0)), .ref (al 11 0), .long (lZ (g1v 0 7 0)), .int (iZ (g1v 0 8 0)), .int (iZ (g1v 0 9 0)), .int (iZ (g1v 0 10 0)), .int (iZ (g1v 0 11 0)), .int (iZ (g1v 0 12 0)), .int (iZ (g1v 0 13 0))])) := ec_X hE1v
  have fL0 : en1v 1 0 = some (al 1 0, .inr (1, [.int (iZ (g1v 3 0 0)), .ref (al 2 0), .int (iZ (g1v 1 0 0))])) := ec_L0 hE1v
  have fL1 : en1v 1 1 = some (al 1 1, .inr (1, [.int (iZ (g1v 3 1 0)), .ref (al 2 1), .int (iZ (g1v 1 1 0))])) := ec_L1 hE1v
  have fQ : en1v 3 0 = some (al 3 0, aR dA (4) (fun j => some (al 9 j))) := ec_Q hE1v
  have fC : en1v 4 0 = some (al 4 0, aI dA (8) (fun j => g1v 2 j 0)) := ec_C hE1v
  refine lv_aload_n hx hb dX3_functional_5 rfl (lv_at hl 0 rfl) ?_
  refine g_get (C := RX3) (T := TX3) (N := 14) (ci := 5) (v := .ref (al 1 0)) hx hb hts hi5 hown hK hW fX rfl 1 (by decide) (hts (.fieldLink RX3 10 "LongTransfer" "senders" "Ljava/util/ArrayList;") (by decide +kernel)) (fun _ h9 => h9) rfl dX3_functional_6 ?_
  refine va_calli (va_runV (As := []) (rest := []) ⟨hx, hb, hml, hown, hts⟩ (c_AL_size l D dA z en1v 0 (al 1 0) (al 2 0) (g1v 3 0 0) (g1v 1 0 0) fL0) (cwV 0 hts gX3_functional_Jx4a65c_size_8abf5 rfl rfl rfl (by decide +kernel) ⟨Nat.le_of_ble_eq_true rfl, Nat.le_of_ble_eq_true rfl⟩) ⟨gBl, gRecv hK hW (ci := 1) rfl fL0, gPre _ hg hS hW⟩ rfl rfl hl.1 rfl (lv_room (Nat.le_of_ble_eq_true rfl)) dX3_functional_9 ⟨(show 0 + 0 ≤ 0 by omega), (show 0 + 0 ≤ 0 by omega)⟩) hS (fun _ _ h => h) (fun _ h => h) (fun r9 u9 t9 H locs ht9 hvm9 hw9 hB9 hz9 hk9 hS => ?_)
  have hW : Wd D (z 0) en1v H := by rw [← ht9]; exact hB9
  subst hw9
  have hgz : g1v = wr g 0 13 b9 := by subst hg1v; rfl
  rw [hgz] at hE1v hAS1v
  exact W.iret hx hb hr (fun t ht hw => ⟨⟨_, (en1v, al), rfl, ⟨by rw [hgz]; rfl, hE1v, hFR1v, hAS1v⟩, by show Wd _ _ _ t.heap; rw [ht]; exact hW⟩, hS.F ht⟩) hS.2.2 dX3_functional_12
set_option maxHeartbeats 4000000 in
set_option maxRecDepth 100000 in
theorem c_X3_octet (l : Launch) (D : va_G) (dA : Nat → ClassId) (z : Nat → Nat) (en : en_T) (g : St) (al : Al) (mm i9 b9 : Int) (hm : iB mm) (hi : iB i9) (hb9 : -128 ≤ b9 ∧ b9 ≤ 127) (hE : EC dA z g al en) (hI : IB g) : Met l yX3_octet wsX3_octet ({ frames := 4, cells := 0, slots := 0, locals := 90 }) (gP D dA z en [.ref (al 0 0), .int (iZ (mm)), .int (iZ (i9)), .int (iZ (b9))]) (va_Qv (fun u : en_T × Al => CP dA z (sOct g mm i9 b9) g al en u) (fun u t9 => Wd D (z 0) u.1 t9.heap) (fun q => z 0 ≤ q)) (0) (0) (fun q => z 0 ≤ q) := by
  refine gMet (own := RX3) (cc := cX3_octet) (maxL := 5) (ret := none) (by decide) rfl rfl (Nat.le_of_ble_eq_true rfl) ?_
  intro p e s m below meth c hx hb hml hown hts hr hlocks hnm hg hW ls hl
  have hK := hg.1
  have hS : va_S (fun q => z 0 ≤ q) s.heap s.heap [] := va_S.rf
  have hi4 : ∀ w ∈ u_ws RX2 TX2 9, w ∈ wsX3_octet := by decide +kernel
  have hl : lv_has ls 5 [(0, .ref (al 0 0)), (1, .int (iZ (mm))), (2, .int (iZ (i9))), (3, .int (iZ (b9)))] := hl
  obtain ⟨hIX, hIL, hIS, hIF, hIR, hIG⟩ := id hI
  unfold IL at hIL
  have fX : en 0 0 = some (al 0 0, .inr (5, [.int (iZ (g 0 0 0)), .ref (al 1 0), .ref (al 1 1), .ref (al 3 0), .ref (al 4 0), .int (iZ (g 0 5 0)), .ref (al 11 0), .long (lZ (g 0 7 0)), .int (iZ (g 0 8 0)), .int (iZ (g 0 9 0)), .int (iZ (g 0 10 0)), .int (iZ (g 0 11 0)), .int (iZ (g 0 12 0)), .int (iZ (g 0 13 0))])) := ec_X hE
  have fL0 : en 1 0 = some (al 1 0, .inr (1, [.int (iZ (g 3 0 0)), .ref (al 2 0), .int (iZ (g 1 0 0))])) := ec_L0 hE
  have fL1 : en 1 1 = some (al 1 1, .inr (1, [.int (iZ (g 3 1 0)), .ref (al 2 1), .int (iZ (g 1 1 0))])) := ec_L1 hE
  have fQ : en 3 0 = some (al 3 0, aR dA (4) (fun j => some (al 9 j))) := ec_Q hE
  have fC : en 4 0 = some (al 4 0, aI dA (8) (fun j => g 2 j 0)) := ec_C hE
  refine lv_aload_n hx hb dX3_octet_0 rfl (lv_at hl 0 rfl) ?_
  refine lv_iload_n hx hb dX3_octet_1 rfl (lv_at hl 1 rfl) ?_
  refine va_callq (va_runV (As := [.int (iZ (mm))]) (rest := []) ⟨hx, hb, hml, hown, hts⟩ (c_X3_findSender l D dA z en g al mm (by omega) hE hI) (cwV 1 hts gX3_octet_X3_findSender rfl rfl rfl (by decide +kernel) ⟨Nat.le_of_ble_eq_true rfl, Nat.le_of_ble_eq_true rfl⟩) ⟨gBl, gRecv hK hW (ci := 5) rfl fX, gPre _ hg hS hW⟩ rfl rfl hl.1 rfl (lv_room (Nat.le_of_ble_eq_true rfl)) dX3_octet_2 ⟨(show 0 + 0 ≤ 0 by omega), (show 0 + 0 ≤ 0 by omega)⟩) hS (fun _ _ h => h) (fun _ h => h) (fun r9 u9 t9 H locs ht9 hvm9 hw9 hB9 hz9 hk9 hS => ?_)
  have hW : Wd D (z 0) en H := by rw [← ht9]; exact hB9
  by_cases hq : 1 ≤ mm ∧ mm ≤ g 1 0 0
  · rw [if_pos hq] at hw9
    subst hw9
    refine W.eq (g2 := F0 m 5 ls [.ref (al 5 mm)]) rfl ?_
    have fX : en 0 0 = some (al 0 0, .inr (5, [.int (iZ (g 0 0 0)), .ref (al 1 0), .ref (al 1 1), .ref (al 3 0), .ref (al 4 0), .int (iZ (g 0 5 0)), .ref (al 11 0), .long (lZ (g 0 7 0)), .int (iZ (g 0 8 0)), .int (iZ (g 0 9 0)), .int (iZ (g 0 10 0)), .int (iZ (g 0 11 0)), .int (iZ (g 0 12 0)), .int (iZ (g 0 13 0))])) := ec_X hE
    have fL0 : en 1 0 = some (al 1 0, .inr (1, [.int (iZ (g 3 0 0)), .ref (al 2 0), .int (iZ (g 1 0 0))])) := ec_L0 hE
    have fL1 : en 1 1 = some (al 1 1, .inr (1, [.int (iZ (g 3 1 0)), .ref (al 2 1), .int (iZ (g 1 1 0))])) := ec_L1 hE
    have fQ : en 3 0 = some (al 3 0, aR dA (4) (fun j => some (al 9 j))) := ec_Q hE
    have fC : en 4 0 = some (al 4 0, aI dA (8) (fun j => g 2 j 0)) := ec_C hE
    have fS : en 5 mm = some (al 5 mm, .inr (4, [.int (iZ (mm)), .ref (al 6 mm), .int (iZ (g 12 mm 0)), .int (iZ (g 13 mm 0)), .int (iZ (g 14 mm 0)), .int (iZ (g 15 mm 0)), .int (iZ (g 16 mm 0)), .int (iZ (g 17 mm 0)), .long (lZ (g 18 mm 0))])) := ec_S hE (by omega)
    have fO : en 6 mm = some (al 6 mm, aB dA (g 11 mm 0) (g 19 mm)) := ec_SO hE (by omega)
    refine lv_astore (lv' := [(4, .ref (al 5 mm)), (0, .ref (al 0 0)), (1, .int (iZ (mm))), (2, .int (iZ (i9))), (3, .int (iZ (b9)))]) hx hb dX3_octet_5 hl (by decide) rfl (fun ls hl => ?_)
    refine lv_aload hx hb dX3_octet_7 (lv_at hl 0 rfl) ?_
    refine lv_ifnull hx hb dX3_octet_9 ?_
    refine lv_iload_n hx hb dX3_octet_12 rfl (lv_at hl 3 rfl) ?_
    refine z_if_lt (tgt := 34) hx hb dX3_octet_13 (by decide) (by omega) (fun c_13 => ?_) (fun c_13 => ?_)
    · have hFRz := FR.rf en
      have hASz := AS.rf g al
      have hgz : g = sOct g mm i9 b9 := by exact (if_neg (fun q => by omega)).symm
      have hEz := hgz ▸ hE
      exact W.vret hx hb hr (fun t ht hw => ⟨⟨(en, al), rfl, ⟨hgz ▸ hE, hFRz, hgz ▸ hASz⟩, by show Wd _ _ _ t.heap; rw [ht]; exact hW⟩, hS.F ht⟩) hS.2.2 dX3_octet_34
    · refine lv_iload_n hx hb dX3_octet_16 rfl (lv_at hl 3 rfl) ?_
      refine lv_aload hx hb dX3_octet_17 (lv_at hl 0 rfl) ?_
      have hISm := hIS mm (by omega) (by omega)
      unfold IS at hISm
      refine g_get (C := RX2) (T := TX2) (N := 9) (ci := 4) (v := .ref (al 6 mm)) hx hb hts hi4 hown hK hW fS rfl 1 (by decide) (hts (.fieldLink RX3 69 "LongTransfer$Sender" "octets" "[B") (by decide +kernel)) (fun _ h9 => h9) rfl dX3_octet_19 ?_
      refine g_len_aB hx hb hK hW fO (by omega) dX3_octet_22 ?_
      refine z_icmp_ge (tgt := 34) hx hb dX3_octet_23 (by decide) (by omega) (by omega) (fun c_23 => ?_) (fun c_23 => ?_)
      · have hFRz := FR.rf en
        have hASz := AS.rf g al
        have hgz : g = sOct g mm i9 b9 := by exact (if_neg (fun q => by omega)).symm
        have hEz := hgz ▸ hE
        exact W.vret hx hb hr (fun t ht hw => ⟨⟨(en, al), rfl, ⟨hgz ▸ hE, hFRz, hgz ▸ hASz⟩, by show Wd _ _ _ t.heap; rw [ht]; exact hW⟩, hS.F ht⟩) hS.2.2 dX3_octet_34
      · refine lv_aload hx hb dX3_octet_26 (lv_at hl 0 rfl) ?_
        refine g_get (C := RX2) (T := TX2) (N := 9) (ci := 4) (v := .ref (al 6 mm)) hx hb hts hi4 hown hK hW fS rfl 1 (by decide) (hts (.fieldLink RX3 69 "LongTransfer$Sender" "octets" "[B") (by decide +kernel)) (fun _ h9 => h9) rfl dX3_octet_28 ?_
        refine lv_iload_n hx hb dX3_octet_31 rfl (lv_at hl 3 rfl) ?_
        refine lv_iload_n hx hb dX3_octet_32 rfl (lv_at hl 4 rfl) ?_
        refine g_bast (x := b9) hx hb hK hW hS fO (by omega) (by omega) (by omega) (by omega) dX3_octet_33 (fun H locs hW hS => ?_)
        have fX : (e2 en 6 mm (some (al 6 mm, aB dA (g 11 mm 0) (uF (g 19 mm) (i9) (b9))))) 0 0 = some (al 0 0, .inr (5, [.int (iZ (g 0 0 0)), .ref (al 1 0), .ref (al 1 1), .ref (al 3 0), .ref (al 4 0), .int (iZ (g 0 5 0)), .ref (al 11 0), .long (lZ (g 0 7 0)), .int (iZ (g 0 8 0)), .int (iZ (g 0 9 0)), .int (iZ (g 0 10 0)), .int (iZ (g 0 11 0)), .int (iZ (g 0 12 0)), .int (iZ (g 0 13 0))])) := (e2_k (by decide)).trans fX
        have fL0 : (e2 en 6 mm (some (al 6 mm, aB dA (g 11 mm 0) (uF (g 19 mm) (i9) (b9))))) 1 0 = some (al 1 0, .inr (1, [.int (iZ (g 3 0 0)), .ref (al 2 0), .int (iZ (g 1 0 0))])) := (e2_k (by decide)).trans fL0
        have fL1 : (e2 en 6 mm (some (al 6 mm, aB dA (g 11 mm 0) (uF (g 19 mm) (i9) (b9))))) 1 1 = some (al 1 1, .inr (1, [.int (iZ (g 3 1 0)), .ref (al 2 1), .int (iZ (g 1 1 0))])) := (e2_k (by decide)).trans fL1
        have fQ : (e2 en 6 mm (some (al 6 mm, aB dA (g 11 mm 0) (uF (g 19 mm) (i9) (b9))))) 3 0 = some (al 3 0, aR dA (4) (fun j => some (al 9 j))) := (e2_k (by decide)).trans fQ
        have fC : (e2 en 6 mm (some (al 6 mm, aB dA (g 11 mm 0) (uF (g 19 mm) (i9) (b9))))) 4 0 = some (al 4 0, aI dA (8) (fun j => g 2 j 0)) := (e2_k (by decide)).trans fC
        have fS : (e2 en 6 mm (some (al 6 mm, aB dA (g 11 mm 0) (uF (g 19 mm) (i9) (b9))))) 5 mm = some (al 5 mm, .inr (4, [.int (iZ (mm)), .ref (al 6 mm), .int (iZ (g 12 mm 0)), .int (iZ (g 13 mm 0)), .int (iZ (g 14 mm 0)), .int (iZ (g 15 mm 0)), .int (iZ (g 16 mm 0)), .int (iZ (g 17 mm 0)), .long (lZ (g 18 mm 0))])) := (e2_k (by decide)).trans fS
        have fO : (e2 en 6 mm (some (al 6 mm, aB dA (g 11 mm 0) (uF (g 19 mm) (i9) (b9))))) 6 mm = some (al 6 mm, aB dA (g 11 mm 0) (uF (g 19 mm) (i9) (b9))) := e2_s _ _ _ _
        obtain ⟨en1v, hen1v⟩ : ∃ x : en_T, x = (e2 en 6 mm (some (al 6 mm, aB dA (g 11 mm 0) (uF (g 19 mm) (i9) (b9))))) := ⟨_, rfl⟩
        rw [← hen1v] at hW
        obtain ⟨g1v, hg1v⟩ : ∃ x : St, x = wR g 19 mm (uF (g 19 mm) i9 b9) := ⟨_, rfl⟩
        have hE1v : EC dA z g1v al en1v := ec_o hE (m := mm) (by omega) (fun t i j h => by rw [hg1v, wR_n (by omega)]) (fun _ _ _ => rfl) (fun k i h => by rw [hen1v]; exact e2_n (by omega)) (by rw [hen1v, hg1v]; refine (e2_s _ _ _ _).trans ?_; rw [wR_s, wR_n (by omega)])
        have hFR1v : FR en en1v := fun k i h1 h2 => by rw [hen1v]; exact e2_n (by omega)
        have hAS1v : AS g g1v al al := AS_e (by rw [hg1v]; rfl) (by rw [hg1v]; rfl) (by rw [hg1v]; rfl)
        have hN1v := hAS1v.1
        have fX : en1v 0 0 = some (al 0 0, .inr (5, [.int (iZ (g1v 0 0 0)), .ref (al 1 0), .ref (al 1 1), .ref (al 3 0), .ref (al 4 0), .int (iZ (g1v 0 5 0)), .ref (al 11 0), .long (lZ (g1v 0 7 0)), .int (iZ (g1v 0 8 0)), .int (iZ (g1v 0 9 0)), .int (iZ (g1v 0 10 0)), .int (iZ (g1v 0 11 0)), .int (iZ (g1v 0 12 0)), .int (iZ (g1v 0 13 0))])) := ec_X hE1v
        have fL0 : en1v 1 0 = some (al 1 0, .inr (1, [.int (iZ (g1v 3 0 0)), .ref (al 2 0), .int (iZ (g1v 1 0 0))])) := ec_L0 hE1v
        have fL1 : en1v 1 1 = some (al 1 1, .inr (1, [.int (iZ (g1v 3 1 0)), .ref (al 2 1), .int (iZ (g1v 1 1 0))])) := ec_L1 hE1v
        have fQ : en1v 3 0 = some (al 3 0, aR dA (4) (fun j => some (al 9 j))) := ec_Q hE1v
        have fC : en1v 4 0 = some (al 4 0, aI dA (8) (fun j => g1v 2 j 0)) := ec_C hE1v
        have fS : en1v 5 mm = some (al 5 mm, .inr (4, [.int (iZ (mm)), .ref (al 6 mm), .int (iZ (g1v 12 mm 0)), .int (iZ (g1v 13 mm 0)), .int (iZ (g1v 14 mm 0)), .int (iZ (g1v 15 mm 0)), .int (iZ (g1v 16 mm 0)), .int (iZ (g1v 17 mm 0)), .long (lZ (g1v 18 mm 0))])) := ec_S hE1v (by omega)
        have fO : en1v 6 mm = some (al 6 mm, aB dA (g1v 11 mm 0) (g1v 19 mm)) := ec_SO hE1v (by omega)
        have hgz : g1v = sOct g mm i9 b9 := by subst hg1v; exact (if_pos ⟨hq, by omega, by omega⟩).symm
        rw [hgz] at hE1v hAS1v
        exact W.vret hx hb hr (fun t ht hw => ⟨⟨(en1v, al), rfl, ⟨hE1v, hFR1v, hAS1v⟩, by show Wd _ _ _ t.heap; rw [ht]; exact hW⟩, hS.F ht⟩) hS.2.2 dX3_octet_34
  · rw [if_neg hq] at hw9
    subst hw9
    refine W.eq (g2 := F0 m 5 ls [.null]) rfl ?_
    refine lv_astoreN (lv' := [(4, .null), (0, .ref (al 0 0)), (1, .int (iZ (mm))), (2, .int (iZ (i9))), (3, .int (iZ (b9)))]) hx hb dX3_octet_5 hl (by decide) rfl (fun ls hl => ?_)
    refine lv_aloadN hx hb dX3_octet_7 (lv_at hl 0 rfl) ?_
    refine lv_ifnullN (tgt := 34) hx hb dX3_octet_9 (by decide) ?_
    have hFRz := FR.rf en
    have hASz := AS.rf g al
    have hgz : g = sOct g mm i9 b9 := by exact (if_neg (fun q => by omega)).symm
    have hEz := hgz ▸ hE
    exact W.vret hx hb hr (fun t ht hw => ⟨⟨(en, al), rfl, ⟨hgz ▸ hE, hFRz, hgz ▸ hASz⟩, by show Wd _ _ _ t.heap; rw [ht]; exact hW⟩, hS.F ht⟩) hS.2.2 dX3_octet_34
set_option maxHeartbeats 4000000 in
set_option maxRecDepth 100000 in
theorem c_X3_frame (l : Launch) (D : va_G) (dA : Nat → ClassId) (z : Nat → Nat) (en : en_T) (g : St) (al : Al) (ff w9 : Int) (hff : iB ff) (hw9 : iB w9) (hE : EC dA z g al en) (hI : IB g) : Met l yX3_frame wsX3_frame ({ frames := 4, cells := 0, slots := 0, locals := 90 }) (gP D dA z en [.ref (al 0 0), .int (iZ (ff)), .int (iZ (w9))]) (va_Qi (fun (r : Int32) (_ : Unit) => r = iZ (aFrm g ff w9)) (fun _ t9 => Wd D (z 0) en t9.heap) (fun q => z 0 ≤ q)) (0) (0) (fun q => z 0 ≤ q) := by
  refine gMet (own := RX3) (cc := cX3_frame) (maxL := 4) (ret := (some .int)) (by decide) rfl rfl (Nat.le_of_ble_eq_true rfl) ?_
  intro p e s m below meth c hx hb hml hown hts hr hlocks hnm hg hW ls hl
  have hK := hg.1
  have hS : va_S (fun q => z 0 ≤ q) s.heap s.heap [] := va_S.rf
  have hi2 : ∀ w ∈ u_ws RX0 TX0 8, w ∈ wsX3_frame := by decide +kernel
  have hi5 : ∀ w ∈ u_ws RX3 TX3 14, w ∈ wsX3_frame := by decide +kernel
  have hl : lv_has ls 4 [(0, .ref (al 0 0)), (1, .int (iZ (ff))), (2, .int (iZ (w9)))] := hl
  obtain ⟨hIX, hIL, hIS, hIF, hIR, hIG⟩ := id hI
  unfold IL at hIL
  have fX : en 0 0 = some (al 0 0, .inr (5, [.int (iZ (g 0 0 0)), .ref (al 1 0), .ref (al 1 1), .ref (al 3 0), .ref (al 4 0), .int (iZ (g 0 5 0)), .ref (al 11 0), .long (lZ (g 0 7 0)), .int (iZ (g 0 8 0)), .int (iZ (g 0 9 0)), .int (iZ (g 0 10 0)), .int (iZ (g 0 11 0)), .int (iZ (g 0 12 0)), .int (iZ (g 0 13 0))])) := ec_X hE
  have fL0 : en 1 0 = some (al 1 0, .inr (1, [.int (iZ (g 3 0 0)), .ref (al 2 0), .int (iZ (g 1 0 0))])) := ec_L0 hE
  have fL1 : en 1 1 = some (al 1 1, .inr (1, [.int (iZ (g 3 1 0)), .ref (al 2 1), .int (iZ (g 1 1 0))])) := ec_L1 hE
  have fQ : en 3 0 = some (al 3 0, aR dA (4) (fun j => some (al 9 j))) := ec_Q hE
  have fC : en 4 0 = some (al 4 0, aI dA (8) (fun j => g 2 j 0)) := ec_C hE
  refine lv_iload_n hx hb dX3_frame_0 rfl (lv_at hl 1 rfl) ?_
  refine z_if_ne (tgt := 16) hx hb dX3_frame_1 (by decide) (by omega) (fun c_1 => ?_) (fun c_1 => ?_)
  · refine lv_aload_n hx hb dX3_frame_16 rfl (lv_at hl 0 rfl) ?_
    refine lv_iload_n hx hb dX3_frame_17 rfl (lv_at hl 1 rfl) ?_
    refine va_callq (va_runV (As := [.int (iZ (ff))]) (rest := []) ⟨hx, hb, hml, hown, hts⟩ (c_X3_findFrame l D dA z en g al ff (by omega) hE hI) (cwV 1 hts gX3_frame_X3_findFrame rfl rfl rfl (by decide +kernel) ⟨Nat.le_of_ble_eq_true rfl, Nat.le_of_ble_eq_true rfl⟩) ⟨gBl, gRecv hK hW (ci := 5) rfl fX, gPre _ hg hS hW⟩ rfl rfl hl.1 rfl (lv_room (Nat.le_of_ble_eq_true rfl)) dX3_frame_18 ⟨(show 0 + 0 ≤ 0 by omega), (show 0 + 0 ≤ 0 by omega)⟩) hS (fun _ _ h => h) (fun _ h => h) (fun r9 u9 t9 H locs ht9 hvm9 hw9 hB9 hz9 hk9 hS => ?_)
    have hW : Wd D (z 0) en H := by rw [← ht9]; exact hB9
    by_cases hq : 1 ≤ ff ∧ ff ≤ g 1 1 0
    · rw [if_pos hq] at hw9
      subst hw9
      refine W.eq (g2 := F0 m 21 ls [.ref (al 7 ff)]) rfl ?_
      have fX : en 0 0 = some (al 0 0, .inr (5, [.int (iZ (g 0 0 0)), .ref (al 1 0), .ref (al 1 1), .ref (al 3 0), .ref (al 4 0), .int (iZ (g 0 5 0)), .ref (al 11 0), .long (lZ (g 0 7 0)), .int (iZ (g 0 8 0)), .int (iZ (g 0 9 0)), .int (iZ (g 0 10 0)), .int (iZ (g 0 11 0)), .int (iZ (g 0 12 0)), .int (iZ (g 0 13 0))])) := ec_X hE
      have fL0 : en 1 0 = some (al 1 0, .inr (1, [.int (iZ (g 3 0 0)), .ref (al 2 0), .int (iZ (g 1 0 0))])) := ec_L0 hE
      have fL1 : en 1 1 = some (al 1 1, .inr (1, [.int (iZ (g 3 1 0)), .ref (al 2 1), .int (iZ (g 1 1 0))])) := ec_L1 hE
      have fQ : en 3 0 = some (al 3 0, aR dA (4) (fun j => some (al 9 j))) := ec_Q hE
      have fC : en 4 0 = some (al 4 0, aI dA (8) (fun j => g 2 j 0)) := ec_C hE
      have fF : en 7 ff = some (al 7 ff, .inr (2, [.int (iZ (g 20 ff 0)), .int (iZ (g 21 ff 0)), .int (iZ (g 22 ff 0)), .int (iZ (g 23 ff 0)), .int (iZ (g 24 ff 0)), .long (lZ (g 25 ff 0)), .ref (al 8 ff), .int (iZ (g 27 ff 0))])) := ec_F hE (by omega)
      have fFO : bA dA z en 8 ff (al 8 ff) (g 26 ff 0) (g 28 ff) := ec_FO hE (by omega)
      refine lv_astore_n (lv' := [(3, .ref (al 7 ff)), (0, .ref (al 0 0)), (1, .int (iZ (ff))), (2, .int (iZ (w9)))]) hx hb dX3_frame_21 rfl hl (by decide) rfl (fun ls hl => ?_)
      refine lv_aload_n hx hb dX3_frame_22 rfl (lv_at hl 0 rfl) ?_
      refine lv_ifnonnull (tgt := 28) hx hb dX3_frame_23 (by decide) ?_
      refine lv_iload_n hx hb dX3_frame_28 rfl (lv_at hl 3 rfl) ?_
      refine z_bipush hx hb dX3_frame_29 (by decide) ?_
      refine z_icmp_lt (tgt := 49) hx hb dX3_frame_31 (by decide) (by omega) (by omega) (fun c_31 => ?_) (fun c_31 => ?_)
      · refine lv_iload_n hx hb dX3_frame_49 rfl (lv_at hl 3 rfl) ?_
        by_cases hk0_ : w9 = 0
        · refine lv_tableIn (off := 38) (tgt := 88) hx hb dX3_frame_50 (by rw [iZ_T (by omega)]; omega) (by rw [iZ_T (by omega)]; omega) (by rw [iZ_T (by omega), hk0_]; rfl) (by decide) ?_
          refine lv_aload_n hx hb dX3_frame_88 rfl (lv_at hl 0 rfl) ?_
          refine g_get (C := RX0) (T := TX0) (N := 8) (ci := 2) (v := .int (iZ (g 20 ff 0))) hx hb hts hi2 hown hK hW fF rfl 0 (by decide) (hts (.fieldLink RX3 82 "LongTransfer$Frame" "kind" "I") (by decide +kernel)) (fun _ h9 => h9) rfl dX3_frame_89 ?_
          exact W.iret hx hb hr (fun t ht hw => ⟨⟨_, (), rfl, congrArg iZ ((if_neg (by omega)).trans ((if_pos (by omega)).trans ((if_neg (by omega)).trans (if_pos (by omega))))).symm, by show Wd _ _ _ t.heap; rw [ht]; exact hW⟩, hS.F ht⟩) hS.2.2 dX3_frame_92
        · skip
          by_cases hk1_ : w9 = 1
          · refine lv_tableIn (off := 43) (tgt := 93) hx hb dX3_frame_50 (by rw [iZ_T (by omega)]; omega) (by rw [iZ_T (by omega)]; omega) (by rw [iZ_T (by omega), hk1_]; rfl) (by decide) ?_
            refine lv_aload_n hx hb dX3_frame_93 rfl (lv_at hl 0 rfl) ?_
            refine g_get (C := RX0) (T := TX0) (N := 8) (ci := 2) (v := .int (iZ (g 21 ff 0))) hx hb hts hi2 hown hK hW fF rfl 1 (by decide) (hts (.fieldLink RX3 85 "LongTransfer$Frame" "message" "I") (by decide +kernel)) (fun _ h9 => h9) rfl dX3_frame_94 ?_
            exact W.iret hx hb hr (fun t ht hw => ⟨⟨_, (), rfl, congrArg iZ ((if_neg (by omega)).trans ((if_pos (by omega)).trans ((if_neg (by omega)).trans ((if_neg (by omega)).trans (if_pos (by omega)))))).symm, by show Wd _ _ _ t.heap; rw [ht]; exact hW⟩, hS.F ht⟩) hS.2.2 dX3_frame_97
          · skip
            by_cases hk2_ : w9 = 2
            · refine lv_tableIn (off := 48) (tgt := 98) hx hb dX3_frame_50 (by rw [iZ_T (by omega)]; omega) (by rw [iZ_T (by omega)]; omega) (by rw [iZ_T (by omega), hk2_]; rfl) (by decide) ?_
              refine lv_aload_n hx hb dX3_frame_98 rfl (lv_at hl 0 rfl) ?_
              refine g_get (C := RX0) (T := TX0) (N := 8) (ci := 2) (v := .int (iZ (g 22 ff 0))) hx hb hts hi2 hown hK hW fF rfl 2 (by decide) (hts (.fieldLink RX3 88 "LongTransfer$Frame" "number" "I") (by decide +kernel)) (fun _ h9 => h9) rfl dX3_frame_99 ?_
              exact W.iret hx hb hr (fun t ht hw => ⟨⟨_, (), rfl, congrArg iZ ((if_neg (by omega)).trans ((if_pos (by omega)).trans ((if_neg (by omega)).trans ((if_neg (by omega)).trans ((if_neg (by omega)).trans (if_pos (by omega))))))).symm, by show Wd _ _ _ t.heap; rw [ht]; exact hW⟩, hS.F ht⟩) hS.2.2 dX3_frame_102
            · skip
              by_cases hk3_ : w9 = 3
              · refine lv_tableIn (off := 53) (tgt := 103) hx hb dX3_frame_50 (by rw [iZ_T (by omega)]; omega) (by rw [iZ_T (by omega)]; omega) (by rw [iZ_T (by omega), hk3_]; rfl) (by decide) ?_
                refine lv_aload_n hx hb dX3_frame_103 rfl (lv_at hl 0 rfl) ?_
                refine g_get (C := RX0) (T := TX0) (N := 8) (ci := 2) (v := .int (iZ (g 23 ff 0))) hx hb hts hi2 hown hK hW fF rfl 3 (by decide) (hts (.fieldLink RX3 91 "LongTransfer$Frame" "size" "I") (by decide +kernel)) (fun _ h9 => h9) rfl dX3_frame_104 ?_
                exact W.iret hx hb hr (fun t ht hw => ⟨⟨_, (), rfl, congrArg iZ ((if_neg (by omega)).trans ((if_pos (by omega)).trans ((if_neg (by omega)).trans ((if_neg (by omega)).trans ((if_neg (by omega)).trans ((if_neg (by omega)).trans (if_pos (by omega)))))))).symm, by show Wd _ _ _ t.heap; rw [ht]; exact hW⟩, hS.F ht⟩) hS.2.2 dX3_frame_107
              · skip
                by_cases hk4_ : w9 = 4
                · refine lv_tableIn (off := 58) (tgt := 108) hx hb dX3_frame_50 (by rw [iZ_T (by omega)]; omega) (by rw [iZ_T (by omega)]; omega) (by rw [iZ_T (by omega), hk4_]; rfl) (by decide) ?_
                  refine lv_aload_n hx hb dX3_frame_108 rfl (lv_at hl 0 rfl) ?_
                  refine g_get (C := RX0) (T := TX0) (N := 8) (ci := 2) (v := .long (lZ (g 25 ff 0))) hx hb hts hi2 hown hK hW fF rfl 5 (by decide) (hts (.fieldLink RX3 93 "LongTransfer$Frame" "time" "J") (by decide +kernel)) (fun _ h9 => h9) rfl dX3_frame_109 ?_
                  refine z_l2i hx hb dX3_frame_112 ?_
                  exact W.iret hx hb hr (fun t ht hw => ⟨⟨_, (), rfl, congrArg iZ ((if_neg (by omega)).trans ((if_pos (by omega)).trans ((if_neg (by omega)).trans ((if_neg (by omega)).trans ((if_neg (by omega)).trans ((if_neg (by omega)).trans ((if_neg (by omega)).trans (if_pos (by omega))))))))).symm, by show Wd _ _ _ t.heap; rw [ht]; exact hW⟩, hS.F ht⟩) hS.2.2 dX3_frame_113
                · skip
                  by_cases hk5_ : w9 = 5
                  · refine lv_tableIn (off := 64) (tgt := 114) hx hb dX3_frame_50 (by rw [iZ_T (by omega)]; omega) (by rw [iZ_T (by omega)]; omega) (by rw [iZ_T (by omega), hk5_]; rfl) (by decide) ?_
                    refine lv_aload_n hx hb dX3_frame_114 rfl (lv_at hl 0 rfl) ?_
                    refine g_get (C := RX0) (T := TX0) (N := 8) (ci := 2) (v := .int (iZ (g 24 ff 0))) hx hb hts hi2 hown hK hW fF rfl 4 (by decide) (hts (.fieldLink RX3 97 "LongTransfer$Frame" "separation" "I") (by decide +kernel)) (fun _ h9 => h9) rfl dX3_frame_115 ?_
                    exact W.iret hx hb hr (fun t ht hw => ⟨⟨_, (), rfl, congrArg iZ ((if_neg (by omega)).trans ((if_pos (by omega)).trans ((if_neg (by omega)).trans ((if_neg (by omega)).trans ((if_neg (by omega)).trans ((if_neg (by omega)).trans ((if_neg (by omega)).trans ((if_neg (by omega)).trans (if_pos (by omega)))))))))).symm, by show Wd _ _ _ t.heap; rw [ht]; exact hW⟩, hS.F ht⟩) hS.2.2 dX3_frame_118
                  · skip
                    refine lv_tableOut (tgt := 119) hx hb dX3_frame_50 (by rw [iZ_T (by omega)]; omega) (by decide) ?_
                    refine z_bipush hx hb dX3_frame_119 (by decide) ?_
                    exact W.iret hx hb hr (fun t ht hw => ⟨⟨_, (), rfl, congrArg iZ ((if_neg (by omega)).trans ((if_pos (by omega)).trans ((if_neg (by omega)).trans ((if_neg (by omega)).trans ((if_neg (by omega)).trans ((if_neg (by omega)).trans ((if_neg (by omega)).trans ((if_neg (by omega)).trans (if_neg (by omega)))))))))).symm, by show Wd _ _ _ t.heap; rw [ht]; exact hW⟩, hS.F ht⟩) hS.2.2 dX3_frame_121
      · refine lv_iload_n hx hb dX3_frame_34 rfl (lv_at hl 3 rfl) ?_
        refine z_bipush hx hb dX3_frame_35 (by decide) ?_
        refine z_icmp_gt (tgt := 49) hx hb dX3_frame_37 (by decide) (by omega) (by omega) (fun c_37 => ?_) (fun c_37 => ?_)
        · refine lv_iload_n hx hb dX3_frame_49 rfl (lv_at hl 3 rfl) ?_
          by_cases hk0_ : w9 = 0
          · refine lv_tableIn (off := 38) (tgt := 88) hx hb dX3_frame_50 (by rw [iZ_T (by omega)]; omega) (by rw [iZ_T (by omega)]; omega) (by rw [iZ_T (by omega), hk0_]; rfl) (by decide) ?_
            refine lv_aload_n hx hb dX3_frame_88 rfl (lv_at hl 0 rfl) ?_
            refine g_get (C := RX0) (T := TX0) (N := 8) (ci := 2) (v := .int (iZ (g 20 ff 0))) hx hb hts hi2 hown hK hW fF rfl 0 (by decide) (hts (.fieldLink RX3 82 "LongTransfer$Frame" "kind" "I") (by decide +kernel)) (fun _ h9 => h9) rfl dX3_frame_89 ?_
            exact W.iret hx hb hr (fun t ht hw => ⟨⟨_, (), rfl, congrArg iZ ((if_neg (by omega)).trans ((if_pos (by omega)).trans ((if_neg (by omega)).trans (if_pos (by omega))))).symm, by show Wd _ _ _ t.heap; rw [ht]; exact hW⟩, hS.F ht⟩) hS.2.2 dX3_frame_92
          · skip
            by_cases hk1_ : w9 = 1
            · refine lv_tableIn (off := 43) (tgt := 93) hx hb dX3_frame_50 (by rw [iZ_T (by omega)]; omega) (by rw [iZ_T (by omega)]; omega) (by rw [iZ_T (by omega), hk1_]; rfl) (by decide) ?_
              refine lv_aload_n hx hb dX3_frame_93 rfl (lv_at hl 0 rfl) ?_
              refine g_get (C := RX0) (T := TX0) (N := 8) (ci := 2) (v := .int (iZ (g 21 ff 0))) hx hb hts hi2 hown hK hW fF rfl 1 (by decide) (hts (.fieldLink RX3 85 "LongTransfer$Frame" "message" "I") (by decide +kernel)) (fun _ h9 => h9) rfl dX3_frame_94 ?_
              exact W.iret hx hb hr (fun t ht hw => ⟨⟨_, (), rfl, congrArg iZ ((if_neg (by omega)).trans ((if_pos (by omega)).trans ((if_neg (by omega)).trans ((if_neg (by omega)).trans (if_pos (by omega)))))).symm, by show Wd _ _ _ t.heap; rw [ht]; exact hW⟩, hS.F ht⟩) hS.2.2 dX3_frame_97
            · skip
              by_cases hk2_ : w9 = 2
              · refine lv_tableIn (off := 48) (tgt := 98) hx hb dX3_frame_50 (by rw [iZ_T (by omega)]; omega) (by rw [iZ_T (by omega)]; omega) (by rw [iZ_T (by omega), hk2_]; rfl) (by decide) ?_
                refine lv_aload_n hx hb dX3_frame_98 rfl (lv_at hl 0 rfl) ?_
                refine g_get (C := RX0) (T := TX0) (N := 8) (ci := 2) (v := .int (iZ (g 22 ff 0))) hx hb hts hi2 hown hK hW fF rfl 2 (by decide) (hts (.fieldLink RX3 88 "LongTransfer$Frame" "number" "I") (by decide +kernel)) (fun _ h9 => h9) rfl dX3_frame_99 ?_
                exact W.iret hx hb hr (fun t ht hw => ⟨⟨_, (), rfl, congrArg iZ ((if_neg (by omega)).trans ((if_pos (by omega)).trans ((if_neg (by omega)).trans ((if_neg (by omega)).trans ((if_neg (by omega)).trans (if_pos (by omega))))))).symm, by show Wd _ _ _ t.heap; rw [ht]; exact hW⟩, hS.F ht⟩) hS.2.2 dX3_frame_102
              · skip
                by_cases hk3_ : w9 = 3
                · refine lv_tableIn (off := 53) (tgt := 103) hx hb dX3_frame_50 (by rw [iZ_T (by omega)]; omega) (by rw [iZ_T (by omega)]; omega) (by rw [iZ_T (by omega), hk3_]; rfl) (by decide) ?_
                  refine lv_aload_n hx hb dX3_frame_103 rfl (lv_at hl 0 rfl) ?_
                  refine g_get (C := RX0) (T := TX0) (N := 8) (ci := 2) (v := .int (iZ (g 23 ff 0))) hx hb hts hi2 hown hK hW fF rfl 3 (by decide) (hts (.fieldLink RX3 91 "LongTransfer$Frame" "size" "I") (by decide +kernel)) (fun _ h9 => h9) rfl dX3_frame_104 ?_
                  exact W.iret hx hb hr (fun t ht hw => ⟨⟨_, (), rfl, congrArg iZ ((if_neg (by omega)).trans ((if_pos (by omega)).trans ((if_neg (by omega)).trans ((if_neg (by omega)).trans ((if_neg (by omega)).trans ((if_neg (by omega)).trans (if_pos (by omega)))))))).symm, by show Wd _ _ _ t.heap; rw [ht]; exact hW⟩, hS.F ht⟩) hS.2.2 dX3_frame_107
                · skip
                  by_cases hk4_ : w9 = 4
                  · refine lv_tableIn (off := 58) (tgt := 108) hx hb dX3_frame_50 (by rw [iZ_T (by omega)]; omega) (by rw [iZ_T (by omega)]; omega) (by rw [iZ_T (by omega), hk4_]; rfl) (by decide) ?_
                    refine lv_aload_n hx hb dX3_frame_108 rfl (lv_at hl 0 rfl) ?_
                    refine g_get (C := RX0) (T := TX0) (N := 8) (ci := 2) (v := .long (lZ (g 25 ff 0))) hx hb hts hi2 hown hK hW fF rfl 5 (by decide) (hts (.fieldLink RX3 93 "LongTransfer$Frame" "time" "J") (by decide +kernel)) (fun _ h9 => h9) rfl dX3_frame_109 ?_
                    refine z_l2i hx hb dX3_frame_112 ?_
                    exact W.iret hx hb hr (fun t ht hw => ⟨⟨_, (), rfl, congrArg iZ ((if_neg (by omega)).trans ((if_pos (by omega)).trans ((if_neg (by omega)).trans ((if_neg (by omega)).trans ((if_neg (by omega)).trans ((if_neg (by omega)).trans ((if_neg (by omega)).trans (if_pos (by omega))))))))).symm, by show Wd _ _ _ t.heap; rw [ht]; exact hW⟩, hS.F ht⟩) hS.2.2 dX3_frame_113
                  · skip
                    by_cases hk5_ : w9 = 5
                    · refine lv_tableIn (off := 64) (tgt := 114) hx hb dX3_frame_50 (by rw [iZ_T (by omega)]; omega) (by rw [iZ_T (by omega)]; omega) (by rw [iZ_T (by omega), hk5_]; rfl) (by decide) ?_
                      refine lv_aload_n hx hb dX3_frame_114 rfl (lv_at hl 0 rfl) ?_
                      refine g_get (C := RX0) (T := TX0) (N := 8) (ci := 2) (v := .int (iZ (g 24 ff 0))) hx hb hts hi2 hown hK hW fF rfl 4 (by decide) (hts (.fieldLink RX3 97 "LongTransfer$Frame" "separation" "I") (by decide +kernel)) (fun _ h9 => h9) rfl dX3_frame_115 ?_
                      exact W.iret hx hb hr (fun t ht hw => ⟨⟨_, (), rfl, congrArg iZ ((if_neg (by omega)).trans ((if_pos (by omega)).trans ((if_neg (by omega)).trans ((if_neg (by omega)).trans ((if_neg (by omega)).trans ((if_neg (by omega)).trans ((if_neg (by omega)).trans ((if_neg (by omega)).trans (if_pos (by omega)))))))))).symm, by show Wd _ _ _ t.heap; rw [ht]; exact hW⟩, hS.F ht⟩) hS.2.2 dX3_frame_118
                    · skip
                      refine lv_tableOut (tgt := 119) hx hb dX3_frame_50 (by rw [iZ_T (by omega)]; omega) (by decide) ?_
                      refine z_bipush hx hb dX3_frame_119 (by decide) ?_
                      exact W.iret hx hb hr (fun t ht hw => ⟨⟨_, (), rfl, congrArg iZ ((if_neg (by omega)).trans ((if_pos (by omega)).trans ((if_neg (by omega)).trans ((if_neg (by omega)).trans ((if_neg (by omega)).trans ((if_neg (by omega)).trans ((if_neg (by omega)).trans ((if_neg (by omega)).trans (if_neg (by omega)))))))))).symm, by show Wd _ _ _ t.heap; rw [ht]; exact hW⟩, hS.F ht⟩) hS.2.2 dX3_frame_121
        · refine lv_aload_n hx hb dX3_frame_40 rfl (lv_at hl 0 rfl) ?_
          refine lv_iload_n hx hb dX3_frame_41 rfl (lv_at hl 3 rfl) ?_
          refine z_bipush hx hb dX3_frame_42 (by decide) ?_
          refine z_isub hx hb dX3_frame_44 ?_
          have hIFf := hIF ff (by omega) (by omega)
          unfold IF at hIFf
          refine va_calli (va_runV (As := [.int (iZ (w9 - 8))]) (rest := []) ⟨hx, hb, hml, hown, hts⟩ (c_X0_octetAt l D dA z en 7 ff (al 7 ff) (al 8 ff) (g 20 ff 0) (g 21 ff 0) (g 22 ff 0) (g 23 ff 0) (g 24 ff 0) (g 25 ff 0) (g 27 ff 0) (w9 - 8) (g 26 ff 0) (g 28 ff) 8 ff (by omega) (by omega) fF fFO) (cwV 1 hts gX3_frame_X0_octetAt rfl rfl rfl (by decide +kernel) ⟨Nat.le_of_ble_eq_true rfl, Nat.le_of_ble_eq_true rfl⟩) ⟨gBl, gRecv hK hW (ci := 2) rfl fF, gPre _ hg hS hW⟩ rfl rfl hl.1 rfl (lv_room (Nat.le_of_ble_eq_true rfl)) dX3_frame_45 ⟨(show 0 + 0 + 0 ≤ 0 by omega), (show 0 + 0 + 0 ≤ 0 by omega)⟩) hS (fun _ _ h => h) (fun _ h => h) (fun r9 u9 t9 H locs ht9 hvm9 hw9 hB9 hz9 hk9 hS => ?_)
          have hW : Wd D (z 0) en H := by rw [← ht9]; exact hB9
          subst hw9
          exact W.iret hx hb hr (fun t ht hw => ⟨⟨_, (), rfl, congrArg iZ ((if_neg (by omega)).trans ((if_pos (by omega)).trans (if_pos (by omega)))).symm, by show Wd _ _ _ t.heap; rw [ht]; exact hW⟩, hS.F ht⟩) hS.2.2 dX3_frame_48
    · rw [if_neg hq] at hw9
      subst hw9
      refine W.eq (g2 := F0 m 21 ls [.null]) rfl ?_
      refine lv_astore_nN (lv' := [(3, .null), (0, .ref (al 0 0)), (1, .int (iZ (ff))), (2, .int (iZ (w9)))]) hx hb dX3_frame_21 rfl hl (by decide) rfl (fun ls hl => ?_)
      refine lv_aload_nN hx hb dX3_frame_22 rfl (lv_at hl 0 rfl) ?_
      refine lv_ifnonnullN hx hb dX3_frame_23 ?_
      refine z_iconst hx hb dX3_frame_26 ?_
      exact W.iret hx hb hr (fun t ht hw => ⟨⟨_, (), rfl, congrArg iZ ((if_neg (by omega)).trans (if_neg (by omega))).symm, by show Wd _ _ _ t.heap; rw [ht]; exact hW⟩, hS.F ht⟩) hS.2.2 dX3_frame_27
  · refine lv_iload_n hx hb dX3_frame_4 rfl (lv_at hl 2 rfl) ?_
    refine z_if_ne (tgt := 16) hx hb dX3_frame_5 (by decide) (by omega) (fun c_5 => ?_) (fun c_5 => ?_)
    · refine lv_aload_n hx hb dX3_frame_16 rfl (lv_at hl 0 rfl) ?_
      refine lv_iload_n hx hb dX3_frame_17 rfl (lv_at hl 1 rfl) ?_
      refine va_callq (va_runV (As := [.int (iZ (ff))]) (rest := []) ⟨hx, hb, hml, hown, hts⟩ (c_X3_findFrame l D dA z en g al ff (by omega) hE hI) (cwV 1 hts gX3_frame_X3_findFrame rfl rfl rfl (by decide +kernel) ⟨Nat.le_of_ble_eq_true rfl, Nat.le_of_ble_eq_true rfl⟩) ⟨gBl, gRecv hK hW (ci := 5) rfl fX, gPre _ hg hS hW⟩ rfl rfl hl.1 rfl (lv_room (Nat.le_of_ble_eq_true rfl)) dX3_frame_18 ⟨(show 0 + 0 ≤ 0 by omega), (show 0 + 0 ≤ 0 by omega)⟩) hS (fun _ _ h => h) (fun _ h => h) (fun r9 u9 t9 H locs ht9 hvm9 hw9 hB9 hz9 hk9 hS => ?_)
      have hW : Wd D (z 0) en H := by rw [← ht9]; exact hB9
      by_cases hq : 1 ≤ ff ∧ ff ≤ g 1 1 0
      · rw [if_pos hq] at hw9
        subst hw9
        refine W.eq (g2 := F0 m 21 ls [.ref (al 7 ff)]) rfl ?_
        have fX : en 0 0 = some (al 0 0, .inr (5, [.int (iZ (g 0 0 0)), .ref (al 1 0), .ref (al 1 1), .ref (al 3 0), .ref (al 4 0), .int (iZ (g 0 5 0)), .ref (al 11 0), .long (lZ (g 0 7 0)), .int (iZ (g 0 8 0)), .int (iZ (g 0 9 0)), .int (iZ (g 0 10 0)), .int (iZ (g 0 11 0)), .int (iZ (g 0 12 0)), .int (iZ (g 0 13 0))])) := ec_X hE
        have fL0 : en 1 0 = some (al 1 0, .inr (1, [.int (iZ (g 3 0 0)), .ref (al 2 0), .int (iZ (g 1 0 0))])) := ec_L0 hE
        have fL1 : en 1 1 = some (al 1 1, .inr (1, [.int (iZ (g 3 1 0)), .ref (al 2 1), .int (iZ (g 1 1 0))])) := ec_L1 hE
        have fQ : en 3 0 = some (al 3 0, aR dA (4) (fun j => some (al 9 j))) := ec_Q hE
        have fC : en 4 0 = some (al 4 0, aI dA (8) (fun j => g 2 j 0)) := ec_C hE
        have fF : en 7 ff = some (al 7 ff, .inr (2, [.int (iZ (g 20 ff 0)), .int (iZ (g 21 ff 0)), .int (iZ (g 22 ff 0)), .int (iZ (g 23 ff 0)), .int (iZ (g 24 ff 0)), .long (lZ (g 25 ff 0)), .ref (al 8 ff), .int (iZ (g 27 ff 0))])) := ec_F hE (by omega)
        have fFO : bA dA z en 8 ff (al 8 ff) (g 26 ff 0) (g 28 ff) := ec_FO hE (by omega)
        refine lv_astore_n (lv' := [(3, .ref (al 7 ff)), (0, .ref (al 0 0)), (1, .int (iZ (ff))), (2, .int (iZ (w9)))]) hx hb dX3_frame_21 rfl hl (by decide) rfl (fun ls hl => ?_)
        refine lv_aload_n hx hb dX3_frame_22 rfl (lv_at hl 0 rfl) ?_
        refine lv_ifnonnull (tgt := 28) hx hb dX3_frame_23 (by decide) ?_
        refine lv_iload_n hx hb dX3_frame_28 rfl (lv_at hl 3 rfl) ?_
        refine z_bipush hx hb dX3_frame_29 (by decide) ?_
        refine z_icmp_lt (tgt := 49) hx hb dX3_frame_31 (by decide) (by omega) (by omega) (fun c_31 => ?_) (fun c_31 => ?_)
        · refine lv_iload_n hx hb dX3_frame_49 rfl (lv_at hl 3 rfl) ?_
          by_cases hk0_ : w9 = 0
          · refine lv_tableIn (off := 38) (tgt := 88) hx hb dX3_frame_50 (by rw [iZ_T (by omega)]; omega) (by rw [iZ_T (by omega)]; omega) (by rw [iZ_T (by omega), hk0_]; rfl) (by decide) ?_
            refine lv_aload_n hx hb dX3_frame_88 rfl (lv_at hl 0 rfl) ?_
            refine g_get (C := RX0) (T := TX0) (N := 8) (ci := 2) (v := .int (iZ (g 20 ff 0))) hx hb hts hi2 hown hK hW fF rfl 0 (by decide) (hts (.fieldLink RX3 82 "LongTransfer$Frame" "kind" "I") (by decide +kernel)) (fun _ h9 => h9) rfl dX3_frame_89 ?_
            exact W.iret hx hb hr (fun t ht hw => ⟨⟨_, (), rfl, congrArg iZ ((if_neg (by omega)).trans ((if_pos (by omega)).trans ((if_neg (by omega)).trans (if_pos (by omega))))).symm, by show Wd _ _ _ t.heap; rw [ht]; exact hW⟩, hS.F ht⟩) hS.2.2 dX3_frame_92
          · skip
            by_cases hk1_ : w9 = 1
            · refine lv_tableIn (off := 43) (tgt := 93) hx hb dX3_frame_50 (by rw [iZ_T (by omega)]; omega) (by rw [iZ_T (by omega)]; omega) (by rw [iZ_T (by omega), hk1_]; rfl) (by decide) ?_
              refine lv_aload_n hx hb dX3_frame_93 rfl (lv_at hl 0 rfl) ?_
              refine g_get (C := RX0) (T := TX0) (N := 8) (ci := 2) (v := .int (iZ (g 21 ff 0))) hx hb hts hi2 hown hK hW fF rfl 1 (by decide) (hts (.fieldLink RX3 85 "LongTransfer$Frame" "message" "I") (by decide +kernel)) (fun _ h9 => h9) rfl dX3_frame_94 ?_
              exact W.iret hx hb hr (fun t ht hw => ⟨⟨_, (), rfl, congrArg iZ ((if_neg (by omega)).trans ((if_pos (by omega)).trans ((if_neg (by omega)).trans ((if_neg (by omega)).trans (if_pos (by omega)))))).symm, by show Wd _ _ _ t.heap; rw [ht]; exact hW⟩, hS.F ht⟩) hS.2.2 dX3_frame_97
            · skip
              by_cases hk2_ : w9 = 2
              · refine lv_tableIn (off := 48) (tgt := 98) hx hb dX3_frame_50 (by rw [iZ_T (by omega)]; omega) (by rw [iZ_T (by omega)]; omega) (by rw [iZ_T (by omega), hk2_]; rfl) (by decide) ?_
                refine lv_aload_n hx hb dX3_frame_98 rfl (lv_at hl 0 rfl) ?_
                refine g_get (C := RX0) (T := TX0) (N := 8) (ci := 2) (v := .int (iZ (g 22 ff 0))) hx hb hts hi2 hown hK hW fF rfl 2 (by decide) (hts (.fieldLink RX3 88 "LongTransfer$Frame" "number" "I") (by decide +kernel)) (fun _ h9 => h9) rfl dX3_frame_99 ?_
                exact W.iret hx hb hr (fun t ht hw => ⟨⟨_, (), rfl, congrArg iZ ((if_neg (by omega)).trans ((if_pos (by omega)).trans ((if_neg (by omega)).trans ((if_neg (by omega)).trans ((if_neg (by omega)).trans (if_pos (by omega))))))).symm, by show Wd _ _ _ t.heap; rw [ht]; exact hW⟩, hS.F ht⟩) hS.2.2 dX3_frame_102
              · skip
                by_cases hk3_ : w9 = 3
                · refine lv_tableIn (off := 53) (tgt := 103) hx hb dX3_frame_50 (by rw [iZ_T (by omega)]; omega) (by rw [iZ_T (by omega)]; omega) (by rw [iZ_T (by omega), hk3_]; rfl) (by decide) ?_
                  refine lv_aload_n hx hb dX3_frame_103 rfl (lv_at hl 0 rfl) ?_
                  refine g_get (C := RX0) (T := TX0) (N := 8) (ci := 2) (v := .int (iZ (g 23 ff 0))) hx hb hts hi2 hown hK hW fF rfl 3 (by decide) (hts (.fieldLink RX3 91 "LongTransfer$Frame" "size" "I") (by decide +kernel)) (fun _ h9 => h9) rfl dX3_frame_104 ?_
                  exact W.iret hx hb hr (fun t ht hw => ⟨⟨_, (), rfl, congrArg iZ ((if_neg (by omega)).trans ((if_pos (by omega)).trans ((if_neg (by omega)).trans ((if_neg (by omega)).trans ((if_neg (by omega)).trans ((if_neg (by omega)).trans (if_pos (by omega)))))))).symm, by show Wd _ _ _ t.heap; rw [ht]; exact hW⟩, hS.F ht⟩) hS.2.2 dX3_frame_107
                · skip
                  by_cases hk4_ : w9 = 4
                  · refine lv_tableIn (off := 58) (tgt := 108) hx hb dX3_frame_50 (by rw [iZ_T (by omega)]; omega) (by rw [iZ_T (by omega)]; omega) (by rw [iZ_T (by omega), hk4_]; rfl) (by decide) ?_
                    refine lv_aload_n hx hb dX3_frame_108 rfl (lv_at hl 0 rfl) ?_
                    refine g_get (C := RX0) (T := TX0) (N := 8) (ci := 2) (v := .long (lZ (g 25 ff 0))) hx hb hts hi2 hown hK hW fF rfl 5 (by decide) (hts (.fieldLink RX3 93 "LongTransfer$Frame" "time" "J") (by decide +kernel)) (fun _ h9 => h9) rfl dX3_frame_109 ?_
                    refine z_l2i hx hb dX3_frame_112 ?_
                    exact W.iret hx hb hr (fun t ht hw => ⟨⟨_, (), rfl, congrArg iZ ((if_neg (by omega)).trans ((if_pos (by omega)).trans ((if_neg (by omega)).trans ((if_neg (by omega)).trans ((if_neg (by omega)).trans ((if_neg (by omega)).trans ((if_neg (by omega)).trans (if_pos (by omega))))))))).symm, by show Wd _ _ _ t.heap; rw [ht]; exact hW⟩, hS.F ht⟩) hS.2.2 dX3_frame_113
                  · skip
                    by_cases hk5_ : w9 = 5
                    · refine lv_tableIn (off := 64) (tgt := 114) hx hb dX3_frame_50 (by rw [iZ_T (by omega)]; omega) (by rw [iZ_T (by omega)]; omega) (by rw [iZ_T (by omega), hk5_]; rfl) (by decide) ?_
                      refine lv_aload_n hx hb dX3_frame_114 rfl (lv_at hl 0 rfl) ?_
                      refine g_get (C := RX0) (T := TX0) (N := 8) (ci := 2) (v := .int (iZ (g 24 ff 0))) hx hb hts hi2 hown hK hW fF rfl 4 (by decide) (hts (.fieldLink RX3 97 "LongTransfer$Frame" "separation" "I") (by decide +kernel)) (fun _ h9 => h9) rfl dX3_frame_115 ?_
                      exact W.iret hx hb hr (fun t ht hw => ⟨⟨_, (), rfl, congrArg iZ ((if_neg (by omega)).trans ((if_pos (by omega)).trans ((if_neg (by omega)).trans ((if_neg (by omega)).trans ((if_neg (by omega)).trans ((if_neg (by omega)).trans ((if_neg (by omega)).trans ((if_neg (by omega)).trans (if_pos (by omega)))))))))).symm, by show Wd _ _ _ t.heap; rw [ht]; exact hW⟩, hS.F ht⟩) hS.2.2 dX3_frame_118
                    · skip
                      refine lv_tableOut (tgt := 119) hx hb dX3_frame_50 (by rw [iZ_T (by omega)]; omega) (by decide) ?_
                      refine z_bipush hx hb dX3_frame_119 (by decide) ?_
                      exact W.iret hx hb hr (fun t ht hw => ⟨⟨_, (), rfl, congrArg iZ ((if_neg (by omega)).trans ((if_pos (by omega)).trans ((if_neg (by omega)).trans ((if_neg (by omega)).trans ((if_neg (by omega)).trans ((if_neg (by omega)).trans ((if_neg (by omega)).trans ((if_neg (by omega)).trans (if_neg (by omega)))))))))).symm, by show Wd _ _ _ t.heap; rw [ht]; exact hW⟩, hS.F ht⟩) hS.2.2 dX3_frame_121
        · refine lv_iload_n hx hb dX3_frame_34 rfl (lv_at hl 3 rfl) ?_
          refine z_bipush hx hb dX3_frame_35 (by decide) ?_
          refine z_icmp_gt (tgt := 49) hx hb dX3_frame_37 (by decide) (by omega) (by omega) (fun c_37 => ?_) (fun c_37 => ?_)
          · refine lv_iload_n hx hb dX3_frame_49 rfl (lv_at hl 3 rfl) ?_
            by_cases hk0_ : w9 = 0
            · refine lv_tableIn (off := 38) (tgt := 88) hx hb dX3_frame_50 (by rw [iZ_T (by omega)]; omega) (by rw [iZ_T (by omega)]; omega) (by rw [iZ_T (by omega), hk0_]; rfl) (by decide) ?_
              refine lv_aload_n hx hb dX3_frame_88 rfl (lv_at hl 0 rfl) ?_
              refine g_get (C := RX0) (T := TX0) (N := 8) (ci := 2) (v := .int (iZ (g 20 ff 0))) hx hb hts hi2 hown hK hW fF rfl 0 (by decide) (hts (.fieldLink RX3 82 "LongTransfer$Frame" "kind" "I") (by decide +kernel)) (fun _ h9 => h9) rfl dX3_frame_89 ?_
              exact W.iret hx hb hr (fun t ht hw => ⟨⟨_, (), rfl, congrArg iZ ((if_neg (by omega)).trans ((if_pos (by omega)).trans ((if_neg (by omega)).trans (if_pos (by omega))))).symm, by show Wd _ _ _ t.heap; rw [ht]; exact hW⟩, hS.F ht⟩) hS.2.2 dX3_frame_92
            · skip
              by_cases hk1_ : w9 = 1
              · refine lv_tableIn (off := 43) (tgt := 93) hx hb dX3_frame_50 (by rw [iZ_T (by omega)]; omega) (by rw [iZ_T (by omega)]; omega) (by rw [iZ_T (by omega), hk1_]; rfl) (by decide) ?_
                refine lv_aload_n hx hb dX3_frame_93 rfl (lv_at hl 0 rfl) ?_
                refine g_get (C := RX0) (T := TX0) (N := 8) (ci := 2) (v := .int (iZ (g 21 ff 0))) hx hb hts hi2 hown hK hW fF rfl 1 (by decide) (hts (.fieldLink RX3 85 "LongTransfer$Frame" "message" "I") (by decide +kernel)) (fun _ h9 => h9) rfl dX3_frame_94 ?_
                exact W.iret hx hb hr (fun t ht hw => ⟨⟨_, (), rfl, congrArg iZ ((if_neg (by omega)).trans ((if_pos (by omega)).trans ((if_neg (by omega)).trans ((if_neg (by omega)).trans (if_pos (by omega)))))).symm, by show Wd _ _ _ t.heap; rw [ht]; exact hW⟩, hS.F ht⟩) hS.2.2 dX3_frame_97
              · skip
                by_cases hk2_ : w9 = 2
                · refine lv_tableIn (off := 48) (tgt := 98) hx hb dX3_frame_50 (by rw [iZ_T (by omega)]; omega) (by rw [iZ_T (by omega)]; omega) (by rw [iZ_T (by omega), hk2_]; rfl) (by decide) ?_
                  refine lv_aload_n hx hb dX3_frame_98 rfl (lv_at hl 0 rfl) ?_
                  refine g_get (C := RX0) (T := TX0) (N := 8) (ci := 2) (v := .int (iZ (g 22 ff 0))) hx hb hts hi2 hown hK hW fF rfl 2 (by decide) (hts (.fieldLink RX3 88 "LongTransfer$Frame" "number" "I") (by decide +kernel)) (fun _ h9 => h9) rfl dX3_frame_99 ?_
                  exact W.iret hx hb hr (fun t ht hw => ⟨⟨_, (), rfl, congrArg iZ ((if_neg (by omega)).trans ((if_pos (by omega)).trans ((if_neg (by omega)).trans ((if_neg (by omega)).trans ((if_neg (by omega)).trans (if_pos (by omega))))))).symm, by show Wd _ _ _ t.heap; rw [ht]; exact hW⟩, hS.F ht⟩) hS.2.2 dX3_frame_102
                · skip
                  by_cases hk3_ : w9 = 3
                  · refine lv_tableIn (off := 53) (tgt := 103) hx hb dX3_frame_50 (by rw [iZ_T (by omega)]; omega) (by rw [iZ_T (by omega)]; omega) (by rw [iZ_T (by omega), hk3_]; rfl) (by decide) ?_
                    refine lv_aload_n hx hb dX3_frame_103 rfl (lv_at hl 0 rfl) ?_
                    refine g_get (C := RX0) (T := TX0) (N := 8) (ci := 2) (v := .int (iZ (g 23 ff 0))) hx hb hts hi2 hown hK hW fF rfl 3 (by decide) (hts (.fieldLink RX3 91 "LongTransfer$Frame" "size" "I") (by decide +kernel)) (fun _ h9 => h9) rfl dX3_frame_104 ?_
                    exact W.iret hx hb hr (fun t ht hw => ⟨⟨_, (), rfl, congrArg iZ ((if_neg (by omega)).trans ((if_pos (by omega)).trans ((if_neg (by omega)).trans ((if_neg (by omega)).trans ((if_neg (by omega)).trans ((if_neg (by omega)).trans (if_pos (by omega)))))))).symm, by show Wd _ _ _ t.heap; rw [ht]; exact hW⟩, hS.F ht⟩) hS.2.2 dX3_frame_107
                  · skip
                    by_cases hk4_ : w9 = 4
                    · refine lv_tableIn (off := 58) (tgt := 108) hx hb dX3_frame_50 (by rw [iZ_T (by omega)]; omega) (by rw [iZ_T (by omega)]; omega) (by rw [iZ_T (by omega), hk4_]; rfl) (by decide) ?_
                      refine lv_aload_n hx hb dX3_frame_108 rfl (lv_at hl 0 rfl) ?_
                      refine g_get (C := RX0) (T := TX0) (N := 8) (ci := 2) (v := .long (lZ (g 25 ff 0))) hx hb hts hi2 hown hK hW fF rfl 5 (by decide) (hts (.fieldLink RX3 93 "LongTransfer$Frame" "time" "J") (by decide +kernel)) (fun _ h9 => h9) rfl dX3_frame_109 ?_
                      refine z_l2i hx hb dX3_frame_112 ?_
                      exact W.iret hx hb hr (fun t ht hw => ⟨⟨_, (), rfl, congrArg iZ ((if_neg (by omega)).trans ((if_pos (by omega)).trans ((if_neg (by omega)).trans ((if_neg (by omega)).trans ((if_neg (by omega)).trans ((if_neg (by omega)).trans ((if_neg (by omega)).trans (if_pos (by omega))))))))).symm, by show Wd _ _ _ t.heap; rw [ht]; exact hW⟩, hS.F ht⟩) hS.2.2 dX3_frame_113
                    · skip
                      by_cases hk5_ : w9 = 5
                      · refine lv_tableIn (off := 64) (tgt := 114) hx hb dX3_frame_50 (by rw [iZ_T (by omega)]; omega) (by rw [iZ_T (by omega)]; omega) (by rw [iZ_T (by omega), hk5_]; rfl) (by decide) ?_
                        refine lv_aload_n hx hb dX3_frame_114 rfl (lv_at hl 0 rfl) ?_
                        refine g_get (C := RX0) (T := TX0) (N := 8) (ci := 2) (v := .int (iZ (g 24 ff 0))) hx hb hts hi2 hown hK hW fF rfl 4 (by decide) (hts (.fieldLink RX3 97 "LongTransfer$Frame" "separation" "I") (by decide +kernel)) (fun _ h9 => h9) rfl dX3_frame_115 ?_
                        exact W.iret hx hb hr (fun t ht hw => ⟨⟨_, (), rfl, congrArg iZ ((if_neg (by omega)).trans ((if_pos (by omega)).trans ((if_neg (by omega)).trans ((if_neg (by omega)).trans ((if_neg (by omega)).trans ((if_neg (by omega)).trans ((if_neg (by omega)).trans ((if_neg (by omega)).trans (if_pos (by omega)))))))))).symm, by show Wd _ _ _ t.heap; rw [ht]; exact hW⟩, hS.F ht⟩) hS.2.2 dX3_frame_118
                      · skip
                        refine lv_tableOut (tgt := 119) hx hb dX3_frame_50 (by rw [iZ_T (by omega)]; omega) (by decide) ?_
                        refine z_bipush hx hb dX3_frame_119 (by decide) ?_
                        exact W.iret hx hb hr (fun t ht hw => ⟨⟨_, (), rfl, congrArg iZ ((if_neg (by omega)).trans ((if_pos (by omega)).trans ((if_neg (by omega)).trans ((if_neg (by omega)).trans ((if_neg (by omega)).trans ((if_neg (by omega)).trans ((if_neg (by omega)).trans ((if_neg (by omega)).trans (if_neg (by omega)))))))))).symm, by show Wd _ _ _ t.heap; rw [ht]; exact hW⟩, hS.F ht⟩) hS.2.2 dX3_frame_121
          · refine lv_aload_n hx hb dX3_frame_40 rfl (lv_at hl 0 rfl) ?_
            refine lv_iload_n hx hb dX3_frame_41 rfl (lv_at hl 3 rfl) ?_
            refine z_bipush hx hb dX3_frame_42 (by decide) ?_
            refine z_isub hx hb dX3_frame_44 ?_
            have hIFf := hIF ff (by omega) (by omega)
            unfold IF at hIFf
            refine va_calli (va_runV (As := [.int (iZ (w9 - 8))]) (rest := []) ⟨hx, hb, hml, hown, hts⟩ (c_X0_octetAt l D dA z en 7 ff (al 7 ff) (al 8 ff) (g 20 ff 0) (g 21 ff 0) (g 22 ff 0) (g 23 ff 0) (g 24 ff 0) (g 25 ff 0) (g 27 ff 0) (w9 - 8) (g 26 ff 0) (g 28 ff) 8 ff (by omega) (by omega) fF fFO) (cwV 1 hts gX3_frame_X0_octetAt rfl rfl rfl (by decide +kernel) ⟨Nat.le_of_ble_eq_true rfl, Nat.le_of_ble_eq_true rfl⟩) ⟨gBl, gRecv hK hW (ci := 2) rfl fF, gPre _ hg hS hW⟩ rfl rfl hl.1 rfl (lv_room (Nat.le_of_ble_eq_true rfl)) dX3_frame_45 ⟨(show 0 + 0 + 0 ≤ 0 by omega), (show 0 + 0 + 0 ≤ 0 by omega)⟩) hS (fun _ _ h => h) (fun _ h => h) (fun r9 u9 t9 H locs ht9 hvm9 hw9 hB9 hz9 hk9 hS => ?_)
            have hW : Wd D (z 0) en H := by rw [← ht9]; exact hB9
            subst hw9
            exact W.iret hx hb hr (fun t ht hw => ⟨⟨_, (), rfl, congrArg iZ ((if_neg (by omega)).trans ((if_pos (by omega)).trans (if_pos (by omega)))).symm, by show Wd _ _ _ t.heap; rw [ht]; exact hW⟩, hS.F ht⟩) hS.2.2 dX3_frame_48
      · rw [if_neg hq] at hw9
        subst hw9
        refine W.eq (g2 := F0 m 21 ls [.null]) rfl ?_
        refine lv_astore_nN (lv' := [(3, .null), (0, .ref (al 0 0)), (1, .int (iZ (ff))), (2, .int (iZ (w9)))]) hx hb dX3_frame_21 rfl hl (by decide) rfl (fun ls hl => ?_)
        refine lv_aload_nN hx hb dX3_frame_22 rfl (lv_at hl 0 rfl) ?_
        refine lv_ifnonnullN hx hb dX3_frame_23 ?_
        refine z_iconst hx hb dX3_frame_26 ?_
        exact W.iret hx hb hr (fun t ht hw => ⟨⟨_, (), rfl, congrArg iZ ((if_neg (by omega)).trans (if_neg (by omega))).symm, by show Wd _ _ _ t.heap; rw [ht]; exact hW⟩, hS.F ht⟩) hS.2.2 dX3_frame_27
    · refine lv_aload_n hx hb dX3_frame_8 rfl (lv_at hl 0 rfl) ?_
      refine g_get (C := RX3) (T := TX3) (N := 14) (ci := 5) (v := .ref (al 1 1)) hx hb hts hi5 hown hK hW fX rfl 2 (by decide) (hts (.fieldLink RX3 16 "LongTransfer" "frames" "Ljava/util/ArrayList;") (by decide +kernel)) (fun _ h9 => h9) rfl dX3_frame_9 ?_
      refine va_calli (va_runV (As := []) (rest := []) ⟨hx, hb, hml, hown, hts⟩ (c_AL_size l D dA z en 1 (al 1 1) (al 2 1) (g 3 1 0) (g 1 1 0) fL1) (cwV 0 hts gX3_frame_Jx4a65c_size_8abf5 rfl rfl rfl (by decide +kernel) ⟨Nat.le_of_ble_eq_true rfl, Nat.le_of_ble_eq_true rfl⟩) ⟨gBl, gRecv hK hW (ci := 1) rfl fL1, gPre _ hg hS hW⟩ rfl rfl hl.1 rfl (lv_room (Nat.le_of_ble_eq_true rfl)) dX3_frame_12 ⟨(show 0 + 0 ≤ 0 by omega), (show 0 + 0 ≤ 0 by omega)⟩) hS (fun _ _ h => h) (fun _ h => h) (fun r9 u9 t9 H locs ht9 hvm9 hw9 hB9 hz9 hk9 hS => ?_)
      have hW : Wd D (z 0) en H := by rw [← ht9]; exact hB9
      subst hw9
      exact W.iret hx hb hr (fun t ht hw => ⟨⟨_, (), rfl, congrArg iZ (if_pos (by omega)).symm, by show Wd _ _ _ t.heap; rw [ht]; exact hW⟩, hS.F ht⟩) hS.2.2 dX3_frame_15
