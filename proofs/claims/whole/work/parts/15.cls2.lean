theorem lc4 {cap : Int} (h : cap = 0 ∨ 10 ≤ cap) : lcap cap ≤ 4 * (lcap cap - cap) := by
  unfold lcap
  split <;> omega
theorem uF_ext {F G : Int → Option Nat} {n : Int} {v : Option Nat} (h : ∀ j : Int, F j = G j) : uF F n v = uF G n v := by
  have : F = G := funext h
  rw [this]

theorem c_AL_add (l : Launch) (D : va_G) (dA : Nat → ClassId) (z : Nat → Nat) (en : en_T) (li : Int) (a ar : Nat) (mo n cap : Int) (F : Int → Option Nat) (h0 : 0 ≤ n) (h1 : n ≤ cap) (h2 : cap ≤ 50000) (hFn : ∀ j : Int, ¬ (0 ≤ j ∧ j < n) → F j = none) (he : en 1 li = some (a, .inr (1, [.int (iZ (mo)), .ref ar, .int (iZ (n))]))) (hA : (cap = 0 ∧ ar = z 2 ∧ n = 0) ∨ (10 ≤ cap ∧ en 2 li = some (ar, aO dA cap F))) (hF : ∀ (j : Int) (y : Nat), F j = some y → ∃ (k : Nat) (i : Int) (ci : Nat) (fs : List Value), en k i = some (y, .inr (ci, fs)) ∧ (ci = 2 ∨ ci = 4) ∧ k ≠ 99 ∧ k ≠ 1) (y ky cy : Nat) (iy : Int) (fy : List Value) (hcy : cy = 2 ∨ cy = 4) (hk1 : ky ≠ 1) (hk2 : ky ≠ 2) (hkN : ky ≠ 99) (hy : en ky iy = some (y, .inr (cy, fy))) : Met l yJx4a65c_add_9ea2d wsJx4a65c_add_9ea2d ({ frames := 6, cells := if n < cap then 0 else 1, slots := if n < cap then 0 else (lcap cap).toNat, locals := 150 }) (gP D dA z en [.ref a, .ref y]) (va_Qi (fun (r : Int32) (u : en_T) => r = iZ 1 ∧ (∃ q : Nat, u 1 li = some (a, .inr (1, [.int (iZ (mo + 1)), .ref q, .int (iZ (n + 1))])) ∧ u 2 li = some (q, aO dA (if n < cap then cap else lcap cap) (uF F n (some y)))) ∧ ∀ (k : Nat) (i : Int), k ≠ 99 → ¬ (k = 1 ∧ i = li) → ¬ (k = 2 ∧ i = li) → u k i = en k i) (fun u t9 => Wd D (z 0) u t9.heap) (fun q => z 0 ≤ q)) (if n < cap then 0 else 1) (if n < cap then 0 else (lcap cap).toNat) (fun q => z 0 ≤ q) := by
  by_cases hc : n < cap
  · rcases hA with ⟨h3, -, -⟩ | ⟨h3, h4⟩
    · omega
    · simp only [if_pos hc]
      exact c_AL_aR l D dA z en li a ar mo n cap F h0 hc (by omega) he h4 y ky cy iy fy hcy hk1 hk2 hkN hy
  · simp only [if_neg hc]
    rcases hA with ⟨rfl, rfl, rfl⟩ | ⟨h3, h4⟩
    · have hF0 : F = fun _ => none := funext fun j => hFn j (by omega)
      subst hF0
      exact c_AL_a0 l D dA z en li a mo he y ky cy iy fy hcy hk1 hk2 hkN hy
    · obtain rfl : n = cap := by omega
      exact c_AL_aA l D dA z en li a ar mo n F (by omega) (by omega) hFn he h4 hF y ky cy iy fy hcy hk1 hk2 hkN hy
theorem ib_rr {g : St} (h : IB g) {r st : Int} (h1 : 0 ≤ r) (h2 : r < 4) (h3 : 0 ≤ st) (h4 : st ≤ 3) : IB (rRest g r st) := by
  have q := h.2.2.2.2.1 r h1 h2
  refine ib_r (r := r) h (fun t i j w => by simp only [rRest]; rw [wr_n (by omega), wr_n (by omega), wr_n (by omega)]) ?_
  unfold IR at q ⊢
  obtain ⟨q1, q2, q3, q4, q5, q6, q7, q8, q9, q10⟩ := q
  refine ⟨?_, ?_, ?_, ?_, ?_, ?_, ?_, ?_, ?_, ?_⟩ <;> simp [rRest, wr] <;> first | omega | exact q10
theorem ib_er {g : St} (h : IB g) {r : Int} (w : Int) (h1 : 0 ≤ r) (h2 : r < 4) : IB (sEndR g r w) := ib_ct (ib_en (ib_rr h h1 h2 (by omega) (by omega))) w
set_option maxHeartbeats 4000000 in
set_option maxRecDepth 100000 in
theorem c_X3_endReceiver (l : Launch) (D : va_G) (dA : Nat → ClassId) (z : Nat → Nat) (en : en_T) (g : St) (al : Al) (r w9 : Int) (h0 : 0 ≤ w9) (h1 : w9 < 8) (h2 : 0 ≤ r) (h3 : r < 4) (hE : EC dA z g al en) (hI : IB g) : Met l yX3_endReceiver wsX3_endReceiver ({ frames := 1, cells := 0, slots := 0, locals := 22 }) (gP D dA z en [.ref (al 0 0), .ref (al 9 r), .int (iZ (w9))]) (va_Qv (fun u : en_T × Al => CP dA z (sEndR g r w9) g al en u) (fun u t9 => Wd D (z 0) u.1 t9.heap) (fun q => z 0 ≤ q)) (0) (0) (fun q => z 0 ≤ q) := by
  refine gMet (own := RX3) (cc := cX3_endReceiver) (maxL := 3) (ret := none) (by decide) rfl rfl (Nat.le_of_ble_eq_true rfl) ?_
  intro p e s m below meth c hx hb hml hown hts hr hlocks hnm hg hW ls hl
  have hK := hg.1
  have hS : va_S (fun q => z 0 ≤ q) s.heap s.heap [] := va_S.rf
  have hi5 : ∀ w ∈ u_ws RX3 TX3 14, w ∈ wsX3_endReceiver := by decide +kernel
  have hl : lv_has ls 3 [(0, .ref (al 0 0)), (1, .ref (al 9 r)), (2, .int (iZ (w9)))] := hl
  have fX : en 0 0 = some (al 0 0, .inr (5, [.int (iZ (g 0 0 0)), .ref (al 1 0), .ref (al 1 1), .ref (al 3 0), .ref (al 4 0), .int (iZ (g 0 5 0)), .ref (al 11 0), .long (lZ (g 0 7 0)), .int (iZ (g 0 8 0)), .int (iZ (g 0 9 0)), .int (iZ (g 0 10 0)), .int (iZ (g 0 11 0)), .int (iZ (g 0 12 0)), .int (iZ (g 0 13 0))])) := ec_X hE
  have fL0 : en 1 0 = some (al 1 0, .inr (1, [.int (iZ (g 3 0 0)), .ref (al 2 0), .int (iZ (g 1 0 0))])) := ec_L0 hE
  have fL1 : en 1 1 = some (al 1 1, .inr (1, [.int (iZ (g 3 1 0)), .ref (al 2 1), .int (iZ (g 1 1 0))])) := ec_L1 hE
  have fQ : en 3 0 = some (al 3 0, aR dA (4) (fun j => some (al 9 j))) := ec_Q hE
  have fC : en 4 0 = some (al 4 0, aI dA (8) (fun j => g 2 j 0)) := ec_C hE
  have fR : en 9 r = some (al 9 r, .inr (3, [.int (iZ (g 30 r 0)), .int (iZ (g 31 r 0)), .ref (al 10 r), .int (iZ (g 33 r 0)), .int (iZ (g 34 r 0)), .int (iZ (g 35 r 0)), .int (iZ (g 36 r 0)), .long (lZ (g 37 r 0)), .long (lZ (g 38 r 0))])) := ec_R hE (by omega)
  refine lv_aload_n hx hb dX3_endReceiver_0 rfl (lv_at hl 1 rfl) ?_
  refine z_iconst hx hb dX3_endReceiver_1 ?_
  refine va_callv (va_runV (As := [.int (iZ (3))]) (rest := []) ⟨hx, hb, hml, hown, hts⟩ (c_X1_rest l D dA z en 9 r (al 9 r) (al 10 r) (g 30 r 0) (g 31 r 0) (g 33 r 0) (g 34 r 0) (g 35 r 0) (g 36 r 0) (g 37 r 0) (g 38 r 0) 3 fR) (cwV 1 hts gX3_endReceiver_X1_rest rfl rfl rfl (by decide +kernel) ⟨Nat.le_of_ble_eq_true rfl, Nat.le_of_ble_eq_true rfl⟩) ⟨gBl, gRecv hK hW (ci := 3) rfl fR, gPre _ hg hS hW⟩ rfl rfl hl.1 rfl (lv_room (Nat.le_of_ble_eq_true rfl)) dX3_endReceiver_2 ⟨(show 0 + 0 ≤ 0 by omega), (show 0 + 0 ≤ 0 by omega)⟩) hS (fun _ _ h => h) (fun _ h => h) (fun u9 t9 H locs ht9 hvm9 hw9 hB9 hz9 hk9 hS => ?_)
  have hW : Wd D (z 0) (e2 en 9 r (some (al 9 r, .inr (3, [.int (iZ (3)), .int (iZ (g 31 r 0)), .ref (al 10 r), .int (iZ (g 33 r 0)), .int (iZ (g 34 r 0)), .int (iZ (g 35 r 0)), .int (iZ (g 36 r 0)), .long (lZ (9223372036854775807)), .long (lZ (9223372036854775807))])))) H := by rw [← ht9]; exact hB9
  have fX : (e2 en 9 r (some (al 9 r, .inr (3, [.int (iZ (3)), .int (iZ (g 31 r 0)), .ref (al 10 r), .int (iZ (g 33 r 0)), .int (iZ (g 34 r 0)), .int (iZ (g 35 r 0)), .int (iZ (g 36 r 0)), .long (lZ (9223372036854775807)), .long (lZ (9223372036854775807))])))) 0 0 = some (al 0 0, .inr (5, [.int (iZ (g 0 0 0)), .ref (al 1 0), .ref (al 1 1), .ref (al 3 0), .ref (al 4 0), .int (iZ (g 0 5 0)), .ref (al 11 0), .long (lZ (g 0 7 0)), .int (iZ (g 0 8 0)), .int (iZ (g 0 9 0)), .int (iZ (g 0 10 0)), .int (iZ (g 0 11 0)), .int (iZ (g 0 12 0)), .int (iZ (g 0 13 0))])) := (e2_k (by decide)).trans fX
  have fL0 : (e2 en 9 r (some (al 9 r, .inr (3, [.int (iZ (3)), .int (iZ (g 31 r 0)), .ref (al 10 r), .int (iZ (g 33 r 0)), .int (iZ (g 34 r 0)), .int (iZ (g 35 r 0)), .int (iZ (g 36 r 0)), .long (lZ (9223372036854775807)), .long (lZ (9223372036854775807))])))) 1 0 = some (al 1 0, .inr (1, [.int (iZ (g 3 0 0)), .ref (al 2 0), .int (iZ (g 1 0 0))])) := (e2_k (by decide)).trans fL0
  have fL1 : (e2 en 9 r (some (al 9 r, .inr (3, [.int (iZ (3)), .int (iZ (g 31 r 0)), .ref (al 10 r), .int (iZ (g 33 r 0)), .int (iZ (g 34 r 0)), .int (iZ (g 35 r 0)), .int (iZ (g 36 r 0)), .long (lZ (9223372036854775807)), .long (lZ (9223372036854775807))])))) 1 1 = some (al 1 1, .inr (1, [.int (iZ (g 3 1 0)), .ref (al 2 1), .int (iZ (g 1 1 0))])) := (e2_k (by decide)).trans fL1
  have fQ : (e2 en 9 r (some (al 9 r, .inr (3, [.int (iZ (3)), .int (iZ (g 31 r 0)), .ref (al 10 r), .int (iZ (g 33 r 0)), .int (iZ (g 34 r 0)), .int (iZ (g 35 r 0)), .int (iZ (g 36 r 0)), .long (lZ (9223372036854775807)), .long (lZ (9223372036854775807))])))) 3 0 = some (al 3 0, aR dA (4) (fun j => some (al 9 j))) := (e2_k (by decide)).trans fQ
  have fC : (e2 en 9 r (some (al 9 r, .inr (3, [.int (iZ (3)), .int (iZ (g 31 r 0)), .ref (al 10 r), .int (iZ (g 33 r 0)), .int (iZ (g 34 r 0)), .int (iZ (g 35 r 0)), .int (iZ (g 36 r 0)), .long (lZ (9223372036854775807)), .long (lZ (9223372036854775807))])))) 4 0 = some (al 4 0, aI dA (8) (fun j => g 2 j 0)) := (e2_k (by decide)).trans fC
  have fR : (e2 en 9 r (some (al 9 r, .inr (3, [.int (iZ (3)), .int (iZ (g 31 r 0)), .ref (al 10 r), .int (iZ (g 33 r 0)), .int (iZ (g 34 r 0)), .int (iZ (g 35 r 0)), .int (iZ (g 36 r 0)), .long (lZ (9223372036854775807)), .long (lZ (9223372036854775807))])))) 9 r = some (al 9 r, .inr (3, [.int (iZ (3)), .int (iZ (g 31 r 0)), .ref (al 10 r), .int (iZ (g 33 r 0)), .int (iZ (g 34 r 0)), .int (iZ (g 35 r 0)), .int (iZ (g 36 r 0)), .long (lZ (9223372036854775807)), .long (lZ (9223372036854775807))])) := e2_s _ _ _ _
  obtain ⟨en1, hen1⟩ : ∃ x : en_T, x = (e2 en 9 r (some (al 9 r, .inr (3, [.int (iZ (3)), .int (iZ (g 31 r 0)), .ref (al 10 r), .int (iZ (g 33 r 0)), .int (iZ (g 34 r 0)), .int (iZ (g 35 r 0)), .int (iZ (g 36 r 0)), .long (lZ (9223372036854775807)), .long (lZ (9223372036854775807))])))) := ⟨_, rfl⟩
  rw [← hen1] at hW
  obtain ⟨g1, hg1⟩ : ∃ x : St, x = rRest g r 3 := ⟨_, rfl⟩
  obtain ⟨al1, hal1⟩ : ∃ x : Al, x = al := ⟨_, rfl⟩
  have hE1 : EC dA z g1 al1 en1 := ec_r hE (r0 := r) (by omega) (fun t i j h => by rw [hg1]; simp only [rRest]; repeat rw [wr_n (by omega)]) (fun k i h => by rw [hal1]) (fun k i h => by rw [hen1]; exact e2_n (by omega)) (by rw [hen1, hg1, hal1]; refine (e2_s _ _ _ _).trans ?_; simp [rRest, wr]) (fun q9 => absurd q9 (by rw [hg1]; simp [rRest, wr]))
  have hFR1 : FR en en1 := fun k i h1 h2 => by rw [hen1]; exact e2_n (by omega)
  have hAS1 : AS g g1 al al1 := ⟨⟨by rw [hg1]; exact Int.le_refl _, by rw [hg1]; exact Int.le_refl _, by rw [hg1]; exact Int.le_refl _⟩, fun k i h => by rw [hal1]⟩
  have hl : lv_has ls 3 [(0, .ref (al1 0 0)), (1, .ref (al1 9 r)), (2, .int (iZ (w9)))] := by rw [hAS1.2 0 0 (by omega), hAS1.2 9 r (by omega)]; exact hl
  have hN1 := hAS1.1
  have fX : en1 0 0 = some (al1 0 0, .inr (5, [.int (iZ (g1 0 0 0)), .ref (al1 1 0), .ref (al1 1 1), .ref (al1 3 0), .ref (al1 4 0), .int (iZ (g1 0 5 0)), .ref (al1 11 0), .long (lZ (g1 0 7 0)), .int (iZ (g1 0 8 0)), .int (iZ (g1 0 9 0)), .int (iZ (g1 0 10 0)), .int (iZ (g1 0 11 0)), .int (iZ (g1 0 12 0)), .int (iZ (g1 0 13 0))])) := ec_X hE1
  have fL0 : en1 1 0 = some (al1 1 0, .inr (1, [.int (iZ (g1 3 0 0)), .ref (al1 2 0), .int (iZ (g1 1 0 0))])) := ec_L0 hE1
  have fL1 : en1 1 1 = some (al1 1 1, .inr (1, [.int (iZ (g1 3 1 0)), .ref (al1 2 1), .int (iZ (g1 1 1 0))])) := ec_L1 hE1
  have fQ : en1 3 0 = some (al1 3 0, aR dA (4) (fun j => some (al1 9 j))) := ec_Q hE1
  have fC : en1 4 0 = some (al1 4 0, aI dA (8) (fun j => g1 2 j 0)) := ec_C hE1
  have fR : en1 9 r = some (al1 9 r, .inr (3, [.int (iZ (g1 30 r 0)), .int (iZ (g1 31 r 0)), .ref (al1 10 r), .int (iZ (g1 33 r 0)), .int (iZ (g1 34 r 0)), .int (iZ (g1 35 r 0)), .int (iZ (g1 36 r 0)), .long (lZ (g1 37 r 0)), .long (lZ (g1 38 r 0))])) := ec_R hE1 (by omega)
  refine lv_aload_n hx hb dX3_endReceiver_5 rfl (lv_at hl 0 rfl) ?_
  refine lv_dup hx hb dX3_endReceiver_6 rfl ?_
  refine g_get (C := RX3) (T := TX3) (N := 14) (ci := 5) (v := .int (iZ (g1 0 5 0))) hx hb hts hi5 hown hK hW fX rfl 5 (by decide) (hts (.fieldLink RX3 125 "LongTransfer" "endings" "I") (by decide +kernel)) (fun _ h9 => h9) rfl dX3_endReceiver_7 ?_
  refine z_iconst hx hb dX3_endReceiver_10 ?_
  refine z_iadd hx hb dX3_endReceiver_11 ?_
  refine g_put (C := RX3) (T := TX3) (N := 14) (ci := 5) (ty := .int) (v := .int (iZ ((g1 0 5 0) + 1))) (fs' := [.int (iZ (g1 0 0 0)), .ref (al1 1 0), .ref (al1 1 1), .ref (al1 3 0), .ref (al1 4 0), .int (iZ ((g1 0 5 0) + 1)), .ref (al1 11 0), .long (lZ (g1 0 7 0)), .int (iZ (g1 0 8 0)), .int (iZ (g1 0 9 0)), .int (iZ (g1 0 10 0)), .int (iZ (g1 0 11 0)), .int (iZ (g1 0 12 0)), .int (iZ (g1 0 13 0))]) hx hb hts hi5 tyX3 tyX3_ok nmX3 hown hK hW hS fX rfl 5 (by decide) (hts (.fieldLink RX3 125 "LongTransfer" "endings" "I") (by decide +kernel)) (fun _ h9 => h9) rfl (by decide +kernel) rfl rfl (Nat.le_of_ble_eq_true rfl) dX3_endReceiver_12 rfl (fun H locs hW hS => ?_)
  have fL0 : (e2 en1 0 0 (some (al1 0 0, .inr (5, [.int (iZ (g1 0 0 0)), .ref (al1 1 0), .ref (al1 1 1), .ref (al1 3 0), .ref (al1 4 0), .int (iZ ((g1 0 5 0) + 1)), .ref (al1 11 0), .long (lZ (g1 0 7 0)), .int (iZ (g1 0 8 0)), .int (iZ (g1 0 9 0)), .int (iZ (g1 0 10 0)), .int (iZ (g1 0 11 0)), .int (iZ (g1 0 12 0)), .int (iZ (g1 0 13 0))])))) 1 0 = some (al1 1 0, .inr (1, [.int (iZ (g1 3 0 0)), .ref (al1 2 0), .int (iZ (g1 1 0 0))])) := (e2_k (by decide)).trans fL0
  have fL1 : (e2 en1 0 0 (some (al1 0 0, .inr (5, [.int (iZ (g1 0 0 0)), .ref (al1 1 0), .ref (al1 1 1), .ref (al1 3 0), .ref (al1 4 0), .int (iZ ((g1 0 5 0) + 1)), .ref (al1 11 0), .long (lZ (g1 0 7 0)), .int (iZ (g1 0 8 0)), .int (iZ (g1 0 9 0)), .int (iZ (g1 0 10 0)), .int (iZ (g1 0 11 0)), .int (iZ (g1 0 12 0)), .int (iZ (g1 0 13 0))])))) 1 1 = some (al1 1 1, .inr (1, [.int (iZ (g1 3 1 0)), .ref (al1 2 1), .int (iZ (g1 1 1 0))])) := (e2_k (by decide)).trans fL1
  have fQ : (e2 en1 0 0 (some (al1 0 0, .inr (5, [.int (iZ (g1 0 0 0)), .ref (al1 1 0), .ref (al1 1 1), .ref (al1 3 0), .ref (al1 4 0), .int (iZ ((g1 0 5 0) + 1)), .ref (al1 11 0), .long (lZ (g1 0 7 0)), .int (iZ (g1 0 8 0)), .int (iZ (g1 0 9 0)), .int (iZ (g1 0 10 0)), .int (iZ (g1 0 11 0)), .int (iZ (g1 0 12 0)), .int (iZ (g1 0 13 0))])))) 3 0 = some (al1 3 0, aR dA (4) (fun j => some (al1 9 j))) := (e2_k (by decide)).trans fQ
  have fC : (e2 en1 0 0 (some (al1 0 0, .inr (5, [.int (iZ (g1 0 0 0)), .ref (al1 1 0), .ref (al1 1 1), .ref (al1 3 0), .ref (al1 4 0), .int (iZ ((g1 0 5 0) + 1)), .ref (al1 11 0), .long (lZ (g1 0 7 0)), .int (iZ (g1 0 8 0)), .int (iZ (g1 0 9 0)), .int (iZ (g1 0 10 0)), .int (iZ (g1 0 11 0)), .int (iZ (g1 0 12 0)), .int (iZ (g1 0 13 0))])))) 4 0 = some (al1 4 0, aI dA (8) (fun j => g1 2 j 0)) := (e2_k (by decide)).trans fC
  have fR : (e2 en1 0 0 (some (al1 0 0, .inr (5, [.int (iZ (g1 0 0 0)), .ref (al1 1 0), .ref (al1 1 1), .ref (al1 3 0), .ref (al1 4 0), .int (iZ ((g1 0 5 0) + 1)), .ref (al1 11 0), .long (lZ (g1 0 7 0)), .int (iZ (g1 0 8 0)), .int (iZ (g1 0 9 0)), .int (iZ (g1 0 10 0)), .int (iZ (g1 0 11 0)), .int (iZ (g1 0 12 0)), .int (iZ (g1 0 13 0))])))) 9 r = some (al1 9 r, .inr (3, [.int (iZ (g1 30 r 0)), .int (iZ (g1 31 r 0)), .ref (al1 10 r), .int (iZ (g1 33 r 0)), .int (iZ (g1 34 r 0)), .int (iZ (g1 35 r 0)), .int (iZ (g1 36 r 0)), .long (lZ (g1 37 r 0)), .long (lZ (g1 38 r 0))])) := (e2_k (by decide)).trans fR
  have fX : (e2 en1 0 0 (some (al1 0 0, .inr (5, [.int (iZ (g1 0 0 0)), .ref (al1 1 0), .ref (al1 1 1), .ref (al1 3 0), .ref (al1 4 0), .int (iZ ((g1 0 5 0) + 1)), .ref (al1 11 0), .long (lZ (g1 0 7 0)), .int (iZ (g1 0 8 0)), .int (iZ (g1 0 9 0)), .int (iZ (g1 0 10 0)), .int (iZ (g1 0 11 0)), .int (iZ (g1 0 12 0)), .int (iZ (g1 0 13 0))])))) 0 0 = some (al1 0 0, .inr (5, [.int (iZ (g1 0 0 0)), .ref (al1 1 0), .ref (al1 1 1), .ref (al1 3 0), .ref (al1 4 0), .int (iZ ((g1 0 5 0) + 1)), .ref (al1 11 0), .long (lZ (g1 0 7 0)), .int (iZ (g1 0 8 0)), .int (iZ (g1 0 9 0)), .int (iZ (g1 0 10 0)), .int (iZ (g1 0 11 0)), .int (iZ (g1 0 12 0)), .int (iZ (g1 0 13 0))])) := e2_s _ _ _ _
  obtain ⟨en2, hen2⟩ : ∃ x : en_T, x = (e2 en1 0 0 (some (al1 0 0, .inr (5, [.int (iZ (g1 0 0 0)), .ref (al1 1 0), .ref (al1 1 1), .ref (al1 3 0), .ref (al1 4 0), .int (iZ ((g1 0 5 0) + 1)), .ref (al1 11 0), .long (lZ (g1 0 7 0)), .int (iZ (g1 0 8 0)), .int (iZ (g1 0 9 0)), .int (iZ (g1 0 10 0)), .int (iZ (g1 0 11 0)), .int (iZ (g1 0 12 0)), .int (iZ (g1 0 13 0))])))) := ⟨_, rfl⟩
  rw [← hen2] at hW
  obtain ⟨g2, hg2⟩ : ∃ x : St, x = sEnds g1 := ⟨_, rfl⟩
  have hE2 : EC dA z g2 al1 en2 := ec_x hE1  (fun t i j h => by rw [hg2]; simp only [sEnds]; repeat rw [wr_n (by omega)]) (fun _ _ _ => rfl) (fun k i h => by rw [hen2]; exact e2_n (by omega)) (by rw [hen2, hg2]; refine (e2_s _ _ _ _).trans ?_; simp [sEnds, wr])
  have hFR2 : FR en1 en2 := fun k i h1 h2 => by rw [hen2]; exact e2_n (by omega)
  have hAS2 : AS g1 g2 al1 al1 := AS_e (by rw [hg2]; rfl) (by rw [hg2]; rfl) (by rw [hg2]; rfl)
  have hFR2 := FR.tr hFR1 hFR2
  have hAS2 := AS.tr hAS1 hAS2
  have hN2 := hAS2.1
  have fX : en2 0 0 = some (al1 0 0, .inr (5, [.int (iZ (g2 0 0 0)), .ref (al1 1 0), .ref (al1 1 1), .ref (al1 3 0), .ref (al1 4 0), .int (iZ (g2 0 5 0)), .ref (al1 11 0), .long (lZ (g2 0 7 0)), .int (iZ (g2 0 8 0)), .int (iZ (g2 0 9 0)), .int (iZ (g2 0 10 0)), .int (iZ (g2 0 11 0)), .int (iZ (g2 0 12 0)), .int (iZ (g2 0 13 0))])) := ec_X hE2
  have fL0 : en2 1 0 = some (al1 1 0, .inr (1, [.int (iZ (g2 3 0 0)), .ref (al1 2 0), .int (iZ (g2 1 0 0))])) := ec_L0 hE2
  have fL1 : en2 1 1 = some (al1 1 1, .inr (1, [.int (iZ (g2 3 1 0)), .ref (al1 2 1), .int (iZ (g2 1 1 0))])) := ec_L1 hE2
  have fQ : en2 3 0 = some (al1 3 0, aR dA (4) (fun j => some (al1 9 j))) := ec_Q hE2
  have fC : en2 4 0 = some (al1 4 0, aI dA (8) (fun j => g2 2 j 0)) := ec_C hE2
  have fR : en2 9 r = some (al1 9 r, .inr (3, [.int (iZ (g2 30 r 0)), .int (iZ (g2 31 r 0)), .ref (al1 10 r), .int (iZ (g2 33 r 0)), .int (iZ (g2 34 r 0)), .int (iZ (g2 35 r 0)), .int (iZ (g2 36 r 0)), .long (lZ (g2 37 r 0)), .long (lZ (g2 38 r 0))])) := ec_R hE2 (by omega)
  refine lv_aload_n hx hb dX3_endReceiver_15 rfl (lv_at hl 0 rfl) ?_
  refine lv_iload_n hx hb dX3_endReceiver_16 rfl (lv_at hl 2 rfl) ?_
  have hI2 : IB g2 := by rw [hg2, hg1]; exact ib_en (ib_rr hI (r := r) (by omega) (by omega) (by omega) (by omega))
  refine va_callv (va_runV (As := [.int (iZ (w9))]) (rest := []) ⟨hx, hb, hml, hown, hts⟩ (c_X3_count l D dA z en2 g2 al1 w9 h0 h1 hE2 hI2) (cwV 1 hts gX3_endReceiver_X3_count rfl rfl rfl (by decide +kernel) ⟨Nat.le_of_ble_eq_true rfl, Nat.le_of_ble_eq_true rfl⟩) ⟨gBl, gRecv hK hW (ci := 5) rfl fX, gPre _ hg hS hW⟩ rfl rfl hl.1 rfl (lv_room (Nat.le_of_ble_eq_true rfl)) dX3_endReceiver_17 ⟨(show 0 + 0 + 0 ≤ 0 by omega), (show 0 + 0 + 0 ≤ 0 by omega)⟩) hS (fun _ _ h => h) (fun _ h => h) (fun u9 t9 H locs ht9 hvm9 hw9 hB9 hz9 hk9 hS => ?_)
  obtain ⟨en3, al3⟩ := u9
  obtain ⟨hE3, hFR3, hAS3⟩ := hw9
  have hW : Wd D (z 0) en3 H := by rw [← ht9]; exact hB9
  obtain ⟨g3, hg3⟩ : ∃ x : St, x = sCnt g2 w9 := ⟨_, rfl⟩
  rw [← hg3] at hE3 hAS3
  dsimp only at hE3 hFR3 hAS3
  have hl : lv_has ls 3 [(0, .ref (al3 0 0)), (1, .ref (al3 9 r)), (2, .int (iZ (w9)))] := by rw [hAS3.2 0 0 (by omega), hAS3.2 9 r (by omega)]; exact hl
  have hFR3 := FR.tr hFR2 hFR3
  have hAS3 := AS.tr hAS2 hAS3
  have hN3 := hAS3.1
  have fX : en3 0 0 = some (al3 0 0, .inr (5, [.int (iZ (g3 0 0 0)), .ref (al3 1 0), .ref (al3 1 1), .ref (al3 3 0), .ref (al3 4 0), .int (iZ (g3 0 5 0)), .ref (al3 11 0), .long (lZ (g3 0 7 0)), .int (iZ (g3 0 8 0)), .int (iZ (g3 0 9 0)), .int (iZ (g3 0 10 0)), .int (iZ (g3 0 11 0)), .int (iZ (g3 0 12 0)), .int (iZ (g3 0 13 0))])) := ec_X hE3
  have fL0 : en3 1 0 = some (al3 1 0, .inr (1, [.int (iZ (g3 3 0 0)), .ref (al3 2 0), .int (iZ (g3 1 0 0))])) := ec_L0 hE3
  have fL1 : en3 1 1 = some (al3 1 1, .inr (1, [.int (iZ (g3 3 1 0)), .ref (al3 2 1), .int (iZ (g3 1 1 0))])) := ec_L1 hE3
  have fQ : en3 3 0 = some (al3 3 0, aR dA (4) (fun j => some (al3 9 j))) := ec_Q hE3
  have fC : en3 4 0 = some (al3 4 0, aI dA (8) (fun j => g3 2 j 0)) := ec_C hE3
  have fR : en3 9 r = some (al3 9 r, .inr (3, [.int (iZ (g3 30 r 0)), .int (iZ (g3 31 r 0)), .ref (al3 10 r), .int (iZ (g3 33 r 0)), .int (iZ (g3 34 r 0)), .int (iZ (g3 35 r 0)), .int (iZ (g3 36 r 0)), .long (lZ (g3 37 r 0)), .long (lZ (g3 38 r 0))])) := ec_R hE3 (by omega)
  have hgz : g3 = sEndR g r w9 := by subst hg3; subst hg2; subst hg1; rfl
  rw [hgz] at hE3 hAS3
  exact W.vret hx hb hr (fun t ht hw => ⟨⟨(en3, al3), rfl, ⟨hE3, hFR3, hAS3⟩, by show Wd _ _ _ t.heap; rw [ht]; exact hW⟩, hS.F ht⟩) hS.2.2 dX3_endReceiver_20
