/-! settings -/
theorem rl_set {g g' : St} {mu mu' : Mu} (hI : IB g) (h : Rl g mu) (hg : ∀ (t : Nat) (i j : Int), ¬ (t = 0 ∧ 9 ≤ i ∧ i ≤ 13) → g' t i j = g t i j) (hm : ∀ (t : Nat) (j : Int), ¬ (35 ≤ t ∧ t ≤ 39) ∧ t ≠ 0 → mu' t j = mu t j) (hx' : mu' 35 0 = g' 0 10 0 ∧ mu' 36 0 = g' 0 11 0 ∧ mu' 37 0 = g' 0 9 0 ∧ mu' 38 0 = g' 0 12 0 ∧ mu' 39 0 = g' 0 13 0) : Rl g' mu' := by
  obtain ⟨hx, hc, hgt, hd, hs, hf, hr, hb⟩ := h
  refine ⟨?_, rc_c (fun w => hm 42 w (by omega)) (fun w => hg 2 w 0 (by omega)) (hg 0 5 0 (by omega)) hc, rg_c (hm 40 0 (by omega)) (fun j => hm 41 j (by omega)) (hg 1 2 0 (by omega)) (fun j => hg 40 0 j (by omega)) hgt, rdt_c (fun j => hm 4 j (by omega)) (fun j => hm 5 j (by omega)) (hg 1 0 0 (by omega)) (fun i => hg 11 i 0 (by omega)) (fun i j => hg 19 i j (by omega)) hd, rs_c (hg 1 0 0 (by omega)) (fun t j q => hm t j (by omega)) (fun t j q => hg t j 0 (by omega)) (hg 0 8 0 (by omega)) hs, rf_c (hg 1 1 0 (by omega)) hI (fun t j q => hm t j (by omega)) (fun t i j q => hg t i j (by omega)) hf, rr_c (fun t j q => hm t j (by omega)) (fun t i j q => hg t i j (by omega)) hr, rb_c (fun t j q => hm t j (by omega)) hb⟩
  unfold RX at hx ⊢
  rw [hm 1 0 (by omega), hm 2 0 (by omega), hm 3 0 (by omega), hm 26 0 (by omega), hg 0 0 0 (by omega), hg 0 7 0 (by omega), hg 1 0 0 (by omega), hg 1 1 0 (by omega)]
  exact ⟨hx.1, hx'⟩
/-! a frame is off its way -/
theorem rl_ow {g : St} {mu mu' : Mu} (hI : IB g) (h : Rl g mu) {f : Int} (h1 : 1 ≤ f) (h2 : f ≤ g 1 1 0) (hm : ∀ (t : Nat) (j : Int), t ≠ 0 ∧ ¬ (t = 33 ∧ j = f) → mu' t j = mu t j) (h33 : mu' 33 f = 1) : Rl (wr g 27 f 0) mu' := by
  obtain ⟨hx, hc, hgt, hd, hs, hf, hr, hb⟩ := h
  have hg : ∀ (t : Nat) (i j : Int), ¬ (t = 27 ∧ i = f) → wr g 27 f 0 t i j = g t i j := fun t i j q => wr_n (by omega)
  have e11 : wr g 27 f 0 1 1 0 = g 1 1 0 := hg 1 1 0 (by omega)
  refine ⟨rx_c (fun t q => hm t 0 (by omega)) (fun i q q' => hg 0 i 0 (by omega)) (hg 1 0 0 (by omega)) e11 hx, rc_c (fun w => hm 42 w (by omega)) (fun w => hg 2 w 0 (by omega)) (hg 0 5 0 (by omega)) hc, rg_c (hm 40 0 (by omega)) (fun j => hm 41 j (by omega)) (hg 1 2 0 (by omega)) (fun j => hg 40 0 j (by omega)) hgt, rdt_c (fun j => hm 4 j (by omega)) (fun j => hm 5 j (by omega)) (hg 1 0 0 (by omega)) (fun i => hg 11 i 0 (by omega)) (fun i j => hg 19 i j (by omega)) hd, rs_c (hg 1 0 0 (by omega)) (fun t j q => hm t j (by omega)) (fun t j q => hg t j 0 (by omega)) (hg 0 8 0 (by omega)) hs, ⟨fun f9 q1 q2 => ?_, fun f9 q => ?_⟩, rr_c (fun t j q => hm t j (by omega)) (fun t i j q => hg t i j (by omega)) hr, rb_c (fun t j q => hm t j (by omega)) hb⟩
  · rw [e11] at q2
    have k := hf.1 f9 q1 q2
    have hIf := hI.2.2.2.1 f9 q1 q2
    unfold IF at hIf
    by_cases q : f9 = f
    · subst q
      unfold RF at k ⊢
      rw [hm 27 f9 (by omega), hm 28 f9 (by omega), hm 29 f9 (by omega), hm 30 f9 (by omega), hm 31 f9 (by omega), hm 32 f9 (by omega), h33, hg 20 f9 0 (by omega), hg 21 f9 0 (by omega), hg 22 f9 0 (by omega), hg 23 f9 0 (by omega), hg 24 f9 0 (by omega), hg 25 f9 0 (by omega), wr_s, if_pos rfl]
      exact ⟨k.1, rfl, fun w j a b => by rw [hm 34 _ (by omega), hg 28 f9 j (by omega)]; exact k.2.2 w j a b⟩
    · exact RF_c (fun t w => hm t f9 (by omega)) (fun j _ _ => hm 34 j (by omega)) (fun w => by omega) (fun t w => hg t f9 0 (by omega)) (fun j => hg 28 f9 j (by omega)) k
  · rw [e11] at q
    rw [hm 33 f9 (by omega)]
    exact hf.2 f9 q
/-! where the data of messages lie -/
theorem rd_le {g : St} {mu : Mu} (hI : IB g) (h : RD g mu) {a : Int} (h1 : 1 ≤ a) (k : Nat) : a + k ≤ g 1 0 0 + 1 → mu 4 a ≤ mu 4 (a + k) := by
  induction k with
  | zero => intro _; simp
  | succ k ih =>
    intro q
    have e := h.2.1 (a + k) (by omega) (by omega)
    have hs := hI.2.2.1 (a + k) (by omega) (by omega)
    unfold IS at hs
    have := ih (by omega)
    rw [show a + ((k + 1 : Nat) : Int) = a + k + 1 by omega, e]
    omega
theorem rd_mo {g : St} {mu : Mu} (hI : IB g) (h : RD g mu) {a b : Int} (h1 : 1 ≤ a) (h2 : a ≤ b) (h3 : b ≤ g 1 0 0 + 1) : mu 4 a ≤ mu 4 b := by
  have q := rd_le hI h h1 (b - a).toNat (by omega)
  rw [show a + ((b - a).toNat : Int) = b by omega] at q
  exact q
theorem rl_oct {g : St} {mu mu' : Mu} (hI : IB g) (h : Rl g mu) {m i b : Int} (h1 : 1 ≤ m) (h2 : m ≤ g 1 0 0) (h3 : 0 ≤ i) (h4 : i < g 11 m 0) (hb' : -128 ≤ b ∧ b ≤ 127) (hm : ∀ (t : Nat) (j : Int), t ≠ 0 ∧ ¬ (t = 5 ∧ j = mu 4 m + i) → mu' t j = mu t j) (h5 : mu' 5 (mu 4 m + i) = b) : Rl (sOct g m i b) mu' := by
  obtain ⟨hx, hc, hgt, hd, hs, hf, hr, hb⟩ := h
  have hdd := hd
  unfold sOct
  rw [if_pos ⟨⟨h1, h2⟩, h3, h4⟩]
  have hg : ∀ (t : Nat) (i' j : Int), ¬ (t = 19 ∧ i' = m) → wR g 19 m (uF (g 19 m) i b) t i' j = g t i' j := fun t i' j q => wR_n (by omega)
  refine ⟨rx_c (fun t q => hm t 0 (by omega)) (fun i q q' => hg 0 i 0 (by omega)) (hg 1 0 0 (by omega)) (hg 1 1 0 (by omega)) hx, rc_c (fun w => hm 42 w (by omega)) (fun w => hg 2 w 0 (by omega)) (hg 0 5 0 (by omega)) hc, rg_c (hm 40 0 (by omega)) (fun j => hm 41 j (by omega)) (hg 1 2 0 (by omega)) (fun j => hg 40 0 j (by omega)) hgt, ?_, rs_c (hg 1 0 0 (by omega)) (fun t j q => hm t j (by omega)) (fun t j q => hg t j 0 (by omega)) (hg 0 8 0 (by omega)) hs, rf_c (hg 1 1 0 (by omega)) hI (fun t j q => hm t j (by omega)) (fun t i j q => hg t i j (by omega)) hf, rr_c (fun t j q => hm t j (by omega)) (fun t i j q => hg t i j (by omega)) hr, ?_⟩
  · unfold RD at hd ⊢
    have M4 : ∀ j : Int, mu' 4 j = mu 4 j := fun j => hm 4 j (by omega)
    have e10 := hg 1 0 0 (by omega)
    have e11 : ∀ i' : Int, wR g 19 m (uF (g 19 m) i b) 11 i' 0 = g 11 i' 0 := fun i' => hg 11 i' 0 (by omega)
    simp only [M4, e10, e11]
    obtain ⟨d1, d2, d3, d4, d5⟩ := hd
    refine ⟨d1, d2, d3, fun m9 j q1 q2 q3 q4 => ?_, fun j q => ?_⟩
    · by_cases z : m9 = m
      · subst z
        rw [wR_s]
        unfold uF
        by_cases y : j = i
        · rw [if_pos y, y]; exact h5
        · rw [if_neg y, hm 5 _ (by omega)]
          exact d4 m9 j q1 q2 q3 q4
      · rw [hg 19 m9 j (by omega), hm 5 _ ?_]
        · exact d4 m9 j q1 q2 q3 q4
        · refine ⟨by decide, fun w => ?_⟩
          have w2 := w.2
          rcases Int.lt_or_gt_of_ne z with y | y
          · have := rd_mo hI hdd (a := m9 + 1) (b := m) (by omega) (by omega) (by omega)
            have := d2 m9 q1 q2
            omega
          · have := rd_mo hI hdd (a := m + 1) (b := m9) (by omega) (by omega) (by omega)
            have := d2 m h1 h2
            omega
    · rw [hm 5 j ?_]
      · exact d5 j q
      · refine ⟨by decide, fun w => ?_⟩
        have := rd_mo hI hdd (a := m + 1) (b := g 1 0 0 + 1) (by omega) (by omega) (by omega)
        have := d2 m h1 h2
        omega
  · intro t j q
    by_cases z : t = 5 ∧ j = mu 4 m + i
    · obtain ⟨rfl, rfl⟩ := z
      rw [h5]; exact hb'
    · rw [hm t j ⟨by omega, z⟩]; exact hb t j q
/-! a new message -/
theorem rl_push {g : St} {mu mu' : Mu} (hI : IB g) (h : Rl g mu) {n : Int} (h1 : ¬ 100 ≤ g 1 0 0) (hn : 1 ≤ n ∧ n ≤ 10000) (hm : ∀ (t : Nat) (j : Int), t ≠ 0 ∧ ¬ (t = 3 ∧ j = 0) ∧ ¬ (t = 4 ∧ j = g 1 0 0 + 2) → mu' t j = mu t j) (h3 : mu' 3 0 = g 1 0 0 + 1) (h4 : mu' 4 (g 1 0 0 + 2) = mu 4 (g 1 0 0 + 1) + n) : Rl (sPush g n) mu' := by
  obtain ⟨hx, hc, hgt, hd, hs, hf, hr, hb⟩ := h
  have hl := hI.2.1
  unfold IL at hl
  have hi := hI.1
  unfold IX at hi
  obtain ⟨⟨p1, p4⟩, ⟨p11, p12, p13, p14, p15, p16, p17, p18⟩, p19⟩ := v_psv g n
  have hg : ∀ (t : Nat) (i j : Int), ¬ (((t = 1 ∨ t = 3 ∨ t = 4) ∧ i = 0) ∨ (11 ≤ t ∧ t ≤ 19 ∧ i = g 1 0 0 + 1)) → sPush g n t i j = g t i j := fun t i j q => v_ps q
  refine ⟨?_, rc_c (fun w => hm 42 w (by omega)) (fun w => hg 2 w 0 (by omega)) (hg 0 5 0 (by omega)) hc, rg_c (hm 40 0 (by omega)) (fun j => hm 41 j (by omega)) (hg 1 2 0 (by omega)) (fun j => hg 40 0 j (by omega)) hgt, ?_, ⟨fun m q1 q2 => ?_, fun m q => ?_⟩, rf_c (hg 1 1 0 (by omega)) hI (fun t j q => hm t j (by omega)) (fun t i j q => hg t i j (by omega)) hf, rr_c (fun t j q => hm t j (by omega)) (fun t i j q => hg t i j (by omega)) hr, rb_c (fun t j q => hm t j (by omega)) hb⟩
  · unfold RX at hx ⊢
    rw [hm 1 0 (by omega), hm 2 0 (by omega), hm 26 0 (by omega), hm 35 0 (by omega), hm 36 0 (by omega), hm 37 0 (by omega), hm 38 0 (by omega), hm 39 0 (by omega), h3, hg 0 0 0 (by omega), hg 0 7 0 (by omega), p1, hg 1 1 0 (by omega), hg 0 10 0 (by omega), hg 0 11 0 (by omega), hg 0 9 0 (by omega), hg 0 12 0 (by omega), hg 0 13 0 (by omega)]
    exact ⟨⟨hx.1.1, hx.1.2.1, rfl, hx.1.2.2.2⟩, hx.2⟩
  · unfold RD at hd ⊢
    rw [p1]
    obtain ⟨d1, d2, d3, d4, d5⟩ := hd
    have M4 : ∀ j : Int, j ≤ g 1 0 0 + 1 → mu' 4 j = mu 4 j := fun j q => hm 4 j (by omega)
    have M5 : ∀ j : Int, mu' 5 j = mu 5 j := fun j => hm 5 j (by omega)
    have h4' : mu' 4 (g 1 0 0 + 1 + 1) = mu 4 (g 1 0 0 + 1) + n := by rw [show g 1 0 0 + 1 + 1 = g 1 0 0 + 2 by omega]; exact h4
    refine ⟨by rw [M4 1 (by omega)]; exact d1, fun m q1 q2 => ?_, fun m q1 q2 => ?_, fun m j q1 q2 q3 q4 => ?_, fun j q => ?_⟩
    · by_cases z : m = g 1 0 0 + 1
      · rw [z, h4', p11, M4 _ (by omega)]
      · rw [M4 _ (by omega), M4 _ (by omega), hg 11 m 0 (by omega)]
        exact d2 m q1 (by omega)
    · by_cases z : m = g 1 0 0 + 1 + 1
      · rw [z, h4']
        have := d3 (g 1 0 0 + 1) (by omega) (by omega)
        omega
      · rw [M4 m (by omega)]
        exact d3 m q1 (by omega)
    · rw [M5, M4 m (by omega)]
      by_cases z : m = g 1 0 0 + 1
      · rw [z, p19]
        exact d5 _ (by omega)
      · rw [hg 11 m 0 (by omega)] at q4
        rw [hg 19 m j (by omega)]
        exact d4 m j q1 (by omega) q3 q4
    · rw [M5]
      rw [h4'] at q
      exact d5 j (by omega)
  · rw [p1] at q2
    by_cases z : m = g 1 0 0 + 1
    · subst z
      obtain ⟨s6, s7, s8, s9, s13⟩ := hs.2 (g 1 0 0 + 1) (by omega)
      unfold RN
      rw [hm 6 _ (by omega), hm 7 _ (by omega), hm 8 _ (by omega), hm 9 _ (by omega), hm 13 _ (by omega), p12, p13, p14, p15, p18, s6, s7, s8, s9, s13, hg 0 8 0 (by omega), if_neg (by omega)]
      exact ⟨rfl, rfl, fun _ => ⟨rfl, rfl, by omega, by omega, rfl⟩, fun w => by omega, fun w => by omega, fun _ => rfl⟩
    · exact RN_c (fun t w => hm t m (by omega)) (fun t w => hg t m 0 (by omega)) (by rw [hg 0 8 0 (by omega)]) (hs.1 m q1 (by omega))
  · rw [p1] at q
    rw [hm 6 m (by omega), hm 7 m (by omega), hm 8 m (by omega), hm 9 m (by omega), hm 13 m (by omega)]
    exact hs.2 m (by omega)

