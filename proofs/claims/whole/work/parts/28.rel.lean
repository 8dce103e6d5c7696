/-! the class's state and the reference's numbers, side by side -/
def RX (g : St) (mu : Mu) : Prop := (mu 1 0 = g 0 0 0 ∧ mu 2 0 = g 0 7 0 ∧ mu 3 0 = g 1 0 0 ∧ mu 26 0 = g 1 1 0) ∧ (mu 35 0 = g 0 10 0 ∧ mu 36 0 = g 0 11 0 ∧ mu 37 0 = g 0 9 0 ∧ mu 38 0 = g 0 12 0 ∧ mu 39 0 = g 0 13 0)
def RC (g : St) (mu : Mu) : Prop := (∀ w : Int, 0 ≤ w → w < 8 → mu 42 w = g 2 w 0) ∧ g 0 5 0 = g 2 1 0 + g 2 2 0 + g 2 3 0 + g 2 4 0 + g 2 5 0 + g 2 6 0 + g 2 7 0
def RG (g : St) (mu : Mu) : Prop := mu 40 0 = g 1 2 0 ∧ ∀ j : Int, 0 ≤ j → j < g 1 2 0 → mu 41 j = g 40 0 j
def RD (g : St) (mu : Mu) : Prop := mu 4 1 = 0 ∧ (∀ m : Int, 1 ≤ m → m ≤ g 1 0 0 → mu 4 (m + 1) = mu 4 m + g 11 m 0) ∧ (∀ m : Int, 1 ≤ m → m ≤ g 1 0 0 + 1 → 0 ≤ mu 4 m ∧ mu 4 m ≤ 10000 * (m - 1)) ∧ (∀ m j : Int, 1 ≤ m → m ≤ g 1 0 0 → 0 ≤ j → j < g 11 m 0 → mu 5 (mu 4 m + j) = g 19 m j) ∧ (∀ j : Int, mu 4 (g 1 0 0 + 1) ≤ j → mu 5 j = 0)
def RN (g : St) (mu : Mu) (m : Int) : Prop := (mu 6 m = if m ≤ g 0 8 0 then 1 else 0) ∧ mu 7 m = g 12 m 0 ∧ (g 12 m 0 < 3 → mu 8 m = g 13 m 0 ∧ g 14 m 0 = (mu 9 m + 1) % 16 ∧ 0 ≤ mu 9 m ∧ mu 9 m < 16 ∧ mu 13 m = g 15 m 0) ∧ (g 12 m 0 = 2 → mu 12 m = g 17 m 0 ∧ g 18 m 0 = mu 15 m ∧ ((mu 10 m = 0 ∧ g 16 m 0 = 0) ∨ (mu 10 m ≠ 0 ∧ 1 ≤ g 16 m 0 ∧ mu 11 m = g 16 m 0)) ∧ iB (mu 10 m)) ∧ (g 12 m 0 = 1 → g 18 m 0 = mu 14 m + 1000) ∧ (g 12 m 0 = 0 ∨ 3 ≤ g 12 m 0 → g 18 m 0 = 9223372036854775807)
def RS (g : St) (mu : Mu) : Prop := (∀ m : Int, 1 ≤ m → m ≤ g 1 0 0 → RN g mu m) ∧ ∀ m : Int, g 1 0 0 < m → mu 6 m = 0 ∧ mu 7 m = 0 ∧ mu 8 m = 0 ∧ mu 9 m = 0 ∧ mu 13 m = 0
def RF (g : St) (mu : Mu) (f : Int) : Prop := (mu 27 f = g 20 f 0 ∧ mu 28 f = g 21 f 0 ∧ mu 29 f = g 22 f 0 ∧ mu 30 f = g 23 f 0 ∧ mu 31 f = g 24 f 0 ∧ mu 32 f = g 25 f 0) ∧ (mu 33 f = if g 27 f 0 = 0 then 1 else 0) ∧ (g 20 f 0 < 3 → ∀ j : Int, 0 ≤ j → j < g 23 f 0 → mu 34 (7 * f + j) = g 28 f j)
def RFs (g : St) (mu : Mu) : Prop := (∀ f : Int, 1 ≤ f → f ≤ g 1 1 0 → RF g mu f) ∧ ∀ f : Int, g 1 1 0 < f → mu 33 f = 0
def RQ (g : St) (mu : Mu) (r : Int) : Prop := mu 16 r = g 30 r 0 ∧ (g 30 r 0 = 1 → (mu 17 r = g 31 r 0 ∧ mu 18 r = g 32 r 0 ∧ mu 19 r = g 33 r 0 ∧ mu 20 r = g 34 r 0 ∧ mu 21 r = g 35 r 0) ∧ (g 35 r 0 ≠ 0 → mu 22 r = g 35 r 0 - g 36 r 0) ∧ g 38 r 0 = mu 23 r + 1000 ∧ ((mu 24 r = 1 ∧ g 37 r 0 = mu 23 r + 500) ∨ (mu 24 r = 0 ∧ g 37 r 0 = 9223372036854775807)) ∧ ∀ j : Int, 0 ≤ j → j < g 33 r 0 → mu 25 (10000 * r + j) = g 39 r j) ∧ (g 30 r 0 ≠ 1 → g 37 r 0 = 9223372036854775807 ∧ g 38 r 0 = 9223372036854775807)
def RR (g : St) (mu : Mu) : Prop := ∀ r : Int, 0 ≤ r → r < 4 → RQ g mu r
def RB (mu : Mu) : Prop := ∀ (t : Nat) (j : Int), t = 5 ∨ t = 25 ∨ t = 34 ∨ t = 41 → -128 ≤ mu t j ∧ mu t j ≤ 127
def Rl (g : St) (mu : Mu) : Prop := RX g mu ∧ RC g mu ∧ RG g mu ∧ RD g mu ∧ RS g mu ∧ RFs g mu ∧ RR g mu ∧ RB mu
theorem rx_c {g g' : St} {mu mu' : Mu} (hm : ∀ t : Nat, (1 ≤ t ∧ t ≤ 3) ∨ t = 26 ∨ (35 ≤ t ∧ t ≤ 39) → mu' t 0 = mu t 0) (hg : ∀ i : Int, i ≠ 5 → i ≠ 8 → g' 0 i 0 = g 0 i 0) (h1 : g' 1 0 0 = g 1 0 0) (h2 : g' 1 1 0 = g 1 1 0) (h : RX g mu) : RX g' mu' := by
  unfold RX at h ⊢
  rw [hm 1 (by omega), hm 2 (by omega), hm 3 (by omega), hm 26 (by omega), hm 35 (by omega), hm 36 (by omega), hm 37 (by omega), hm 38 (by omega), hm 39 (by omega), hg 0 (by decide) (by decide), hg 7 (by decide) (by decide), hg 9 (by decide) (by decide), hg 10 (by decide) (by decide), hg 11 (by decide) (by decide), hg 12 (by decide) (by decide), hg 13 (by decide) (by decide), h1, h2]
  exact h
theorem rc_c {g g' : St} {mu mu' : Mu} (hm : ∀ w : Int, mu' 42 w = mu 42 w) (hg : ∀ w : Int, g' 2 w 0 = g 2 w 0) (h5 : g' 0 5 0 = g 0 5 0) (h : RC g mu) : RC g' mu' := by
  unfold RC at h ⊢
  simp only [hm, hg, h5]
  exact h
theorem rc_i {g g' : St} {mu mu' : Mu} {w : Int} (hw : 1 ≤ w ∧ w < 8) (hm : ∀ v : Int, v ≠ w → mu' 42 v = mu 42 v) (hm1 : mu' 42 w = mu 42 w + 1) (hg : ∀ v : Int, v ≠ w → g' 2 v 0 = g 2 v 0) (hg1 : g' 2 w 0 = g 2 w 0 + 1) (h5 : g' 0 5 0 = g 0 5 0 + 1) (h : RC g mu) : RC g' mu' := by
  unfold RC at h ⊢
  obtain ⟨ha, hb⟩ := h
  refine ⟨fun v q1 q2 => ?_, ?_⟩
  · by_cases q : v = w
    · rw [q, hm1, hg1, ha w (by omega) (by omega)]
    · rw [hm v q, hg v q, ha v q1 q2]
  · obtain rfl | rfl | rfl | rfl | rfl | rfl | rfl : w = 1 ∨ w = 2 ∨ w = 3 ∨ w = 4 ∨ w = 5 ∨ w = 6 ∨ w = 7 := by omega
    all_goals
      have e1 := hg 1
      have e2 := hg 2
      have e3 := hg 3
      have e4 := hg 4
      have e5 := hg 5
      have e6 := hg 6
      have e7 := hg 7
      omega
theorem rg_c {g g' : St} {mu mu' : Mu} (hm : mu' 40 0 = mu 40 0) (hm1 : ∀ j : Int, mu' 41 j = mu 41 j) (hg : g' 1 2 0 = g 1 2 0) (hg1 : ∀ j : Int, g' 40 0 j = g 40 0 j) (h : RG g mu) : RG g' mu' := by
  unfold RG at h ⊢
  simp only [hm, hm1, hg, hg1]
  exact h
theorem rdt_c {g g' : St} {mu mu' : Mu} (hm : ∀ j : Int, mu' 4 j = mu 4 j) (hm1 : ∀ j : Int, mu' 5 j = mu 5 j) (h1 : g' 1 0 0 = g 1 0 0) (hg : ∀ i : Int, g' 11 i 0 = g 11 i 0) (hg1 : ∀ i j : Int, g' 19 i j = g 19 i j) (h : RD g mu) : RD g' mu' := by
  unfold RD at h ⊢
  simp only [hm, hm1, hg, hg1, h1]
  exact h
theorem RN_c {g g' : St} {mu mu' : Mu} {m : Int} (hm : ∀ t : Nat, 6 ≤ t ∧ t ≤ 15 → mu' t m = mu t m) (hg : ∀ t : Nat, 12 ≤ t ∧ t ≤ 18 → g' t m 0 = g t m 0) (h8 : (m ≤ g' 0 8 0) = (m ≤ g 0 8 0)) (h : RN g mu m) : RN g' mu' m := by
  unfold RN at h ⊢
  simp only [hm 6 (by omega), hm 7 (by omega), hm 8 (by omega), hm 9 (by omega), hm 10 (by omega), hm 11 (by omega), hm 12 (by omega), hm 13 (by omega), hm 14 (by omega), hm 15 (by omega), hg 12 (by omega), hg 13 (by omega), hg 14 (by omega), hg 15 (by omega), hg 16 (by omega), hg 17 (by omega), hg 18 (by omega), h8]
  exact h
theorem rs_s {g g' : St} {mu mu' : Mu} {m : Int} (h1 : g' 1 0 0 = g 1 0 0) (hmn : m ≤ g 1 0 0) (hm : ∀ (t : Nat) (j : Int), (6 ≤ t ∧ t ≤ 15) ∧ j ≠ m → mu' t j = mu t j) (hg : ∀ (t : Nat) (j : Int), (12 ≤ t ∧ t ≤ 18) ∧ j ≠ m → g' t j 0 = g t j 0) (h8 : ∀ j : Int, j ≠ m → (j ≤ g' 0 8 0) = (j ≤ g 0 8 0)) (hn : RN g' mu' m) (h : RS g mu) : RS g' mu' := by
  unfold RS at h ⊢
  rw [h1]
  refine ⟨fun m9 q1 q2 => ?_, fun m9 q => ?_⟩
  · by_cases q : m9 = m
    · rw [q]; exact hn
    · exact RN_c (fun t w => hm t m9 ⟨w, q⟩) (fun t w => hg t m9 ⟨w, q⟩) (h8 m9 q) (h.1 m9 q1 q2)
  · rw [hm 6 m9 (by omega), hm 7 m9 (by omega), hm 8 m9 (by omega), hm 9 m9 (by omega), hm 13 m9 (by omega)]
    exact h.2 m9 q
theorem rs_c {g g' : St} {mu mu' : Mu} (h1 : g' 1 0 0 = g 1 0 0) (hm : ∀ (t : Nat) (j : Int), 6 ≤ t ∧ t ≤ 15 → mu' t j = mu t j) (hg : ∀ (t : Nat) (j : Int), 12 ≤ t ∧ t ≤ 18 → g' t j 0 = g t j 0) (h8 : g' 0 8 0 = g 0 8 0) (h : RS g mu) : RS g' mu' := by
  unfold RS at h ⊢
  rw [h1]
  refine ⟨fun m9 q1 q2 => RN_c (fun t w => hm t m9 w) (fun t w => hg t m9 w) (by rw [h8]) (h.1 m9 q1 q2), fun m9 q => ?_⟩
  rw [hm 6 m9 (by omega), hm 7 m9 (by omega), hm 8 m9 (by omega), hm 9 m9 (by omega), hm 13 m9 (by omega)]
  exact h.2 m9 q
theorem RF_c {g g' : St} {mu mu' : Mu} {f : Int} (hm : ∀ t : Nat, 27 ≤ t ∧ t ≤ 33 → mu' t f = mu t f) (hm1 : ∀ j : Int, 7 * f ≤ j → j < 7 * f + 7 → mu' 34 j = mu 34 j) (h23 : g 20 f 0 < 3 → g 23 f 0 ≤ 7) (hg : ∀ t : Nat, 20 ≤ t ∧ t ≤ 27 → g' t f 0 = g t f 0) (hg1 : ∀ j : Int, g' 28 f j = g 28 f j) (h : RF g mu f) : RF g' mu' f := by
  unfold RF at h ⊢
  rw [hm 27 (by omega), hm 28 (by omega), hm 29 (by omega), hm 30 (by omega), hm 31 (by omega), hm 32 (by omega), hm 33 (by omega), hg 20 (by omega), hg 21 (by omega), hg 22 (by omega), hg 23 (by omega), hg 24 (by omega), hg 25 (by omega), hg 27 (by omega)]
  refine ⟨h.1, h.2.1, fun q j q1 q2 => ?_⟩
  have := h23 q
  rw [hm1 _ (by omega) (by omega), hg1]
  exact h.2.2 q j q1 q2
theorem rf_c {g g' : St} {mu mu' : Mu} (h1 : g' 1 1 0 = g 1 1 0) (hI : IB g) (hm : ∀ (t : Nat) (j : Int), 27 ≤ t ∧ t ≤ 34 → mu' t j = mu t j) (hg : ∀ (t : Nat) (i j : Int), 20 ≤ t ∧ t ≤ 28 → g' t i j = g t i j) (h : RFs g mu) : RFs g' mu' := by
  unfold RFs at h ⊢
  rw [h1]
  refine ⟨fun f q1 q2 => RF_c (fun t w => hm t f (by omega)) (fun j _ _ => hm 34 j (by omega)) (fun q => ?_) (fun t w => hg t f 0 (by omega)) (fun j => hg 28 f j (by omega)) (h.1 f q1 q2), fun f q => ?_⟩
  · have q9 := hI.2.2.2.1 f q1 q2
    unfold IF at q9
    omega
  · rw [hm 33 f (by omega)]; exact h.2 f q
/-! a new frame -/
theorem rf_n {g g' : St} {mu mu' : Mu} (hI : IB g) (h1 : g' 1 1 0 = g 1 1 0 + 1) (hm : ∀ (t : Nat) (j : Int), (27 ≤ t ∧ t ≤ 33) ∧ j ≠ g 1 1 0 + 1 → mu' t j = mu t j) (hm1 : ∀ j : Int, ¬ (7 * (g 1 1 0 + 1) ≤ j ∧ j < 7 * (g 1 1 0 + 1) + 7) → mu' 34 j = mu 34 j) (hg : ∀ (t : Nat) (i j : Int), (20 ≤ t ∧ t ≤ 28) ∧ i ≠ g 1 1 0 + 1 → g' t i j = g t i j) (hn : RF g' mu' (g 1 1 0 + 1)) (h : RFs g mu) : RFs g' mu' := by
  unfold RFs at h ⊢
  rw [h1]
  refine ⟨fun f q1 q2 => ?_, fun f q => ?_⟩
  · by_cases q : f = g 1 1 0 + 1
    · rw [q]; exact hn
    · refine RF_c (fun t w => hm t f ⟨w, q⟩) (fun j _ _ => hm1 j (by omega)) (fun w => ?_) (fun t w => hg t f 0 ⟨by omega, q⟩) (fun j => hg 28 f j ⟨by omega, q⟩) (h.1 f q1 (by omega))
      have q9 := hI.2.2.2.1 f q1 (by omega)
      unfold IF at q9
      omega
  · rw [hm 33 f (by omega)]; exact h.2 f (by omega)
theorem RQ_c {g g' : St} {mu mu' : Mu} {r : Int} (hm : ∀ t : Nat, 16 ≤ t ∧ t ≤ 24 → mu' t r = mu t r) (hm1 : ∀ j : Int, 10000 * r ≤ j → j < 10000 * r + 10000 → mu' 25 j = mu 25 j) (hg : ∀ t : Nat, 30 ≤ t ∧ t ≤ 38 → g' t r 0 = g t r 0) (hg1 : ∀ j : Int, g' 39 r j = g 39 r j) (hb : g 33 r 0 ≤ 10000) (h : RQ g mu r) : RQ g' mu' r := by
  unfold RQ at h ⊢
  rw [hm 16 (by omega), hm 17 (by omega), hm 18 (by omega), hm 19 (by omega), hm 20 (by omega), hm 21 (by omega), hm 22 (by omega), hm 23 (by omega), hm 24 (by omega), hg 30 (by omega), hg 31 (by omega), hg 32 (by omega), hg 33 (by omega), hg 34 (by omega), hg 35 (by omega), hg 36 (by omega), hg 37 (by omega), hg 38 (by omega)]
  refine ⟨h.1, fun q => ?_, h.2.2⟩
  obtain ⟨a, b, c, d, e⟩ := h.2.1 q
  exact ⟨a, b, c, d, fun j q1 q2 => by rw [hm1 _ (by omega) (by omega), hg1]; exact e j q1 q2⟩
theorem rr_r {g g' : St} {mu mu' : Mu} (hI : IB g) {r : Int} (hm : ∀ (t : Nat) (j : Int), (16 ≤ t ∧ t ≤ 24) ∧ j ≠ r → mu' t j = mu t j) (hm1 : ∀ j : Int, ¬ (10000 * r ≤ j ∧ j < 10000 * r + 10000) → mu' 25 j = mu 25 j) (hg : ∀ (t : Nat) (i j : Int), (30 ≤ t ∧ t ≤ 39) ∧ i ≠ r → g' t i j = g t i j) (hn : RQ g' mu' r) (h : RR g mu) : RR g' mu' := by
  intro r9 q1 q2
  by_cases q : r9 = r
  · rw [q]; exact hn
  · have q9 := hI.2.2.2.2.1 r9 q1 q2
    unfold IR at q9
    exact RQ_c (fun t w => hm t r9 ⟨w, q⟩) (fun j _ _ => hm1 j (by omega)) (fun t w => hg t r9 0 ⟨by omega, q⟩) (fun j => hg 39 r9 j ⟨by omega, q⟩) (by omega) (h r9 q1 q2)
theorem rr_c {g g' : St} {mu mu' : Mu} (hm : ∀ (t : Nat) (j : Int), 16 ≤ t ∧ t ≤ 25 → mu' t j = mu t j) (hg : ∀ (t : Nat) (i j : Int), 30 ≤ t ∧ t ≤ 39 → g' t i j = g t i j) (h : RR g mu) : RR g' mu' := by
  intro r q1 q2
  have h := h r q1 q2
  unfold RQ at h ⊢
  simp only [hm 16 r (by omega), hm 17 r (by omega), hm 18 r (by omega), hm 19 r (by omega), hm 20 r (by omega), hm 21 r (by omega), hm 22 r (by omega), hm 23 r (by omega), hm 24 r (by omega), hg 30 r 0 (by omega), hg 31 r 0 (by omega), hg 32 r 0 (by omega), hg 33 r 0 (by omega), hg 34 r 0 (by omega), hg 35 r 0 (by omega), hg 36 r 0 (by omega), hg 37 r 0 (by omega), hg 38 r 0 (by omega)]
  refine ⟨h.1, fun q => ?_, h.2.2⟩
  obtain ⟨a, b, c, d, e⟩ := h.2.1 q
  exact ⟨a, b, c, d, fun j q1 q2 => by rw [hm 25 _ (by omega), hg 39 r j (by omega)]; exact e j q1 q2⟩
theorem rb_c {mu mu' : Mu} (hm : ∀ (t : Nat) (j : Int), t = 5 ∨ t = 25 ∨ t = 34 ∨ t = 41 → mu' t j = mu t j) (h : RB mu) : RB mu' := fun t j q => by rw [hm t j q]; exact h t j q
/-! the ends -/
theorem v_mes {mu : Mu} {m w : Int} {t : Nat} {j : Int} (h : ¬ (t = 7 ∧ j = m) ∧ ¬ (t = 42 ∧ j = w)) : mEndS mu m w t j = mu t j := by
  unfold mEndS
  rw [u2_n (by omega), u2_n (by omega)]
theorem v_mer {mu : Mu} {r w : Int} {t : Nat} {j : Int} (h : ¬ (t = 16 ∧ j = r) ∧ ¬ (t = 42 ∧ j = w)) : mEndR mu r w t j = mu t j := by
  unfold mEndR
  rw [u2_n (by omega), u2_n (by omega)]
theorem v_es2 (g : St) (m w : Int) : sEndS g m w 2 w 0 = g 2 w 0 + 1 := by simp [sEndS, sCnt, sEnds, sRest, wr]
theorem v_es2n {g : St} {m w v : Int} (h : v ≠ w) : sEndS g m w 2 v 0 = g 2 v 0 := by simp [sEndS, sCnt, sEnds, sRest, wr, h]
theorem v_es5 (g : St) (m w : Int) : sEndS g m w 0 5 0 = g 0 5 0 + 1 := by simp [sEndS, sCnt, sEnds, sRest, wr]
theorem v_er2 (g : St) (m w : Int) : sEndR g m w 2 w 0 = g 2 w 0 + 1 := by simp [sEndR, sCnt, sEnds, rRest, wr]
theorem v_er2n {g : St} {m w v : Int} (h : v ≠ w) : sEndR g m w 2 v 0 = g 2 v 0 := by simp [sEndR, sCnt, sEnds, rRest, wr, h]
theorem v_er5 (g : St) (m w : Int) : sEndR g m w 0 5 0 = g 0 5 0 + 1 := by simp [sEndR, sCnt, sEnds, rRest, wr]
theorem rl_es {g : St} {mu : Mu} (hI : IB g) (h : Rl g mu) {m w : Int} (h1 : 1 ≤ m) (h2 : m ≤ g 1 0 0) (hw : 1 ≤ w ∧ w < 8) : Rl (sEndS g m w) (mEndS mu m w) := by
  obtain ⟨hx, hc, hg, hd, hs, hf, hr, hb⟩ := h
  have q := hs.1 m h1 h2
  unfold RN at q
  refine ⟨rx_c (fun t q => v_mes (by omega)) (fun i q q' => v_es (by omega)) (v_es (by omega)) (v_es (by omega)) hx, rc_i hw (fun v q => v_mes (by omega)) ?_ (fun v q => v_es2n q) (v_es2 _ _ _) (v_es5 _ _ _) hc, rg_c (v_mes (by omega)) (fun j => v_mes (by omega)) (v_es (by omega)) (fun j => v_es (by omega)) hg, rdt_c (fun j => v_mes (by omega)) (fun j => v_mes (by omega)) (v_es (by omega)) (fun i => v_es (by omega)) (fun i j => v_es (by omega)) hd, rs_s (m := m) (v_es (by omega)) h2 (fun t j q => v_mes (by omega)) (fun t j q => v_es (by omega)) (fun j q => by rw [v_es (by omega)]) ?_ hs, rf_c (v_es (by omega)) hI (fun t j q => v_mes (by omega)) (fun t i j q => v_es (by omega)) hf, rr_c (fun t j q => v_mes (by omega)) (fun t i j q => v_es (by omega)) hr, rb_c (fun t j q => v_mes (by omega)) hb⟩
  · unfold mEndS; rw [u2_s]
  · unfold RN
    have e7 : mEndS mu m w 7 m = 4 := by unfold mEndS; rw [u2_n (by omega), u2_s]
    rw [v_es12, v_es18, e7, v_mes (t := 6) (by omega), v_es (t := 0) (by omega)]
    refine ⟨q.1, rfl, fun w => by omega, fun w => by omega, fun w => by omega, fun w => rfl⟩
theorem rl_er {g : St} {mu : Mu} (hI : IB g) (h : Rl g mu) {r w : Int} (h1 : 0 ≤ r) (h2 : r < 4) (hw : 1 ≤ w ∧ w < 8) : Rl (sEndR g r w) (mEndR mu r w) := by
  obtain ⟨hx, hc, hg, hd, hs, hf, hr, hb⟩ := h
  refine ⟨rx_c (fun t q => v_mer (by omega)) (fun i q q' => v_er (by omega)) (v_er (by omega)) (v_er (by omega)) hx, rc_i hw (fun v q => v_mer (by omega)) ?_ (fun v q => v_er2n q) (v_er2 _ _ _) (v_er5 _ _ _) hc, rg_c (v_mer (by omega)) (fun j => v_mer (by omega)) (v_er (by omega)) (fun j => v_er (by omega)) hg, rdt_c (fun j => v_mer (by omega)) (fun j => v_mer (by omega)) (v_er (by omega)) (fun i => v_er (by omega)) (fun i j => v_er (by omega)) hd, rs_c (v_er (by omega)) (fun t j q => v_mer (by omega)) (fun t j q => v_er (by omega)) (v_er (by omega)) hs, rf_c (v_er (by omega)) hI (fun t j q => v_mer (by omega)) (fun t i j q => v_er (by omega)) hf, rr_r hI (r := r) (fun t j q => v_mer (by omega)) (fun j q => v_mer (by omega)) (fun t i j q => v_er (by omega)) ?_ hr, rb_c (fun t j q => v_mer (by omega)) hb⟩
  · unfold mEndR; rw [u2_s]
  · unfold RQ
    have e16 : mEndR mu r w 16 r = 3 := by unfold mEndR; rw [u2_n (by omega), u2_s]
    rw [v_er30, v_er37, v_er38, e16]
    exact ⟨rfl, fun w => by omega, fun w => ⟨rfl, rfl⟩⟩

