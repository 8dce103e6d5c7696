/-! all but one receiver -/
def RlR (g : St) (mu : Mu) (r : Int) : Prop := RX g mu ∧ RC g mu ∧ RG g mu ∧ RD g mu ∧ RS g mu ∧ RFs g mu ∧ (∀ r9 : Int, 0 ≤ r9 → r9 < 4 → r9 ≠ r → RQ g mu r9) ∧ RB mu
theorem Rl.r {g : St} {mu : Mu} (h : Rl g mu) (r : Int) : RlR g mu r := by
  obtain ⟨hx, hc, hg, hd, hs, hf, hr, hb⟩ := h
  exact ⟨hx, hc, hg, hd, hs, hf, fun r9 q1 q2 _ => hr r9 q1 q2, hb⟩
theorem RlR.l {g : St} {mu : Mu} {r : Int} (h : RlR g mu r) (hq : RQ g mu r) : Rl g mu := by
  obtain ⟨hx, hc, hg, hd, hs, hf, hr, hb⟩ := h
  refine ⟨hx, hc, hg, hd, hs, hf, fun r9 q1 q2 => ?_, hb⟩
  by_cases q : r9 = r
  · rw [q]; exact hq
  · exact hr r9 q1 q2 q
theorem rr_o {g g' : St} {mu mu' : Mu} (hI : IB g) {r : Int} (hm : ∀ (t : Nat) (j : Int), (16 ≤ t ∧ t ≤ 24) ∧ j ≠ r → mu' t j = mu t j) (hm1 : ∀ j : Int, ¬ (10000 * r ≤ j ∧ j < 10000 * r + 10000) → mu' 25 j = mu 25 j) (hg : ∀ (t : Nat) (i j : Int), (30 ≤ t ∧ t ≤ 39) ∧ i ≠ r → g' t i j = g t i j) (h : ∀ r9 : Int, 0 ≤ r9 → r9 < 4 → r9 ≠ r → RQ g mu r9) : ∀ r9 : Int, 0 ≤ r9 → r9 < 4 → r9 ≠ r → RQ g' mu' r9 := by
  intro r9 q1 q2 q
  have q9 := hI.2.2.2.2.1 r9 q1 q2
  unfold IR at q9
  exact RQ_c (fun t w => hm t r9 ⟨w, q⟩) (fun j _ _ => hm1 j (by omega)) (fun t w => hg t r9 0 ⟨by omega, q⟩) (fun j => hg 39 r9 j ⟨by omega, q⟩) (by omega) (h r9 q1 q2 q)
/-! changes of that receiver's own numbers -/
theorem rlr_c {g g' : St} {mu mu' : Mu} (hI : IB g) {r : Int} (h : RlR g mu r)
    (hg : ∀ (t : Nat) (i j : Int), ¬ (30 ≤ t ∧ t ≤ 39 ∧ i = r) → g' t i j = g t i j)
    (hm : ∀ (t : Nat) (j : Int), ¬ (16 ≤ t ∧ t ≤ 24 ∧ j = r) ∧ ¬ (t = 25 ∧ 10000 * r ≤ j ∧ j < 10000 * r + 10000) → mu' t j = mu t j) (hB : ∀ j : Int, -128 ≤ mu' 25 j ∧ mu' 25 j ≤ 127) : RlR g' mu' r := by
  obtain ⟨hx, hc, hgt, hd, hs, hf, hr, hb⟩ := h
  exact ⟨rx_c (fun t q => hm t 0 (by omega)) (fun i q q' => hg 0 i 0 (by omega)) (hg 1 0 0 (by omega)) (hg 1 1 0 (by omega)) hx, rc_c (fun w => hm 42 w (by omega)) (fun w => hg 2 w 0 (by omega)) (hg 0 5 0 (by omega)) hc, rg_c (hm 40 0 (by omega)) (fun j => hm 41 j (by omega)) (hg 1 2 0 (by omega)) (fun j => hg 40 0 j (by omega)) hgt, rdt_c (fun j => hm 4 j (by omega)) (fun j => hm 5 j (by omega)) (hg 1 0 0 (by omega)) (fun i => hg 11 i 0 (by omega)) (fun i j => hg 19 i j (by omega)) hd, rs_c (hg 1 0 0 (by omega)) (fun t j q => hm t j (by omega)) (fun t j q => hg t j 0 (by omega)) (hg 0 8 0 (by omega)) hs, rf_c (hg 1 1 0 (by omega)) hI (fun t j q => hm t j (by omega)) (fun t i j q => hg t i j (by omega)) hf, rr_o hI (r := r) (fun t j q => hm t j (by omega)) (fun j q => hm 25 j (by omega)) (fun t i j q => hg t i j (by omega)) hr, rb_25 (fun t j q => hm t j (by omega)) hB hb⟩
/-! a flow frame -/
theorem rlr_f {g g' : St} {mu mu' : Mu} (hI : IB g) {r mg fk bk sp : Int} (h : RlR g mu r)
    (hg : ∀ (t : Nat) (i j : Int), ¬ (30 ≤ t ∧ t ≤ 39 ∧ i = r) → g' t i j = sFlow g mg fk bk sp t i j)
    (hm : ∀ (t : Nat) (j : Int), ¬ (16 ≤ t ∧ t ≤ 24 ∧ j = r) → mu' t j = mMk mu 3 mg fk bk sp t j) : RlR g' mu' r := by
  obtain ⟨hx, hc, hgt, hd, hs, hf, hr, hb⟩ := h
  have hl := hI.2.1
  unfold IL at hl
  have hx' := hx
  unfold RX at hx'
  have vf := v_flf g mg fk bk sp
  have hv := mMk_v mu 3 mg fk bk sp
  have h26 : mu 26 0 + 1 = g 1 1 0 + 1 := by omega
  rw [h26] at hv
  have G : ∀ (t : Nat) (i j : Int), ¬ ((t = 1 ∨ t = 3 ∨ t = 4) ∧ i = 1) ∧ ¬ (20 ≤ t ∧ t ≤ 28 ∧ i = g 1 1 0 + 1) ∧ ¬ (30 ≤ t ∧ t ≤ 39 ∧ i = r) → g' t i j = g t i j := fun t i j q => by
    rw [hg t i j (by omega)]
    exact v_frn (by omega)
  have M : ∀ (t : Nat) (j : Int), ¬ (t = 26 ∧ j = 0) ∧ ¬ (27 ≤ t ∧ t ≤ 32 ∧ j = g 1 1 0 + 1) ∧ ¬ (16 ≤ t ∧ t ≤ 24 ∧ j = r) → mu' t j = mu t j := fun t j q => by
    rw [hm t j (by omega)]
    exact mMk_n (by omega)
  have hn1 : g' 1 1 0 = g 1 1 0 + 1 := by rw [hg 1 1 0 (by omega)]; exact vf.1
  refine ⟨rx_n (fun t q => M t 0 (by omega)) (by rw [hm 26 0 (by omega), hv.1]; omega) (fun i q q' => G 0 i 0 (by omega)) (G 1 0 0 (by omega)) hn1 hx, rc_c (fun w => M 42 w (by omega)) (fun w => G 2 w 0 (by omega)) (G 0 5 0 (by omega)) hc, rg_c (M 40 0 (by omega)) (fun j => M 41 j (by omega)) (G 1 2 0 (by omega)) (fun j => G 40 0 j (by omega)) hgt, rdt_c (fun j => M 4 j (by omega)) (fun j => M 5 j (by omega)) (G 1 0 0 (by omega)) (fun i => G 11 i 0 (by omega)) (fun i j => G 19 i j (by omega)) hd, rs_c (G 1 0 0 (by omega)) (fun t j q => M t j (by omega)) (fun t j q => G t j 0 (by omega)) (G 0 8 0 (by omega)) hs, rf_n hI hn1 (fun t j q => M t j (by omega)) (fun j q => M 34 j (by omega)) (fun t i j q => G t i j (by omega)) ?_ hf, rr_o hI (r := r) (fun t j q => M t j (by omega)) (fun j q => M 25 j (by omega)) (fun t i j q => G t i j (by omega)) hr, rb_c (fun t j q => M t j (by omega)) hb⟩
  unfold RF
  rw [hg 20 _ _ (by omega), hg 21 _ _ (by omega), hg 22 _ _ (by omega), hg 23 _ _ (by omega), hg 24 _ _ (by omega), hg 25 _ _ (by omega), hg 27 _ _ (by omega), hm 27 _ (by omega), hm 28 _ (by omega), hm 29 _ (by omega), hm 30 _ (by omega), hm 31 _ (by omega), hm 32 _ (by omega), vf.2.1, vf.2.2.1, vf.2.2.2.1, vf.2.2.2.2.1, vf.2.2.2.2.2.1, vf.2.2.2.2.2.2.1, vf.2.2.2.2.2.2.2, hv.2.1, hv.2.2.1, hv.2.2.2.1, hv.2.2.2.2.1, hv.2.2.2.2.2.1, hv.2.2.2.2.2.2]
  refine ⟨⟨rfl, rfl, rfl, rfl, rfl, by omega⟩, ?_, fun q => by omega⟩
  rw [M 33 _ (by omega), hf.2 _ (by omega)]
  rfl
/-! an end -/
theorem rlr_e {g : St} {mu mu' : Mu} (hI : IB g) {r w : Int} (h : RlR g mu r) (h1 : 0 ≤ r) (h2 : r < 4) (hw : 1 ≤ w ∧ w < 8) (hm : ∀ (t : Nat) (j : Int), ¬ (16 ≤ t ∧ t ≤ 24 ∧ j = r) → mu' t j = mu t j) : Rl (sEndR g r w) (mEndR mu' r w) := by
  obtain ⟨hx, hc, hg, hd, hs, hf, hr, hb⟩ := h
  have M : ∀ (t : Nat) (j : Int), ¬ (16 ≤ t ∧ t ≤ 24 ∧ j = r) ∧ ¬ (t = 42 ∧ j = w) → mEndR mu' r w t j = mu t j := fun t j q => by
    rw [v_mer (by omega)]
    exact hm t j (by omega)
  refine RlR.l (r := r) ⟨rx_c (fun t q => M t 0 (by omega)) (fun i q q' => v_er (by omega)) (v_er (by omega)) (v_er (by omega)) hx, rc_i hw (fun v q => M 42 v (by omega)) ?_ (fun v q => v_er2n q) (v_er2 _ _ _) (v_er5 _ _ _) hc, rg_c (M 40 0 (by omega)) (fun j => M 41 j (by omega)) (v_er (by omega)) (fun j => v_er (by omega)) hg, rdt_c (fun j => M 4 j (by omega)) (fun j => M 5 j (by omega)) (v_er (by omega)) (fun i => v_er (by omega)) (fun i j => v_er (by omega)) hd, rs_c (v_er (by omega)) (fun t j q => M t j (by omega)) (fun t j q => v_er (by omega)) (v_er (by omega)) hs, rf_c (v_er (by omega)) hI (fun t j q => M t j (by omega)) (fun t i j q => v_er (by omega)) hf, rr_o hI (r := r) (fun t j q => M t j (by omega)) (fun j q => M 25 j (by omega)) (fun t i j q => v_er (by omega)) hr, rb_c (fun t j q => M t j (by omega)) hb⟩ ?_
  · unfold mEndR; rw [u2_s, hm 42 w (by omega)]
  · unfold RQ
    have e16 : mEndR mu' r w 16 r = 3 := by unfold mEndR; rw [u2_n (by omega), u2_s]
    rw [v_er30, v_er37, v_er38, e16]
    exact ⟨rfl, fun w => by omega, fun w => ⟨rfl, rfl⟩⟩
/-! what a receiver must be before it answers -/
def Rw (g : St) (mu : Mu) (r : Int) : Prop := g 30 r 0 = 1 ∧ mu 16 r = 1 ∧ (mu 17 r = g 31 r 0 ∧ mu 18 r = g 32 r 0 ∧ mu 19 r = g 33 r 0 ∧ mu 20 r = g 34 r 0 ∧ mu 21 r = g 35 r 0) ∧ (g 35 r 0 ≠ 0 → mu 22 r = g 35 r 0 - g 36 r 0) ∧ ∀ j : Int, 0 ≤ j → j < g 33 r 0 → mu 25 (10000 * r + j) = g 39 r j
theorem RQ.w {g : St} {mu : Mu} {r : Int} (h : RQ g mu r) (h1 : g 30 r 0 = 1) : Rw g mu r := by
  unfold RQ at h
  obtain ⟨a, b, c, d, e⟩ := h.2.1 h1
  exact ⟨h1, h.1.trans h1, a, b, e⟩
theorem Rw.q {g : St} {mu : Mu} {r : Int} (h : Rw g mu r) (h38 : g 38 r 0 = mu 23 r + 1000) (h37 : (mu 24 r = 1 ∧ g 37 r 0 = mu 23 r + 500) ∨ (mu 24 r = 0 ∧ g 37 r 0 = 9223372036854775807)) : RQ g mu r := by
  unfold Rw at h
  obtain ⟨h1, h2, a, b, e⟩ := h
  exact ⟨h2.trans h1.symm, fun _ => ⟨a, b, h38, h37, e⟩, fun q => absurd h1 q⟩
theorem mPut_v {mu : Mu} {r f k j : Int} (h0 : 0 ≤ j) (h1 : j < k) : mPut mu r f k 25 (10000 * r + mu 19 r + j) = mu 34 (7 * f + j) := by
  unfold mPut
  rw [if_pos ⟨rfl, by omega, by omega⟩]
  congr 1
  omega
theorem mPut_b {mu : Mu} {r f k : Int} (h25 : ∀ j : Int, -128 ≤ mu 25 j ∧ mu 25 j ≤ 127) (h34 : ∀ j : Int, -128 ≤ mu 34 j ∧ mu 34 j ≤ 127) (j : Int) : -128 ≤ mPut mu r f k 25 j ∧ mPut mu r f k 25 j ≤ 127 := by
  unfold mPut
  split
  · exact h34 _
  · split
    · omega
    · exact h25 _
theorem rl_wh {g : St} {mu mu' : Mu} (hI : IB g) {r ln : Int} {F : Int → Int} (h : RlR g mu r) (h1 : 0 ≤ r) (h2 : r < 4) (hl : ln = mu 18 r) (hF : ∀ j : Int, 0 ≤ j → j < ln → mu 25 (10000 * r + j) = F j) (hm : mu' = mWk mu r (mu 18 r)) : Rl (sWh g r ln F) mu' := by
  obtain ⟨hx, hc, hg, hd, hs, hf, hr, hb⟩ := h
  have G : ∀ (t : Nat) (i j : Int), ¬ (30 ≤ t ∧ t ≤ 39 ∧ i = r) ∧ ¬ (t = 2 ∧ i = 0) ∧ ¬ (t = 1 ∧ i = 2) ∧ t ≠ 40 → sWh g r ln F t i j = g t i j := fun t i j q => by
    unfold sWh rRest sCnt sGt
    rw [wr_n (by omega), wr_n (by omega), wr_n (by omega), wr_n (by omega), wR_n (by omega), wr_n (by omega)]
  have M : ∀ (t : Nat) (j : Int), ¬ (t = 16 ∧ j = r) ∧ ¬ (t = 42 ∧ j = 0) ∧ t ≠ 40 ∧ t ≠ 41 → mu' t j = mu t j := fun t j q => by
    rw [hm, mWk_n (by omega)]
    exact mW0_n (by omega)
  have g2 : sWh g r ln F 2 0 0 = g 2 0 0 + 1 := by simp [sWh, rRest, sCnt, sGt, wr, wR]
  have g12 : sWh g r ln F 1 2 0 = ln := by simp [sWh, rRest, sCnt, sGt, wr, wR]
  have g40 : ∀ j : Int, sWh g r ln F 40 0 j = F j := fun j => by simp [sWh, rRest, sCnt, sGt, wr, wR]
  have g30 : sWh g r ln F 30 r 0 = 2 := by simp [sWh, rRest, wr]
  have g37 : sWh g r ln F 37 r 0 = 9223372036854775807 := by simp [sWh, rRest, wr]
  have g38 : sWh g r ln F 38 r 0 = 9223372036854775807 := by simp [sWh, rRest, wr]
  have m16 : mu' 16 r = 2 := by rw [hm, mWk_n (by omega)]; simp [mW0, u2]
  have m42 : mu' 42 0 = mu 42 0 + 1 := by rw [hm, mWk_n (by omega)]; simp [mW0, u2]
  have m40 : mu' 40 0 = mu 18 r := by rw [hm, mWk_n (by omega)]; simp [mW0, u2]
  have m41 : ∀ j : Int, 0 ≤ j → j < mu 18 r → mu' 41 j = mu 25 (10000 * r + j) := fun j q1 q2 => by rw [hm]; exact if_pos ⟨rfl, q1, q2⟩
  refine RlR.l (r := r) ⟨rx_c (fun t q => M t 0 (by omega)) (fun i q q' => G 0 i 0 (by omega)) (G 1 0 0 (by omega)) (G 1 1 0 (by omega)) hx, ?_, ?_, rdt_c (fun j => M 4 j (by omega)) (fun j => M 5 j (by omega)) (G 1 0 0 (by omega)) (fun i => G 11 i 0 (by omega)) (fun i j => G 19 i j (by omega)) hd, rs_c (G 1 0 0 (by omega)) (fun t j q => M t j (by omega)) (fun t j q => G t j 0 (by omega)) (G 0 8 0 (by omega)) hs, rf_c (G 1 1 0 (by omega)) hI (fun t j q => M t j (by omega)) (fun t i j q => G t i j (by omega)) hf, rr_o hI (r := r) (fun t j q => M t j (by omega)) (fun j q => M 25 j (by omega)) (fun t i j q => G t i j (by omega)) hr, ?_⟩ ?_
  · unfold RC at hc ⊢
    refine ⟨fun w q1 q2 => ?_, ?_⟩
    · by_cases q : w = 0
      · rw [q, m42, g2, hc.1 0 (by omega) (by omega)]
      · rw [M 42 w (by omega), G 2 w 0 (by omega)]; exact hc.1 w q1 q2
    · rw [G 0 5 0 (by omega), G 2 1 0 (by omega), G 2 2 0 (by omega), G 2 3 0 (by omega), G 2 4 0 (by omega), G 2 5 0 (by omega), G 2 6 0 (by omega), G 2 7 0 (by omega)]; exact hc.2
  · unfold RG
    rw [g12, m40]
    exact ⟨hl.symm, fun j q1 q2 => by rw [g40, m41 j q1 (by omega)]; exact hF j q1 q2⟩
  · intro t j q
    by_cases z : t = 41
    · subst z
      rw [hm]
      unfold mWk
      split
      · exact hb 25 _ (by omega)
      · rw [mW0_n (by omega)]; exact hb 41 j (by omega)
    · rw [M t j (by omega)]; exact hb t j q
  · unfold RQ
    rw [g30, g37, g38, m16]
    exact ⟨rfl, fun w => by omega, fun w => ⟨rfl, rfl⟩⟩

