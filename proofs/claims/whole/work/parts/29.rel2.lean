theorem rx_n {g g' : St} {mu mu' : Mu} (hm : ∀ t : Nat, (1 ≤ t ∧ t ≤ 3) ∨ (35 ≤ t ∧ t ≤ 39) → mu' t 0 = mu t 0) (hm1 : mu' 26 0 = mu 26 0 + 1) (hg : ∀ i : Int, i ≠ 5 → i ≠ 8 → g' 0 i 0 = g 0 i 0) (h1 : g' 1 0 0 = g 1 0 0) (h2 : g' 1 1 0 = g 1 1 0 + 1) (h : RX g mu) : RX g' mu' := by
  unfold RX at h ⊢
  rw [hm 1 (by omega), hm 2 (by omega), hm 3 (by omega), hm1, hm 35 (by omega), hm 36 (by omega), hm 37 (by omega), hm 38 (by omega), hm 39 (by omega), hg 0 (by decide) (by decide), hg 7 (by decide) (by decide), hg 9 (by decide) (by decide), hg 10 (by decide) (by decide), hg 11 (by decide) (by decide), hg 12 (by decide) (by decide), hg 13 (by decide) (by decide), h1, h2]
  omega
theorem rb_34 {mu mu' : Mu} (hm : ∀ (t : Nat) (j : Int), t = 5 ∨ t = 25 ∨ t = 41 → mu' t j = mu t j) (h34 : ∀ j : Int, -128 ≤ mu' 34 j ∧ mu' 34 j ≤ 127) (h : RB mu) : RB mu' := fun t j q => by
  by_cases z : t = 34
  · rw [z]; exact h34 j
  · rw [hm t j (by omega)]; exact h t j q
theorem rb_25 {mu mu' : Mu} (hm : ∀ (t : Nat) (j : Int), t = 5 ∨ t = 34 ∨ t = 41 → mu' t j = mu t j) (h25 : ∀ j : Int, -128 ≤ mu' 25 j ∧ mu' 25 j ≤ 127) (h : RB mu) : RB mu' := fun t j q => by
  by_cases z : t = 25
  · rw [z]; exact h25 j
  · rw [hm t j (by omega)]; exact h t j q
/-! a frame of a sender, and what the sender then is -/
theorem rl_1 {g g' : St} {mu mu' : Mu} (hI : IB g) (h : Rl g mu) {m : Int} (h2 : m ≤ g 1 0 0)
    (hg : ∀ (t : Nat) (i j : Int), ¬ ((t = 1 ∨ t = 3 ∨ t = 4) ∧ i = 1) ∧ ¬ (20 ≤ t ∧ t ≤ 28 ∧ i = g 1 1 0 + 1) ∧ ¬ (12 ≤ t ∧ t ≤ 18 ∧ i = m) ∧ ¬ (t = 0 ∧ i = 8) → g' t i j = g t i j)
    (hn1 : g' 1 1 0 = g 1 1 0 + 1) (h8 : ∀ j : Int, j ≠ m → (j ≤ g' 0 8 0) = (j ≤ g 0 8 0))
    (hm : ∀ (t : Nat) (j : Int), ¬ (t = 26 ∧ j = 0) ∧ ¬ (27 ≤ t ∧ t ≤ 32 ∧ j = g 1 1 0 + 1) ∧ ¬ (t = 34 ∧ 7 * (g 1 1 0 + 1) ≤ j ∧ j < 7 * (g 1 1 0 + 1) + 7) ∧ ¬ (6 ≤ t ∧ t ≤ 15 ∧ j = m) → mu' t j = mu t j)
    (h26 : mu' 26 0 = mu 26 0 + 1) (hF : RF g' mu' (g 1 1 0 + 1)) (hN : RN g' mu' m) (hB : ∀ j : Int, -128 ≤ mu' 34 j ∧ mu' 34 j ≤ 127) : Rl g' mu' := by
  obtain ⟨hx, hc, hgt, hd, hs, hf, hr, hb⟩ := h
  exact ⟨rx_n (fun t q => hm t 0 (by omega)) h26 (fun i q q' => hg 0 i 0 (by omega)) (hg 1 0 0 (by omega)) hn1 hx, rc_c (fun w => hm 42 w (by omega)) (fun w => hg 2 w 0 (by omega)) (hg 0 5 0 (by omega)) hc, rg_c (hm 40 0 (by omega)) (fun j => hm 41 j (by omega)) (hg 1 2 0 (by omega)) (fun j => hg 40 0 j (by omega)) hgt, rdt_c (fun j => hm 4 j (by omega)) (fun j => hm 5 j (by omega)) (hg 1 0 0 (by omega)) (fun i => hg 11 i 0 (by omega)) (fun i j => hg 19 i j (by omega)) hd, rs_s (m := m) (hg 1 0 0 (by omega)) h2 (fun t j q => hm t j (by omega)) (fun t j q => hg t j 0 (by omega)) h8 hN hs, rf_n hI hn1 (fun t j q => hm t j (by omega)) (fun j q => hm 34 j (by omega)) (fun t i j q => hg t i j (by omega)) hF hf, rr_c (fun t j q => hm t j (by omega)) (fun t i j q => hg t i j (by omega)) hr, rb_34 (fun t j q => hm t j (by omega)) hB hb⟩
/-! a sender alone -/
theorem rl_2 {g g' : St} {mu mu' : Mu} (hI : IB g) (h : Rl g mu) {m : Int} (h2 : m ≤ g 1 0 0)
    (hg : ∀ (t : Nat) (i j : Int), ¬ (12 ≤ t ∧ t ≤ 18 ∧ i = m) ∧ ¬ (t = 0 ∧ i = 8) → g' t i j = g t i j) (h8 : ∀ j : Int, j ≠ m → (j ≤ g' 0 8 0) = (j ≤ g 0 8 0))
    (hm : ∀ (t : Nat) (j : Int), ¬ (6 ≤ t ∧ t ≤ 15 ∧ j = m) → mu' t j = mu t j) (hN : RN g' mu' m) : Rl g' mu' := by
  obtain ⟨hx, hc, hgt, hd, hs, hf, hr, hb⟩ := h
  exact ⟨rx_c (fun t q => hm t 0 (by omega)) (fun i q q' => hg 0 i 0 (by omega)) (hg 1 0 0 (by omega)) (hg 1 1 0 (by omega)) hx, rc_c (fun w => hm 42 w (by omega)) (fun w => hg 2 w 0 (by omega)) (hg 0 5 0 (by omega)) hc, rg_c (hm 40 0 (by omega)) (fun j => hm 41 j (by omega)) (hg 1 2 0 (by omega)) (fun j => hg 40 0 j (by omega)) hgt, rdt_c (fun j => hm 4 j (by omega)) (fun j => hm 5 j (by omega)) (hg 1 0 0 (by omega)) (fun i => hg 11 i 0 (by omega)) (fun i j => hg 19 i j (by omega)) hd, rs_s (m := m) (hg 1 0 0 (by omega)) h2 (fun t j q => hm t j (by omega)) (fun t j q => hg t j 0 (by omega)) h8 hN hs, rf_c (hg 1 1 0 (by omega)) hI (fun t j q => hm t j (by omega)) (fun t i j q => hg t i j (by omega)) hf, rr_c (fun t j q => hm t j (by omega)) (fun t i j q => hg t i j (by omega)) hr, rb_c (fun t j q => hm t j (by omega)) hb⟩
/-! a flow frame, and what the receiver then is -/
theorem rl_3 {g g' : St} {mu mu' : Mu} (hI : IB g) (h : Rl g mu) {r : Int}
    (hg : ∀ (t : Nat) (i j : Int), ¬ ((t = 1 ∨ t = 3 ∨ t = 4) ∧ i = 1) ∧ ¬ (20 ≤ t ∧ t ≤ 28 ∧ i = g 1 1 0 + 1) ∧ ¬ (30 ≤ t ∧ t ≤ 39 ∧ i = r) → g' t i j = g t i j) (hn1 : g' 1 1 0 = g 1 1 0 + 1)
    (hm : ∀ (t : Nat) (j : Int), ¬ (t = 26 ∧ j = 0) ∧ ¬ (27 ≤ t ∧ t ≤ 32 ∧ j = g 1 1 0 + 1) ∧ ¬ (16 ≤ t ∧ t ≤ 24 ∧ j = r) → mu' t j = mu t j)
    (h26 : mu' 26 0 = mu 26 0 + 1) (hF : RF g' mu' (g 1 1 0 + 1)) (hQ : RQ g' mu' r) : Rl g' mu' := by
  obtain ⟨hx, hc, hgt, hd, hs, hf, hr, hb⟩ := h
  exact ⟨rx_n (fun t q => hm t 0 (by omega)) h26 (fun i q q' => hg 0 i 0 (by omega)) (hg 1 0 0 (by omega)) hn1 hx, rc_c (fun w => hm 42 w (by omega)) (fun w => hg 2 w 0 (by omega)) (hg 0 5 0 (by omega)) hc, rg_c (hm 40 0 (by omega)) (fun j => hm 41 j (by omega)) (hg 1 2 0 (by omega)) (fun j => hg 40 0 j (by omega)) hgt, rdt_c (fun j => hm 4 j (by omega)) (fun j => hm 5 j (by omega)) (hg 1 0 0 (by omega)) (fun i => hg 11 i 0 (by omega)) (fun i j => hg 19 i j (by omega)) hd, rs_c (hg 1 0 0 (by omega)) (fun t j q => hm t j (by omega)) (fun t j q => hg t j 0 (by omega)) (hg 0 8 0 (by omega)) hs, rf_n hI hn1 (fun t j q => hm t j (by omega)) (fun j q => hm 34 j (by omega)) (fun t i j q => hg t i j (by omega)) hF hf, rr_r hI (r := r) (fun t j q => hm t j (by omega)) (fun j q => hm 25 j (by omega)) (fun t i j q => hg t i j (by omega)) hQ hr, rb_c (fun t j q => hm t j (by omega)) hb⟩
/-! a receiver alone -/
theorem rl_4 {g g' : St} {mu mu' : Mu} (hI : IB g) (h : Rl g mu) {r : Int}
    (hg : ∀ (t : Nat) (i j : Int), ¬ (30 ≤ t ∧ t ≤ 39 ∧ i = r) → g' t i j = g t i j)
    (hm : ∀ (t : Nat) (j : Int), ¬ (16 ≤ t ∧ t ≤ 24 ∧ j = r) ∧ ¬ (t = 25 ∧ 10000 * r ≤ j ∧ j < 10000 * r + 10000) → mu' t j = mu t j) (hQ : RQ g' mu' r) (hB : ∀ j : Int, -128 ≤ mu' 25 j ∧ mu' 25 j ≤ 127) : Rl g' mu' := by
  obtain ⟨hx, hc, hgt, hd, hs, hf, hr, hb⟩ := h
  exact ⟨rx_c (fun t q => hm t 0 (by omega)) (fun i q q' => hg 0 i 0 (by omega)) (hg 1 0 0 (by omega)) (hg 1 1 0 (by omega)) hx, rc_c (fun w => hm 42 w (by omega)) (fun w => hg 2 w 0 (by omega)) (hg 0 5 0 (by omega)) hc, rg_c (hm 40 0 (by omega)) (fun j => hm 41 j (by omega)) (hg 1 2 0 (by omega)) (fun j => hg 40 0 j (by omega)) hgt, rdt_c (fun j => hm 4 j (by omega)) (fun j => hm 5 j (by omega)) (hg 1 0 0 (by omega)) (fun i => hg 11 i 0 (by omega)) (fun i j => hg 19 i j (by omega)) hd, rs_c (hg 1 0 0 (by omega)) (fun t j q => hm t j (by omega)) (fun t j q => hg t j 0 (by omega)) (hg 0 8 0 (by omega)) hs, rf_c (hg 1 1 0 (by omega)) hI (fun t j q => hm t j (by omega)) (fun t i j q => hg t i j (by omega)) hf, rr_r hI (r := r) (fun t j q => hm t j (by omega)) (fun j q => hm 25 j (by omega)) (fun t i j q => hg t i j (by omega)) hQ hr, rb_25 (fun t j q => hm t j (by omega)) hB hb⟩
/-! a message became whole -/
theorem rl_5 {g g' : St} {mu mu' : Mu} (hI : IB g) (h : Rl g mu) {r : Int}
    (hg : ∀ (t : Nat) (i j : Int), ¬ (30 ≤ t ∧ t ≤ 39 ∧ i = r) ∧ ¬ (t = 2 ∧ i = 0) ∧ ¬ (t = 1 ∧ i = 2) ∧ t ≠ 40 → g' t i j = g t i j) (hg2 : g' 2 0 0 = g 2 0 0 + 1)
    (hm : ∀ (t : Nat) (j : Int), ¬ (16 ≤ t ∧ t ≤ 24 ∧ j = r) ∧ ¬ (t = 25 ∧ 10000 * r ≤ j ∧ j < 10000 * r + 10000) ∧ ¬ (t = 42 ∧ j = 0) ∧ t ≠ 40 ∧ t ≠ 41 → mu' t j = mu t j) (hm2 : mu' 42 0 = mu 42 0 + 1) (hG : RG g' mu') (hQ : RQ g' mu' r) (hB : RB mu') : Rl g' mu' := by
  obtain ⟨hx, hc, hgt, hd, hs, hf, hr, hb⟩ := h
  refine ⟨rx_c (fun t q => hm t 0 (by omega)) (fun i q q' => hg 0 i 0 (by omega)) (hg 1 0 0 (by omega)) (hg 1 1 0 (by omega)) hx, ?_, hG, rdt_c (fun j => hm 4 j (by omega)) (fun j => hm 5 j (by omega)) (hg 1 0 0 (by omega)) (fun i => hg 11 i 0 (by omega)) (fun i j => hg 19 i j (by omega)) hd, rs_c (hg 1 0 0 (by omega)) (fun t j q => hm t j (by omega)) (fun t j q => hg t j 0 (by omega)) (hg 0 8 0 (by omega)) hs, rf_c (hg 1 1 0 (by omega)) hI (fun t j q => hm t j (by omega)) (fun t i j q => hg t i j (by omega)) hf, rr_r hI (r := r) (fun t j q => hm t j (by omega)) (fun j q => hm 25 j (by omega)) (fun t i j q => hg t i j (by omega)) hQ hr, hB⟩
  unfold RC at hc ⊢
  refine ⟨fun w q1 q2 => ?_, ?_⟩
  · by_cases q : w = 0
    · rw [q, hm2, hg2, hc.1 0 (by omega) (by omega)]
    · rw [hm 42 w (by omega), hg 2 w 0 (by omega)]; exact hc.1 w q1 q2
  · rw [hg 0 5 0 (by omega), hg 2 1 0 (by omega), hg 2 2 0 (by omega), hg 2 3 0 (by omega), hg 2 4 0 (by omega), hg 2 5 0 (by omega), hg 2 6 0 (by omega), hg 2 7 0 (by omega)]; exact hc.2
theorem mMk_n {mu : Mu} {k m n c s : Int} {t : Nat} {j : Int} (h : ¬ (t = 26 ∧ j = 0) ∧ ¬ (27 ≤ t ∧ t ≤ 32 ∧ j = mu 26 0 + 1)) : mMk mu k m n c s t j = mu t j := by
  unfold mMk
  rw [u2_n (by omega), u2_n (by omega), u2_n (by omega), u2_n (by omega), u2_n (by omega), u2_n (by omega), u2_n (by omega)]
theorem mMk_v (mu : Mu) (k m n c s : Int) : mMk mu k m n c s 26 0 = mu 26 0 + 1 ∧ mMk mu k m n c s 27 (mu 26 0 + 1) = k ∧ mMk mu k m n c s 28 (mu 26 0 + 1) = m ∧ mMk mu k m n c s 29 (mu 26 0 + 1) = n ∧ mMk mu k m n c s 30 (mu 26 0 + 1) = c ∧ mMk mu k m n c s 31 (mu 26 0 + 1) = s ∧ mMk mu k m n c s 32 (mu 26 0 + 1) = mu 2 0 := by
  simp [mMk, u2]
theorem mFl_v {mu : Mu} {f m fr k j : Int} (h0 : 0 ≤ j) (h1 : j < k) : mFl mu f m fr k 34 (7 * f + j) = mu 5 (mu 4 m + fr + j) := by
  unfold mFl
  rw [if_pos ⟨rfl, by omega, by omega⟩]
  congr 1
  omega
theorem mFl_b {mu : Mu} {f m fr k : Int} (h5 : ∀ j : Int, -128 ≤ mu 5 j ∧ mu 5 j ≤ 127) (h34 : ∀ j : Int, -128 ≤ mu 34 j ∧ mu 34 j ≤ 127) (j : Int) : -128 ≤ mFl mu f m fr k 34 j ∧ mFl mu f m fr k 34 j ≤ 127 := by
  unfold mFl
  split
  · exact h5 _
  · exact h34 _
/-! values of a new frame in the class -/
theorem v_daf (g : St) (m kd nu mo : Int) : (sData g m kd nu mo 1 1 0 = g 1 1 0 + 1 ∧ sData g m kd nu mo 20 (g 1 1 0 + 1) 0 = kd ∧ sData g m kd nu mo 21 (g 1 1 0 + 1) 0 = m ∧ sData g m kd nu mo 22 (g 1 1 0 + 1) 0 = nu ∧ sData g m kd nu mo 23 (g 1 1 0 + 1) 0 = min (g 13 m 0 + mo) (g 11 m 0) - g 13 m 0 ∧ sData g m kd nu mo 24 (g 1 1 0 + 1) 0 = 0 ∧ sData g m kd nu mo 25 (g 1 1 0 + 1) 0 = g 0 7 0 ∧ sData g m kd nu mo 27 (g 1 1 0 + 1) 0 = 1) ∧ ∀ j : Int, sData g m kd nu mo 28 (g 1 1 0 + 1) j = slF (g 19 m) (g 13 m 0) (min (g 13 m 0 + mo) (g 11 m 0) - g 13 m 0) j := by
  refine ⟨?_, fun j => ?_⟩
  · simp [sData, sFrame, lGrow, sTo, wr, wR]
  · simp [sData, sFrame, lGrow, sTo, wr, wR]
theorem v_flf (g : St) (mg fk bk sp : Int) : sFlow g mg fk bk sp 1 1 0 = g 1 1 0 + 1 ∧ sFlow g mg fk bk sp 20 (g 1 1 0 + 1) 0 = 3 ∧ sFlow g mg fk bk sp 21 (g 1 1 0 + 1) 0 = mg ∧ sFlow g mg fk bk sp 22 (g 1 1 0 + 1) 0 = fk ∧ sFlow g mg fk bk sp 23 (g 1 1 0 + 1) 0 = bk ∧ sFlow g mg fk bk sp 24 (g 1 1 0 + 1) 0 = sp ∧ sFlow g mg fk bk sp 25 (g 1 1 0 + 1) 0 = g 0 7 0 ∧ sFlow g mg fk bk sp 27 (g 1 1 0 + 1) 0 = 1 := by
  simp [sFlow, sFrame, lGrow, wr, wR]
theorem v_frn {g : St} {kd mg nu sz sp ln : Int} {F : Int → Int} {t : Nat} {i j : Int} (h : ¬ ((t = 1 ∨ t = 3 ∨ t = 4) ∧ i = 1) ∧ ¬ (20 ≤ t ∧ t ≤ 28 ∧ i = g 1 1 0 + 1)) : sFrame g kd mg nu sz sp ln F t i j = g t i j := by
  unfold sFrame lGrow
  rw [wR_n (by omega)]
  repeat rw [wr_n (by omega)]
theorem v_dan {g : St} {m kd nu mo : Int} {t : Nat} {i j : Int} (h : ¬ ((t = 1 ∨ t = 3 ∨ t = 4) ∧ i = 1) ∧ ¬ (20 ≤ t ∧ t ≤ 28 ∧ i = g 1 1 0 + 1) ∧ ¬ (t = 13 ∧ i = m)) : sData g m kd nu mo t i j = g t i j := by
  unfold sData
  rw [wr_n (by omega)]
  exact v_frn (by omega)
theorem RN_3 {g : St} {mu : Mu} {m : Int} (h6 : mu 6 m = if m ≤ g 0 8 0 then 1 else 0) (h : mu 7 m = g 12 m 0) (hs : 3 ≤ g 12 m 0) (hw : g 18 m 0 = 9223372036854775807) : RN g mu m := ⟨h6, h, fun q => by omega, fun q => by omega, fun q => by omega, fun _ => hw⟩
theorem RN_2 {g : St} {mu : Mu} {m : Int} (h6 : mu 6 m = if m ≤ g 0 8 0 then 1 else 0) (h : mu 7 m = 2) (hs : g 12 m 0 = 2) (h8 : mu 8 m = g 13 m 0) (h14 : g 14 m 0 = (mu 9 m + 1) % 16) (h9 : 0 ≤ mu 9 m) (h9' : mu 9 m < 16) (h13 : mu 13 m = g 15 m 0) (h12 : mu 12 m = g 17 m 0) (h18 : g 18 m 0 = mu 15 m) (hb : (mu 10 m = 0 ∧ g 16 m 0 = 0) ∨ (mu 10 m ≠ 0 ∧ 1 ≤ g 16 m 0 ∧ mu 11 m = g 16 m 0)) (h10 : iB (mu 10 m)) : RN g mu m := ⟨h6, h.trans hs.symm, fun _ => ⟨h8, h14, h9, h9', h13⟩, fun _ => ⟨h12, h18, hb, h10⟩, fun q => by omega, fun q => by omega⟩
theorem RN_1 {g : St} {mu : Mu} {m : Int} (h6 : mu 6 m = if m ≤ g 0 8 0 then 1 else 0) (h : mu 7 m = 1) (hs : g 12 m 0 = 1) (h8 : mu 8 m = g 13 m 0) (h14 : g 14 m 0 = (mu 9 m + 1) % 16) (h9 : 0 ≤ mu 9 m) (h9' : mu 9 m < 16) (h13 : mu 13 m = g 15 m 0) (h18 : g 18 m 0 = mu 14 m + 1000) : RN g mu m := ⟨h6, h.trans hs.symm, fun _ => ⟨h8, h14, h9, h9', h13⟩, fun q => by omega, fun _ => h18, fun q => by omega⟩
/-! one end of a sender whose other numbers don't matter -/
theorem rl_es1 {g : St} {mu mu' : Mu} (hI : IB g) (h : Rl g mu) {m w : Int} (h1 : 1 ≤ m) (h2 : m ≤ g 1 0 0) (hw : 1 ≤ w ∧ w < 8) (hm : ∀ (t : Nat) (j : Int), ¬ (7 ≤ t ∧ t ≤ 15 ∧ j = m) → mu' t j = mu t j) : Rl (sEndS g m w) (mEndS mu' m w) := by
  have hm2 : ∀ (t : Nat) (j : Int), ¬ (7 ≤ t ∧ t ≤ 15 ∧ j = m) → mEndS mu' m w t j = mEndS mu m w t j := fun t j q => by
    by_cases z : t = 42 ∧ j = w
    · obtain ⟨rfl, rfl⟩ := z
      unfold mEndS
      rw [u2_s, u2_s, hm 42 j (by omega)]
    · rw [v_mes (by omega), v_mes (by omega)]
      exact hm t j q
  have k := rl_es hI h h1 h2 hw
  refine rl_2 (ib_es hI w h1 h2) k (m := m) (by rw [v_es (by omega)]; exact h2) (fun t i j q => rfl) (fun j q => rfl) (fun t j q => hm2 t j (by omega)) ?_
  have q := k.2.2.2.2.1.1 m h1 (by rw [v_es (by omega)]; exact h2)
  unfold RN at q ⊢
  have e7 : mEndS mu' m w 7 m = 4 := by unfold mEndS; rw [u2_n (by omega), u2_s]
  have e7' : mEndS mu m w 7 m = 4 := by unfold mEndS; rw [u2_n (by omega), u2_s]
  rw [v_es12, v_es18] at q ⊢
  rw [e7, hm2 6 m (by omega)]
  exact ⟨q.1, rfl, fun w => by omega, fun w => by omega, fun w => by omega, fun w => rfl⟩

