/-! what holds between calls, and that each call keeps it -/
def VV (g : St) : Prop := IJ g ∧ KB g ∧ PD g
theorem kb_hcs {g : St} (hI : IB g) (h : KB g) {f : Int} (h1 : 1 ≤ f) (h2 : f ≤ g 1 1 0) (h27 : g 27 f 0 = 1) (h20 : g 20 f 0 = 2) (h30 : g 30 (g 21 f 0 % 4) 0 = 1) (h31 : g 31 (g 21 f 0 % 4) 0 = g 21 f 0) : g 33 (g 21 f 0 % 4) 0 + g 26 f 0 ≤ g 32 (g 21 f 0 % 4) 0 := by
  have hf := hI.2.2.2.1 f h1 h2
  unfold IF at hf
  have hs := hI.2.2.1 (g 21 f 0) (by omega) (by omega)
  unfold IS at hs
  have k := h.2.1 (g 21 f 0 % 4) (by omega) (by omega) h30
  rw [h31] at k
  have w := sW_i hI (m := g 21 f 0) h1 (g 1 1 0).toNat (by omega) (by omega)
  have e : fW g (g 21 f 0) f = g 23 f 0 := if_pos ⟨h27, rfl, Or.inr h20⟩
  have e26 := (hf.2.2.2.2.2.2.2.1 (by omega)).1
  omega
theorem kb_hfs {g : St} (hI : IB g) (h : KB g) {f : Int} (h1 : 1 ≤ f) (h2 : f ≤ g 1 1 0) (h20 : g 20 f 0 = 1) : 1 ≤ g 22 f 0 ∧ g 26 f 0 ≤ g 22 f 0 := by
  have hf := hI.2.2.2.1 f h1 h2
  unfold IF at hf
  have hs := hI.2.2.1 (g 21 f 0) (by omega) (by omega)
  unfold IS at hs
  have k := h.2.2 f h1 h2 h20
  have e26 := (hf.2.2.2.2.2.2.2.1 (by omega)).1
  omega
/-! a frame is off its way -/
theorem kb_ow {g g' : St} (hI : IB g) (h : KB g) {f : Int} (hf1 : 1 ≤ f) (hf2 : f ≤ g 1 1 0) (hg : ∀ (t : Nat) (i : Int), (t = 1 ∧ (i = 0 ∨ i = 1)) ∨ t = 11 ∨ t = 13 ∨ (20 ≤ t ∧ t ≤ 23) ∨ (t = 27 ∧ i ≠ f) ∨ (30 ≤ t ∧ t ≤ 33) → g' t i 0 = g t i 0) (h0 : g' 27 f 0 = 0) : KB g' := by
  have e : ∀ m : Int, sW g' m (g 1 1 0).toNat ≤ sW g m (g 1 1 0).toNat := fun m => by
    have a := sW_o (g := g) (g' := g') (m := m) hf1 (fun f9 q => fW_c (fun t w => hg t f9 (by omega))) (by unfold fW; rw [if_neg (by omega)]) (g 1 1 0).toNat
    have b := fW_p hI (m := m) hf1 hf2
    rw [a]
    split <;> omega
  obtain ⟨a, b, d⟩ := h
  refine ⟨fun m q1 q2 => ?_, fun r q1 q2 q3 => ?_, fun f9 q1 q2 q3 => ?_⟩
  · rw [hg 1 0 (by omega)] at q2
    rw [hg 1 1 (by omega), hg 13 m (by omega)]
    have := a m q1 q2
    have := e m
    omega
  · rw [hg 30 r (by omega)] at q3
    rw [hg 1 1 (by omega), hg 32 r (by omega), hg 33 r (by omega), hg 31 r (by omega), hg 11 _ (by omega), hg 13 _ (by omega)]
    have k := b r q1 q2 q3
    have := e (g 31 r 0)
    exact ⟨k.1, by omega⟩
  · rw [hg 1 1 (by omega)] at q2
    rw [hg 20 f9 (by omega)] at q3
    rw [hg 22 f9 (by omega), hg 23 f9 (by omega), hg 21 f9 (by omega), hg 11 _ (by omega)]
    exact d f9 q1 q2 q3
/-! .. and its receiver has its data -/
theorem kb_tk {g g' : St} (hI : IB g) (h : KB g) {f r : Int} (hf1 : 1 ≤ f) (hf2 : f ≤ g 1 1 0) (h27 : g 27 f 0 = 1) (h20 : g 20 f 0 = 1 ∨ g 20 f 0 = 2) (hg : ∀ (t : Nat) (i : Int), (t = 1 ∧ (i = 0 ∨ i = 1)) ∨ t = 11 ∨ t = 13 ∨ (20 ≤ t ∧ t ≤ 23) ∨ (t = 27 ∧ i ≠ f) ∨ (30 ≤ t ∧ t ≤ 33 ∧ i ≠ r) → g' t i 0 = g t i 0) (h0 : g' 27 f 0 = 0) (hr1 : 0 ≤ r) (hr2 : r < 4) (hr : g' 30 r 0 = 1 → g' 31 r 0 = g 21 f 0 ∧ g' 32 r 0 = g 11 (g 21 f 0) 0 ∧ (g' 33 r 0 = g 23 f 0 ∨ (g 30 r 0 = 1 ∧ g 31 r 0 = g 21 f 0 ∧ g' 33 r 0 = g 33 r 0 + g 23 f 0))) : KB g' := by
  have hf := hI.2.2.2.1 f hf1 hf2
  unfold IF at hf
  have e : ∀ m : Int, sW g' m (g 1 1 0).toNat = sW g m (g 1 1 0).toNat - fW g m f := fun m => by
    have a := sW_o (g := g) (g' := g') (m := m) hf1 (fun f9 q => fW_c (fun t w => hg t f9 (by omega))) (by unfold fW; rw [if_neg (by omega)]) (g 1 1 0).toNat
    rw [a, if_pos (by omega)]
  have p := fun m : Int => fW_p hI (m := m) hf1 hf2
  have ef : fW g (g 21 f 0) f = g 23 f 0 := if_pos ⟨h27, rfl, h20⟩
  obtain ⟨a, b, d⟩ := h
  refine ⟨fun m q1 q2 => ?_, fun r9 q1 q2 q3 => ?_, fun f9 q1 q2 q3 => ?_⟩
  · rw [hg 1 0 (by omega)] at q2
    rw [hg 1 1 (by omega), hg 13 m (by omega), e]
    have := a m q1 q2
    have := p m
    omega
  · by_cases q : r9 = r
    · subst q
      obtain ⟨w1, w2, w3⟩ := hr q3
      rw [hg 1 1 (by omega), w1, w2, hg 11 _ (by omega), hg 13 _ (by omega), e, ef]
      refine ⟨rfl, ?_⟩
      have k1 := a (g 21 f 0) (by omega) (by omega)
      rcases w3 with w3 | ⟨w3, w4, w5⟩
      · omega
      · have k2 := (b r9 q1 q2 w3).2
        rw [w4] at k2
        omega
    · rw [hg 30 r9 (by omega)] at q3
      rw [hg 1 1 (by omega), hg 32 r9 (by omega), hg 33 r9 (by omega), hg 31 r9 (by omega), hg 11 _ (by omega), hg 13 _ (by omega), e]
      have k := b r9 q1 q2 q3
      have := p (g 31 r9 0)
      exact ⟨k.1, by omega⟩
  · rw [hg 1 1 (by omega)] at q2
    rw [hg 20 f9 (by omega)] at q3
    rw [hg 22 f9 (by omega), hg 23 f9 (by omega), hg 21 f9 (by omega), hg 11 _ (by omega)]
    exact d f9 q1 q2 q3
theorem vv_ow {g : St} (h : VV g) {f : Int} (h1 : 1 ≤ f) (h2 : f ≤ g 1 1 0) : VV (wr g 27 f 0) := by
  obtain ⟨⟨hI, hj⟩, hk, hp⟩ := h
  refine ⟨⟨ib_ow hI h1 h2, jb_o hj (fun t i q => wr_n (by omega))⟩, kb_ow hI hk h1 h2 (fun t i q => wr_n (by omega)) (wr_s _ _ _ _), ?_⟩
  unfold PD
  rw [wr_n (by omega)]
  exact wu_c (fun t i q => wr_n (by omega)) hp
theorem vv_lose {g : St} (h : VV g) {f : Int} : VV (sLose g f) := by
  unfold sLose
  split
  · rename_i q
    exact vv_ow h q.1.1 q.1.2
  · exact h
/-! the settings -/
theorem vv_x {g g' : St} (h : VV g) (hg : ∀ (t : Nat) (i j : Int), ¬ (t = 0 ∧ 9 ≤ i ∧ i ≤ 13) → g' t i j = g t i j) (hx : (0 ≤ g' 0 9 0 ∧ g' 0 9 0 ≤ 2) ∧ (0 ≤ g' 0 10 0 ∧ g' 0 10 0 ≤ 255) ∧ (0 ≤ g' 0 11 0 ∧ g' 0 11 0 ≤ 255) ∧ (0 ≤ g' 0 12 0 ∧ g' 0 12 0 ≤ 100) ∧ (g' 0 13 0 = 0 ∨ g' 0 13 0 = 1)) : VV g' := by
  obtain ⟨⟨hI, hj⟩, hk, hp⟩ := h
  have hI1 := hI.1
  unfold IX at hI1
  refine ⟨⟨ib_x hI (fun t i j q => hg t i j (by omega)) ?_, jb_o hj (fun t i q => hg t i 0 (by omega))⟩, kb_o hk (fun t i q => hg t i 0 (by omega)), ?_⟩
  · unfold IX
    rw [hg 0 0 0 (by omega), hg 0 7 0 (by omega), hg 0 8 0 (by omega), hg 1 0 0 (by omega)]
    exact ⟨hI1.1, hI1.2.1, hI1.2.2.1, hx⟩
  · unfold PD
    rw [hg 0 7 0 (by omega)]
    exact wu_c (fun t i q => hg t i 0 (by omega)) hp
theorem vv_flw {g : St} (h : VV g) {b s k : Int} : VV (sFlw g b s k) := by
  have hI1 := h.1.1.1
  unfold IX at hI1
  unfold sFlw
  split
  · refine vv_x h (fun t i j q => by rw [wr_n (by omega), wr_n (by omega), wr_n (by omega)]) ?_
    simp [wr]
    omega
  · exact h
theorem vv_wai {g : St} (h : VV g) {n : Int} : VV (sWai g n) := by
  have hI1 := h.1.1.1
  unfold IX at hI1
  unfold sWai
  split
  · refine vv_x h (fun t i j q => wr_n (by omega)) ?_
    simp [wr]
    omega
  · exact h
theorem vv_fun {g : St} (h : VV g) {b : Int} (hb : b = 0 ∨ b = 1) : VV (wr g 0 13 b) := by
  have hI1 := h.1.1.1
  unfold IX at hI1
  refine vv_x h (fun t i j q => wr_n (by omega)) ?_
  simp [wr]
  omega
theorem vv_oct {g : St} (h : VV g) {m i b : Int} (hb : -128 ≤ b ∧ b ≤ 127) : VV (sOct g m i b) := by
  obtain ⟨⟨hI, hj⟩, hk, hp⟩ := h
  unfold sOct
  split
  · rename_i q
    have hs := hI.2.2.1 m q.1.1 q.1.2
    refine ⟨⟨ib_s (m := m) hI (fun t i j w => wR_n (by omega)) ?_, jb_o hj (fun t i w => wR_n (by omega))⟩, kb_o hk (fun t i w => wR_n (by omega)), ?_⟩
    · unfold IS at hs ⊢
      rw [wR_n (by omega), wR_n (by omega), wR_n (by omega), wR_n (by omega), wR_n (by omega), wR_n (by omega), wR_n (by omega), wR_n (by omega), wR_s]
      obtain ⟨a1, a2, a3, a4, a5, a6, a7, a8, a9⟩ := hs
      refine ⟨a1, a2, a3, a4, a5, a6, a7, a8, fun j => ?_⟩
      unfold uF
      split
      · exact hb
      · exact a9 j
    · unfold PD
      rw [wR_n (by omega)]
      exact wu_c (fun t i w => wR_n (by omega)) hp
  · exact ⟨⟨hI, hj⟩, hk, hp⟩
/-! a new message -/
theorem v_ps {g : St} {n : Int} {t : Nat} {i j : Int} (h : ¬ (((t = 1 ∨ t = 3 ∨ t = 4) ∧ i = 0) ∨ (11 ≤ t ∧ t ≤ 19 ∧ i = g 1 0 0 + 1))) : sPush g n t i j = g t i j := by
  unfold sPush lGrow
  rw [wR_n (by omega)]
  repeat rw [wr_n (by omega)]
theorem v_psv (g : St) (n : Int) : (sPush g n 1 0 0 = g 1 0 0 + 1 ∧ sPush g n 4 0 0 = (if g 1 0 0 < g 4 0 0 then g 4 0 0 else lcap (g 4 0 0))) ∧ (sPush g n 11 (g 1 0 0 + 1) 0 = n ∧ sPush g n 12 (g 1 0 0 + 1) 0 = 0 ∧ sPush g n 13 (g 1 0 0 + 1) 0 = 0 ∧ sPush g n 14 (g 1 0 0 + 1) 0 = 1 ∧ sPush g n 15 (g 1 0 0 + 1) 0 = 0 ∧ sPush g n 16 (g 1 0 0 + 1) 0 = 0 ∧ sPush g n 17 (g 1 0 0 + 1) 0 = 0 ∧ sPush g n 18 (g 1 0 0 + 1) 0 = 9223372036854775807) ∧ ∀ j : Int, sPush g n 19 (g 1 0 0 + 1) j = 0 := by
  refine ⟨?_, ?_, fun j => ?_⟩ <;> simp [sPush, lGrow, wr, wR]
theorem sW_0 {g : St} {m : Int} (n : Nat) : (∀ f : Int, 1 ≤ f → f ≤ n → fW g m f = 0) → sW g m n = 0 := by
  induction n with
  | zero => intro _; rfl
  | succ n ih =>
    intro h
    show sW g m n + fW g m (n + 1) = 0
    rw [ih (fun f a b => h f a (by omega)), h ((n : Int) + 1) (by omega) (by omega)]
    rfl
theorem vv_push {g : St} (h : VV g) {n : Int} (h1 : ¬ 100 ≤ g 1 0 0) (hn : 1 ≤ n ∧ n ≤ 10000) : VV (sPush g n) := by
  obtain ⟨⟨hI, hj⟩, hk, hp⟩ := h
  have hI1 := hI.1
  unfold IX at hI1
  have hl := hI.2.1
  have gr := il_grow0 hI h1
  obtain ⟨⟨p1, p4⟩, ⟨p11, p12, p13, p14, p15, p16, p17, p18⟩, p19⟩ := v_psv g n
  have hR := hI.2.2.2.2.1
  have hF := hI.2.2.2.1
  refine ⟨⟨ib_ns (n := g 1 0 0) hI rfl (fun t i j w => v_ps w) p1 ?_ ?_, ?_, ?_⟩, ⟨fun m q1 q2 => ?_, fun r q1 q2 q3 => ?_, fun f q1 q2 q3 => ?_⟩, ⟨fun m q1 q2 => ?_, fun r q1 q2 => ?_⟩⟩
  · unfold IL at hl ⊢
    rw [p1, p4, v_ps (by omega), v_ps (by omega)]
    omega
  · unfold IS
    rw [p11, p12, p13, p14, p15, p16, p17, p18]
    refine ⟨hn, by omega, by omega, by omega, by omega, by omega, by omega, by omega, fun j => by rw [p19]; omega⟩
  · intro m q1 q2
    rw [p1] at q2
    by_cases q : m = g 1 0 0 + 1
    · unfold JS
      rw [q, p11, p12, p13, p15, p18]
      exact ⟨fun w => by omega, fun _ => ⟨rfl, rfl, rfl, rfl⟩⟩
    · exact JS_c (fun t i w => v_ps (by omega)) (hj.1 m q1 (by omega))
  · intro r q1 q2
    exact JR_c (fun t i w => v_ps (by omega)) (hj.2 r q1 q2)
  · rw [p1] at q2
    rw [v_ps (by omega)]
    have e : sW (sPush g n) m (g 1 1 0).toNat = sW g m (g 1 1 0).toNat := sW_c _ (fun f _ _ => fW_c (fun t w => v_ps (by omega)))
    rw [e]
    by_cases q : m = g 1 0 0 + 1
    · rw [q, p13, sW_0 _ (fun f a b => ?_)]
      · omega
      · have hf := hF f a (by omega)
        unfold IF at hf
        unfold fW
        rw [if_neg (by omega)]
    · rw [v_ps (by omega)]
      exact hk.1 m q1 (by omega)
  · rw [v_ps (by omega)] at q3
    have hr := hR r q1 q2
    unfold IR at hr
    have e : ∀ m : Int, sW (sPush g n) m (g 1 1 0).toNat = sW g m (g 1 1 0).toNat := fun m => sW_c _ (fun f _ _ => fW_c (fun t w => v_ps (by omega)))
    have k := hk.2.1 r q1 q2 q3
    rw [v_ps (t := 32) (by omega), v_ps (t := 33) (by omega), v_ps (t := 31) (by omega), v_ps (t := 1) (by omega), e, v_ps (t := 11) (by omega), v_ps (t := 13) (by omega)]
    exact k
  · rw [v_ps (by omega)] at q2 q3
    have hf := hF f q1 q2
    unfold IF at hf
    rw [v_ps (t := 22) (by omega), v_ps (t := 23) (by omega), v_ps (t := 21) (by omega), v_ps (t := 11) (by omega)]
    exact hk.2.2 f q1 q2 q3
  · rw [p1] at q2
    rw [v_ps (t := 0) (by omega)]
    by_cases q : m = g 1 0 0 + 1
    · rw [q, p18]; omega
    · rw [v_ps (by omega)]
      exact hp.1 m q1 (by omega)
  · rw [v_ps (t := 0) (by omega), v_ps (t := 37) (by omega), v_ps (t := 38) (by omega)]
    exact hp.2 r q1 q2
theorem vv_send {g : St} (h : VV g) {n : Int} : VV (sSend g n) := by
  unfold sSend
  split
  · exact h
  · split
    · exact h
    · split
      · exact h
      · exact vv_push h (by assumption) (by omega)
theorem vv_tick {fu fp : Nat} (hfu : 6000 < fu) (hfp : 5000 < fp) {g : St} (h : VV g) {t : Int} (hn : g 0 7 0 ≤ 3990000) : VV (sTick fu fp g t) := ⟨(ij_tick h.1 hn).1, kb_tick h.1 h.2.1 hn, pd_tick hfu hfp h.1 h.2.2 hn⟩
/-! what comes with a receive -/
theorem vv_er {g : St} (h : VV g) {r w : Int} (h1 : 0 ≤ r) (h2 : r < 4) : VV (sEndR g r w) := by
  have q := w_er h.1.1.1 (r := r) (w := w)
  refine ⟨⟨ib_er h.1.1 w h1 h2, jb_er h.1.2⟩, kb_er h.2.1, ?_⟩
  unfold PD
  rw [q.1 0 7 (by omega)]
  exact wu_r (r := r) (fun t i k => q.1 t i (by omega)) ⟨by omega, by omega⟩ h.2.2
theorem vv_an {g : St} (h : VV g) {r : Int} (h1 : 0 ≤ r) (h2 : r < 4) (h3 : 1 ≤ g 31 r 0) : VV (sAns g r) := by
  have q := w_an h.1.1.1 (r := r)
  refine ⟨⟨ib_ans h.1.1 h1 h2 h3, jb_an h.1 h1 h2 h3⟩, kb_an h.1 h.2.1, ?_⟩
  unfold PD
  rw [q.1 0 7 (by omega)]
  exact wu_r (r := r) (fun t i k => q.1 t i (by omega)) ⟨by omega, by omega⟩ h.2.2
theorem v_wh {g : St} {r ln : Int} {F : Int → Int} {t : Nat} {i j : Int} (q : ¬ (30 ≤ t ∧ t ≤ 39 ∧ i = r) ∧ ¬ (t = 2 ∧ i = 0) ∧ ¬ (t = 1 ∧ i = 2) ∧ t ≠ 40) : sWh g r ln F t i j = g t i j := by
  unfold sWh rRest sCnt sGt
  rw [wr_n (by omega), wr_n (by omega), wr_n (by omega), wr_n (by omega), wR_n (by omega), wr_n (by omega)]
theorem vv_wh {g : St} (h : VV g) {r ln : Int} {F : Int → Int} (h1 : 0 ≤ r) (h2 : r < 4) (h3 : 0 ≤ ln ∧ ln ≤ 10000) (hF : ∀ j : Int, -128 ≤ F j ∧ F j ≤ 127) : VV (sWh g r ln F) := by
  have hx := h.1.1.1
  unfold IX at hx
  have g30 : sWh g r ln F 30 r 0 = 2 := by simp [sWh, rRest, wr]
  have g37 : sWh g r ln F 37 r 0 = 9223372036854775807 := by simp [sWh, rRest, wr]
  have g38 : sWh g r ln F 38 r 0 = 9223372036854775807 := by simp [sWh, rRest, wr]
  refine ⟨⟨ib_wh h.1.1 h1 h2 h3 hF, jb_r (r := r) h.1.2 (fun t i q => v_wh (by omega)) ?_⟩, kb_e (r0 := r) h.2.1 (fun t i q => v_wh (by omega)) (by rw [g30]; decide), ?_⟩
  · unfold JR
    rw [g30, g37]
    exact ⟨fun q => by omega, fun q => by omega⟩
  · unfold PD
    rw [v_wh (by omega)]
    exact wu_r (r := r) (fun t i k => v_wh (by omega)) (by rw [g37, g38]; omega) h.2.2
theorem vv_e6 {g : St} (h : VV g) {r : Int} (h1 : 0 ≤ r) (h2 : r < 4) : VV (sE6 g r) := by
  unfold sE6
  split
  · exact vv_er h h1 h2
  · exact h
theorem vv_fl {g : St} (h : VV g) (hf : ¬ 6000 ≤ g 1 1 0) {r mg : Int} (h1 : 0 ≤ r) (h2 : r < 4) (h3 : 1 ≤ mg ∧ mg ≤ g 1 0 0) : VV (sFlow g mg 2 0 0) := by
  have q := ib_mf h.1.1 (r := r) (mg := mg) (fk := 2) (bk := 0) (sp := 0) h1 h2 h3 (by omega) (by omega) (by omega)
  unfold sMkF at q
  rw [if_neg hf] at q
  refine ⟨⟨q, jb_o h.1.2 (fun t i w => v_fr (by omega))⟩, kb_fl h.1.1 h.2.1, ?_⟩
  unfold PD
  rw [show sFlow g mg 2 0 0 0 7 0 = g 0 7 0 from v_fr (by omega)]
  exact wu_c (fun t i w => v_fr (by omega)) h.2.2
/-! a flow frame reaches a sender -/
theorem vv_rcs {g : St} (h : VV g) {f : Int} (h1 : 1 ≤ f) (h2 : f ≤ g 1 1 0) : VV (sRcS g f) := by
  unfold sRcS
  split
  · rename_i q
    obtain ⟨⟨hI, hj⟩, hk, hp⟩ := h
    have hx := hI.1
    unfold IX at hx
    have hf := hI.2.2.2.1 f h1 h2
    unfold IF at hf
    obtain ⟨m, hm⟩ : ∃ x : Int, x = g 21 f 0 := ⟨_, rfl⟩
    rw [← hm] at q hf ⊢
    have hs := hj.1 m (by omega) (by omega)
    unfold JS at hs
    have hs1 := hs.1 (Or.inl q)
    have hs2 : m ≤ g 0 8 0 := by
      by_cases w : g 0 8 0 < m
      · have := hs.2 w; omega
      · omega
    have e15 : sWt g m 15 m 0 = g 15 m 0 + 1 := wr_s _ _ _ _
    have eo : ∀ (t : Nat) (i j : Int), ¬ (t = 15 ∧ i = m) → sWt g m t i j = g t i j := fun t i j w => wr_n (by omega)
    refine ⟨⟨ib_tkf hI (by omega) (by omega) hs1.2 h1 h2, ?_⟩, ?_, ?_⟩
    · unfold sTkF
      split
      · refine jb_s (m := m) hj (fun t i w => by unfold sGo; rw [wr_n (by omega), wr_n (by omega), wr_n (by omega), wr_n (by omega)]) ?_
        unfold JS
        simp [sGo, wr]
        omega
      · split
        · unfold sTkW
          split
          · rename_i w
            rw [e15, eo 0 12 0 (by omega)] at w
            refine jb_s (m := m) hj (fun t i w => by unfold sAwait; rw [wr_n (by omega), wr_n (by omega)]; exact eo t i 0 (by omega)) ?_
            unfold JS
            simp [sAwait, sWt, wr]
            omega
          · have hjw : JB (sWt g m) ∨ True := Or.inr trivial
            refine jb_s (m := m) hj (fun t i w => by rw [v_es (by omega)]; exact eo t i 0 (by omega)) ?_
            unfold JS
            rw [v_es12, v_es (t := 0) (by omega), eo 0 8 0 (by omega)]
            exact ⟨fun w => by omega, fun w => by omega⟩
        · exact jb_es hj (by omega) (by omega) hs2
    · unfold sTkF
      split
      · exact kb_o hk (fun t i w => by unfold sGo; rw [wr_n (by omega), wr_n (by omega), wr_n (by omega), wr_n (by omega)])
      · split
        · unfold sTkW
          split
          · exact kb_o hk (fun t i w => by unfold sAwait; rw [wr_n (by omega), wr_n (by omega)]; exact eo t i 0 (by omega))
          · exact kb_es (kb_o hk (fun t i w => eo t i 0 (by omega)))
        · exact kb_es hk
    · have key : Wk g (sTkF g m f) m ∧ g 0 7 0 ≤ sTkF g m f 18 m 0 := by
        unfold sTkF
        split
        · refine ⟨fun t i w => by unfold sGo; rw [wr_n (by omega), wr_n (by omega), wr_n (by omega), wr_n (by omega)], ?_⟩
          unfold sGo
          rw [wr_s]
          exact Int.le_refl _
        · split
          · unfold sTkW
            split
            · refine ⟨fun t i w => by unfold sAwait; rw [wr_n (by omega), wr_n (by omega)]; exact eo t i 0 (by omega), ?_⟩
              unfold sAwait
              rw [wr_s, eo 0 7 0 (by omega)]
              omega
            · refine ⟨fun t i w => by rw [v_es (by omega)]; exact eo t i 0 (by omega), ?_⟩
              rw [v_es18]
              omega
          · refine ⟨fun t i w => v_es (by omega), ?_⟩
            rw [v_es18]
            omega
      unfold PD
      rw [key.1 0 7 (by omega)]
      exact wu_s (m := m) (fun t i w => key.1 t i (by omega)) key.2 hp
  · exact h
/-! a frame reaches a receiver -/
theorem vv_rr {g : St} (h : VV g) {f : Int} (h1 : 1 ≤ f) (h2 : f ≤ g 1 1 0) (h27 : g 27 f 0 = 1) (h20 : g 20 f 0 ≠ 3) : VV (sRR (wr g 27 f 0) f) := by
  have hG := vv_ow h h1 h2
  obtain ⟨G, hGd⟩ : ∃ x : St, x = wr g 27 f 0 := ⟨_, rfl⟩
  have eG : ∀ (t : Nat) (i j : Int), ¬ (t = 27 ∧ i = f) → G t i j = g t i j := fun t i j q => by rw [hGd]; exact wr_n (by omega)
  have eG0 : G 27 f 0 = 0 := by rw [hGd]; exact wr_s _ _ _ _
  rw [← hGd] at hG ⊢
  have hI := h.1.1
  have hf := hI.2.2.2.1 f h1 h2
  unfold IF at hf
  have hs := hI.2.2.1 (g 21 f 0) (by omega) (by omega)
  unfold IS at hs
  have hcs := kb_hcs hI h.2.1 h1 h2 h27
  have hfs := kb_hfs hI h.2.1 h1 h2
  have hk3 := h.2.1.2.2 f h1 h2
  have hr0 : 0 ≤ g 21 f 0 % 4 ∧ g 21 f 0 % 4 < 4 := by omega
  have hIR := hG.1.1.2.2.2.2.1 (g 21 f 0 % 4) hr0.1 hr0.2
  unfold IR at hIR
  have e26 := hf.2.2.2.2.2.2.2.1 (by omega)
  have e11 : G 1 1 0 = g 1 1 0 := eG 1 1 0 (by omega)
  have e10 : G 1 0 0 = g 1 0 0 := eG 1 0 0 (by omega)
  have e20 : G 20 f 0 = g 20 f 0 := eG 20 f 0 (by omega)
  have e21 : G 21 f 0 = g 21 f 0 := eG 21 f 0 (by omega)
  have e22 : G 22 f 0 = g 22 f 0 := eG 22 f 0 (by omega)
  have eG26 : G 26 f 0 = g 26 f 0 := eG 26 f 0 (by omega)
  unfold sRR
  rw [e20, e21]
  obtain ⟨r, hr⟩ : ∃ x : Int, x = g 21 f 0 % 4 := ⟨_, rfl⟩
  rw [← hr] at hcs hIR hr0 ⊢
  have y30 : G 30 r 0 = g 30 r 0 := eG 30 r 0 (by omega)
  have y31 : G 31 r 0 = g 31 r 0 := eG 31 r 0 (by omega)
  have y32 : G 32 r 0 = g 32 r 0 := eG 32 r 0 (by omega)
  have y33 : G 33 r 0 = g 33 r 0 := eG 33 r 0 (by omega)
  have hx := hG.1.1.1
  unfold IX at hx
  split
  · rename_i q2
    split
    · rename_i q3
      have hc := hcs q2 (by omega) (by omega)
      obtain ⟨k32, -⟩ := h.2.1.2.1 r hr0.1 hr0.2 (by omega)
      have k31 : g 31 r 0 = g 21 f 0 := by omega
      rw [k31] at k32
      have hjr := hG.1.2.2 r hr0.1 hr0.2
      unfold JR at hjr
      have hjr2 := hjr.2 q3.1
      unfold sTC
      split
      · obtain ⟨⟨x30, x31, x32, x33, x34, x35, x36, x37, x38⟩, x39, xo⟩ := v_tc1 (g := G) (r := r) (f := f)
        have hXi : IB (sTC1 G r f) := ib_tc1 hG.1.1 hr0.1 hr0.2 h1 (by omega) (by omega) (by omega)
        generalize sTC1 G r f = X at x30 x31 x32 x33 x34 x35 x36 x37 x38 x39 xo hXi ⊢
        have hX : VV X := by
          refine ⟨⟨hXi, jb_r (r := r) hG.1.2 (fun t i q => xo t i 0 (by omega)) ?_⟩, kb_tk hI h.2.1 (f := f) (r := r) h1 h2 h27 (Or.inr q2) (fun t i q => by rw [xo t i 0 (by omega)]; exact eG t i 0 (by omega)) (by rw [xo 27 f 0 (by omega)]; exact eG0) hr0.1 hr0.2 (fun _ => ⟨by omega, by omega, Or.inr ⟨by omega, k31, by omega⟩⟩), ?_⟩
          · unfold JR
            rw [x37, x30, x31, x36, x33]
            exact ⟨fun q => by omega, fun _ => ⟨by omega, by omega⟩⟩
          · unfold PD
            rw [xo 0 7 0 (by omega)]
            exact wu_r (r := r) (fun t i q => xo t i 0 (by omega)) (by rw [x37, x38]; omega) hG.2.2
        have hXr := hXi.2.2.2.2.1 r hr0.1 hr0.2
        unfold IR at hXr
        split
        · exact vv_wh hX hr0.1 hr0.2 (by omega) hXr.2.2.2.2.2.2.2.2.2
        · have hY : VV (sTC2 X r) := by
            have yo : ∀ (t : Nat) (i j : Int), ¬ (t = 36 ∧ i = r) → sTC2 X r t i j = X t i j := fun t i j q => wr_n (by omega)
            have y36 : sTC2 X r 36 r 0 = X 36 r 0 + 1 := wr_s _ _ _ _
            refine ⟨⟨ib_tc2 hXi hr0.1 hr0.2 (by omega), jb_r (r := r) hX.1.2 (fun t i q => yo t i 0 (by omega)) ?_⟩, kb_o hX.2.1 (fun t i q => yo t i 0 (by omega)), ?_⟩
            · unfold JR
              rw [yo 37 r 0 (by omega), yo 30 r 0 (by omega), yo 31 r 0 (by omega), yo 33 r 0 (by omega), y36]
              exact ⟨fun q => by omega, fun _ => ⟨by omega, by omega⟩⟩
            · unfold PD
              rw [yo 0 7 0 (by omega)]
              exact wu_c (fun t i q => yo t i 0 (by omega)) hX.2.2
          have y31' : sTC2 X r 31 r 0 = X 31 r 0 := wr_n (by omega)
          unfold sTC3
          split
          · exact hY
          · split
            · exact vv_an hY hr0.1 hr0.2 (by omega)
            · exact hY
      · exact vv_er hG hr0.1 hr0.2
    · exact hG
  · have hE := vv_e6 hG hr0.1 hr0.2
    have eE : ∀ (t : Nat) (i j : Int), ¬ ((t = 30 ∨ t = 32 ∨ t = 33 ∨ t = 37 ∨ t = 38) ∧ i = r) ∧ t ≠ 2 ∧ ¬ (t = 0 ∧ i = 5) → sE6 G r t i j = G t i j := fun t i j q => v_e6 q
    generalize sE6 G r = E at hE eE ⊢
    have E26 : E 26 f 0 = g 26 f 0 := by rw [eE 26 f 0 (by omega)]; exact eG26
    have E21 : E 21 f 0 = g 21 f 0 := by rw [eE 21 f 0 (by omega)]; exact e21
    have E22 : E 22 f 0 = g 22 f 0 := by rw [eE 22 f 0 (by omega)]; exact e22
    have E10 : E 1 0 0 = g 1 0 0 := by rw [eE 1 0 0 (by omega)]; exact e10
    have E11 : E 1 1 0 = g 1 1 0 := by rw [eE 1 1 0 (by omega)]; exact e11
    have hEf := hE.1.1.2.2.2.1 f h1 (by omega)
    unfold IF at hEf
    have hEx := hE.1.1.1
    unfold IX at hEx
    split
    · exact vv_wh hE hr0.1 hr0.2 (by omega) hEf.2.2.2.2.2.2.2.2.2
    · have k1 : g 20 f 0 = 1 := by omega
      have kf := hfs k1
      have kk := hk3 k1
      unfold sTF
      rw [E21, E22]
      split
      · have iB1 : IB (sBeg E r (g 21 f 0) (g 22 f 0)) := ib_beg hE.1.1 hr0.1 hr0.2 (by omega) (by omega)
        obtain ⟨⟨b30, b31, b32, b33, b34, b35, b36⟩, bg⟩ := v_sb (g := E) (r := r) (mg := g 21 f 0) (ln := g 22 f 0)
        generalize sBeg E r (g 21 f 0) (g 22 f 0) = B at iB1 b30 b31 b32 b33 b34 b35 b36 bg ⊢
        have B26 : B 26 f 0 = g 26 f 0 := by rw [bg 26 f 0 (by omega)]; exact E26
        have B11 : B 1 1 0 = g 1 1 0 := by rw [bg 1 1 0 (by omega)]; exact E11
        have iT : IB (sTake B r f) := ib_take iB1 hr0.1 hr0.2 h1 (by omega) (by omega) (by omega)
        obtain ⟨⟨c30, c31, c32, c33, c34, c35, c36⟩, -, cg⟩ := v_tk (g := B) (r := r) (f := f)
        have c37 : sTake B r f 37 r 0 = 9223372036854775807 := by simp [sTake, wr, wR]
        have c38 : sTake B r f 38 r 0 = B 0 7 0 + 1000 := by simp [sTake, wr, wR]
        generalize sTake B r f = T at iT c30 c31 c32 c33 c34 c35 c36 c37 c38 cg ⊢
        have TE : ∀ (t : Nat) (i j : Int), ¬ (30 ≤ t ∧ t ≤ 39 ∧ i = r) → T t i j = E t i j := fun t i j q => (cg t i j q).trans (bg t i j q)
        have B7 : B 0 7 0 = E 0 7 0 := bg 0 7 0 (by omega)
        refine vv_an ⟨⟨iT, jb_r (r := r) hE.1.2 (fun t i q => TE t i 0 (by omega)) ?_⟩, kb_tk hI h.2.1 (f := f) (r := r) h1 h2 h27 (Or.inl k1) (fun t i q => by rw [TE t i 0 (by omega), eE t i 0 (by omega)]; exact eG t i 0 (by omega)) (by rw [TE 27 f 0 (by omega), eE 27 f 0 (by omega)]; exact eG0) hr0.1 hr0.2 (fun _ => ⟨by omega, by omega, Or.inl (by omega)⟩), ?_⟩ hr0.1 hr0.2 (by omega)
        · unfold JR
          rw [c37, c30, c31, c36, c33]
          exact ⟨fun q => by omega, fun _ => ⟨by omega, by omega⟩⟩
        · unfold PD
          rw [TE 0 7 0 (by omega)]
          exact wu_r (r := r) (fun t i q => TE t i 0 (by omega)) (by rw [c37, c38]; omega) hE.2.2
      · split
        · rename_i q6
          have e : sMkF E r (g 21 f 0) 2 0 0 = sEndR E r 7 := by unfold sMkF; rw [if_pos q6]
          rw [e]
          exact vv_er hE hr0.1 hr0.2
        · rename_i q6
          have e : sMkF E r (g 21 f 0) 2 0 0 = sFlow E (g 21 f 0) 2 0 0 := by unfold sMkF; rw [if_neg q6]
          rw [e]
          exact vv_er (vv_fl hE q6 hr0.1 hr0.2 (by omega)) hr0.1 hr0.2
theorem vv_recv {g : St} (h : VV g) {f : Int} : VV (sRecv g f) := by
  unfold sRecv
  split
  · rename_i q
    have hf := h.1.1.2.2.2.1 f q.1 q.2
    unfold IF at hf
    split
    · exact h
    · split
      · exact vv_rcs (vv_ow h q.1 q.2) q.1 (by rw [wr_n (by omega)]; exact q.2)
      · exact vv_rr h q.1 q.2 (by omega) (by assumption)
  · exact h
theorem vv_new (rm : Int) : VV (gNew rm) := by
  have hj := ij_new rm
  refine ⟨hj, ⟨fun m q1 q2 => ?_, fun r q1 q2 q3 => ?_, fun f q1 q2 q3 => ?_⟩, ⟨fun m q1 q2 => ?_, fun r q1 q2 => ?_⟩⟩
  · simp [gNew] at q2; omega
  · simp [gNew] at q3
  · simp [gNew] at q2; omega
  · simp [gNew] at q2; omega
  · simp [gNew]

