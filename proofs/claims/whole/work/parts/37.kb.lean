/-! what is still on its way of a message goes beside what the receiver has -/
def fW (g : St) (m f : Int) : Int := if g 27 f 0 = 1 ∧ g 21 f 0 = m ∧ (g 20 f 0 = 1 ∨ g 20 f 0 = 2) then g 23 f 0 else 0
def sW (g : St) (m : Int) : Nat → Int
  | 0 => 0
  | n + 1 => sW g m n + fW g m (n + 1)
def KB (g : St) : Prop := (∀ m : Int, 1 ≤ m → m ≤ g 1 0 0 → sW g m (g 1 1 0).toNat ≤ g 13 m 0) ∧ (∀ r : Int, 0 ≤ r → r < 4 → g 30 r 0 = 1 → g 32 r 0 = g 11 (g 31 r 0) 0 ∧ g 33 r 0 + sW g (g 31 r 0) (g 1 1 0).toNat ≤ g 13 (g 31 r 0) 0) ∧ (∀ f : Int, 1 ≤ f → f ≤ g 1 1 0 → g 20 f 0 = 1 → g 22 f 0 = g 11 (g 21 f 0) 0 ∧ g 23 f 0 ≤ g 22 f 0)
theorem fW_c {g g' : St} {m f : Int} (h : ∀ t : Nat, t = 20 ∨ t = 21 ∨ t = 23 ∨ t = 27 → g' t f 0 = g t f 0) : fW g' m f = fW g m f := by
  unfold fW
  rw [h 20 (by omega), h 21 (by omega), h 23 (by omega), h 27 (by omega)]
theorem sW_c {g g' : St} {m : Int} (n : Nat) : (∀ f : Int, 1 ≤ f → f ≤ n → fW g' m f = fW g m f) → sW g' m n = sW g m n := by
  induction n with
  | zero => intro _; rfl
  | succ n ih =>
    intro h
    have e := h ((n : Int) + 1) (by omega) (by omega)
    have e2 := ih (fun f q1 q2 => h f q1 (by omega))
    show sW g' m n + fW g' m (n + 1) = sW g m n + fW g m (n + 1)
    rw [e, e2]
theorem fW_p {g : St} (hI : IB g) {m f : Int} (h1 : 1 ≤ f) (h2 : f ≤ g 1 1 0) : 0 ≤ fW g m f := by
  have q := hI.2.2.2.1 f h1 h2
  unfold IF at q
  unfold fW
  split <;> omega
theorem sW_p {g : St} (hI : IB g) {m : Int} (n : Nat) : (n : Int) ≤ g 1 1 0 → 0 ≤ sW g m n := by
  induction n with
  | zero => intro _; exact Int.le_refl _
  | succ n ih =>
    intro h
    have a := ih (by omega)
    have b := fW_p hI (m := m) (f := (n : Int) + 1) (by omega) (by omega)
    show 0 ≤ sW g m n + fW g m (n + 1)
    omega
theorem sW_i {g : St} (hI : IB g) {m f : Int} (hf1 : 1 ≤ f) (n : Nat) : (n : Int) ≤ g 1 1 0 → f ≤ n → fW g m f ≤ sW g m n := by
  induction n with
  | zero => intro _ h; omega
  | succ n ih =>
    intro h1 h2
    have b := fW_p hI (m := m) (f := (n : Int) + 1) (by omega) (by omega)
    have c := sW_p hI (m := m) n (by omega)
    show fW g m f ≤ sW g m n + fW g m (n + 1)
    by_cases q : f = (n : Int) + 1
    · rw [q]; omega
    · have a := ih (by omega) (by omega)
      omega
/-! one frame is off its way -/
theorem sW_o {g g' : St} {m f : Int} (hf1 : 1 ≤ f) (hg : ∀ f9 : Int, f9 ≠ f → fW g' m f9 = fW g m f9) (h0 : fW g' m f = 0) (n : Nat) : sW g' m n = sW g m n - (if f ≤ n then fW g m f else 0) := by
  induction n with
  | zero =>
    show (0 : Int) = 0 - _
    rw [if_neg (by omega)]; rfl
  | succ n ih =>
    show sW g' m n + fW g' m (n + 1) = sW g m n + fW g m (n + 1) - _
    rw [ih]
    by_cases q : f = (n : Int) + 1
    · rw [if_neg (by omega), if_pos (by omega), ← q, h0]; omega
    · rw [hg _ (fun w => q w.symm)]
      by_cases q2 : f ≤ n
      · rw [if_pos q2, if_pos (by omega)]; omega
      · rw [if_neg q2, if_neg (by omega)]; omega
theorem kb_o {g g' : St} (h : KB g) (hg : ∀ (t : Nat) (i : Int), (t = 1 ∧ (i = 0 ∨ i = 1)) ∨ t = 11 ∨ t = 13 ∨ (20 ≤ t ∧ t ≤ 23) ∨ t = 27 ∨ (30 ≤ t ∧ t ≤ 33) → g' t i 0 = g t i 0) : KB g' := by
  have e : ∀ (m : Int) (n : Nat), sW g' m n = sW g m n := fun m n => sW_c n (fun f _ _ => fW_c (fun t q => hg t f (by omega)))
  obtain ⟨a, b, c⟩ := h
  refine ⟨fun m q1 q2 => ?_, fun r q1 q2 q3 => ?_, fun f q1 q2 q3 => ?_⟩
  · rw [hg 1 0 (by omega)] at q2
    rw [e, hg 1 1 (by omega), hg 13 m (by omega)]
    exact a m q1 q2
  · rw [hg 30 r (by omega)] at q3
    rw [e, hg 1 1 (by omega), hg 32 r (by omega), hg 33 r (by omega), hg 31 r (by omega), hg 11 _ (by omega), hg 13 _ (by omega)]
    exact b r q1 q2 q3
  · rw [hg 1 1 (by omega)] at q2
    rw [hg 20 f (by omega)] at q3
    rw [hg 22 f (by omega), hg 23 f (by omega), hg 21 f (by omega), hg 11 _ (by omega)]
    exact c f q1 q2 q3
/-! a receiver no longer receives -/
theorem kb_e {g g' : St} (h : KB g) {r0 : Int} (hg : ∀ (t : Nat) (i : Int), (t = 1 ∧ (i = 0 ∨ i = 1)) ∨ t = 11 ∨ t = 13 ∨ (20 ≤ t ∧ t ≤ 23) ∨ t = 27 ∨ (30 ≤ t ∧ t ≤ 33 ∧ i ≠ r0) → g' t i 0 = g t i 0) (h0 : g' 30 r0 0 ≠ 1) : KB g' := by
  have e : ∀ (m : Int) (n : Nat), sW g' m n = sW g m n := fun m n => sW_c n (fun f _ _ => fW_c (fun t q => hg t f (by omega)))
  obtain ⟨a, b, c⟩ := h
  refine ⟨fun m q1 q2 => ?_, fun r q1 q2 q3 => ?_, fun f q1 q2 q3 => ?_⟩
  · rw [hg 1 0 (by omega)] at q2
    rw [e, hg 1 1 (by omega), hg 13 m (by omega)]
    exact a m q1 q2
  · have z : r ≠ r0 := fun w => by rw [w] at q3; exact h0 q3
    rw [hg 30 r (by omega)] at q3
    rw [e, hg 1 1 (by omega), hg 32 r (by omega), hg 33 r (by omega), hg 31 r (by omega), hg 11 _ (by omega), hg 13 _ (by omega)]
    exact b r q1 q2 q3
  · rw [hg 1 1 (by omega)] at q2
    rw [hg 20 f (by omega)] at q3
    rw [hg 22 f (by omega), hg 23 f (by omega), hg 21 f (by omega), hg 11 _ (by omega)]
    exact c f q1 q2 q3
/-! a frame is made; dm: what its sender's place goes on by -/
theorem kb_n {g g' : St} (hI : IB g) (h : KB g) {m dm : Int} (hg : ∀ (t : Nat) (i : Int), (t = 1 ∧ i = 0) ∨ t = 11 ∨ (t = 13 ∧ i ≠ m) ∨ ((20 ≤ t ∧ t ≤ 23) ∧ i ≠ g 1 1 0 + 1) ∨ (t = 27 ∧ i ≠ g 1 1 0 + 1) ∨ (30 ≤ t ∧ t ≤ 33) → g' t i 0 = g t i 0) (hn : g' 1 1 0 = g 1 1 0 + 1) (hd : 0 ≤ dm) (h13 : g' 13 m 0 = g 13 m 0 + dm) (hw : g' 20 (g 1 1 0 + 1) 0 = 3 ∨ (g' 21 (g 1 1 0 + 1) 0 = m ∧ g' 23 (g 1 1 0 + 1) 0 ≤ dm)) (hf : g' 20 (g 1 1 0 + 1) 0 = 1 → g' 22 (g 1 1 0 + 1) 0 = g' 11 (g' 21 (g 1 1 0 + 1) 0) 0 ∧ g' 23 (g 1 1 0 + 1) 0 ≤ g' 22 (g 1 1 0 + 1) 0) : KB g' := by
  have hl := hI.2.1
  unfold IL at hl
  have e : ∀ (m : Int) (n : Nat), (n : Int) ≤ g 1 1 0 → sW g' m n = sW g m n := fun m n hn => sW_c n (fun f _ q => fW_c (fun t w => hg t f (by omega)))
  have ew : ∀ m9 : Int, fW g' m9 (g 1 1 0 + 1) ≤ if m9 = m then dm else 0 := fun m9 => by
    unfold fW
    split
    · rename_i q
      rcases hw with w | w
      · omega
      · rw [if_pos (by omega)]; exact w.2
    · split <;> omega
  have es : ∀ m9 : Int, sW g' m9 (g' 1 1 0).toNat ≤ sW g m9 (g 1 1 0).toNat + if m9 = m then dm else 0 := fun m9 => by
    rw [hn, show (g 1 1 0 + 1).toNat = (g 1 1 0).toNat + 1 by omega]
    show sW g' m9 (g 1 1 0).toNat + fW g' m9 (((g 1 1 0).toNat : Int) + 1) ≤ _
    rw [show ((g 1 1 0).toNat : Int) = g 1 1 0 by omega, e m9 _ (by omega)]
    have := ew m9
    omega
  have e13 : ∀ m9 : Int, g' 13 m9 0 = g 13 m9 0 + if m9 = m then dm else 0 := fun m9 => by
    by_cases q : m9 = m
    · rw [if_pos q, q, h13]
    · rw [if_neg q, hg 13 m9 (by omega)]; omega
  obtain ⟨a, b, c⟩ := h
  refine ⟨fun m9 q1 q2 => ?_, fun r q1 q2 q3 => ?_, fun f q1 q2 q3 => ?_⟩
  · rw [hg 1 0 (by omega)] at q2
    have := a m9 q1 q2
    have := es m9
    have := e13 m9
    omega
  · rw [hg 30 r (by omega)] at q3
    rw [hg 32 r (by omega), hg 33 r (by omega), hg 31 r (by omega), hg 11 _ (by omega)]
    have h1 := b r q1 q2 q3
    have h2 := es (g 31 r 0)
    have h3 := e13 (g 31 r 0)
    exact ⟨h1.1, by omega⟩
  · by_cases q : f = g 1 1 0 + 1
    · rw [q] at q3 ⊢; exact hf q3
    · rw [hg 20 f (by omega)] at q3
      rw [hg 22 f (by omega), hg 23 f (by omega), hg 21 f (by omega), hg 11 _ (by omega)]
      exact c f q1 (by omega) q3
theorem kb_es {g : St} (h : KB g) {m w : Int} : KB (sEndS g m w) := kb_o h (fun t i q => v_es (by omega))
theorem kb_er {g : St} (h : KB g) {r w : Int} : KB (sEndR g r w) := kb_e (r0 := r) h (fun t i q => v_er (by omega)) (by rw [v_er30]; decide)
theorem kb_fl {g : St} (hI : IB g) (h : KB g) {mg fk bk sp : Int} : KB (sFlow g mg fk bk sp) := by
  have vf := v_flf g mg fk bk sp
  refine kb_n hI h (m := 0) (dm := 0) (fun t i q => v_frn (by omega)) vf.1 (by omega) ?_ (Or.inl vf.2.1) (fun q => by rw [vf.2.1] at q; omega)
  rw [Int.add_zero]
  exact v_frn (by omega)
theorem kb_da {g : St} (hI : IB g) (h : KB g) {m kd nu mo : Int} (h1 : 1 ≤ m) (h2 : m ≤ g 1 0 0) (hmo : 0 ≤ mo) (hk : kd = 1 → nu = g 11 m 0 ∧ mo ≤ nu ∧ g 13 m 0 = 0) : KB (sData g m kd nu mo) := by
  obtain ⟨vd, -⟩ := v_daf g m kd nu mo
  have hs := hI.2.2.1 m h1 h2
  unfold IS at hs
  refine kb_n hI h (m := m) (dm := min (g 13 m 0 + mo) (g 11 m 0) - g 13 m 0) (fun t i q => v_dan (by omega)) vd.1 (by omega) (by rw [v_da13]; omega) (Or.inr ⟨vd.2.2.1, by rw [vd.2.2.2.2.1]; exact Int.le_refl _⟩) (fun q => ?_)
  rw [vd.2.1] at q
  have q2 := hk q
  rw [vd.2.2.1, vd.2.2.2.1, vd.2.2.2.2.1, v_dan (by omega)]
  exact ⟨q2.1, by omega⟩
theorem kb_nx {g : St} (hI : IB g) (h : KB g) {m : Int} (h1 : 1 ≤ m) (h2 : m ≤ g 1 0 0) : KB (sNext g m) := by
  by_cases q : 6000 ≤ g 1 1 0
  · rw [v_nx0 q]; exact kb_es h
  · refine kb_o (kb_da hI h h1 h2 (kd := 2) (nu := g 14 m 0) (mo := 7) (by omega) (fun q => by omega)) (fun t i w => ?_)
    unfold sNext sMkD
    rw [if_neg q, if_neg q, v_n2 (by omega)]
    unfold sSeq
    exact wr_n (by omega)
theorem kb_a1 {g : St} (hI : IJ g) (h : KB g) {m : Int} (h1 : 1 ≤ m) (h2 : m ≤ g 1 0 0) : KB (sA1 g m) := by
  unfold sA1
  split
  · exact kb_nx hI.1 h h1 h2
  · exact kb_es h
theorem kb_act {m : Int} (n : Nat) : ∀ {g : St}, IJ g → KB g → 1 ≤ m → m ≤ g 1 0 0 → KB (sAct n g m) := by
  induction n with
  | zero => intro g _ h _ _; exact h
  | succ n ih =>
    intro g hI h h1 h2
    by_cases q : g 18 m 0 ≤ g 0 7 0
    · rw [sAct_p q]
      exact ih (ij_a1 hI h1 h2 q) (kb_a1 hI h h1 h2) h1 (by rw [(mo_a1 hI).1]; exact h2)
    · rw [sAct_n q]; exact h
theorem kb_an {g : St} (hI : IJ g) (h : KB g) {r : Int} : KB (sAns g r) := by
  by_cases q : 6000 ≤ g 1 1 0
  · rw [v_an0 q]; exact kb_er h
  · have hf : KB (sAns0 g r) := by rw [v_a0f q]; exact kb_fl hI.1 h
    by_cases q2 : g 0 9 0 = 2
    · rw [v_an2 q q2]; exact kb_er hf
    · by_cases q1 : g 0 9 0 = 1
      · rw [v_an1 q q1]; exact kb_o hf (fun t i w => by rw [wr_n (by omega), wr_n (by omega)])
      · rw [v_anz q q1 q2]; exact kb_o hf (fun t i w => by rw [wr_n (by omega), wr_n (by omega), wr_n (by omega), wr_n (by omega)])
theorem kb_actR {g : St} (hI : IJ g) (h : KB g) {r : Int} : KB (sActR g r) := by
  have q : KB (if g 37 r 0 ≤ g 0 7 0 then sAns g r else g) := by
    split
    · exact kb_an hI h
    · exact h
  unfold sActR
  generalize (if g 37 r 0 ≤ g 0 7 0 then sAns g r else g) = g1 at q ⊢
  split
  · exact kb_er q
  · exact q
theorem kb_snds (fu n : Nat) : ∀ {i : Int} {g : St}, IJ g → KB g → 0 ≤ i → i + n = g 1 0 0 → KB (sSnds fu n i g) := by
  induction n with
  | zero => intro i g _ h _ _; exact h
  | succ n ih =>
    intro i g hI h h1 h2
    have q := ij_act fu (m := i + 1) hI (by omega) (by omega)
    exact ih q.1 (kb_act fu hI h (by omega) (by omega)) (by omega) (by rw [q.2.1]; omega)
theorem kb_rcvs (n : Nat) : ∀ {i : Int} {g : St}, IJ g → KB g → KB (sRcvs n i g) := by
  induction n with
  | zero => intro i g _ h; exact h
  | succ n ih =>
    intro i g hI h
    exact ih (ij_actR (r := i % 4) hI (by omega) (by omega)).1 (kb_actR hI h)
theorem kb_mom (fu : Nat) {g : St} (hI : IJ g) (h : KB g) : KB (sMom fu g) := by
  have hl := hI.1.2.1
  unfold IL at hl
  exact kb_rcvs 4 (ij_snds fu (g 1 0 0).toNat (i := 0) hI (by omega) (by omega)).1 (kb_snds fu (g 1 0 0).toNat (i := 0) hI h (by omega) (by omega))
theorem kb_now {g : St} (h : KB g) {u : Int} : KB (wr g 0 7 u) := kb_o h (fun t i q => wr_n (by omega))
theorem kb_pass (fu : Nat) {t : Int} (ht : t ≤ 4000000) (n : Nat) : ∀ {g : St} {u : Int}, IJ g → KB g → 0 ≤ u → KB (sPass fu n g u t) := by
  induction n with
  | zero => intro g u _ h _; exact h
  | succ n ih =>
    intro g u hI h h0
    by_cases q : u ≤ t
    · rw [sPass_p q]
      have j := ij_now hI h0 (by omega : u ≤ 4000000)
      have k := ij_mom fu j
      exact ih k.1 (kb_mom fu j (kb_now h)) (sNT_b k.1.1).1
    · rw [sPass_n q]; exact h
theorem kb_st1 {g : St} (hI : IJ g) (h : KB g) (h8 : g 0 8 0 < g 1 0 0) : KB (sSt1 g) := by
  have hx := hI.1.1
  unfold IX at hx
  have hj := hI.2.1 (g 0 8 0 + 1) (by omega) (by omega)
  unfold JS at hj
  have hj2 := hj.2 (by omega)
  obtain ⟨m, hm⟩ : ∃ x : Int, x = g 0 8 0 + 1 := ⟨_, rfl⟩
  rw [← hm] at hj2
  unfold sSt1
  rw [← hm]
  refine kb_o (g := sStart g m) ?_ (fun t i q => wr_n (by omega))
  by_cases q : 6000 ≤ g 1 1 0
  · rw [v_st0 q]; exact kb_es h
  · by_cases q1 : g 11 m 0 ≤ 7
    · rw [v_st1 q q1]
      exact kb_o (kb_da hI.1 h (by omega) (by omega) (by omega) (fun w => by omega)) (fun t i w => v_sr (by omega))
    · by_cases q2 : g 11 m 0 ≤ 4095
      · rw [v_st2 q q1 q2]
        exact kb_o (kb_da hI.1 h (by omega) (by omega) (by omega) (fun w => ⟨rfl, by omega, by omega⟩)) (fun t i w => v_aw (by omega))
      · rw [v_st3 q q1 q2]
        exact kb_o (kb_da hI.1 h (by omega) (by omega) (by omega) (fun w => ⟨rfl, by omega, by omega⟩)) (fun t i w => v_aw (by omega))
theorem kb_sts (n : Nat) : ∀ {g : St}, IJ g → KB g → g 0 8 0 + n = g 1 0 0 → KB (sSts n g) := by
  induction n with
  | zero => intro g _ h _; exact h
  | succ n ih =>
    intro g hI h h1
    have q := ij_st1 hI (by omega)
    exact ih q.1 (kb_st1 hI h (by omega)) (by rw [q.2.2.1, q.2.1.1]; omega)
theorem kb_tick {fu fp : Nat} {g : St} (hI : IJ g) (h : KB g) {t : Int} (ht : g 0 7 0 ≤ 3990000) : KB (sTick fu fp g t) := by
  have hx := hI.1.1
  unfold IX at hx
  unfold sTick
  split
  · exact h
  · have q := ij_sts (g 1 0 0 - g 0 8 0).toNat hI (by omega)
    exact kb_now (kb_pass fu (t := t) (by omega) fp q.1 (kb_sts _ hI h (by omega)) (sNT_b q.1.1).1)

