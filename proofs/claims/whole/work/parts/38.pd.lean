/-! no hour to wake at lies before u -/
def WU (g : St) (u : Int) : Prop := (∀ m : Int, 1 ≤ m → m ≤ g 1 0 0 → u ≤ g 18 m 0) ∧ ∀ r : Int, 0 ≤ r → r < 4 → u ≤ g 37 r 0 ∧ u ≤ g 38 r 0
def PD (g : St) : Prop := WU g (g 0 7 0)
def PS (g : St) : Prop := WU g (g 0 7 0 + 1)
theorem WU.le {g : St} {u v : Int} (h : WU g u) (q : v ≤ u) : WU g v := ⟨fun m a b => by have := h.1 m a b; omega, fun r a b => by have := h.2 r a b; omega⟩
theorem PS.d {g : St} (h : PS g) : PD g := WU.le h (by omega)
theorem wu_c {g g' : St} {u : Int} (hg : ∀ (t : Nat) (i : Int), t = 18 ∨ t = 37 ∨ t = 38 ∨ (t = 1 ∧ i = 0) → g' t i 0 = g t i 0) (h : WU g u) : WU g' u := by
  refine ⟨fun m a b => ?_, fun r a b => ?_⟩
  · rw [hg 1 0 (by omega)] at b
    rw [hg 18 m (by omega)]
    exact h.1 m a b
  · rw [hg 37 r (by omega), hg 38 r (by omega)]
    exact h.2 r a b
theorem wu_s {g g' : St} {u m : Int} (hg : ∀ (t : Nat) (i : Int), (t = 18 ∧ i ≠ m) ∨ t = 37 ∨ t = 38 ∨ (t = 1 ∧ i = 0) → g' t i 0 = g t i 0) (hs : u ≤ g' 18 m 0) (h : WU g u) : WU g' u := by
  refine ⟨fun m9 a b => ?_, fun r a b => ?_⟩
  · rw [hg 1 0 (by omega)] at b
    by_cases q : m9 = m
    · rw [q]; exact hs
    · rw [hg 18 m9 (by omega)]
      exact h.1 m9 a b
  · rw [hg 37 r (by omega), hg 38 r (by omega)]
    exact h.2 r a b
theorem wu_r {g g' : St} {u r : Int} (hg : ∀ (t : Nat) (i : Int), t = 18 ∨ ((t = 37 ∨ t = 38) ∧ i ≠ r) ∨ (t = 1 ∧ i = 0) → g' t i 0 = g t i 0) (hs : u ≤ g' 37 r 0 ∧ u ≤ g' 38 r 0) (h : WU g u) : WU g' u := by
  refine ⟨fun m9 a b => ?_, fun r9 a b => ?_⟩
  · rw [hg 1 0 (by omega)] at b
    rw [hg 18 m9 (by omega)]
    exact h.1 m9 a b
  · by_cases q : r9 = r
    · rw [q]; exact hs
    · rw [hg 37 r9 (by omega), hg 38 r9 (by omega)]
      exact h.2 r9 a b
/-! what a sender's step leaves -/
def Wk (g g' : St) (m : Int) : Prop := ∀ (t : Nat) (i : Int), (t = 18 ∧ i ≠ m) ∨ t = 37 ∨ t = 38 ∨ (t = 0 ∧ i = 7) ∨ (t = 1 ∧ i = 0) → g' t i 0 = g t i 0
theorem Wk.rf (g : St) (m : Int) : Wk g g m := fun _ _ _ => rfl
theorem Wk.tr {a b c : St} {m : Int} (h1 : Wk a b m) (h2 : Wk b c m) : Wk a c m := fun t i q => (h2 t i q).trans (h1 t i q)
theorem v_nx11 {g : St} {m : Int} (h : ¬ 6000 ≤ g 1 1 0) : sNext g m 1 1 0 = g 1 1 0 + 1 := by
  unfold sNext
  rw [if_neg h, v_n2 (by omega)]
  unfold sSeq
  rw [wr_n (by omega)]
  unfold sMkD
  rw [if_neg h]
  exact (v_daf g m 2 (g 14 m 0) 7).1.1
theorem w_es {g : St} (hx : IX g) {m w : Int} : Wk g (sEndS g m w) m ∧ g 0 7 0 < sEndS g m w 18 m 0 := by
  unfold IX at hx
  exact ⟨fun t i q => v_es (by omega), by rw [v_es18]; omega⟩
theorem w_a1 {g : St} (hI : IJ g) {m : Int} (h1 : 1 ≤ m) (h2 : m ≤ g 1 0 0) : Wk g (sA1 g m) m ∧ g 0 7 0 ≤ sA1 g m 18 m 0 ∧ (g 0 7 0 < sA1 g m 18 m 0 ∨ sA1 g m 1 1 0 = g 1 1 0 + 1) := by
  have hx := hI.1.1
  have hs := hI.1.2.2.1 m h1 h2
  unfold IS at hs
  have he := fun w : Int => w_es hx (m := m) (w := w)
  unfold IX at hx
  unfold sA1
  split
  · by_cases q : 6000 ≤ g 1 1 0
    · rw [v_nx0 q]
      have := he 7
      exact ⟨this.1, by omega, Or.inl this.2⟩
    · have k := (v_nxs (g := g) (m := m) q).2.2
      refine ⟨fun t i w => v_nx q (by omega), ?_, Or.inr (v_nx11 q)⟩
      omega
  · have := he 1
    exact ⟨this.1, by omega, Or.inl this.2⟩
theorem sAct_id (n : Nat) {g : St} {m : Int} (h : g 0 7 0 < g 18 m 0) : sAct n g m = g := by
  cases n with
  | zero => rfl
  | succ n => exact sAct_n (by omega)
theorem w_act {m : Int} (n : Nat) : ∀ {g : St}, IJ g → 1 ≤ m → m ≤ g 1 0 0 → 6000 - g 1 1 0 < n → Wk g (sAct n g m) m ∧ g 0 7 0 < sAct n g m 18 m 0 := by
  induction n with
  | zero =>
    intro g hI _ _ h
    have hl := hI.1.2.1
    unfold IL at hl
    omega
  | succ n ih =>
    intro g hI h1 h2 h3
    by_cases q : g 18 m 0 ≤ g 0 7 0
    · rw [sAct_p q]
      obtain ⟨a, b, d⟩ := w_a1 hI h1 h2
      have hj := ij_a1 hI h1 h2 q
      have e7 := a 0 7 (by omega)
      by_cases w : g 0 7 0 < sA1 g m 18 m 0
      · rw [sAct_id n (by omega)]
        exact ⟨a, w⟩
      · have k := ih hj h1 (by rw [a 1 0 (by omega)]; exact h2) (by omega)
        exact ⟨a.tr k.1, by omega⟩
    · rw [sAct_n q]
      exact ⟨Wk.rf g m, by omega⟩
theorem w_snds (fu : Nat) (hfu : 6000 < fu) (n : Nat) : ∀ {i : Int} {g : St}, IJ g → 0 ≤ i → i + n = g 1 0 0 → (∀ (t : Nat) (j : Int), (t = 18 ∧ j ≤ i) ∨ t = 37 ∨ t = 38 ∨ (t = 0 ∧ j = 7) ∨ (t = 1 ∧ j = 0) → sSnds fu n i g t j 0 = g t j 0) ∧ ∀ m : Int, i < m → m ≤ g 1 0 0 → g 0 7 0 < sSnds fu n i g 18 m 0 := by
  induction n with
  | zero => intro i g hI h1 h2; exact ⟨fun _ _ _ => rfl, fun m a b => by omega⟩
  | succ n ih =>
    intro i g hI h1 h2
    have hl := hI.1.2.1
    unfold IL at hl
    obtain ⟨a, b⟩ := w_act fu (m := i + 1) hI (by omega) (by omega) (by omega)
    have k := ij_act fu (m := i + 1) hI (by omega) (by omega)
    have e10 := a 1 0 (by omega)
    have e7 := a 0 7 (by omega)
    have w := ih (i := i + 1) k.1 (by omega) (by omega)
    rw [sSnds_s]
    refine ⟨fun t j q => (w.1 t j (by omega)).trans (a t j (by omega)), fun m q1 q2 => ?_⟩
    by_cases q : m = i + 1
    · rw [w.1 18 m (by omega), q]; exact b
    · have := w.2 m (by omega) (by omega)
      omega
/-! what a receiver's step leaves -/
def Wq (g g' : St) (r : Int) : Prop := ∀ (t : Nat) (i : Int), t = 18 ∨ ((t = 37 ∨ t = 38) ∧ i ≠ r) ∨ (t = 0 ∧ i = 7) ∨ (t = 1 ∧ i = 0) → g' t i 0 = g t i 0
theorem w_er {g : St} (hx : IX g) {r w : Int} : Wq g (sEndR g r w) r ∧ g 0 7 0 < sEndR g r w 37 r 0 ∧ g 0 7 0 < sEndR g r w 38 r 0 := by
  unfold IX at hx
  exact ⟨fun t i q => v_er (by omega), by rw [v_er37]; omega, by rw [v_er38]; omega⟩
theorem w_an {g : St} (hx : IX g) {r : Int} : Wq g (sAns g r) r ∧ g 0 7 0 < sAns g r 37 r 0 ∧ g 0 7 0 < sAns g r 38 r 0 := by
  by_cases q : 6000 ≤ g 1 1 0
  · rw [v_an0 q]; exact w_er hx
  · unfold IX at hx
    by_cases k2 : g 0 9 0 = 2
    · rw [v_an2 q k2]
      refine ⟨fun t i w => by rw [v_er (by omega)]; exact v_a0 q (by omega), ?_, ?_⟩
      · rw [v_er37]; omega
      · rw [v_er38]; omega
    · by_cases k1 : g 0 9 0 = 1
      · rw [v_an1 q k1]
        refine ⟨fun t i w => by rw [wr_n (by omega), wr_n (by omega)]; exact v_a0 q (by omega), ?_, ?_⟩
        · rw [wr_s]; omega
        · rw [wr_n (by omega), wr_s]; omega
      · rw [v_anz q k1 k2]
        refine ⟨fun t i w => by rw [wr_n (by omega), wr_n (by omega), wr_n (by omega), wr_n (by omega)]; exact v_a0 q (by omega), ?_, ?_⟩
        · rw [wr_n (by omega), wr_n (by omega), wr_s]; omega
        · rw [wr_n (by omega), wr_n (by omega), wr_n (by omega), wr_s]; omega
theorem w_actR {g : St} (hx : IX g) {r : Int} : Wq g (sActR g r) r ∧ g 0 7 0 < sActR g r 37 r 0 ∧ g 0 7 0 < sActR g r 38 r 0 := by
  unfold sActR
  by_cases q : g 37 r 0 ≤ g 0 7 0
  · simp only [if_pos q]
    have w := w_an hx (r := r)
    have e := w.1 0 7 (by omega)
    rw [if_neg (by omega)]
    exact w
  · simp only [if_neg q]
    by_cases k : g 38 r 0 ≤ g 0 7 0
    · rw [if_pos k]; exact w_er hx
    · rw [if_neg k]; exact ⟨fun _ _ _ => rfl, by omega, by omega⟩
theorem sRcvs_4 (g : St) : sRcvs 4 1 g = sActR (sActR (sActR (sActR g 1) 2) 3) 0 := rfl
theorem ps_mom {fu : Nat} (hfu : 6000 < fu) {g : St} (hI : IJ g) : PS (sMom fu g) ∧ sMom fu g 0 7 0 = g 0 7 0 := by
  have hl := hI.1.2.1
  unfold IL at hl
  have w := w_snds fu hfu (g 1 0 0).toNat (i := 0) hI (by omega) (by omega)
  have k := (ij_snds fu (g 1 0 0).toNat (i := 0) hI (by omega) (by omega)).1
  unfold sMom
  generalize sSnds fu (g 1 0 0).toNat 0 g = g1 at w k ⊢
  rw [sRcvs_4]
  obtain ⟨a1, b1, d1⟩ := w_actR k.1.1 (r := 1)
  have k1 := (ij_actR (r := 1) k (by omega) (by omega)).1
  generalize sActR g1 1 = g2 at a1 b1 d1 k1 ⊢
  obtain ⟨a2, b2, d2⟩ := w_actR k1.1.1 (r := 2)
  have k2 := (ij_actR (r := 2) k1 (by omega) (by omega)).1
  generalize sActR g2 2 = g3 at a2 b2 d2 k2 ⊢
  obtain ⟨a3, b3, d3⟩ := w_actR k2.1.1 (r := 3)
  have k3 := (ij_actR (r := 3) k2 (by omega) (by omega)).1
  generalize sActR g3 3 = g4 at a3 b3 d3 k3 ⊢
  obtain ⟨a4, b4, d4⟩ := w_actR k3.1.1 (r := 0)
  generalize sActR g4 0 = g5 at a4 b4 d4 ⊢
  have e7 := w.1 0 7 (by omega)
  have e71 := a1 0 7 (by omega)
  have e72 := a2 0 7 (by omega)
  have e73 := a3 0 7 (by omega)
  have e74 := a4 0 7 (by omega)
  have e10 := w.1 1 0 (by omega)
  refine ⟨⟨fun m q1 q2 => ?_, fun r q1 q2 => ?_⟩, by omega⟩
  · rw [a4 1 0 (by omega), a3 1 0 (by omega), a2 1 0 (by omega), a1 1 0 (by omega)] at q2
    rw [a4 18 m (by omega), a3 18 m (by omega), a2 18 m (by omega), a1 18 m (by omega)]
    have := w.2 m (by omega) (by omega)
    omega
  · obtain rfl | rfl | rfl | rfl : r = 0 ∨ r = 1 ∨ r = 2 ∨ r = 3 := by omega
    · omega
    · rw [a4 37 1 (by omega), a4 38 1 (by omega), a3 37 1 (by omega), a3 38 1 (by omega), a2 37 1 (by omega), a2 38 1 (by omega)]
      omega
    · rw [a4 37 2 (by omega), a4 38 2 (by omega), a3 37 2 (by omega), a3 38 2 (by omega)]
      omega
    · rw [a4 37 3 (by omega), a4 38 3 (by omega)]
      omega
/-! nothing is due: nothing is done -/
theorem snds_id (fu n : Nat) : ∀ {i : Int} {g : St}, (∀ m : Int, i < m → m ≤ i + n → g 0 7 0 < g 18 m 0) → sSnds fu n i g = g := by
  induction n with
  | zero => intro i g _; rfl
  | succ n ih =>
    intro i g h
    rw [sSnds_s, sAct_id fu (h (i + 1) (by omega) (by omega))]
    exact ih (fun m a b => h m (by omega) (by omega))
theorem actR_id {g : St} {r : Int} (h1 : g 0 7 0 < g 37 r 0) (h2 : g 0 7 0 < g 38 r 0) : sActR g r = g := by
  unfold sActR
  simp only [if_neg (show ¬ g 37 r 0 ≤ g 0 7 0 by omega), if_neg (show ¬ g 38 r 0 ≤ g 0 7 0 by omega)]
theorem mom_id {fu : Nat} {g : St} (hl : IL g) (h : PS g) : sMom fu g = g := by
  unfold IL at hl
  obtain ⟨a, b⟩ := h
  unfold sMom
  rw [snds_id fu _ (fun m q1 q2 => by have := a m (by omega) (by omega); omega), sRcvs_4]
  have b0 := b 0 (by omega) (by omega)
  have b1 := b 1 (by omega) (by omega)
  have b2 := b 2 (by omega) (by omega)
  have b3 := b 3 (by omega) (by omega)
  rw [actR_id (r := 1) (by omega) (by omega), actR_id (r := 2) (by omega) (by omega), actR_id (r := 3) (by omega) (by omega), actR_id (r := 0) (by omega) (by omega)]
/-! the next hour to wake at -/
theorem nTs_le {g : St} (n : Nat) : ∀ {i a : Int}, nTs n i g a ≤ a ∧ ∀ m : Int, i < m → m ≤ i + n → nTs n i g a ≤ g 18 m 0 := by
  induction n with
  | zero => intro i a; exact ⟨Int.le_refl _, fun m q1 q2 => by omega⟩
  | succ n ih =>
    intro i a
    have k := ih (i := i + 1) (a := min a (g 18 (i + 1) 0))
    unfold nTs
    refine ⟨by omega, fun m q1 q2 => ?_⟩
    by_cases q : m = i + 1
    · rw [q]; omega
    · exact k.2 m (by omega) (by omega)
theorem nTs_ge {g : St} {u : Int} (n : Nat) : ∀ {i a : Int}, u ≤ a → (∀ m : Int, i < m → m ≤ i + n → u ≤ g 18 m 0) → u ≤ nTs n i g a := by
  induction n with
  | zero => intro i a h _; exact h
  | succ n ih =>
    intro i a h k
    have := k (i + 1) (by omega) (by omega)
    unfold nTs
    exact ih (by omega) (fun m q1 q2 => k m (by omega) (by omega))
theorem nTs_c {g g' : St} (hg : ∀ m : Int, g' 18 m 0 = g 18 m 0) (n : Nat) : ∀ {i a : Int}, nTs n i g' a = nTs n i g a := by
  induction n with
  | zero => intro i a; rfl
  | succ n ih =>
    intro i a
    unfold nTs
    rw [hg]
    exact ih
theorem nt_le {g : St} (hl : IL g) : WU g (sNT g) := by
  unfold IL at hl
  have k := nTs_le (g := g) (g 1 0 0).toNat (i := 0) (a := 9223372036854775807)
  unfold sNT
  generalize nTs (g 1 0 0).toNat 0 g 9223372036854775807 = a at k ⊢
  refine ⟨fun m q1 q2 => ?_, fun r q1 q2 => ?_⟩
  · have := k.2 m (by omega) (by omega)
    unfold nTr nTr nTr nTr nTr
    omega
  · unfold nTr nTr nTr nTr nTr
    obtain rfl | rfl | rfl | rfl : r = 0 ∨ r = 1 ∨ r = 2 ∨ r = 3 := by omega
    all_goals
      simp only [Int.zero_add, show (1 : Int) + 1 = 2 from rfl, show (2 : Int) + 1 = 3 from rfl]
      omega
theorem nt_ge {g : St} (hl : IL g) {u : Int} (hu : u ≤ 9223372036854775807) (h : WU g u) : u ≤ sNT g := by
  unfold IL at hl
  have k := nTs_ge (g := g) (u := u) (g 1 0 0).toNat (i := 0) hu (fun m q1 q2 => h.1 m (by omega) (by omega))
  have b0 := h.2 0 (by omega) (by omega)
  have b1 := h.2 1 (by omega) (by omega)
  have b2 := h.2 2 (by omega) (by omega)
  have b3 := h.2 3 (by omega) (by omega)
  unfold sNT nTr nTr nTr nTr nTr
  simp only [Int.zero_add, show (1 : Int) + 1 = 2 from rfl, show (2 : Int) + 1 = 3 from rfl]
  omega
/-! hour after hour -/
theorem wr_ww (g : St) (t : Nat) (i a b : Int) : wr (wr g t i a) t i b = wr g t i b := by
  funext t' i' j'
  by_cases q : t' = t ∧ i' = i ∧ j' = 0
  · obtain ⟨rfl, rfl, rfl⟩ := q
    rw [wr_s, wr_s]
  · rw [wr_n q, wr_n q, wr_n q]
theorem wr_id {g : St} {t : Nat} {i v : Int} (h : v = g t i 0) : wr g t i v = g := by
  funext t' i' j'
  by_cases q : t' = t ∧ i' = i ∧ j' = 0
  · obtain ⟨rfl, rfl, rfl⟩ := q
    rw [wr_s, h]
  · rw [wr_n q]
def dL (fu : Nat) : Nat → St → St
  | 0, g => g
  | n + 1, g => dL fu n (sMom fu (wr g 0 7 (g 0 7 0 + 1)))
theorem dL_0 (fu : Nat) (g : St) : dL fu 0 g = g := rfl
theorem dL_s (fu n : Nat) (g : St) : dL fu (n + 1) g = dL fu n (sMom fu (wr g 0 7 (g 0 7 0 + 1))) := rfl
theorem il_now {g : St} (h : IL g) {v : Int} : IL (wr g 0 7 v) := by
  unfold IL at h ⊢
  rw [wr_n (by omega), wr_n (by omega), wr_n (by omega), wr_n (by omega)]
  exact h
theorem wu_now {g : St} {u v : Int} (h : WU g u) : WU (wr g 0 7 v) u := wu_c (fun t i q => wr_n (by omega)) h
theorem dL_skip {fu : Nat} {u : Int} (k : Nat) : ∀ {g : St} {j : Nat}, IL g → WU g u → g 0 7 0 + k < u → dL fu (k + j) g = dL fu j (wr g 0 7 (g 0 7 0 + k)) := by
  induction k with
  | zero =>
    intro g j _ _ _
    rw [wr_id (by simp), Nat.zero_add]
  | succ k ih =>
    intro g j hl hw h
    have e : wr g 0 7 (g 0 7 0 + 1) 0 7 0 = g 0 7 0 + 1 := wr_s _ _ _ _
    rw [show k + 1 + j = (k + j) + 1 by omega, dL_s, mom_id (il_now hl) (by unfold PS; rw [e]; exact (wu_now hw).le (by omega)), ih (il_now hl) (wu_now hw) (by rw [e]; omega), e, wr_ww]
    congr 2
    omega
theorem dl_pass {fu : Nat} (hfu : 6000 < fu) {t : Int} (ht : t ≤ 4000000) (fp : Nat) : ∀ {g : St}, IJ g → PS g → g 0 7 0 ≤ t → t - g 0 7 0 ≤ fp → wr (sPass fu fp g (sNT g) t) 0 7 t = dL fu (t - g 0 7 0).toNat g := by
  induction fp with
  | zero =>
    intro g _ _ h1 h2
    rw [sPass_0, wr_id (by omega), show (t - g 0 7 0).toNat = 0 by omega, dL_0]
  | succ fp ih =>
    intro g hI hs h1 h2
    have hx := hI.1.1
    unfold IX at hx
    have hge : g 0 7 0 + 1 ≤ sNT g := nt_ge hI.1.2.1 (by omega) hs
    have hle := nt_le hI.1.2.1
    by_cases q : sNT g ≤ t
    · rw [sPass_p q]
      obtain ⟨u, hu⟩ : ∃ x : Int, x = sNT g := ⟨_, rfl⟩
      rw [← hu] at hge hle q ⊢
      have hj := ij_now hI (u := u) (by omega) (by omega)
      have e : wr g 0 7 u 0 7 0 = u := wr_s _ _ _ _
      have hm := ps_mom hfu hj
      have k := ih (ij_mom fu hj).1 hm.1 (by rw [hm.2, e]; exact q) (by rw [hm.2, e]; omega)
      rw [k, hm.2, e, show (t - g 0 7 0).toNat = (u - 1 - g 0 7 0).toNat + ((t - u).toNat + 1) by omega, dL_skip (u := u) _ hI.1.2.1 hle (by omega), dL_s, wr_s, wr_ww]
      congr 3
      omega
    · rw [sPass_n q, show (t - g 0 7 0).toNat = (t - g 0 7 0).toNat + 0 by omega, dL_skip (u := sNT g) _ hI.1.2.1 hle (by omega), dL_0]
      congr 1
      omega
theorem dl_tick {fu fp : Nat} (hfu : 6000 < fu) {t : Int} (ht : t ≤ 4000000) {g : St} (hI : IJ g) (hd : PD g) (h1 : g 0 7 0 ≤ t) (h2 : t - g 0 7 0 < fp) : wr (sPass fu fp g (sNT g) t) 0 7 t = dL fu (t - g 0 7 0).toNat (sMom fu g) := by
  have hx := hI.1.1
  unfold IX at hx
  have hge : g 0 7 0 ≤ sNT g := nt_ge hI.1.2.1 (by omega) hd
  have hle := nt_le hI.1.2.1
  by_cases q : sNT g = g 0 7 0
  · cases fp with
    | zero => omega
    | succ fp =>
      rw [sPass_p (by omega), wr_id q]
      have hm := ps_mom hfu hI
      have k := dl_pass hfu ht fp (ij_mom fu hI).1 hm.1 (by omega) (by omega)
      rw [k, hm.2]
  · have hs : PS g := hle.le (by omega)
    rw [mom_id hI.1.2.1 hs]
    exact dl_pass hfu ht fp hI hs h1 (by omega)
theorem ps_dl {fu : Nat} (hfu : 6000 < fu) (n : Nat) : ∀ {g : St}, IJ g → PS g → g 0 7 0 + n ≤ 4000000 → PS (dL fu n g) ∧ IJ (dL fu n g) := by
  induction n with
  | zero => intro g hI h _; exact ⟨h, hI⟩
  | succ n ih =>
    intro g hI h h1
    have hx := hI.1.1
    unfold IX at hx
    have hj := ij_now hI (u := g 0 7 0 + 1) (by omega) (by omega)
    have hm := ps_mom hfu hj
    rw [dL_s]
    exact ih (ij_mom fu hj).1 hm.1 (by rw [hm.2, wr_s]; omega)
/-! the start of messages -/
theorem pd_st1 {g : St} (hI : IJ g) (h : PD g) (h8 : g 0 8 0 < g 1 0 0) : PD (sSt1 g) := by
  have hx := hI.1.1
  unfold IX at hx
  obtain ⟨m, hm⟩ : ∃ x : Int, x = g 0 8 0 + 1 := ⟨_, rfl⟩
  have q7 : sSt1 g 0 7 0 = g 0 7 0 := (ij_st1 hI h8).2.2.2
  unfold PD
  rw [q7]
  unfold sSt1
  rw [← hm]
  refine wu_c (g := sStart g m) (fun t i q => wr_n (by omega)) (wu_s (m := m) (fun t i q => v_st (by omega)) ?_ h)
  by_cases q : 6000 ≤ g 1 1 0
  · rw [v_st0 q, v_es18]; omega
  · by_cases q1 : g 11 m 0 ≤ 7
    · rw [v_st1 q q1]; unfold sRest; rw [wr_s]; omega
    · have e : ∀ mo : Int, sAwait (sData g m 1 (g 11 m 0) mo) m 18 m 0 = g 0 7 0 + 1000 := fun mo => by
        unfold sAwait
        rw [wr_s, v_da (by omega)]
      by_cases q2 : g 11 m 0 ≤ 4095
      · rw [v_st2 q q1 q2, e]; omega
      · rw [v_st3 q q1 q2, e]; omega
theorem pd_sts (n : Nat) : ∀ {g : St}, IJ g → PD g → g 0 8 0 + n = g 1 0 0 → PD (sSts n g) := by
  induction n with
  | zero => intro g _ h _; exact h
  | succ n ih =>
    intro g hI h h1
    have q := ij_st1 hI (by omega)
    exact ih q.1 (pd_st1 hI h (by omega)) (by rw [q.2.2.1, q.2.1.1]; omega)
/-! a tick, hour after hour -/
theorem tick_dl {fu fp : Nat} (hfu : 6000 < fu) (hfp : 5000 < fp) {g : St} (hI : IJ g) (hd : PD g) {t : Int} (hn : g 0 7 0 ≤ 3990000) (h1 : ¬ (t < g 0 7 0 ∨ 5000 < t - g 0 7 0)) : sTick fu fp g t = dL fu (t - g 0 7 0).toNat (sMom fu (sSts (g 1 0 0 - g 0 8 0).toNat g)) ∧ PS (sTick fu fp g t) := by
  have hx := hI.1.1
  unfold IX at hx
  have q := ij_sts (g 1 0 0 - g 0 8 0).toNat hI (by omega)
  have p := pd_sts (g 1 0 0 - g 0 8 0).toNat hI hd (by omega)
  have e : sTick fu fp g t = dL fu (t - g 0 7 0).toNat (sMom fu (sSts (g 1 0 0 - g 0 8 0).toNat g)) := by
    unfold sTick
    rw [if_neg h1, ← q.2.2]
    rw [← q.2.2] at h1 hn
    exact dl_tick hfu (by omega) q.1 p (by omega) (by omega)
  have hm := ps_mom hfu q.1
  refine ⟨e, ?_⟩
  rw [e]
  exact (ps_dl hfu _ (ij_mom fu q.1).1 hm.1 (by rw [hm.2, q.2.2]; omega)).1
theorem pd_tick {fu fp : Nat} (hfu : 6000 < fu) (hfp : 5000 < fp) {g : St} (hI : IJ g) (hd : PD g) {t : Int} (hn : g 0 7 0 ≤ 3990000) : PD (sTick fu fp g t) := by
  by_cases h1 : t < g 0 7 0 ∨ 5000 < t - g 0 7 0
  · unfold sTick; rw [if_pos h1]; exact hd
  · exact (tick_dl hfu hfp hI hd hn h1).2.d

