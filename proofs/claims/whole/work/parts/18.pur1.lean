/-! more of a state that goes with every run; JB: between calls and at every moment of a tick -/
def JS (g : St) (m : Int) : Prop := ((g 12 m 0 = 1 ∨ g 12 m 0 = 2) → g 13 m 0 < g 11 m 0 ∧ g 15 m 0 ≤ 100) ∧ (g 0 8 0 < m → g 12 m 0 = 0 ∧ g 13 m 0 = 0 ∧ g 15 m 0 = 0 ∧ g 18 m 0 = 9223372036854775807)
def JR (g : St) (r : Int) : Prop := (g 37 r 0 < 9223372036854775807 → 1 ≤ g 31 r 0) ∧ (g 30 r 0 = 1 → 1 ≤ g 31 r 0 ∧ g 36 r 0 ≤ g 33 r 0)
def JB (g : St) : Prop := (∀ m : Int, 1 ≤ m → m ≤ g 1 0 0 → JS g m) ∧ (∀ r : Int, 0 ≤ r → r < 4 → JR g r)
theorem JS_c {g g' : St} {m : Int} (hg : ∀ (t : Nat) (i : Int), (11 ≤ t ∧ t ≤ 18 ∧ i = m) ∨ (t = 0 ∧ i = 8) → g' t i 0 = g t i 0) (h : JS g m) : JS g' m := by
  unfold JS at h ⊢
  rw [hg 12 m (by omega), hg 13 m (by omega), hg 11 m (by omega), hg 15 m (by omega), hg 18 m (by omega), hg 0 8 (by omega)]
  exact h
theorem JR_c {g g' : St} {r : Int} (hg : ∀ (t : Nat) (i : Int), (30 ≤ t ∧ t ≤ 38 ∧ i = r) → g' t i 0 = g t i 0) (h : JR g r) : JR g' r := by
  unfold JR at h ⊢
  rw [hg 37 r (by omega), hg 31 r (by omega), hg 30 r (by omega), hg 36 r (by omega), hg 33 r (by omega)]
  exact h
theorem jb_s {g g' : St} (h : JB g) {m : Int} (hg : ∀ (t : Nat) (i : Int), (11 ≤ t ∧ t ≤ 18 ∧ i ≠ m) ∨ (30 ≤ t ∧ t ≤ 38) ∨ (t = 0 ∧ i = 8) ∨ (t = 1 ∧ i = 0) → g' t i 0 = g t i 0) (hs : JS g' m) : JB g' := by
  refine ⟨fun m9 q1 q2 => ?_, fun r9 q1 q2 => JR_c (fun t i w => hg t i (by omega)) (h.2 r9 q1 q2)⟩
  rw [hg 1 0 (by omega)] at q2
  by_cases q : m9 = m
  · subst q; exact hs
  · exact JS_c (fun t i w => hg t i (by omega)) (h.1 m9 q1 q2)
theorem jb_r {g g' : St} (h : JB g) {r : Int} (hg : ∀ (t : Nat) (i : Int), (30 ≤ t ∧ t ≤ 38 ∧ i ≠ r) ∨ (11 ≤ t ∧ t ≤ 18) ∨ (t = 0 ∧ i = 8) ∨ (t = 1 ∧ i = 0) → g' t i 0 = g t i 0) (hs : JR g' r) : JB g' := by
  refine ⟨fun m9 q1 q2 => ?_, fun r9 q1 q2 => ?_⟩
  · rw [hg 1 0 (by omega)] at q2
    exact JS_c (fun t i w => hg t i (by omega)) (h.1 m9 q1 q2)
  · by_cases q : r9 = r
    · subst q; exact hs
    · exact JR_c (fun t i w => hg t i (by omega)) (h.2 r9 q1 q2)
theorem jb_o {g g' : St} (h : JB g) (hg : ∀ (t : Nat) (i : Int), (30 ≤ t ∧ t ≤ 38) ∨ (11 ≤ t ∧ t ≤ 18) ∨ (t = 0 ∧ i = 8) ∨ (t = 1 ∧ i = 0) → g' t i 0 = g t i 0) : JB g' := by
  refine ⟨fun m9 q1 q2 => ?_, fun r9 q1 q2 => JR_c (fun t i w => hg t i (by omega)) (h.2 r9 q1 q2)⟩
  rw [hg 1 0 (by omega)] at q2
  exact JS_c (fun t i w => hg t i (by omega)) (h.1 m9 q1 q2)
/-! Mo: what a step within one moment leaves as it is -/
def Mo (g g' : St) : Prop := g' 1 0 0 = g 1 0 0 ∧ g' 0 7 0 = g 0 7 0 ∧ g' 0 8 0 = g 0 8 0 ∧ g 1 1 0 ≤ g' 1 1 0 ∧ g 4 1 0 ≤ g' 4 1 0
theorem Mo.rf (g : St) : Mo g g := ⟨rfl, rfl, rfl, Int.le_refl _, Int.le_refl _⟩
theorem Mo.tr {a b c : St} (h1 : Mo a b) (h2 : Mo b c) : Mo a c := by
  unfold Mo at *
  omega
theorem mo_kC {g g' : St} (h : Mo g g') : kC g ≤ kC g' := by
  unfold Mo at h
  unfold kC
  omega
theorem mo_kS {g g' : St} (h : Mo g g') : kS g ≤ kS g' := by
  unfold Mo at h
  unfold kS
  omega
def IJ (g : St) : Prop := IB g ∧ JB g
/-! what each does to which tables -/
theorem v_es {g : St} {m w : Int} {t : Nat} {i j : Int} (h : ¬ ((t = 12 ∨ t = 18) ∧ i = m) ∧ t ≠ 2 ∧ ¬ (t = 0 ∧ i = 5)) : sEndS g m w t i j = g t i j := by
  unfold sEndS sCnt sEnds sRest
  rw [wr_n (by omega), wr_n (by omega), wr_n (by omega), wr_n (by omega)]
theorem v_es12 (g : St) (m w : Int) : sEndS g m w 12 m 0 = 4 := by simp [sEndS, sCnt, sEnds, sRest, wr]
theorem v_es18 (g : St) (m w : Int) : sEndS g m w 18 m 0 = 9223372036854775807 := by simp [sEndS, sCnt, sEnds, sRest, wr]
theorem v_er {g : St} {r w : Int} {t : Nat} {i j : Int} (h : ¬ ((t = 30 ∨ t = 32 ∨ t = 33 ∨ t = 37 ∨ t = 38) ∧ i = r) ∧ t ≠ 2 ∧ ¬ (t = 0 ∧ i = 5)) : sEndR g r w t i j = g t i j := by
  unfold sEndR sCnt sEnds rRest
  rw [wr_n (by omega), wr_n (by omega), wr_n (by omega), wr_n (by omega), wr_n (by omega)]
theorem v_er30 (g : St) (r w : Int) : sEndR g r w 30 r 0 = 3 := by simp [sEndR, sCnt, sEnds, rRest, wr]
theorem v_er37 (g : St) (r w : Int) : sEndR g r w 37 r 0 = 9223372036854775807 := by simp [sEndR, sCnt, sEnds, rRest, wr]
theorem v_er38 (g : St) (r w : Int) : sEndR g r w 38 r 0 = 9223372036854775807 := by simp [sEndR, sCnt, sEnds, rRest, wr]
theorem v_fr {g : St} {kd mg nu sz sp ln : Int} {F : Int → Int} {t : Nat} {i j : Int} (h : ¬ ((t = 1 ∨ t = 3 ∨ t = 4) ∧ i = 1) ∧ ¬ (20 ≤ t ∧ t ≤ 28)) : sFrame g kd mg nu sz sp ln F t i j = g t i j := by
  unfold sFrame lGrow
  rw [wR_n (by omega)]
  repeat rw [wr_n (by omega)]
theorem mo_fr {g : St} (h : IL g) {kd mg nu sz sp ln : Int} {F : Int → Int} : Mo g (sFrame g kd mg nu sz sp ln F) := by
  have hL := h
  unfold IL at hL
  have e : sFrame g kd mg nu sz sp ln F 1 1 0 = g 1 1 0 + 1 := by simp [sFrame, lGrow, wr, wR]
  have e4 : sFrame g kd mg nu sz sp ln F 4 1 0 = (if g 1 1 0 < g 4 1 0 then g 4 1 0 else lcap (g 4 1 0)) := by simp [sFrame, lGrow, wr, wR]
  have hl := lc_pos (cap := g 4 1 0) (by omega)
  refine ⟨v_fr (by omega), v_fr (by omega), v_fr (by omega), by omega, ?_⟩
  rw [e4]
  split <;> omega
theorem v_da {g : St} {m kd nu mo : Int} {t : Nat} {i j : Int} (h : ¬ ((t = 1 ∨ t = 3 ∨ t = 4) ∧ i = 1) ∧ ¬ (20 ≤ t ∧ t ≤ 28) ∧ ¬ (t = 13 ∧ i = m)) : sData g m kd nu mo t i j = g t i j := by
  unfold sData
  rw [wr_n (by omega)]
  exact v_fr (by omega)
theorem v_da13 (g : St) (m kd nu mo : Int) : sData g m kd nu mo 13 m 0 = min (g 13 m 0 + mo) (g 11 m 0) := wr_s _ _ _ _
theorem mo_da {g : St} (h : IB g) {m kd nu mo : Int} : Mo g (sData g m kd nu mo) := by
  have q := mo_fr h.2.1 (kd := kd) (mg := m) (nu := nu) (sz := sTo g m mo - g 13 m 0) (sp := 0) (ln := sTo g m mo - g 13 m 0) (F := slF (g 19 m) (g 13 m 0) (sTo g m mo - g 13 m 0))
  exact q
theorem mo_es {g : St} {m w : Int} : Mo g (sEndS g m w) := ⟨v_es (by omega), v_es (by omega), v_es (by omega), by rw [v_es (by omega)]; exact Int.le_refl _, by rw [v_es (by omega)]; exact Int.le_refl _⟩
theorem mo_er {g : St} {r w : Int} : Mo g (sEndR g r w) := ⟨v_er (by omega), v_er (by omega), v_er (by omega), by rw [v_er (by omega)]; exact Int.le_refl _, by rw [v_er (by omega)]; exact Int.le_refl _⟩
theorem jb_es {g : St} (h : JB g) {m w : Int} (h1 : 1 ≤ m) (h2 : m ≤ g 1 0 0) (h3 : m ≤ g 0 8 0) : JB (sEndS g m w) := by
  refine jb_s (m := m) h (fun t i w => v_es (by omega)) ?_
  unfold JS
  rw [v_es12, v_es (t := 0) (by omega)]
  exact ⟨fun q => by omega, fun q => by omega⟩
theorem jb_er {g : St} (h : JB g) {r w : Int} : JB (sEndR g r w) := by
  refine jb_r (r := r) h (fun t i w => v_er (by omega)) ?_
  unfold JR
  rw [v_er30, v_er37]
  refine ⟨fun q => by omega, fun q => by omega⟩
theorem v_n2 {g : St} {m : Int} {t : Nat} {i j : Int} (h : ¬ ((t = 12 ∨ t = 16 ∨ t = 18) ∧ i = m)) : sNext2 g m t i j = g t i j := by
  unfold sNext2 sRest sAwait
  split
  · rw [wr_n (by omega), wr_n (by omega)]
  · split
    · rw [wr_n (by omega), wr_n (by omega)]
    · rw [wr_n (by omega), wr_n (by omega)]
theorem v_n2s (g : St) (m : Int) : (g 11 m 0 ≤ g 13 m 0 ∧ sNext2 g m 12 m 0 = 3 ∧ sNext2 g m 16 m 0 = g 16 m 0 ∧ sNext2 g m 18 m 0 = 9223372036854775807) ∨ (g 13 m 0 < g 11 m 0 ∧ g 16 m 0 = 1 ∧ sNext2 g m 12 m 0 = 1 ∧ sNext2 g m 16 m 0 = g 16 m 0 ∧ sNext2 g m 18 m 0 = g 0 7 0 + 1000) ∨ (g 13 m 0 < g 11 m 0 ∧ g 16 m 0 ≠ 1 ∧ sNext2 g m 12 m 0 = g 12 m 0 ∧ sNext2 g m 16 m 0 = max 0 (g 16 m 0 - 1) ∧ sNext2 g m 18 m 0 = g 0 7 0 + g 17 m 0) := by
  unfold sNext2
  by_cases c1 : g 11 m 0 ≤ g 13 m 0
  · refine Or.inl ?_
    rw [if_pos c1]
    simp [sRest, wr, c1]
  · rw [if_neg c1]
    by_cases c2 : g 16 m 0 = 1
    · refine Or.inr (Or.inl ?_)
      rw [if_pos c2]
      simp [sAwait, wr, c2]
      omega
    · refine Or.inr (Or.inr ?_)
      rw [if_neg c2]
      simp [wr, c2]
      omega
/-! sendNext, said once: either the frames are full and the sender is ended, or .. -/
theorem v_nx {g : St} {m : Int} (h : ¬ 6000 ≤ g 1 1 0) {t : Nat} {i j : Int} (hh : ¬ ((t = 1 ∨ t = 3 ∨ t = 4) ∧ i = 1) ∧ ¬ (20 ≤ t ∧ t ≤ 28) ∧ ¬ ((t = 12 ∨ t = 13 ∨ t = 14 ∨ t = 16 ∨ t = 18) ∧ i = m)) : sNext g m t i j = g t i j := by
  unfold sNext
  rw [if_neg h, v_n2 (by omega)]
  unfold sSeq
  rw [wr_n (by omega)]
  unfold sMkD
  rw [if_neg h]
  exact v_da (by omega)
theorem v_nxs {g : St} {m : Int} (h : ¬ 6000 ≤ g 1 1 0) : sNext g m 13 m 0 = min (g 13 m 0 + 7) (g 11 m 0) ∧ sNext g m 14 m 0 = (g 14 m 0 + 1) % 16 ∧ ((g 11 m 0 ≤ min (g 13 m 0 + 7) (g 11 m 0) ∧ sNext g m 12 m 0 = 3 ∧ sNext g m 16 m 0 = g 16 m 0 ∧ sNext g m 18 m 0 = 9223372036854775807) ∨ (min (g 13 m 0 + 7) (g 11 m 0) < g 11 m 0 ∧ g 16 m 0 = 1 ∧ sNext g m 12 m 0 = 1 ∧ sNext g m 16 m 0 = g 16 m 0 ∧ sNext g m 18 m 0 = g 0 7 0 + 1000) ∨ (min (g 13 m 0 + 7) (g 11 m 0) < g 11 m 0 ∧ g 16 m 0 ≠ 1 ∧ sNext g m 12 m 0 = g 12 m 0 ∧ sNext g m 16 m 0 = max 0 (g 16 m 0 - 1) ∧ sNext g m 18 m 0 = g 0 7 0 + g 17 m 0)) := by
  have e : sNext g m = sNext2 (sSeq (sData g m 2 (g 14 m 0) 7) m) m := by
    unfold sNext
    rw [if_neg h]
    unfold sMkD
    rw [if_neg h]
  have q := v_n2s (sSeq (sData g m 2 (g 14 m 0) 7) m) m
  have ev : ∀ (t : Nat) (i : Int), ¬ ((t = 1 ∨ t = 3 ∨ t = 4) ∧ i = 1) ∧ ¬ (20 ≤ t ∧ t ≤ 28) ∧ ¬ (t = 13 ∧ i = m) ∧ t ≠ 14 → sSeq (sData g m 2 (g 14 m 0) 7) m t i 0 = g t i 0 := fun t i w => by
    unfold sSeq
    rw [wr_n (by omega)]
    exact v_da (by omega)
  have e13 : sSeq (sData g m 2 (g 14 m 0) 7) m 13 m 0 = min (g 13 m 0 + 7) (g 11 m 0) := by
    unfold sSeq
    rw [wr_n (by omega)]
    exact v_da13 _ _ _ _ _
  have e14 : sSeq (sData g m 2 (g 14 m 0) 7) m 14 m 0 = (g 14 m 0 + 1) % 16 := by
    unfold sSeq
    rw [wr_s, v_da (by omega)]
  rw [e13, ev 11 m (by omega), ev 16 m (by omega), ev 12 m (by omega), ev 0 7 (by omega), ev 17 m (by omega), ← e] at q
  refine ⟨?_, ?_, q⟩
  · rw [e, v_n2 (by omega), e13]
  · rw [e, v_n2 (by omega), e14]
theorem v_nx0 {g : St} {m : Int} (h : 6000 ≤ g 1 1 0) : sNext g m = sEndS g m 7 := by
  unfold sNext
  rw [if_pos h]
  unfold sMkD
  rw [if_pos h]
theorem mo_nx {g : St} (hI : IB g) {m : Int} : Mo g (sNext g m) := by
  by_cases h : 6000 ≤ g 1 1 0
  · rw [v_nx0 h]; exact mo_es
  · have e : ∀ (t : Nat) (i : Int), t < 5 → sNext g m t i 0 = sData g m 2 (g 14 m 0) 7 t i 0 := fun t i ht => by
      unfold sNext
      rw [if_neg h, v_n2 (by omega)]
      unfold sSeq
      rw [wr_n (by omega)]
      unfold sMkD
      rw [if_neg h]
    have q := mo_da hI (m := m) (kd := 2) (nu := g 14 m 0) (mo := 7)
    unfold Mo at q ⊢
    rw [e 1 0 (by omega), e 0 7 (by omega), e 0 8 (by omega), e 1 1 (by omega), e 4 1 (by omega)]
    exact q
theorem ij_nx {g : St} (hI : IJ g) {m : Int} (h1 : 1 ≤ m) (h2 : m ≤ g 1 0 0) (h3 : g 12 m 0 = 2) : IJ (sNext g m) := by
  have hj := hI.2.1 m h1 h2
  have hs := hI.1.2.2.1 m h1 h2
  unfold JS at hj
  unfold IS at hs
  refine ⟨ib_next hI.1 h1 h2 (hj.1 (Or.inr h3)).1, ?_⟩
  by_cases h : 6000 ≤ g 1 1 0
  · rw [v_nx0 h]; exact jb_es hI.2 h1 h2 (by omega)
  · refine jb_s (m := m) hI.2 (fun t i w => v_nx h (by omega)) ?_
    obtain ⟨q13, q14, q⟩ := v_nxs (m := m) h
    unfold JS
    rw [q13, v_nx h (t := 11) (by omega), v_nx h (t := 15) (by omega), v_nx h (t := 0) (by omega)]
    have hj1 := hj.1 (Or.inr h3)
    have hj2 := hj.2
    exact ⟨fun w => by omega, fun w => by omega⟩
def sA1 (g : St) (m : Int) : St := if g 12 m 0 = 2 then sNext g m else sEndS g m 1
def sAct : Nat → St → Int → St
  | 0, g, _ => g
  | n + 1, g, m => if g 18 m 0 ≤ g 0 7 0 then sAct n (sA1 g m) m else g
theorem j_st {g : St} (hI : IJ g) {m : Int} (h1 : 1 ≤ m) (h2 : m ≤ g 1 0 0) (h3 : g 18 m 0 ≤ g 0 7 0) : m ≤ g 0 8 0 := by
  have hj := (hI.2.1 m h1 h2).2
  have hx := hI.1.1
  unfold IX at hx
  omega
theorem mo_a1 {g : St} (hI : IJ g) {m : Int} : Mo g (sA1 g m) := by
  unfold sA1
  split
  · exact mo_nx hI.1
  · exact mo_es
theorem ij_a1 {g : St} (hI : IJ g) {m : Int} (h1 : 1 ≤ m) (h2 : m ≤ g 1 0 0) (h3 : g 18 m 0 ≤ g 0 7 0) : IJ (sA1 g m) := by
  unfold sA1
  split
  · exact ij_nx hI h1 h2 (by assumption)
  · exact ⟨ib_es hI.1 1 h1 h2, jb_es hI.2 h1 h2 (j_st hI h1 h2 h3)⟩
theorem sAct_0 (g : St) (m : Int) : sAct 0 g m = g := rfl
theorem sAct_p {n : Nat} {g : St} {m : Int} (h : g 18 m 0 ≤ g 0 7 0) : sAct (n + 1) g m = sAct n (sA1 g m) m := if_pos h
theorem sAct_n {n : Nat} {g : St} {m : Int} (h : ¬ g 18 m 0 ≤ g 0 7 0) : sAct (n + 1) g m = g := if_neg h
theorem ij_act {m : Int} (n : Nat) : ∀ {g : St}, IJ g → 1 ≤ m → m ≤ g 1 0 0 → IJ (sAct n g m) ∧ Mo g (sAct n g m) := by
  induction n with
  | zero => intro g hI _ _; exact ⟨hI, Mo.rf g⟩
  | succ n ih =>
    intro g hI h1 h2
    unfold sAct
    split
    · have hm := mo_a1 hI (m := m)
      have hi := ij_a1 hI h1 h2 (by assumption)
      have q := ih hi h1 (by rw [hm.1]; exact h2)
      exact ⟨q.1, hm.tr q.2⟩
    · exact ⟨hI, Mo.rf g⟩
/-! receivers -/
theorem v_mf {g : St} {r mg fk bk sp : Int} (h : ¬ 6000 ≤ g 1 1 0) {t : Nat} {i j : Int} (hh : ¬ ((t = 1 ∨ t = 3 ∨ t = 4) ∧ i = 1) ∧ ¬ (20 ≤ t ∧ t ≤ 28)) : sMkF g r mg fk bk sp t i j = g t i j := by
  unfold sMkF sFlow
  rw [if_neg h]
  exact v_fr hh
theorem v_an0 {g : St} {r : Int} (h : 6000 ≤ g 1 1 0) : sAns g r = sEndR g r 7 := by
  unfold sAns sAns0 sMkF
  rw [if_pos h, if_pos h]
theorem v_a0 {g : St} {r : Int} (h : ¬ 6000 ≤ g 1 1 0) {t : Nat} {i j : Int} (hh : ¬ ((t = 1 ∨ t = 3 ∨ t = 4) ∧ i = 1) ∧ ¬ (20 ≤ t ∧ t ≤ 28)) : sAns0 g r t i j = g t i j := v_mf h hh
theorem v_an2 {g : St} {r : Int} (h : ¬ 6000 ≤ g 1 1 0) (hk : g 0 9 0 = 2) : sAns g r = sEndR (sAns0 g r) r 4 := by
  unfold sAns
  rw [if_neg h, v_a0 h (by omega), if_pos hk]
theorem v_an1 {g : St} {r : Int} (h : ¬ 6000 ≤ g 1 1 0) (hk : g 0 9 0 = 1) : sAns g r = wr (wr (sAns0 g r) 38 r (g 0 7 0 + 1000)) 37 r (g 0 7 0 + 500) := by
  unfold sAns sAns2 sGive
  rw [if_neg h, v_a0 h (by omega), if_neg (by omega), if_pos (by rw [wr_n (by omega), v_a0 h (by omega)]; exact hk), wr_n (by omega), v_a0 h (by omega)]
theorem v_anz {g : St} {r : Int} (h : ¬ 6000 ≤ g 1 1 0) (hk : g 0 9 0 ≠ 1) (hk2 : g 0 9 0 ≠ 2) : sAns g r = wr (wr (wr (wr (sAns0 g r) 38 r (g 0 7 0 + 1000)) 37 r 9223372036854775807) 35 r (g 0 10 0)) 36 r 0 := by
  unfold sAns sAns2 sGive
  rw [if_neg h, v_a0 h (by omega), if_neg (by omega), if_neg (by rw [wr_n (by omega), v_a0 h (by omega)]; exact hk), wr_n (t := 37) (by omega), wr_n (t := 38) (by omega), v_a0 h (by omega), v_a0 h (by omega)]
theorem mo_a0 {g : St} (hI : IL g) {r : Int} (h : ¬ 6000 ≤ g 1 1 0) : Mo g (sAns0 g r) := by
  unfold sAns0 sMkF sFlow
  rw [if_neg h]
  exact mo_fr hI
theorem mo_wr {g : St} {t : Nat} {i v : Int} (h : 5 ≤ t) : Mo g (wr g t i v) := by
  refine ⟨wr_n (by omega), wr_n (by omega), wr_n (by omega), ?_, ?_⟩
  · rw [wr_n (by omega)]; exact Int.le_refl _
  · rw [wr_n (by omega)]; exact Int.le_refl _
theorem mo_an {g : St} (hI : IL g) {r : Int} : Mo g (sAns g r) := by
  by_cases h : 6000 ≤ g 1 1 0
  · rw [v_an0 h]; exact mo_er
  · have q := mo_a0 hI (r := r) h
    by_cases h2 : g 0 9 0 = 2
    · rw [v_an2 h h2]; exact q.tr mo_er
    · by_cases h1 : g 0 9 0 = 1
      · rw [v_an1 h h1]; exact (q.tr (mo_wr (by decide))).tr (mo_wr (by decide))
      · rw [v_anz h h1 h2]; exact (((q.tr (mo_wr (by decide))).tr (mo_wr (by decide))).tr (mo_wr (by decide))).tr (mo_wr (by decide))
theorem jb_an {g : St} (hI : IJ g) {r : Int} (h0 : 0 ≤ r) (h1 : r < 4) (h2 : 1 ≤ g 31 r 0) : JB (sAns g r) := by
  have hr := hI.1.2.2.2.2.1 r h0 h1
  have hj := hI.2.2 r h0 h1
  unfold IR at hr
  unfold JR at hj
  by_cases h : 6000 ≤ g 1 1 0
  · rw [v_an0 h]; exact jb_er hI.2
  · have q : JB (sAns0 g r) := jb_o hI.2 (fun t i w => v_a0 h (by omega))
    by_cases k2 : g 0 9 0 = 2
    · rw [v_an2 h k2]; exact jb_er q
    · by_cases k1 : g 0 9 0 = 1
      · rw [v_an1 h k1]
        refine jb_r (r := r) q (fun t i w => by rw [wr_n (by omega), wr_n (by omega)]) ?_
        unfold JR
        rw [wr_s, wr_n (t' := 31) (by omega), wr_n (t' := 31) (by omega), wr_n (t' := 30) (by omega), wr_n (t' := 30) (by omega), wr_n (t' := 36) (by omega), wr_n (t' := 36) (by omega), wr_n (t' := 33) (by omega), wr_n (t' := 33) (by omega), v_a0 h (by omega), v_a0 h (by omega), v_a0 h (by omega), v_a0 h (by omega)]
        exact ⟨fun _ => h2, hj.2⟩
      · rw [v_anz h k1 k2]
        refine jb_r (r := r) q (fun t i w => by rw [wr_n (by omega), wr_n (by omega), wr_n (by omega), wr_n (by omega)]) ?_
        have e31 : wr (wr (wr (wr (sAns0 g r) 38 r (g 0 7 0 + 1000)) 37 r 9223372036854775807) 35 r (g 0 10 0)) 36 r 0 31 r 0 = g 31 r 0 := by rw [wr_n (by omega), wr_n (by omega), wr_n (by omega), wr_n (by omega)]; exact v_a0 h (by omega)
        have e33 : wr (wr (wr (wr (sAns0 g r) 38 r (g 0 7 0 + 1000)) 37 r 9223372036854775807) 35 r (g 0 10 0)) 36 r 0 33 r 0 = g 33 r 0 := by rw [wr_n (by omega), wr_n (by omega), wr_n (by omega), wr_n (by omega)]; exact v_a0 h (by omega)
        unfold JR
        rw [e31, e33, wr_s]
        exact ⟨fun _ => h2, fun _ => ⟨h2, by omega⟩⟩
def sActR (g : St) (r : Int) : St := if (if g 37 r 0 ≤ g 0 7 0 then sAns g r else g) 38 r 0 ≤ (if g 37 r 0 ≤ g 0 7 0 then sAns g r else g) 0 7 0 then sEndR (if g 37 r 0 ≤ g 0 7 0 then sAns g r else g) r 2 else (if g 37 r 0 ≤ g 0 7 0 then sAns g r else g)
theorem ij_r1 {g : St} (hI : IJ g) {r : Int} (h0 : 0 ≤ r) (h1 : r < 4) : IJ (if g 37 r 0 ≤ g 0 7 0 then sAns g r else g) ∧ Mo g (if g 37 r 0 ≤ g 0 7 0 then sAns g r else g) := by
  have hj := hI.2.2 r h0 h1
  have hx := hI.1.1
  unfold JR at hj
  unfold IX at hx
  split
  · exact ⟨⟨ib_ans hI.1 h0 h1 (hj.1 (by omega)), jb_an hI h0 h1 (hj.1 (by omega))⟩, mo_an hI.1.2.1⟩
  · exact ⟨hI, Mo.rf g⟩
theorem ij_actR {g : St} (hI : IJ g) {r : Int} (h0 : 0 ≤ r) (h1 : r < 4) : IJ (sActR g r) ∧ Mo g (sActR g r) := by
  have q := ij_r1 hI h0 h1
  unfold sActR
  generalize (if g 37 r 0 ≤ g 0 7 0 then sAns g r else g) = g1 at q ⊢
  split
  · exact ⟨⟨ib_er q.1.1 2 h0 h1, jb_er q.1.2⟩, q.2.tr mo_er⟩
  · exact q
def sSnds (fu : Nat) : Nat → Int → St → St
  | 0, _, g => g
  | n + 1, i, g => sSnds fu n (i + 1) (sAct fu g (i + 1))
def sRcvs : Nat → Int → St → St
  | 0, _, g => g
  | n + 1, i, g => sRcvs n (i + 1) (sActR g (i % 4))
theorem sSnds_0 (fu : Nat) (i : Int) (g : St) : sSnds fu 0 i g = g := rfl
theorem sSnds_s (fu n : Nat) (i : Int) (g : St) : sSnds fu (n + 1) i g = sSnds fu n (i + 1) (sAct fu g (i + 1)) := rfl
theorem sRcvs_0 (i : Int) (g : St) : sRcvs 0 i g = g := rfl
theorem sRcvs_s (n : Nat) (i : Int) (g : St) : sRcvs (n + 1) i g = sRcvs n (i + 1) (sActR g (i % 4)) := rfl
def sMom (fu : Nat) (g : St) : St := sRcvs 4 1 (sSnds fu (g 1 0 0).toNat 0 g)
theorem ij_snds (fu n : Nat) : ∀ {i : Int} {g : St}, IJ g → 0 ≤ i → i + n = g 1 0 0 → IJ (sSnds fu n i g) ∧ Mo g (sSnds fu n i g) := by
  induction n with
  | zero => intro i g hI _ _; exact ⟨hI, Mo.rf g⟩
  | succ n ih =>
    intro i g hI h1 h2
    have q := ij_act fu (m := i + 1) hI (by omega) (by omega)
    have q2 := ih (i := i + 1) q.1 (by omega) (by rw [q.2.1]; omega)
    exact ⟨q2.1, q.2.tr q2.2⟩
theorem ij_rcvs (n : Nat) : ∀ {i : Int} {g : St}, IJ g → IJ (sRcvs n i g) ∧ Mo g (sRcvs n i g) := by
  induction n with
  | zero => intro i g hI; exact ⟨hI, Mo.rf g⟩
  | succ n ih =>
    intro i g hI
    have q := ij_actR (r := i % 4) hI (by omega) (by omega)
    have q2 := ih (i := i + 1) q.1
    exact ⟨q2.1, q.2.tr q2.2⟩
theorem ij_mom (fu : Nat) {g : St} (hI : IJ g) : IJ (sMom fu g) ∧ Mo g (sMom fu g) := by
  have hl := hI.1.2.1
  unfold IL at hl
  have q := ij_snds fu (g 1 0 0).toNat (i := 0) hI (by omega) (by omega)
  have q2 := ij_rcvs 4 (i := 1) q.1
  exact ⟨q2.1, q.2.tr q2.2⟩
def nTs : Nat → Int → St → Int → Int
  | 0, _, _, a => a
  | n + 1, i, g, a => nTs n (i + 1) g (min a (g 18 (i + 1) 0))
def nTr : Nat → Int → St → Int → Int
  | 0, _, _, a => a
  | n + 1, i, g, a => nTr n (i + 1) g (min a (min (g 37 i 0) (g 38 i 0)))
def sNT (g : St) : Int := nTr 4 0 g (nTs (g 1 0 0).toNat 0 g 9223372036854775807)
theorem nTs_b {g : St} (hI : IB g) (n : Nat) : ∀ {i a : Int}, 0 ≤ i → i + n = g 1 0 0 → 0 ≤ a → 0 ≤ nTs n i g a ∧ nTs n i g a ≤ a := by
  induction n with
  | zero => intro i a _ _ h; exact ⟨h, Int.le_refl _⟩
  | succ n ih =>
    intro i a h1 h2 h3
    have q := hI.2.2.1 (i + 1) (by omega) (by omega)
    unfold IS at q
    have := ih (i := i + 1) (a := min a (g 18 (i + 1) 0)) (by omega) (by omega) (by omega)
    unfold nTs
    omega
theorem nTr_b {g : St} (hI : IB g) (n : Nat) : ∀ {i a : Int}, 0 ≤ i → i + n = 4 → 0 ≤ a → 0 ≤ nTr n i g a ∧ nTr n i g a ≤ a := by
  induction n with
  | zero => intro i a _ _ h; exact ⟨h, Int.le_refl _⟩
  | succ n ih =>
    intro i a h1 h2 h3
    have q := hI.2.2.2.2.1 i (by omega) (by omega)
    unfold IR at q
    have := ih (i := i + 1) (a := min a (min (g 37 i 0) (g 38 i 0))) (by omega) (by omega) (by omega)
    unfold nTr
    omega
theorem sNT_b {g : St} (hI : IB g) : 0 ≤ sNT g ∧ sNT g ≤ 9223372036854775807 := by
  have hl := hI.2.1
  unfold IL at hl
  have q := nTs_b hI (g 1 0 0).toNat (i := 0) (a := 9223372036854775807) (by omega) (by omega) (by omega)
  have q2 := nTr_b hI 4 (i := 0) (a := nTs (g 1 0 0).toNat 0 g 9223372036854775807) (by omega) (by omega) q.1
  unfold sNT
  omega
def sPass (fu : Nat) : Nat → St → Int → Int → St
  | 0, g, _, _ => g
  | n + 1, g, u, t => if u ≤ t then sPass fu n (sMom fu (wr g 0 7 u)) (sNT (sMom fu (wr g 0 7 u))) t else g
theorem sPass_0 (fu : Nat) (g : St) (u t : Int) : sPass fu 0 g u t = g := rfl
theorem sPass_p {fu n : Nat} {g : St} {u t : Int} (h : u ≤ t) : sPass fu (n + 1) g u t = sPass fu n (sMom fu (wr g 0 7 u)) (sNT (sMom fu (wr g 0 7 u))) t := if_pos h
theorem sPass_n {fu n : Nat} {g : St} {u t : Int} (h : ¬ u ≤ t) : sPass fu (n + 1) g u t = g := if_neg h
theorem ij_now {g : St} (hI : IJ g) {u : Int} (h0 : 0 ≤ u) (h1 : u ≤ 4000000) : IJ (wr g 0 7 u) := by
  have hx := hI.1.1
  refine ⟨ib_x hI.1 (fun t i j w => wr_n (by omega)) ?_, jb_o hI.2 (fun t i w => wr_n (by omega))⟩
  unfold IX at hx ⊢
  simp [wr]
  omega
/-! Mp: as Mo, but for the hour -/
def Mp (g g' : St) : Prop := g' 1 0 0 = g 1 0 0 ∧ g 1 1 0 ≤ g' 1 1 0 ∧ g 4 1 0 ≤ g' 4 1 0
theorem Mo.p {g g' : St} (h : Mo g g') : Mp g g' := ⟨h.1, h.2.2.2.1, h.2.2.2.2⟩
theorem Mp.tr {a b c : St} (h1 : Mp a b) (h2 : Mp b c) : Mp a c := by
  unfold Mp at *
  omega
theorem Mp.rf (g : St) : Mp g g := (Mo.rf g).p
theorem mp_kC {g g' : St} (h : Mp g g') : kC g ≤ kC g' := by
  unfold Mp at h
  unfold kC
  omega
theorem mp_kS {g g' : St} (h : Mp g g') : kS g ≤ kS g' := by
  unfold Mp at h
  unfold kS
  omega
theorem mp_wr {g : St} {i v : Int} : Mp g (wr g 0 i v) := by
  refine ⟨wr_n (by omega), ?_, ?_⟩
  · rw [wr_n (by omega)]; exact Int.le_refl _
  · rw [wr_n (by omega)]; exact Int.le_refl _
theorem ij_pass (fu : Nat) {t : Int} (ht : t ≤ 4000000) (n : Nat) : ∀ {g : St} {u : Int}, IJ g → 0 ≤ u → IJ (sPass fu n g u t) ∧ Mp g (sPass fu n g u t) := by
  induction n with
  | zero => intro g u hI _; exact ⟨hI, Mp.rf g⟩
  | succ n ih =>
    intro g u hI h0
    unfold sPass
    split
    · have q := ij_mom fu (ij_now hI h0 (by omega : u ≤ 4000000))
      have q2 := ih (u := sNT (sMom fu (wr g 0 7 u))) q.1 (sNT_b q.1.1).1
      exact ⟨q2.1, (mp_wr.tr q.2.p).tr q2.2⟩
    · exact ⟨hI, Mp.rf g⟩
/-! startMessages -/
def sSt1 (g : St) : St := wr (sStart g (g 0 8 0 + 1)) 0 8 (g 0 8 0 + 1)
def sSts : Nat → St → St
  | 0, g => g
  | n + 1, g => sSts n (sSt1 g)
theorem sSts_0 (g : St) : sSts 0 g = g := rfl
theorem sSts_s (n : Nat) (g : St) : sSts (n + 1) g = sSts n (sSt1 g) := rfl
theorem v_sr {g : St} {m st : Int} {t : Nat} {i j : Int} (h : ¬ ((t = 12 ∨ t = 18) ∧ i = m)) : sRest g m st t i j = g t i j := by
  unfold sRest
  rw [wr_n (by omega), wr_n (by omega)]
theorem v_aw {g : St} {m : Int} {t : Nat} {i j : Int} (h : ¬ ((t = 12 ∨ t = 18) ∧ i = m)) : sAwait g m t i j = g t i j := by
  unfold sAwait
  rw [wr_n (by omega), wr_n (by omega)]
theorem v_st0 {g : St} {m : Int} (h : 6000 ≤ g 1 1 0) : sStart g m = sEndS g m 7 := by
  unfold sStart sMkD
  simp only [if_pos h]
  split
  · rfl
  · split <;> rfl
theorem v_st1 {g : St} {m : Int} (h : ¬ 6000 ≤ g 1 1 0) (h1 : g 11 m 0 ≤ 7) : sStart g m = sRest (sData g m 0 0 7) m 3 := by
  unfold sStart sMkD
  simp only [if_neg h, if_pos h1]
theorem v_st2 {g : St} {m : Int} (h : ¬ 6000 ≤ g 1 1 0) (h1 : ¬ g 11 m 0 ≤ 7) (h2 : g 11 m 0 ≤ 4095) : sStart g m = sAwait (sData g m 1 (g 11 m 0) 6) m := by
  unfold sStart sMkD
  simp only [if_neg h, if_neg h1, if_pos h2]
theorem v_st3 {g : St} {m : Int} (h : ¬ 6000 ≤ g 1 1 0) (h1 : ¬ g 11 m 0 ≤ 7) (h2 : ¬ g 11 m 0 ≤ 4095) : sStart g m = sAwait (sData g m 1 (g 11 m 0) 2) m := by
  unfold sStart sMkD
  simp only [if_neg h, if_neg h1, if_neg h2]
theorem v_st {g : St} {m : Int} {t : Nat} {i j : Int} (hh : ¬ ((t = 1 ∨ t = 3 ∨ t = 4) ∧ i = 1) ∧ ¬ (20 ≤ t ∧ t ≤ 28) ∧ ¬ ((t = 12 ∨ t = 13 ∨ t = 18) ∧ i = m) ∧ t ≠ 2 ∧ ¬ (t = 0 ∧ i = 5)) : sStart g m t i j = g t i j := by
  by_cases h : 6000 ≤ g 1 1 0
  · rw [v_st0 h]; exact v_es (by omega)
  · by_cases h1 : g 11 m 0 ≤ 7
    · rw [v_st1 h h1, v_sr (by omega)]; exact v_da (by omega)
    · by_cases h2 : g 11 m 0 ≤ 4095
      · rw [v_st2 h h1 h2, v_aw (by omega)]; exact v_da (by omega)
      · rw [v_st3 h h1 h2, v_aw (by omega)]; exact v_da (by omega)
theorem mo_sr {g : St} {m st : Int} : Mo g (sRest g m st) := ⟨v_sr (by omega), v_sr (by omega), v_sr (by omega), by rw [v_sr (by omega)]; exact Int.le_refl _, by rw [v_sr (by omega)]; exact Int.le_refl _⟩
theorem mo_aw {g : St} {m : Int} : Mo g (sAwait g m) := ⟨v_aw (by omega), v_aw (by omega), v_aw (by omega), by rw [v_aw (by omega)]; exact Int.le_refl _, by rw [v_aw (by omega)]; exact Int.le_refl _⟩
theorem mo_st {g : St} (hI : IB g) {m : Int} : Mo g (sStart g m) := by
  by_cases h : 6000 ≤ g 1 1 0
  · rw [v_st0 h]; exact mo_es
  · by_cases h1 : g 11 m 0 ≤ 7
    · rw [v_st1 h h1]; exact (mo_da hI).tr mo_sr
    · by_cases h2 : g 11 m 0 ≤ 4095
      · rw [v_st2 h h1 h2]; exact (mo_da hI).tr mo_aw
      · rw [v_st3 h h1 h2]; exact (mo_da hI).tr mo_aw
theorem v_st12 {g : St} {m : Int} (h0 : g 13 m 0 = 0) (hl : 1 ≤ g 11 m 0) : (sStart g m 12 m 0 = 4 ∨ sStart g m 12 m 0 = 3) ∨ (sStart g m 12 m 0 = 1 ∧ sStart g m 13 m 0 < g 11 m 0) := by
  by_cases h : 6000 ≤ g 1 1 0
  · rw [v_st0 h, v_es12]; exact Or.inl (Or.inl rfl)
  · by_cases h1 : g 11 m 0 ≤ 7
    · rw [v_st1 h h1]; exact Or.inl (Or.inr (by simp [sRest, wr]))
    · by_cases h2 : g 11 m 0 ≤ 4095
      · rw [v_st2 h h1 h2]
        refine Or.inr ⟨by simp [sAwait, wr], ?_⟩
        rw [v_aw (by omega), v_da13]
        omega
      · rw [v_st3 h h1 h2]
        refine Or.inr ⟨by simp [sAwait, wr], ?_⟩
        rw [v_aw (by omega), v_da13]
        omega
theorem ij_st1 {g : St} (hI : IJ g) (h : g 0 8 0 < g 1 0 0) : IJ (sSt1 g) ∧ Mp g (sSt1 g) ∧ sSt1 g 0 8 0 = g 0 8 0 + 1 ∧ sSt1 g 0 7 0 = g 0 7 0 := by
  have hx := hI.1.1
  unfold IX at hx
  have hj := hI.2.1 (g 0 8 0 + 1) (by omega) (by omega)
  have hs := hI.1.2.2.1 (g 0 8 0 + 1) (by omega) (by omega)
  unfold JS at hj
  unfold IS at hs
  have hj2 := hj.2 (by omega)
  have hmo := mo_st hI.1 (m := g 0 8 0 + 1)
  have hi := ib_start hI.1 (m := g 0 8 0 + 1) (by omega) (by omega) hj2.2.1
  have hx' := hi.1
  unfold IX at hx'
  refine ⟨⟨ib_x hi (fun t i j w => wr_n (by omega)) ?_, ?_⟩, hmo.p.tr mp_wr, wr_s _ _ _ _, (wr_n (by omega)).trans hmo.2.1⟩
  · unfold IX
    simp only [sSt1, wr]
    simp
    have := hmo.1
    omega
  · refine ⟨fun m9 q1 q2 => ?_, fun r9 q1 q2 => JR_c (fun t i w => (wr_n (by omega)).trans (v_st (by omega))) (hI.2.2 r9 q1 q2)⟩
    have q3 : m9 ≤ g 1 0 0 := by
      have e : sSt1 g 1 0 0 = g 1 0 0 := (wr_n (by omega)).trans hmo.1
      omega
    have hjm := hI.2.1 m9 q1 q3
    have e8 : sSt1 g 0 8 0 = g 0 8 0 + 1 := wr_s _ _ _ _
    have e11 : sSt1 g 11 m9 0 = g 11 m9 0 := (wr_n (by omega)).trans (v_st (by omega))
    have e15 : sSt1 g 15 m9 0 = g 15 m9 0 := (wr_n (by omega)).trans (v_st (by omega))
    unfold JS at hjm ⊢
    rw [e8, e11, e15]
    by_cases q : m9 = g 0 8 0 + 1
    · have e12 : sSt1 g 12 m9 0 = sStart g (g 0 8 0 + 1) 12 m9 0 := wr_n (by omega)
      have e13 : sSt1 g 13 m9 0 = sStart g (g 0 8 0 + 1) 13 m9 0 := wr_n (by omega)
      have v := v_st12 (m := g 0 8 0 + 1) hj2.2.1 hs.1.1
      rw [e12, e13]
      rw [← q] at v hj2 ⊢
      exact ⟨fun w => by omega, fun w => by omega⟩
    · have e12 : sSt1 g 12 m9 0 = g 12 m9 0 := (wr_n (by omega)).trans (v_st (by omega))
      have e13 : sSt1 g 13 m9 0 = g 13 m9 0 := (wr_n (by omega)).trans (v_st (by omega))
      have e18 : sSt1 g 18 m9 0 = g 18 m9 0 := (wr_n (by omega)).trans (v_st (by omega))
      rw [e12, e13, e18]
      exact ⟨hjm.1, fun w => hjm.2 (by omega)⟩
theorem ij_sts (n : Nat) : ∀ {g : St}, IJ g → g 0 8 0 + n = g 1 0 0 → IJ (sSts n g) ∧ Mp g (sSts n g) ∧ sSts n g 0 7 0 = g 0 7 0 := by
  induction n with
  | zero => intro g hI _; exact ⟨hI, Mp.rf g, rfl⟩
  | succ n ih =>
    intro g hI h1
    have q := ij_st1 hI (by omega)
    have q2 := ih q.1 (by rw [q.2.2.1, q.2.1.1]; omega)
    exact ⟨q2.1, q.2.1.tr q2.2.1, q2.2.2.trans q.2.2.2⟩

