/-! the ranges of a state's numbers -/
def IX (g : St) : Prop := (0 ≤ g 0 0 0 ∧ g 0 0 0 ≤ 65536) ∧ (0 ≤ g 0 7 0 ∧ g 0 7 0 ≤ 4000000) ∧ (0 ≤ g 0 8 0 ∧ g 0 8 0 ≤ g 1 0 0) ∧ (0 ≤ g 0 9 0 ∧ g 0 9 0 ≤ 2) ∧ (0 ≤ g 0 10 0 ∧ g 0 10 0 ≤ 255) ∧ (0 ≤ g 0 11 0 ∧ g 0 11 0 ≤ 255) ∧ (0 ≤ g 0 12 0 ∧ g 0 12 0 ≤ 100) ∧ (g 0 13 0 = 0 ∨ g 0 13 0 = 1)
def IL (g : St) : Prop := (0 ≤ g 1 0 0 ∧ g 1 0 0 ≤ 100) ∧ (0 ≤ g 1 1 0 ∧ g 1 1 0 ≤ 6000) ∧ (g 1 0 0 ≤ g 4 0 0 ∧ g 4 0 0 ≤ 20000) ∧ (g 1 1 0 ≤ g 4 1 0 ∧ g 4 1 0 ≤ 20000)
def IS (g : St) (m : Int) : Prop := (1 ≤ g 11 m 0 ∧ g 11 m 0 ≤ 10000) ∧ (0 ≤ g 12 m 0 ∧ g 12 m 0 ≤ 4) ∧ (0 ≤ g 13 m 0 ∧ g 13 m 0 ≤ g 11 m 0) ∧ (0 ≤ g 14 m 0 ∧ g 14 m 0 < 16) ∧ (0 ≤ g 15 m 0 ∧ g 15 m 0 ≤ 1000000) ∧ (0 ≤ g 16 m 0 ∧ g 16 m 0 ≤ 255) ∧ (0 ≤ g 17 m 0 ∧ g 17 m 0 ≤ 127) ∧ (0 ≤ g 18 m 0 ∧ g 18 m 0 ≤ 9223372036854775807) ∧ ∀ j : Int, -128 ≤ g 19 m j ∧ g 19 m j ≤ 127
def IF (g : St) (f : Int) : Prop := (0 ≤ g 20 f 0 ∧ g 20 f 0 ≤ 3) ∧ (1 ≤ g 21 f 0 ∧ g 21 f 0 ≤ g 1 0 0) ∧ (0 ≤ g 22 f 0 ∧ g 22 f 0 ≤ 10000) ∧ (0 ≤ g 23 f 0 ∧ g 23 f 0 ≤ 255) ∧ (0 ≤ g 24 f 0 ∧ g 24 f 0 ≤ 255) ∧ (0 ≤ g 25 f 0 ∧ g 25 f 0 ≤ 4000000) ∧ (g 27 f 0 = 0 ∨ g 27 f 0 = 1) ∧ (g 20 f 0 < 3 → g 26 f 0 = g 23 f 0 ∧ 1 ≤ g 23 f 0 ∧ g 23 f 0 ≤ 7) ∧ (g 20 f 0 = 3 → g 26 f 0 = 0) ∧ ∀ j : Int, -128 ≤ g 28 f j ∧ g 28 f j ≤ 127
def IR (g : St) (r : Int) : Prop := (0 ≤ g 30 r 0 ∧ g 30 r 0 ≤ 3) ∧ (0 ≤ g 31 r 0 ∧ g 31 r 0 ≤ g 1 0 0) ∧ (0 ≤ g 32 r 0 ∧ g 32 r 0 ≤ 10000) ∧ (0 ≤ g 33 r 0 ∧ g 33 r 0 ≤ g 32 r 0) ∧ (0 ≤ g 34 r 0 ∧ g 34 r 0 < 16) ∧ (0 ≤ g 35 r 0 ∧ g 35 r 0 ≤ 255) ∧ (0 ≤ g 36 r 0 ∧ g 36 r 0 ≤ 1000000) ∧ (0 ≤ g 37 r 0 ∧ g 37 r 0 ≤ 9223372036854775807) ∧ (0 ≤ g 38 r 0 ∧ g 38 r 0 ≤ 9223372036854775807) ∧ ∀ j : Int, -128 ≤ g 39 r j ∧ g 39 r j ≤ 127
def IG (g : St) : Prop := (0 ≤ g 1 2 0 ∧ g 1 2 0 ≤ 10000) ∧ ∀ j : Int, -128 ≤ g 40 0 j ∧ g 40 0 j ≤ 127
def IB (g : St) : Prop := IX g ∧ IL g ∧ (∀ m : Int, 1 ≤ m → m ≤ g 1 0 0 → IS g m) ∧ (∀ f : Int, 1 ≤ f → f ≤ g 1 1 0 → IF g f) ∧ (∀ r : Int, 0 ≤ r → r < 4 → IR g r) ∧ IG g
theorem ib_c {g g' : St} (h : IB g)  (hg : ∀ (t : Nat) (i j : Int), ¬ (t = 2) → g' t i j = g t i j)  : IB g' := by
  obtain ⟨hX, hL, hS, hF, hR, hG⟩ := h
  refine ⟨?_, ?_, ?_, ?_, ?_, ?_⟩
  · unfold IX at hX ⊢
    simp only [hg 0 0 0 (by omega), hg 0 7 0 (by omega), hg 0 8 0 (by omega), hg 0 9 0 (by omega), hg 0 10 0 (by omega), hg 0 11 0 (by omega), hg 0 12 0 (by omega), hg 0 13 0 (by omega), hg 1 0 0 (by omega)]
    exact hX
  · unfold IL at hL ⊢
    simp only [hg 1 0 0 (by omega), hg 1 1 0 (by omega), hg 4 0 0 (by omega), hg 4 1 0 (by omega)]
    exact hL
  · intro m9 q1 q2
    rw [hg 1 0 0 (by omega)] at q2
    have q3 := hS m9 q1 q2
    unfold IS at q3 ⊢
    have qr : ∀ j : Int, g' 19 m9 j = g 19 m9 j := fun j => hg 19 m9 j (by omega)
    simp only [hg 11 m9 0 (by omega), hg 12 m9 0 (by omega), hg 13 m9 0 (by omega), hg 14 m9 0 (by omega), hg 15 m9 0 (by omega), hg 16 m9 0 (by omega), hg 17 m9 0 (by omega), hg 18 m9 0 (by omega), qr]
    exact q3
  · intro f9 q1 q2
    rw [hg 1 1 0 (by omega)] at q2
    have q3 := hF f9 q1 q2
    unfold IF at q3 ⊢
    have qr : ∀ j : Int, g' 28 f9 j = g 28 f9 j := fun j => hg 28 f9 j (by omega)
    simp only [hg 20 f9 0 (by omega), hg 21 f9 0 (by omega), hg 22 f9 0 (by omega), hg 23 f9 0 (by omega), hg 24 f9 0 (by omega), hg 25 f9 0 (by omega), hg 26 f9 0 (by omega), hg 27 f9 0 (by omega), hg 1 0 0 (by omega), qr]
    exact q3
  · intro r9 q1 q2
    have q3 := hR r9 q1 q2
    unfold IR at q3 ⊢
    have qr : ∀ j : Int, g' 39 r9 j = g 39 r9 j := fun j => hg 39 r9 j (by omega)
    simp only [hg 30 r9 0 (by omega), hg 31 r9 0 (by omega), hg 32 r9 0 (by omega), hg 33 r9 0 (by omega), hg 34 r9 0 (by omega), hg 35 r9 0 (by omega), hg 36 r9 0 (by omega), hg 37 r9 0 (by omega), hg 38 r9 0 (by omega), hg 1 0 0 (by omega), qr]
    exact q3
  · unfold IG at hG ⊢
    have qr : ∀ j : Int, g' 40 0 j = g 40 0 j := fun j => hg 40 0 j (by omega)
    simp only [hg 1 2 0 (by omega), qr]
    exact hG
theorem ib_x {g g' : St} (h : IB g)  (hg : ∀ (t : Nat) (i j : Int), ¬ (t = 0) → g' t i j = g t i j) (hx : IX g') : IB g' := by
  obtain ⟨hX, hL, hS, hF, hR, hG⟩ := h
  refine ⟨?_, ?_, ?_, ?_, ?_, ?_⟩
  · exact hx
  · unfold IL at hL ⊢
    simp only [hg 1 0 0 (by omega), hg 1 1 0 (by omega), hg 4 0 0 (by omega), hg 4 1 0 (by omega)]
    exact hL
  · intro m9 q1 q2
    rw [hg 1 0 0 (by omega)] at q2
    have q3 := hS m9 q1 q2
    unfold IS at q3 ⊢
    have qr : ∀ j : Int, g' 19 m9 j = g 19 m9 j := fun j => hg 19 m9 j (by omega)
    simp only [hg 11 m9 0 (by omega), hg 12 m9 0 (by omega), hg 13 m9 0 (by omega), hg 14 m9 0 (by omega), hg 15 m9 0 (by omega), hg 16 m9 0 (by omega), hg 17 m9 0 (by omega), hg 18 m9 0 (by omega), qr]
    exact q3
  · intro f9 q1 q2
    rw [hg 1 1 0 (by omega)] at q2
    have q3 := hF f9 q1 q2
    unfold IF at q3 ⊢
    have qr : ∀ j : Int, g' 28 f9 j = g 28 f9 j := fun j => hg 28 f9 j (by omega)
    simp only [hg 20 f9 0 (by omega), hg 21 f9 0 (by omega), hg 22 f9 0 (by omega), hg 23 f9 0 (by omega), hg 24 f9 0 (by omega), hg 25 f9 0 (by omega), hg 26 f9 0 (by omega), hg 27 f9 0 (by omega), hg 1 0 0 (by omega), qr]
    exact q3
  · intro r9 q1 q2
    have q3 := hR r9 q1 q2
    unfold IR at q3 ⊢
    have qr : ∀ j : Int, g' 39 r9 j = g 39 r9 j := fun j => hg 39 r9 j (by omega)
    simp only [hg 30 r9 0 (by omega), hg 31 r9 0 (by omega), hg 32 r9 0 (by omega), hg 33 r9 0 (by omega), hg 34 r9 0 (by omega), hg 35 r9 0 (by omega), hg 36 r9 0 (by omega), hg 37 r9 0 (by omega), hg 38 r9 0 (by omega), hg 1 0 0 (by omega), qr]
    exact q3
  · unfold IG at hG ⊢
    have qr : ∀ j : Int, g' 40 0 j = g 40 0 j := fun j => hg 40 0 j (by omega)
    simp only [hg 1 2 0 (by omega), qr]
    exact hG
theorem ib_s {g g' : St} (h : IB g) {m : Int} (hg : ∀ (t : Nat) (i j : Int), ¬ (11 ≤ t ∧ t ≤ 19 ∧ i = m) → g' t i j = g t i j) (hs : IS g' m) : IB g' := by
  obtain ⟨hX, hL, hS, hF, hR, hG⟩ := h
  refine ⟨?_, ?_, ?_, ?_, ?_, ?_⟩
  · unfold IX at hX ⊢
    simp only [hg 0 0 0 (by omega), hg 0 7 0 (by omega), hg 0 8 0 (by omega), hg 0 9 0 (by omega), hg 0 10 0 (by omega), hg 0 11 0 (by omega), hg 0 12 0 (by omega), hg 0 13 0 (by omega), hg 1 0 0 (by omega)]
    exact hX
  · unfold IL at hL ⊢
    simp only [hg 1 0 0 (by omega), hg 1 1 0 (by omega), hg 4 0 0 (by omega), hg 4 1 0 (by omega)]
    exact hL
  · intro m9 q1 q2
    rw [hg 1 0 0 (by omega)] at q2
    by_cases q : m9 = m
    · subst q; exact hs
    · have q3 := hS m9 q1 q2
      unfold IS at q3 ⊢
      have qr : ∀ j : Int, g' 19 m9 j = g 19 m9 j := fun j => hg 19 m9 j (by omega)
      simp only [hg 11 m9 0 (by omega), hg 12 m9 0 (by omega), hg 13 m9 0 (by omega), hg 14 m9 0 (by omega), hg 15 m9 0 (by omega), hg 16 m9 0 (by omega), hg 17 m9 0 (by omega), hg 18 m9 0 (by omega), qr]
      exact q3
  · intro f9 q1 q2
    rw [hg 1 1 0 (by omega)] at q2
    have q3 := hF f9 q1 q2
    unfold IF at q3 ⊢
    have qr : ∀ j : Int, g' 28 f9 j = g 28 f9 j := fun j => hg 28 f9 j (by omega)
    simp only [hg 20 f9 0 (by omega), hg 21 f9 0 (by omega), hg 22 f9 0 (by omega), hg 23 f9 0 (by omega), hg 24 f9 0 (by omega), hg 25 f9 0 (by omega), hg 26 f9 0 (by omega), hg 27 f9 0 (by omega), hg 1 0 0 (by omega), qr]
    exact q3
  · intro r9 q1 q2
    have q3 := hR r9 q1 q2
    unfold IR at q3 ⊢
    have qr : ∀ j : Int, g' 39 r9 j = g 39 r9 j := fun j => hg 39 r9 j (by omega)
    simp only [hg 30 r9 0 (by omega), hg 31 r9 0 (by omega), hg 32 r9 0 (by omega), hg 33 r9 0 (by omega), hg 34 r9 0 (by omega), hg 35 r9 0 (by omega), hg 36 r9 0 (by omega), hg 37 r9 0 (by omega), hg 38 r9 0 (by omega), hg 1 0 0 (by omega), qr]
    exact q3
  · unfold IG at hG ⊢
    have qr : ∀ j : Int, g' 40 0 j = g 40 0 j := fun j => hg 40 0 j (by omega)
    simp only [hg 1 2 0 (by omega), qr]
    exact hG
theorem ib_f {g g' : St} (h : IB g) {f : Int} (hg : ∀ (t : Nat) (i j : Int), ¬ (20 ≤ t ∧ t ≤ 28 ∧ i = f) → g' t i j = g t i j) (hs : IF g' f) : IB g' := by
  obtain ⟨hX, hL, hS, hF, hR, hG⟩ := h
  refine ⟨?_, ?_, ?_, ?_, ?_, ?_⟩
  · unfold IX at hX ⊢
    simp only [hg 0 0 0 (by omega), hg 0 7 0 (by omega), hg 0 8 0 (by omega), hg 0 9 0 (by omega), hg 0 10 0 (by omega), hg 0 11 0 (by omega), hg 0 12 0 (by omega), hg 0 13 0 (by omega), hg 1 0 0 (by omega)]
    exact hX
  · unfold IL at hL ⊢
    simp only [hg 1 0 0 (by omega), hg 1 1 0 (by omega), hg 4 0 0 (by omega), hg 4 1 0 (by omega)]
    exact hL
  · intro m9 q1 q2
    rw [hg 1 0 0 (by omega)] at q2
    have q3 := hS m9 q1 q2
    unfold IS at q3 ⊢
    have qr : ∀ j : Int, g' 19 m9 j = g 19 m9 j := fun j => hg 19 m9 j (by omega)
    simp only [hg 11 m9 0 (by omega), hg 12 m9 0 (by omega), hg 13 m9 0 (by omega), hg 14 m9 0 (by omega), hg 15 m9 0 (by omega), hg 16 m9 0 (by omega), hg 17 m9 0 (by omega), hg 18 m9 0 (by omega), qr]
    exact q3
  · intro f9 q1 q2
    rw [hg 1 1 0 (by omega)] at q2
    by_cases q : f9 = f
    · subst q; exact hs
    · have q3 := hF f9 q1 q2
      unfold IF at q3 ⊢
      have qr : ∀ j : Int, g' 28 f9 j = g 28 f9 j := fun j => hg 28 f9 j (by omega)
      simp only [hg 20 f9 0 (by omega), hg 21 f9 0 (by omega), hg 22 f9 0 (by omega), hg 23 f9 0 (by omega), hg 24 f9 0 (by omega), hg 25 f9 0 (by omega), hg 26 f9 0 (by omega), hg 27 f9 0 (by omega), hg 1 0 0 (by omega), qr]
      exact q3
  · intro r9 q1 q2
    have q3 := hR r9 q1 q2
    unfold IR at q3 ⊢
    have qr : ∀ j : Int, g' 39 r9 j = g 39 r9 j := fun j => hg 39 r9 j (by omega)
    simp only [hg 30 r9 0 (by omega), hg 31 r9 0 (by omega), hg 32 r9 0 (by omega), hg 33 r9 0 (by omega), hg 34 r9 0 (by omega), hg 35 r9 0 (by omega), hg 36 r9 0 (by omega), hg 37 r9 0 (by omega), hg 38 r9 0 (by omega), hg 1 0 0 (by omega), qr]
    exact q3
  · unfold IG at hG ⊢
    have qr : ∀ j : Int, g' 40 0 j = g 40 0 j := fun j => hg 40 0 j (by omega)
    simp only [hg 1 2 0 (by omega), qr]
    exact hG
theorem ib_r {g g' : St} (h : IB g) {r : Int} (hg : ∀ (t : Nat) (i j : Int), ¬ (30 ≤ t ∧ t ≤ 39 ∧ i = r) → g' t i j = g t i j) (hs : IR g' r) : IB g' := by
  obtain ⟨hX, hL, hS, hF, hR, hG⟩ := h
  refine ⟨?_, ?_, ?_, ?_, ?_, ?_⟩
  · unfold IX at hX ⊢
    simp only [hg 0 0 0 (by omega), hg 0 7 0 (by omega), hg 0 8 0 (by omega), hg 0 9 0 (by omega), hg 0 10 0 (by omega), hg 0 11 0 (by omega), hg 0 12 0 (by omega), hg 0 13 0 (by omega), hg 1 0 0 (by omega)]
    exact hX
  · unfold IL at hL ⊢
    simp only [hg 1 0 0 (by omega), hg 1 1 0 (by omega), hg 4 0 0 (by omega), hg 4 1 0 (by omega)]
    exact hL
  · intro m9 q1 q2
    rw [hg 1 0 0 (by omega)] at q2
    have q3 := hS m9 q1 q2
    unfold IS at q3 ⊢
    have qr : ∀ j : Int, g' 19 m9 j = g 19 m9 j := fun j => hg 19 m9 j (by omega)
    simp only [hg 11 m9 0 (by omega), hg 12 m9 0 (by omega), hg 13 m9 0 (by omega), hg 14 m9 0 (by omega), hg 15 m9 0 (by omega), hg 16 m9 0 (by omega), hg 17 m9 0 (by omega), hg 18 m9 0 (by omega), qr]
    exact q3
  · intro f9 q1 q2
    rw [hg 1 1 0 (by omega)] at q2
    have q3 := hF f9 q1 q2
    unfold IF at q3 ⊢
    have qr : ∀ j : Int, g' 28 f9 j = g 28 f9 j := fun j => hg 28 f9 j (by omega)
    simp only [hg 20 f9 0 (by omega), hg 21 f9 0 (by omega), hg 22 f9 0 (by omega), hg 23 f9 0 (by omega), hg 24 f9 0 (by omega), hg 25 f9 0 (by omega), hg 26 f9 0 (by omega), hg 27 f9 0 (by omega), hg 1 0 0 (by omega), qr]
    exact q3
  · intro r9 q1 q2
    by_cases q : r9 = r
    · subst q; exact hs
    · have q3 := hR r9 q1 q2
      unfold IR at q3 ⊢
      have qr : ∀ j : Int, g' 39 r9 j = g 39 r9 j := fun j => hg 39 r9 j (by omega)
      simp only [hg 30 r9 0 (by omega), hg 31 r9 0 (by omega), hg 32 r9 0 (by omega), hg 33 r9 0 (by omega), hg 34 r9 0 (by omega), hg 35 r9 0 (by omega), hg 36 r9 0 (by omega), hg 37 r9 0 (by omega), hg 38 r9 0 (by omega), hg 1 0 0 (by omega), qr]
      exact q3
  · unfold IG at hG ⊢
    have qr : ∀ j : Int, g' 40 0 j = g 40 0 j := fun j => hg 40 0 j (by omega)
    simp only [hg 1 2 0 (by omega), qr]
    exact hG
theorem ib_g {g g' : St} (h : IB g)  (hg : ∀ (t : Nat) (i j : Int), ¬ ((t = 1 ∧ i = 2) ∨ (t = 40 ∧ i = 0)) → g' t i j = g t i j) (hs : IG g') : IB g' := by
  obtain ⟨hX, hL, hS, hF, hR, hG⟩ := h
  refine ⟨?_, ?_, ?_, ?_, ?_, ?_⟩
  · unfold IX at hX ⊢
    simp only [hg 0 0 0 (by omega), hg 0 7 0 (by omega), hg 0 8 0 (by omega), hg 0 9 0 (by omega), hg 0 10 0 (by omega), hg 0 11 0 (by omega), hg 0 12 0 (by omega), hg 0 13 0 (by omega), hg 1 0 0 (by omega)]
    exact hX
  · unfold IL at hL ⊢
    simp only [hg 1 0 0 (by omega), hg 1 1 0 (by omega), hg 4 0 0 (by omega), hg 4 1 0 (by omega)]
    exact hL
  · intro m9 q1 q2
    rw [hg 1 0 0 (by omega)] at q2
    have q3 := hS m9 q1 q2
    unfold IS at q3 ⊢
    have qr : ∀ j : Int, g' 19 m9 j = g 19 m9 j := fun j => hg 19 m9 j (by omega)
    simp only [hg 11 m9 0 (by omega), hg 12 m9 0 (by omega), hg 13 m9 0 (by omega), hg 14 m9 0 (by omega), hg 15 m9 0 (by omega), hg 16 m9 0 (by omega), hg 17 m9 0 (by omega), hg 18 m9 0 (by omega), qr]
    exact q3
  · intro f9 q1 q2
    rw [hg 1 1 0 (by omega)] at q2
    have q3 := hF f9 q1 q2
    unfold IF at q3 ⊢
    have qr : ∀ j : Int, g' 28 f9 j = g 28 f9 j := fun j => hg 28 f9 j (by omega)
    simp only [hg 20 f9 0 (by omega), hg 21 f9 0 (by omega), hg 22 f9 0 (by omega), hg 23 f9 0 (by omega), hg 24 f9 0 (by omega), hg 25 f9 0 (by omega), hg 26 f9 0 (by omega), hg 27 f9 0 (by omega), hg 1 0 0 (by omega), qr]
    exact q3
  · intro r9 q1 q2
    have q3 := hR r9 q1 q2
    unfold IR at q3 ⊢
    have qr : ∀ j : Int, g' 39 r9 j = g 39 r9 j := fun j => hg 39 r9 j (by omega)
    simp only [hg 30 r9 0 (by omega), hg 31 r9 0 (by omega), hg 32 r9 0 (by omega), hg 33 r9 0 (by omega), hg 34 r9 0 (by omega), hg 35 r9 0 (by omega), hg 36 r9 0 (by omega), hg 37 r9 0 (by omega), hg 38 r9 0 (by omega), hg 1 0 0 (by omega), qr]
    exact q3
  · exact hs
theorem ib_nf {g g' : St} (h : IB g) {n : Int} (hn : n = g 1 1 0) (hg : ∀ (t : Nat) (i j : Int), ¬ (((t = 1 ∨ t = 3 ∨ t = 4) ∧ i = 1) ∨ (20 ≤ t ∧ t ≤ 28 ∧ i = n + 1)) → g' t i j = g t i j) (hc : g' 1 1 0 = n + 1) (hl : IL g') (hs : IF g' (n + 1)) : IB g' := by
  obtain ⟨hX, hL, hS, hF, hR, hG⟩ := h
  refine ⟨?_, ?_, ?_, ?_, ?_, ?_⟩
  · unfold IX at hX ⊢
    simp only [hg 0 0 0 (by omega), hg 0 7 0 (by omega), hg 0 8 0 (by omega), hg 0 9 0 (by omega), hg 0 10 0 (by omega), hg 0 11 0 (by omega), hg 0 12 0 (by omega), hg 0 13 0 (by omega), hg 1 0 0 (by omega)]
    exact hX
  · exact hl
  · intro m9 q1 q2
    rw [hg 1 0 0 (by omega)] at q2
    have q3 := hS m9 q1 q2
    unfold IS at q3 ⊢
    have qr : ∀ j : Int, g' 19 m9 j = g 19 m9 j := fun j => hg 19 m9 j (by omega)
    simp only [hg 11 m9 0 (by omega), hg 12 m9 0 (by omega), hg 13 m9 0 (by omega), hg 14 m9 0 (by omega), hg 15 m9 0 (by omega), hg 16 m9 0 (by omega), hg 17 m9 0 (by omega), hg 18 m9 0 (by omega), qr]
    exact q3
  · intro f9 q1 q2
    rw [hc] at q2
    by_cases q : f9 = n + 1
    · subst q; exact hs
    · have q3 := hF f9 q1 (by omega)
      unfold IF at q3 ⊢
      have qr : ∀ j : Int, g' 28 f9 j = g 28 f9 j := fun j => hg 28 f9 j (by omega)
      simp only [hg 20 f9 0 (by omega), hg 21 f9 0 (by omega), hg 22 f9 0 (by omega), hg 23 f9 0 (by omega), hg 24 f9 0 (by omega), hg 25 f9 0 (by omega), hg 26 f9 0 (by omega), hg 27 f9 0 (by omega), hg 1 0 0 (by omega), qr]
      exact q3
  · intro r9 q1 q2
    have q3 := hR r9 q1 q2
    unfold IR at q3 ⊢
    have qr : ∀ j : Int, g' 39 r9 j = g 39 r9 j := fun j => hg 39 r9 j (by omega)
    simp only [hg 30 r9 0 (by omega), hg 31 r9 0 (by omega), hg 32 r9 0 (by omega), hg 33 r9 0 (by omega), hg 34 r9 0 (by omega), hg 35 r9 0 (by omega), hg 36 r9 0 (by omega), hg 37 r9 0 (by omega), hg 38 r9 0 (by omega), hg 1 0 0 (by omega), qr]
    exact q3
  · unfold IG at hG ⊢
    have qr : ∀ j : Int, g' 40 0 j = g 40 0 j := fun j => hg 40 0 j (by omega)
    simp only [hg 1 2 0 (by omega), qr]
    exact hG
theorem ib_ns {g g' : St} (h : IB g) {n : Int} (hn : n = g 1 0 0) (hg : ∀ (t : Nat) (i j : Int), ¬ (((t = 1 ∨ t = 3 ∨ t = 4) ∧ i = 0) ∨ (11 ≤ t ∧ t ≤ 19 ∧ i = n + 1)) → g' t i j = g t i j) (hc : g' 1 0 0 = n + 1) (hl : IL g') (hs : IS g' (n + 1)) : IB g' := by
  obtain ⟨hX, hL, hS, hF, hR, hG⟩ := h
  refine ⟨?_, ?_, ?_, ?_, ?_, ?_⟩
  · unfold IX at hX ⊢
    simp only [hg 0 0 0 (by omega), hg 0 7 0 (by omega), hg 0 8 0 (by omega), hg 0 9 0 (by omega), hg 0 10 0 (by omega), hg 0 11 0 (by omega), hg 0 12 0 (by omega), hg 0 13 0 (by omega), hc]
    omega
  · exact hl
  · intro m9 q1 q2
    rw [hc] at q2
    by_cases q : m9 = n + 1
    · subst q; exact hs
    · have q3 := hS m9 q1 (by omega)
      unfold IS at q3 ⊢
      have qr : ∀ j : Int, g' 19 m9 j = g 19 m9 j := fun j => hg 19 m9 j (by omega)
      simp only [hg 11 m9 0 (by omega), hg 12 m9 0 (by omega), hg 13 m9 0 (by omega), hg 14 m9 0 (by omega), hg 15 m9 0 (by omega), hg 16 m9 0 (by omega), hg 17 m9 0 (by omega), hg 18 m9 0 (by omega), qr]
      exact q3
  · intro f9 q1 q2
    rw [hg 1 1 0 (by omega)] at q2
    have q3 := hF f9 q1 q2
    unfold IF at q3 ⊢
    have qr : ∀ j : Int, g' 28 f9 j = g 28 f9 j := fun j => hg 28 f9 j (by omega)
    simp only [hg 20 f9 0 (by omega), hg 21 f9 0 (by omega), hg 22 f9 0 (by omega), hg 23 f9 0 (by omega), hg 24 f9 0 (by omega), hg 25 f9 0 (by omega), hg 26 f9 0 (by omega), hg 27 f9 0 (by omega), hc, qr]
    exact ⟨q3.1, by omega, q3.2.2⟩
  · intro r9 q1 q2
    have q3 := hR r9 q1 q2
    unfold IR at q3 ⊢
    have qr : ∀ j : Int, g' 39 r9 j = g 39 r9 j := fun j => hg 39 r9 j (by omega)
    simp only [hg 30 r9 0 (by omega), hg 31 r9 0 (by omega), hg 32 r9 0 (by omega), hg 33 r9 0 (by omega), hg 34 r9 0 (by omega), hg 35 r9 0 (by omega), hg 36 r9 0 (by omega), hg 37 r9 0 (by omega), hg 38 r9 0 (by omega), hc, qr]
    exact ⟨q3.1, by omega, q3.2.2⟩
  · unfold IG at hG ⊢
    have qr : ∀ j : Int, g' 40 0 j = g 40 0 j := fun j => hg 40 0 j (by omega)
    simp only [hg 1 2 0 (by omega), qr]
    exact hG
/-! what the class does, on numbers -/
def nV : Int := 9223372036854775807
def sCnt (g : St) (w : Int) : St := wr g 2 w (g 2 w 0 + 1)
def sEnds (g : St) : St := wr g 0 5 (g 0 5 0 + 1)
def sRest (g : St) (m st : Int) : St := wr (wr g 12 m st) 18 m 9223372036854775807
def sAwait (g : St) (m : Int) : St := wr (wr g 12 m 1) 18 m (g 0 7 0 + 1000)
def sEndS (g : St) (m w : Int) : St := sCnt (sEnds (sRest g m 4)) w
def rRest (g : St) (r st : Int) : St := wr (wr (wr g 30 r st) 37 r 9223372036854775807) 38 r 9223372036854775807
def sEndR (g : St) (r w : Int) : St := sCnt (sEnds (rRest g r 3)) w
def lGrow (g : St) (li : Int) : St := wr (wr (wr g 1 li (g 1 li 0 + 1)) 3 li (g 3 li 0 + 1)) 4 li (if g 1 li 0 < g 4 li 0 then g 4 li 0 else lcap (g 4 li 0))
def sFrame (g : St) (kd mg nu sz sp ln : Int) (F : Int → Int) : St := wR (wr (wr (wr (wr (wr (wr (wr (wr (lGrow g 1) 20 (g 1 1 0 + 1) kd) 21 (g 1 1 0 + 1) mg) 22 (g 1 1 0 + 1) nu) 23 (g 1 1 0 + 1) sz) 24 (g 1 1 0 + 1) sp) 25 (g 1 1 0 + 1) (g 0 7 0)) 26 (g 1 1 0 + 1) ln) 27 (g 1 1 0 + 1) 1) 28 (g 1 1 0 + 1) F
def sTo (g : St) (m mo : Int) : Int := min (g 13 m 0 + mo) (g 11 m 0)
def sData (g : St) (m kd nu mo : Int) : St := wr (sFrame g kd m nu (sTo g m mo - g 13 m 0) 0 (sTo g m mo - g 13 m 0) (slF (g 19 m) (g 13 m 0) (sTo g m mo - g 13 m 0))) 13 m (sTo g m mo)
def sMkD (g : St) (m kd nu mo : Int) : St := if 6000 ≤ g 1 1 0 then sEndS g m 7 else sData g m kd nu mo
def sFlow (g : St) (mg fk bk sp : Int) : St := sFrame g 3 mg fk bk sp 0 (fun _ => 0)
def sMkF (g : St) (r mg fk bk sp : Int) : St := if 6000 ≤ g 1 1 0 then sEndR g r 7 else sFlow g mg fk bk sp
def kC (g : St) : Nat := (3 * g 1 1 0).toNat
def kS (g : St) : Nat := (15 * g 1 1 0 + 4 * g 4 1 0).toNat
