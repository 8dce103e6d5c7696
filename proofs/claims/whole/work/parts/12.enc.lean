/-! what a state of the class IS: numbers by table, owner and place; addresses by kind and number -/
abbrev St : Type := Nat → Int → Int → Int
abbrev Al : Type := Nat → Int → Nat
def wr (g : St) (t : Nat) (i v : Int) : St := fun t' i' j' => if t' = t ∧ i' = i ∧ j' = 0 then v else g t' i' j'
def wR (g : St) (t : Nat) (i : Int) (F : Int → Int) : St := fun t' i' j' => if t' = t ∧ i' = i then F j' else g t' i' j'
def wa (al : Al) (k : Nat) (i : Int) (q : Nat) : Al := fun k' i' => if k' = k ∧ i' = i then q else al k' i'
theorem wr_s (g : St) (t : Nat) (i v : Int) : wr g t i v t i 0 = v := if_pos ⟨rfl, rfl, rfl⟩
theorem wr_n {g : St} {t t' : Nat} {i i' j' v : Int} (h : ¬ (t' = t ∧ i' = i ∧ j' = 0)) : wr g t i v t' i' j' = g t' i' j' := if_neg h
theorem wR_s (g : St) (t : Nat) (i : Int) (F : Int → Int) : wR g t i F t i = F := funext fun _ => if_pos ⟨rfl, rfl⟩
theorem wR_n {g : St} {t t' : Nat} {i i' j' : Int} {F : Int → Int} (h : ¬ (t' = t ∧ i' = i)) : wR g t i F t' i' j' = g t' i' j' := if_neg h
theorem wa_s (al : Al) (k : Nat) (i : Int) (q : Nat) : wa al k i q k i = q := if_pos ⟨rfl, rfl⟩
theorem wa_n {al : Al} {k k' : Nat} {i i' : Int} {q : Nat} (h : ¬ (k' = k ∧ i' = i)) : wa al k i q k' i' = al k' i' := if_neg h
abbrev eX (g : St) (al : Al) : List Value := [.int (iZ (g 0 0 0)), .ref (al 1 0), .ref (al 1 1), .ref (al 3 0), .ref (al 4 0), .int (iZ (g 0 5 0)), .ref (al 11 0), .long (lZ (g 0 7 0)), .int (iZ (g 0 8 0)), .int (iZ (g 0 9 0)), .int (iZ (g 0 10 0)), .int (iZ (g 0 11 0)), .int (iZ (g 0 12 0)), .int (iZ (g 0 13 0))]
abbrev eL (g : St) (al : Al) (li : Int) : List Value := [.int (iZ (g 3 li 0)), .ref (al 2 li), .int (iZ (g 1 li 0))]
abbrev eS (g : St) (al : Al) (m : Int) : List Value := [.int (iZ m), .ref (al 6 m), .int (iZ (g 12 m 0)), .int (iZ (g 13 m 0)), .int (iZ (g 14 m 0)), .int (iZ (g 15 m 0)), .int (iZ (g 16 m 0)), .int (iZ (g 17 m 0)), .long (lZ (g 18 m 0))]
abbrev eF (g : St) (al : Al) (f : Int) : List Value := [.int (iZ (g 20 f 0)), .int (iZ (g 21 f 0)), .int (iZ (g 22 f 0)), .int (iZ (g 23 f 0)), .int (iZ (g 24 f 0)), .long (lZ (g 25 f 0)), .ref (al 8 f), .int (iZ (g 27 f 0))]
abbrev eR (g : St) (al : Al) (r : Int) : List Value := [.int (iZ (g 30 r 0)), .int (iZ (g 31 r 0)), .ref (al 10 r), .int (iZ (g 33 r 0)), .int (iZ (g 34 r 0)), .int (iZ (g 35 r 0)), .int (iZ (g 36 r 0)), .long (lZ (g 37 r 0)), .long (lZ (g 38 r 0))]
def eA (g : St) (al : Al) (li : Int) : Int → Option Nat := fun j => if 0 ≤ j ∧ j < g 1 li 0 then some (al (if li = 0 then 5 else 7) (j + 1)) else none
def EC (dA : Nat → ClassId) (z : Nat → Nat) (g : St) (al : Al) (en : en_T) : Prop :=
  en 0 0 = some (al 0 0, .inr (5, eX g al)) ∧ en 1 0 = some (al 1 0, .inr (1, eL g al 0)) ∧ en 1 1 = some (al 1 1, .inr (1, eL g al 1)) ∧
  (∀ li : Int, li = 0 ∨ li = 1 → (g 4 li 0 = 0 ∧ al 2 li = z 2 ∧ g 1 li 0 = 0) ∨ (10 ≤ g 4 li 0 ∧ en 2 li = some (al 2 li, aO dA (g 4 li 0) (eA g al li)))) ∧
  en 3 0 = some (al 3 0, aR dA 4 (fun j => some (al 9 j))) ∧ en 4 0 = some (al 4 0, aI dA 8 (fun j => g 2 j 0)) ∧
  (∀ m : Int, 1 ≤ m → m ≤ g 1 0 0 → en 5 m = some (al 5 m, .inr (4, eS g al m)) ∧ en 6 m = some (al 6 m, aB dA (g 11 m 0) (g 19 m))) ∧
  (∀ f : Int, 1 ≤ f → f ≤ g 1 1 0 → en 7 f = some (al 7 f, .inr (2, eF g al f)) ∧ bA dA z en 8 f (al 8 f) (g 26 f 0) (g 28 f)) ∧
  (∀ r : Int, 0 ≤ r → r < 4 → en 9 r = some (al 9 r, .inr (3, eR g al r)) ∧ (g 30 r 0 = 1 → bA dA z en 10 r (al 10 r) (g 32 r 0) (g 39 r))) ∧
  ∃ (kg : Nat) (ig : Int), (kg = 11 ∧ ig = 0 ∨ kg = 8 ∧ 1 ≤ ig ∧ ig ≤ g 1 1 0) ∧ bA dA z en kg ig (al 11 0) (g 1 2 0) (g 40 0)
theorem eA_c {g g' : St} {al al' : Al} {li : Int} (h : g' 1 li 0 = g 1 li 0) (h5 : ∀ j : Int, 1 ≤ j → j ≤ g 1 li 0 → al' (if li = 0 then 5 else 7) j = al (if li = 0 then 5 else 7) j) : eA g' al' li = eA g al li := by
  funext j
  unfold eA
  rw [h]
  by_cases q : 0 ≤ j ∧ j < g 1 li 0
  · rw [if_pos q, if_pos q, h5 (j + 1) (by omega) (by omega)]
  · rw [if_neg q, if_neg q]
theorem ec_x {dA : Nat → ClassId} {z : Nat → Nat} {g g' : St} {al al' : Al} {en en' : en_T} (h : EC dA z g al en)  (hg : ∀ (t : Nat) (i j : Int), ¬ (t = 0) → g' t i j = g t i j) (ha : ∀ (k : Nat) (i : Int), ¬ (k = 77) → al' k i = al k i) (he : ∀ (k : Nat) (i : Int), ¬ (k = 0 ∧ i = 0) → en' k i = en k i) (hs : en' 0 0 = some (al 0 0, .inr (5, eX g' al))) : EC dA z g' al' en' := by
  obtain ⟨h0, h1, h2, h3, h4, h5, h6, h7, h8, kg, ig, hk, h9⟩ := h
  have t1 : ∀ i j : Int, g' 1 i j = g 1 i j := fun i j => hg 1 i j (by omega)
  have t2 : ∀ i j : Int, g' 2 i j = g 2 i j := fun i j => hg 2 i j (by omega)
  have t3 : ∀ i j : Int, g' 3 i j = g 3 i j := fun i j => hg 3 i j (by omega)
  have t4 : ∀ i j : Int, g' 4 i j = g 4 i j := fun i j => hg 4 i j (by omega)
  have t11 : ∀ i j : Int, g' 11 i j = g 11 i j := fun i j => hg 11 i j (by omega)
  have t12 : ∀ i j : Int, g' 12 i j = g 12 i j := fun i j => hg 12 i j (by omega)
  have t13 : ∀ i j : Int, g' 13 i j = g 13 i j := fun i j => hg 13 i j (by omega)
  have t14 : ∀ i j : Int, g' 14 i j = g 14 i j := fun i j => hg 14 i j (by omega)
  have t15 : ∀ i j : Int, g' 15 i j = g 15 i j := fun i j => hg 15 i j (by omega)
  have t16 : ∀ i j : Int, g' 16 i j = g 16 i j := fun i j => hg 16 i j (by omega)
  have t17 : ∀ i j : Int, g' 17 i j = g 17 i j := fun i j => hg 17 i j (by omega)
  have t18 : ∀ i j : Int, g' 18 i j = g 18 i j := fun i j => hg 18 i j (by omega)
  have t19 : ∀ i j : Int, g' 19 i j = g 19 i j := fun i j => hg 19 i j (by omega)
  have t20 : ∀ i j : Int, g' 20 i j = g 20 i j := fun i j => hg 20 i j (by omega)
  have t21 : ∀ i j : Int, g' 21 i j = g 21 i j := fun i j => hg 21 i j (by omega)
  have t22 : ∀ i j : Int, g' 22 i j = g 22 i j := fun i j => hg 22 i j (by omega)
  have t23 : ∀ i j : Int, g' 23 i j = g 23 i j := fun i j => hg 23 i j (by omega)
  have t24 : ∀ i j : Int, g' 24 i j = g 24 i j := fun i j => hg 24 i j (by omega)
  have t25 : ∀ i j : Int, g' 25 i j = g 25 i j := fun i j => hg 25 i j (by omega)
  have t26 : ∀ i j : Int, g' 26 i j = g 26 i j := fun i j => hg 26 i j (by omega)
  have t27 : ∀ i j : Int, g' 27 i j = g 27 i j := fun i j => hg 27 i j (by omega)
  have t28 : ∀ i j : Int, g' 28 i j = g 28 i j := fun i j => hg 28 i j (by omega)
  have t30 : ∀ i j : Int, g' 30 i j = g 30 i j := fun i j => hg 30 i j (by omega)
  have t31 : ∀ i j : Int, g' 31 i j = g 31 i j := fun i j => hg 31 i j (by omega)
  have t32 : ∀ i j : Int, g' 32 i j = g 32 i j := fun i j => hg 32 i j (by omega)
  have t33 : ∀ i j : Int, g' 33 i j = g 33 i j := fun i j => hg 33 i j (by omega)
  have t34 : ∀ i j : Int, g' 34 i j = g 34 i j := fun i j => hg 34 i j (by omega)
  have t35 : ∀ i j : Int, g' 35 i j = g 35 i j := fun i j => hg 35 i j (by omega)
  have t36 : ∀ i j : Int, g' 36 i j = g 36 i j := fun i j => hg 36 i j (by omega)
  have t37 : ∀ i j : Int, g' 37 i j = g 37 i j := fun i j => hg 37 i j (by omega)
  have t38 : ∀ i j : Int, g' 38 i j = g 38 i j := fun i j => hg 38 i j (by omega)
  have t39 : ∀ i j : Int, g' 39 i j = g 39 i j := fun i j => hg 39 i j (by omega)
  have t40 : ∀ i j : Int, g' 40 i j = g 40 i j := fun i j => hg 40 i j (by omega)
  have f19 : ∀ i : Int, g' 19 i = g 19 i := fun i => funext fun j => t19 i j
  have f28 : ∀ i : Int, g' 28 i = g 28 i := fun i => funext fun j => t28 i j
  have f39 : ∀ i : Int, g' 39 i = g 39 i := fun i => funext fun j => t39 i j
  have f40 : ∀ i : Int, g' 40 i = g 40 i := fun i => funext fun j => t40 i j
  refine ⟨?_, ?_, ?_, ?_, ?_, ?_, ?_, ?_, ?_, ?_⟩
  · rw [hs]
    simp only [eX, ha 1 0 (by omega), ha 1 1 (by omega), ha 3 0 (by omega), ha 4 0 (by omega), ha 11 0 (by omega), ha 0 0 (by omega)]
  · rw [he 1 0 (by omega), h1]; simp only [eL, t3, t1, ha 2 0 (by omega), ha 1 0 (by omega)]
  · rw [he 1 1 (by omega), h2]; simp only [eL, t3, t1, ha 2 1 (by omega), ha 1 1 (by omega)]
  · intro li hl; rw [t4, t1, he 2 li (by omega), ha 2 li (by omega), eA_c (t1 li 0) (fun j q1 q2 => by rcases hl with rfl | rfl <;> first | exact ha 5 j (by omega) | exact ha 7 j (by omega))]; exact h3 li hl
  · rw [he 3 0 (by omega), h4, ha 3 0 (by omega)]; congr 3; funext j; rw [ha 9 j (by omega)]
  · rw [he 4 0 (by omega), h5, ha 4 0 (by omega)]; simp only [t2]
  · intro m' q1 q2; rw [t1] at q2; rw [he 5 m' (by omega), he 6 m' (by omega), (h6 m' q1 q2).1, (h6 m' q1 q2).2, t11, f19]; simp only [eS, t12, t13, t14, t15, t16, t17, t18, ha 5 m' (by omega), ha 6 m' (by omega), and_self]
  · intro f q1 q2; rw [t1] at q2; obtain ⟨a1, a2⟩ := h7 f q1 q2; rw [he 7 f (by omega), a1, t26, f28, ha 8 f (by omega)]; exact ⟨by simp only [eF, t20, t21, t22, t23, t24, t25, t27, ha 7 f (by omega), ha 8 f (by omega)], bA_e (he 8 f (by omega)) a2⟩
  · intro r q1 q2; obtain ⟨a1, a2⟩ := h8 r q1 q2; rw [he 9 r (by omega), a1, t32, f39, ha 10 r (by omega)]; exact ⟨by simp only [eR, t30, t31, t33, t34, t35, t36, t37, t38, ha 9 r (by omega), ha 10 r (by omega)], fun q9 => bA_e (he 10 r (by omega)) (a2 (by rw [← t30]; exact q9))⟩
  · exact ⟨kg, ig, by rw [t1]; exact hk, by rw [t1, f40, ha 11 0 (by omega)]; exact bA_e (he kg ig (by omega)) h9⟩
theorem ec_c {dA : Nat → ClassId} {z : Nat → Nat} {g g' : St} {al al' : Al} {en en' : en_T} (h : EC dA z g al en)  (hg : ∀ (t : Nat) (i j : Int), ¬ (t = 2) → g' t i j = g t i j) (ha : ∀ (k : Nat) (i : Int), ¬ (k = 77) → al' k i = al k i) (he : ∀ (k : Nat) (i : Int), ¬ (k = 4 ∧ i = 0) → en' k i = en k i) (hs : en' 4 0 = some (al 4 0, aI dA 8 (fun j => g' 2 j 0))) : EC dA z g' al' en' := by
  obtain ⟨h0, h1, h2, h3, h4, h5, h6, h7, h8, kg, ig, hk, h9⟩ := h
  have t0 : ∀ i j : Int, g' 0 i j = g 0 i j := fun i j => hg 0 i j (by omega)
  have t1 : ∀ i j : Int, g' 1 i j = g 1 i j := fun i j => hg 1 i j (by omega)
  have t3 : ∀ i j : Int, g' 3 i j = g 3 i j := fun i j => hg 3 i j (by omega)
  have t4 : ∀ i j : Int, g' 4 i j = g 4 i j := fun i j => hg 4 i j (by omega)
  have t11 : ∀ i j : Int, g' 11 i j = g 11 i j := fun i j => hg 11 i j (by omega)
  have t12 : ∀ i j : Int, g' 12 i j = g 12 i j := fun i j => hg 12 i j (by omega)
  have t13 : ∀ i j : Int, g' 13 i j = g 13 i j := fun i j => hg 13 i j (by omega)
  have t14 : ∀ i j : Int, g' 14 i j = g 14 i j := fun i j => hg 14 i j (by omega)
  have t15 : ∀ i j : Int, g' 15 i j = g 15 i j := fun i j => hg 15 i j (by omega)
  have t16 : ∀ i j : Int, g' 16 i j = g 16 i j := fun i j => hg 16 i j (by omega)
  have t17 : ∀ i j : Int, g' 17 i j = g 17 i j := fun i j => hg 17 i j (by omega)
  have t18 : ∀ i j : Int, g' 18 i j = g 18 i j := fun i j => hg 18 i j (by omega)
  have t19 : ∀ i j : Int, g' 19 i j = g 19 i j := fun i j => hg 19 i j (by omega)
  have t20 : ∀ i j : Int, g' 20 i j = g 20 i j := fun i j => hg 20 i j (by omega)
  have t21 : ∀ i j : Int, g' 21 i j = g 21 i j := fun i j => hg 21 i j (by omega)
  have t22 : ∀ i j : Int, g' 22 i j = g 22 i j := fun i j => hg 22 i j (by omega)
  have t23 : ∀ i j : Int, g' 23 i j = g 23 i j := fun i j => hg 23 i j (by omega)
  have t24 : ∀ i j : Int, g' 24 i j = g 24 i j := fun i j => hg 24 i j (by omega)
  have t25 : ∀ i j : Int, g' 25 i j = g 25 i j := fun i j => hg 25 i j (by omega)
  have t26 : ∀ i j : Int, g' 26 i j = g 26 i j := fun i j => hg 26 i j (by omega)
  have t27 : ∀ i j : Int, g' 27 i j = g 27 i j := fun i j => hg 27 i j (by omega)
  have t28 : ∀ i j : Int, g' 28 i j = g 28 i j := fun i j => hg 28 i j (by omega)
  have t30 : ∀ i j : Int, g' 30 i j = g 30 i j := fun i j => hg 30 i j (by omega)
  have t31 : ∀ i j : Int, g' 31 i j = g 31 i j := fun i j => hg 31 i j (by omega)
  have t32 : ∀ i j : Int, g' 32 i j = g 32 i j := fun i j => hg 32 i j (by omega)
  have t33 : ∀ i j : Int, g' 33 i j = g 33 i j := fun i j => hg 33 i j (by omega)
  have t34 : ∀ i j : Int, g' 34 i j = g 34 i j := fun i j => hg 34 i j (by omega)
  have t35 : ∀ i j : Int, g' 35 i j = g 35 i j := fun i j => hg 35 i j (by omega)
  have t36 : ∀ i j : Int, g' 36 i j = g 36 i j := fun i j => hg 36 i j (by omega)
  have t37 : ∀ i j : Int, g' 37 i j = g 37 i j := fun i j => hg 37 i j (by omega)
  have t38 : ∀ i j : Int, g' 38 i j = g 38 i j := fun i j => hg 38 i j (by omega)
  have t39 : ∀ i j : Int, g' 39 i j = g 39 i j := fun i j => hg 39 i j (by omega)
  have t40 : ∀ i j : Int, g' 40 i j = g 40 i j := fun i j => hg 40 i j (by omega)
  have f19 : ∀ i : Int, g' 19 i = g 19 i := fun i => funext fun j => t19 i j
  have f28 : ∀ i : Int, g' 28 i = g 28 i := fun i => funext fun j => t28 i j
  have f39 : ∀ i : Int, g' 39 i = g 39 i := fun i => funext fun j => t39 i j
  have f40 : ∀ i : Int, g' 40 i = g 40 i := fun i => funext fun j => t40 i j
  refine ⟨?_, ?_, ?_, ?_, ?_, ?_, ?_, ?_, ?_, ?_⟩
  · rw [he 0 0 (by omega), h0]; simp only [eX, t0, ha 1 0 (by omega), ha 1 1 (by omega), ha 3 0 (by omega), ha 4 0 (by omega), ha 11 0 (by omega), ha 0 0 (by omega)]
  · rw [he 1 0 (by omega), h1]; simp only [eL, t3, t1, ha 2 0 (by omega), ha 1 0 (by omega)]
  · rw [he 1 1 (by omega), h2]; simp only [eL, t3, t1, ha 2 1 (by omega), ha 1 1 (by omega)]
  · intro li hl; rw [t4, t1, he 2 li (by omega), ha 2 li (by omega), eA_c (t1 li 0) (fun j q1 q2 => by rcases hl with rfl | rfl <;> first | exact ha 5 j (by omega) | exact ha 7 j (by omega))]; exact h3 li hl
  · rw [he 3 0 (by omega), h4, ha 3 0 (by omega)]; congr 3; funext j; rw [ha 9 j (by omega)]
  · rw [hs, ha 4 0 (by omega)]
  · intro m' q1 q2; rw [t1] at q2; rw [he 5 m' (by omega), he 6 m' (by omega), (h6 m' q1 q2).1, (h6 m' q1 q2).2, t11, f19]; simp only [eS, t12, t13, t14, t15, t16, t17, t18, ha 5 m' (by omega), ha 6 m' (by omega), and_self]
  · intro f q1 q2; rw [t1] at q2; obtain ⟨a1, a2⟩ := h7 f q1 q2; rw [he 7 f (by omega), a1, t26, f28, ha 8 f (by omega)]; exact ⟨by simp only [eF, t20, t21, t22, t23, t24, t25, t27, ha 7 f (by omega), ha 8 f (by omega)], bA_e (he 8 f (by omega)) a2⟩
  · intro r q1 q2; obtain ⟨a1, a2⟩ := h8 r q1 q2; rw [he 9 r (by omega), a1, t32, f39, ha 10 r (by omega)]; exact ⟨by simp only [eR, t30, t31, t33, t34, t35, t36, t37, t38, ha 9 r (by omega), ha 10 r (by omega)], fun q9 => bA_e (he 10 r (by omega)) (a2 (by rw [← t30]; exact q9))⟩
  · exact ⟨kg, ig, by rw [t1]; exact hk, by rw [t1, f40, ha 11 0 (by omega)]; exact bA_e (he kg ig (by omega)) h9⟩
theorem ec_s {dA : Nat → ClassId} {z : Nat → Nat} {g g' : St} {al al' : Al} {en en' : en_T} (h : EC dA z g al en) {m : Int} (hm : 1 ≤ m ∧ m ≤ g 1 0 0) (hg : ∀ (t : Nat) (i j : Int), ¬ (12 ≤ t ∧ t ≤ 18 ∧ i = m) → g' t i j = g t i j) (ha : ∀ (k : Nat) (i : Int), ¬ (k = 77) → al' k i = al k i) (he : ∀ (k : Nat) (i : Int), ¬ (k = 5 ∧ i = m) → en' k i = en k i) (hs : en' 5 m = some (al 5 m, .inr (4, eS g' al m))) : EC dA z g' al' en' := by
  obtain ⟨h0, h1, h2, h3, h4, h5, h6, h7, h8, kg, ig, hk, h9⟩ := h
  have t0 : ∀ i j : Int, g' 0 i j = g 0 i j := fun i j => hg 0 i j (by omega)
  have t1 : ∀ i j : Int, g' 1 i j = g 1 i j := fun i j => hg 1 i j (by omega)
  have t2 : ∀ i j : Int, g' 2 i j = g 2 i j := fun i j => hg 2 i j (by omega)
  have t3 : ∀ i j : Int, g' 3 i j = g 3 i j := fun i j => hg 3 i j (by omega)
  have t4 : ∀ i j : Int, g' 4 i j = g 4 i j := fun i j => hg 4 i j (by omega)
  have t11 : ∀ i j : Int, g' 11 i j = g 11 i j := fun i j => hg 11 i j (by omega)
  have t19 : ∀ i j : Int, g' 19 i j = g 19 i j := fun i j => hg 19 i j (by omega)
  have t20 : ∀ i j : Int, g' 20 i j = g 20 i j := fun i j => hg 20 i j (by omega)
  have t21 : ∀ i j : Int, g' 21 i j = g 21 i j := fun i j => hg 21 i j (by omega)
  have t22 : ∀ i j : Int, g' 22 i j = g 22 i j := fun i j => hg 22 i j (by omega)
  have t23 : ∀ i j : Int, g' 23 i j = g 23 i j := fun i j => hg 23 i j (by omega)
  have t24 : ∀ i j : Int, g' 24 i j = g 24 i j := fun i j => hg 24 i j (by omega)
  have t25 : ∀ i j : Int, g' 25 i j = g 25 i j := fun i j => hg 25 i j (by omega)
  have t26 : ∀ i j : Int, g' 26 i j = g 26 i j := fun i j => hg 26 i j (by omega)
  have t27 : ∀ i j : Int, g' 27 i j = g 27 i j := fun i j => hg 27 i j (by omega)
  have t28 : ∀ i j : Int, g' 28 i j = g 28 i j := fun i j => hg 28 i j (by omega)
  have t30 : ∀ i j : Int, g' 30 i j = g 30 i j := fun i j => hg 30 i j (by omega)
  have t31 : ∀ i j : Int, g' 31 i j = g 31 i j := fun i j => hg 31 i j (by omega)
  have t32 : ∀ i j : Int, g' 32 i j = g 32 i j := fun i j => hg 32 i j (by omega)
  have t33 : ∀ i j : Int, g' 33 i j = g 33 i j := fun i j => hg 33 i j (by omega)
  have t34 : ∀ i j : Int, g' 34 i j = g 34 i j := fun i j => hg 34 i j (by omega)
  have t35 : ∀ i j : Int, g' 35 i j = g 35 i j := fun i j => hg 35 i j (by omega)
  have t36 : ∀ i j : Int, g' 36 i j = g 36 i j := fun i j => hg 36 i j (by omega)
  have t37 : ∀ i j : Int, g' 37 i j = g 37 i j := fun i j => hg 37 i j (by omega)
  have t38 : ∀ i j : Int, g' 38 i j = g 38 i j := fun i j => hg 38 i j (by omega)
  have t39 : ∀ i j : Int, g' 39 i j = g 39 i j := fun i j => hg 39 i j (by omega)
  have t40 : ∀ i j : Int, g' 40 i j = g 40 i j := fun i j => hg 40 i j (by omega)
  have f19 : ∀ i : Int, g' 19 i = g 19 i := fun i => funext fun j => t19 i j
  have f28 : ∀ i : Int, g' 28 i = g 28 i := fun i => funext fun j => t28 i j
  have f39 : ∀ i : Int, g' 39 i = g 39 i := fun i => funext fun j => t39 i j
  have f40 : ∀ i : Int, g' 40 i = g 40 i := fun i => funext fun j => t40 i j
  refine ⟨?_, ?_, ?_, ?_, ?_, ?_, ?_, ?_, ?_, ?_⟩
  · rw [he 0 0 (by omega), h0]; simp only [eX, t0, ha 1 0 (by omega), ha 1 1 (by omega), ha 3 0 (by omega), ha 4 0 (by omega), ha 11 0 (by omega), ha 0 0 (by omega)]
  · rw [he 1 0 (by omega), h1]; simp only [eL, t3, t1, ha 2 0 (by omega), ha 1 0 (by omega)]
  · rw [he 1 1 (by omega), h2]; simp only [eL, t3, t1, ha 2 1 (by omega), ha 1 1 (by omega)]
  · intro li hl; rw [t4, t1, he 2 li (by omega), ha 2 li (by omega), eA_c (t1 li 0) (fun j q1 q2 => by rcases hl with rfl | rfl <;> first | exact ha 5 j (by omega) | exact ha 7 j (by omega))]; exact h3 li hl
  · rw [he 3 0 (by omega), h4, ha 3 0 (by omega)]; congr 3; funext j; rw [ha 9 j (by omega)]
  · rw [he 4 0 (by omega), h5, ha 4 0 (by omega)]; simp only [t2]
  · intro m' q1 q2
    rw [t1] at q2
    by_cases q : m' = m
    · subst q
      rw [hs, he 6 m' (by omega), (h6 m' q1 q2).2, t11, f19]
      simp only [eS, ha 5 m' (by omega), ha 6 m' (by omega), and_self]
    · rw [he 5 m' (by omega), he 6 m' (by omega), (h6 m' q1 q2).1, (h6 m' q1 q2).2, t11, f19]
      simp only [eS, hg 12 m' _ (by omega), hg 13 m' _ (by omega), hg 14 m' _ (by omega), hg 15 m' _ (by omega), hg 16 m' _ (by omega), hg 17 m' _ (by omega), hg 18 m' _ (by omega), ha 5 m' (by omega), ha 6 m' (by omega), and_self]
  · intro f q1 q2; rw [t1] at q2; obtain ⟨a1, a2⟩ := h7 f q1 q2; rw [he 7 f (by omega), a1, t26, f28, ha 8 f (by omega)]; exact ⟨by simp only [eF, t20, t21, t22, t23, t24, t25, t27, ha 7 f (by omega), ha 8 f (by omega)], bA_e (he 8 f (by omega)) a2⟩
  · intro r q1 q2; obtain ⟨a1, a2⟩ := h8 r q1 q2; rw [he 9 r (by omega), a1, t32, f39, ha 10 r (by omega)]; exact ⟨by simp only [eR, t30, t31, t33, t34, t35, t36, t37, t38, ha 9 r (by omega), ha 10 r (by omega)], fun q9 => bA_e (he 10 r (by omega)) (a2 (by rw [← t30]; exact q9))⟩
  · exact ⟨kg, ig, by rw [t1]; exact hk, by rw [t1, f40, ha 11 0 (by omega)]; exact bA_e (he kg ig (by omega)) h9⟩
theorem ec_o {dA : Nat → ClassId} {z : Nat → Nat} {g g' : St} {al al' : Al} {en en' : en_T} (h : EC dA z g al en) {m : Int} (hm : 1 ≤ m ∧ m ≤ g 1 0 0) (hg : ∀ (t : Nat) (i j : Int), ¬ (t = 19 ∧ i = m) → g' t i j = g t i j) (ha : ∀ (k : Nat) (i : Int), ¬ (k = 77) → al' k i = al k i) (he : ∀ (k : Nat) (i : Int), ¬ (k = 6 ∧ i = m) → en' k i = en k i) (hs : en' 6 m = some (al 6 m, aB dA (g' 11 m 0) (g' 19 m))) : EC dA z g' al' en' := by
  obtain ⟨h0, h1, h2, h3, h4, h5, h6, h7, h8, kg, ig, hk, h9⟩ := h
  have t0 : ∀ i j : Int, g' 0 i j = g 0 i j := fun i j => hg 0 i j (by omega)
  have t1 : ∀ i j : Int, g' 1 i j = g 1 i j := fun i j => hg 1 i j (by omega)
  have t2 : ∀ i j : Int, g' 2 i j = g 2 i j := fun i j => hg 2 i j (by omega)
  have t3 : ∀ i j : Int, g' 3 i j = g 3 i j := fun i j => hg 3 i j (by omega)
  have t4 : ∀ i j : Int, g' 4 i j = g 4 i j := fun i j => hg 4 i j (by omega)
  have t11 : ∀ i j : Int, g' 11 i j = g 11 i j := fun i j => hg 11 i j (by omega)
  have t12 : ∀ i j : Int, g' 12 i j = g 12 i j := fun i j => hg 12 i j (by omega)
  have t13 : ∀ i j : Int, g' 13 i j = g 13 i j := fun i j => hg 13 i j (by omega)
  have t14 : ∀ i j : Int, g' 14 i j = g 14 i j := fun i j => hg 14 i j (by omega)
  have t15 : ∀ i j : Int, g' 15 i j = g 15 i j := fun i j => hg 15 i j (by omega)
  have t16 : ∀ i j : Int, g' 16 i j = g 16 i j := fun i j => hg 16 i j (by omega)
  have t17 : ∀ i j : Int, g' 17 i j = g 17 i j := fun i j => hg 17 i j (by omega)
  have t18 : ∀ i j : Int, g' 18 i j = g 18 i j := fun i j => hg 18 i j (by omega)
  have t20 : ∀ i j : Int, g' 20 i j = g 20 i j := fun i j => hg 20 i j (by omega)
  have t21 : ∀ i j : Int, g' 21 i j = g 21 i j := fun i j => hg 21 i j (by omega)
  have t22 : ∀ i j : Int, g' 22 i j = g 22 i j := fun i j => hg 22 i j (by omega)
  have t23 : ∀ i j : Int, g' 23 i j = g 23 i j := fun i j => hg 23 i j (by omega)
  have t24 : ∀ i j : Int, g' 24 i j = g 24 i j := fun i j => hg 24 i j (by omega)
  have t25 : ∀ i j : Int, g' 25 i j = g 25 i j := fun i j => hg 25 i j (by omega)
  have t26 : ∀ i j : Int, g' 26 i j = g 26 i j := fun i j => hg 26 i j (by omega)
  have t27 : ∀ i j : Int, g' 27 i j = g 27 i j := fun i j => hg 27 i j (by omega)
  have t28 : ∀ i j : Int, g' 28 i j = g 28 i j := fun i j => hg 28 i j (by omega)
  have t30 : ∀ i j : Int, g' 30 i j = g 30 i j := fun i j => hg 30 i j (by omega)
  have t31 : ∀ i j : Int, g' 31 i j = g 31 i j := fun i j => hg 31 i j (by omega)
  have t32 : ∀ i j : Int, g' 32 i j = g 32 i j := fun i j => hg 32 i j (by omega)
  have t33 : ∀ i j : Int, g' 33 i j = g 33 i j := fun i j => hg 33 i j (by omega)
  have t34 : ∀ i j : Int, g' 34 i j = g 34 i j := fun i j => hg 34 i j (by omega)
  have t35 : ∀ i j : Int, g' 35 i j = g 35 i j := fun i j => hg 35 i j (by omega)
  have t36 : ∀ i j : Int, g' 36 i j = g 36 i j := fun i j => hg 36 i j (by omega)
  have t37 : ∀ i j : Int, g' 37 i j = g 37 i j := fun i j => hg 37 i j (by omega)
  have t38 : ∀ i j : Int, g' 38 i j = g 38 i j := fun i j => hg 38 i j (by omega)
  have t39 : ∀ i j : Int, g' 39 i j = g 39 i j := fun i j => hg 39 i j (by omega)
  have t40 : ∀ i j : Int, g' 40 i j = g 40 i j := fun i j => hg 40 i j (by omega)
  have f28 : ∀ i : Int, g' 28 i = g 28 i := fun i => funext fun j => t28 i j
  have f39 : ∀ i : Int, g' 39 i = g 39 i := fun i => funext fun j => t39 i j
  have f40 : ∀ i : Int, g' 40 i = g 40 i := fun i => funext fun j => t40 i j
  refine ⟨?_, ?_, ?_, ?_, ?_, ?_, ?_, ?_, ?_, ?_⟩
  · rw [he 0 0 (by omega), h0]; simp only [eX, t0, ha 1 0 (by omega), ha 1 1 (by omega), ha 3 0 (by omega), ha 4 0 (by omega), ha 11 0 (by omega), ha 0 0 (by omega)]
  · rw [he 1 0 (by omega), h1]; simp only [eL, t3, t1, ha 2 0 (by omega), ha 1 0 (by omega)]
  · rw [he 1 1 (by omega), h2]; simp only [eL, t3, t1, ha 2 1 (by omega), ha 1 1 (by omega)]
  · intro li hl; rw [t4, t1, he 2 li (by omega), ha 2 li (by omega), eA_c (t1 li 0) (fun j q1 q2 => by rcases hl with rfl | rfl <;> first | exact ha 5 j (by omega) | exact ha 7 j (by omega))]; exact h3 li hl
  · rw [he 3 0 (by omega), h4, ha 3 0 (by omega)]; congr 3; funext j; rw [ha 9 j (by omega)]
  · rw [he 4 0 (by omega), h5, ha 4 0 (by omega)]; simp only [t2]
  · intro m' q1 q2
    rw [t1] at q2
    by_cases q : m' = m
    · subst q
      rw [hs, he 5 m' (by omega), (h6 m' q1 q2).1]
      simp only [eS, t12, t13, t14, t15, t16, t17, t18, ha 5 m' (by omega), ha 6 m' (by omega), and_self]
    · rw [he 5 m' (by omega), he 6 m' (by omega), (h6 m' q1 q2).1, (h6 m' q1 q2).2, t11, show g' 19 m' = g 19 m' from funext fun j => hg 19 m' j (by omega)]
      simp only [eS, t12, t13, t14, t15, t16, t17, t18, ha 5 m' (by omega), ha 6 m' (by omega), and_self]
  · intro f q1 q2; rw [t1] at q2; obtain ⟨a1, a2⟩ := h7 f q1 q2; rw [he 7 f (by omega), a1, t26, f28, ha 8 f (by omega)]; exact ⟨by simp only [eF, t20, t21, t22, t23, t24, t25, t27, ha 7 f (by omega), ha 8 f (by omega)], bA_e (he 8 f (by omega)) a2⟩
  · intro r q1 q2; obtain ⟨a1, a2⟩ := h8 r q1 q2; rw [he 9 r (by omega), a1, t32, f39, ha 10 r (by omega)]; exact ⟨by simp only [eR, t30, t31, t33, t34, t35, t36, t37, t38, ha 9 r (by omega), ha 10 r (by omega)], fun q9 => bA_e (he 10 r (by omega)) (a2 (by rw [← t30]; exact q9))⟩
  · exact ⟨kg, ig, by rw [t1]; exact hk, by rw [t1, f40, ha 11 0 (by omega)]; exact bA_e (he kg ig (by omega)) h9⟩
theorem ec_f {dA : Nat → ClassId} {z : Nat → Nat} {g g' : St} {al al' : Al} {en en' : en_T} (h : EC dA z g al en) {f0 : Int} (hf : 1 ≤ f0 ∧ f0 ≤ g 1 1 0) (hg : ∀ (t : Nat) (i j : Int), ¬ (t = 27 ∧ i = f0) → g' t i j = g t i j) (ha : ∀ (k : Nat) (i : Int), ¬ (k = 77) → al' k i = al k i) (he : ∀ (k : Nat) (i : Int), ¬ (k = 7 ∧ i = f0) → en' k i = en k i) (hs : en' 7 f0 = some (al 7 f0, .inr (2, eF g' al f0))) : EC dA z g' al' en' := by
  obtain ⟨h0, h1, h2, h3, h4, h5, h6, h7, h8, kg, ig, hk, h9⟩ := h
  have t0 : ∀ i j : Int, g' 0 i j = g 0 i j := fun i j => hg 0 i j (by omega)
  have t1 : ∀ i j : Int, g' 1 i j = g 1 i j := fun i j => hg 1 i j (by omega)
  have t2 : ∀ i j : Int, g' 2 i j = g 2 i j := fun i j => hg 2 i j (by omega)
  have t3 : ∀ i j : Int, g' 3 i j = g 3 i j := fun i j => hg 3 i j (by omega)
  have t4 : ∀ i j : Int, g' 4 i j = g 4 i j := fun i j => hg 4 i j (by omega)
  have t11 : ∀ i j : Int, g' 11 i j = g 11 i j := fun i j => hg 11 i j (by omega)
  have t12 : ∀ i j : Int, g' 12 i j = g 12 i j := fun i j => hg 12 i j (by omega)
  have t13 : ∀ i j : Int, g' 13 i j = g 13 i j := fun i j => hg 13 i j (by omega)
  have t14 : ∀ i j : Int, g' 14 i j = g 14 i j := fun i j => hg 14 i j (by omega)
  have t15 : ∀ i j : Int, g' 15 i j = g 15 i j := fun i j => hg 15 i j (by omega)
  have t16 : ∀ i j : Int, g' 16 i j = g 16 i j := fun i j => hg 16 i j (by omega)
  have t17 : ∀ i j : Int, g' 17 i j = g 17 i j := fun i j => hg 17 i j (by omega)
  have t18 : ∀ i j : Int, g' 18 i j = g 18 i j := fun i j => hg 18 i j (by omega)
  have t19 : ∀ i j : Int, g' 19 i j = g 19 i j := fun i j => hg 19 i j (by omega)
  have t20 : ∀ i j : Int, g' 20 i j = g 20 i j := fun i j => hg 20 i j (by omega)
  have t21 : ∀ i j : Int, g' 21 i j = g 21 i j := fun i j => hg 21 i j (by omega)
  have t22 : ∀ i j : Int, g' 22 i j = g 22 i j := fun i j => hg 22 i j (by omega)
  have t23 : ∀ i j : Int, g' 23 i j = g 23 i j := fun i j => hg 23 i j (by omega)
  have t24 : ∀ i j : Int, g' 24 i j = g 24 i j := fun i j => hg 24 i j (by omega)
  have t25 : ∀ i j : Int, g' 25 i j = g 25 i j := fun i j => hg 25 i j (by omega)
  have t26 : ∀ i j : Int, g' 26 i j = g 26 i j := fun i j => hg 26 i j (by omega)
  have t28 : ∀ i j : Int, g' 28 i j = g 28 i j := fun i j => hg 28 i j (by omega)
  have t30 : ∀ i j : Int, g' 30 i j = g 30 i j := fun i j => hg 30 i j (by omega)
  have t31 : ∀ i j : Int, g' 31 i j = g 31 i j := fun i j => hg 31 i j (by omega)
  have t32 : ∀ i j : Int, g' 32 i j = g 32 i j := fun i j => hg 32 i j (by omega)
  have t33 : ∀ i j : Int, g' 33 i j = g 33 i j := fun i j => hg 33 i j (by omega)
  have t34 : ∀ i j : Int, g' 34 i j = g 34 i j := fun i j => hg 34 i j (by omega)
  have t35 : ∀ i j : Int, g' 35 i j = g 35 i j := fun i j => hg 35 i j (by omega)
  have t36 : ∀ i j : Int, g' 36 i j = g 36 i j := fun i j => hg 36 i j (by omega)
  have t37 : ∀ i j : Int, g' 37 i j = g 37 i j := fun i j => hg 37 i j (by omega)
  have t38 : ∀ i j : Int, g' 38 i j = g 38 i j := fun i j => hg 38 i j (by omega)
  have t39 : ∀ i j : Int, g' 39 i j = g 39 i j := fun i j => hg 39 i j (by omega)
  have t40 : ∀ i j : Int, g' 40 i j = g 40 i j := fun i j => hg 40 i j (by omega)
  have f19 : ∀ i : Int, g' 19 i = g 19 i := fun i => funext fun j => t19 i j
  have f28 : ∀ i : Int, g' 28 i = g 28 i := fun i => funext fun j => t28 i j
  have f39 : ∀ i : Int, g' 39 i = g 39 i := fun i => funext fun j => t39 i j
  have f40 : ∀ i : Int, g' 40 i = g 40 i := fun i => funext fun j => t40 i j
  refine ⟨?_, ?_, ?_, ?_, ?_, ?_, ?_, ?_, ?_, ?_⟩
  · rw [he 0 0 (by omega), h0]; simp only [eX, t0, ha 1 0 (by omega), ha 1 1 (by omega), ha 3 0 (by omega), ha 4 0 (by omega), ha 11 0 (by omega), ha 0 0 (by omega)]
  · rw [he 1 0 (by omega), h1]; simp only [eL, t3, t1, ha 2 0 (by omega), ha 1 0 (by omega)]
  · rw [he 1 1 (by omega), h2]; simp only [eL, t3, t1, ha 2 1 (by omega), ha 1 1 (by omega)]
  · intro li hl; rw [t4, t1, he 2 li (by omega), ha 2 li (by omega), eA_c (t1 li 0) (fun j q1 q2 => by rcases hl with rfl | rfl <;> first | exact ha 5 j (by omega) | exact ha 7 j (by omega))]; exact h3 li hl
  · rw [he 3 0 (by omega), h4, ha 3 0 (by omega)]; congr 3; funext j; rw [ha 9 j (by omega)]
  · rw [he 4 0 (by omega), h5, ha 4 0 (by omega)]; simp only [t2]
  · intro m' q1 q2; rw [t1] at q2; rw [he 5 m' (by omega), he 6 m' (by omega), (h6 m' q1 q2).1, (h6 m' q1 q2).2, t11, f19]; simp only [eS, t12, t13, t14, t15, t16, t17, t18, ha 5 m' (by omega), ha 6 m' (by omega), and_self]
  · intro f q1 q2
    rw [t1] at q2
    obtain ⟨a1, a2⟩ := h7 f q1 q2
    rw [t26, f28, ha 8 f (by omega)]
    refine ⟨?_, bA_e (he 8 f (by omega)) a2⟩
    by_cases q : f = f0
    · subst q
      rw [hs]
      simp only [eF, ha 7 f (by omega), ha 8 f (by omega)]
    · rw [he 7 f (by omega), a1]
      simp only [eF, t20, t21, t22, t23, t24, t25, hg 27 f _ (by omega), ha 7 f (by omega), ha 8 f (by omega)]
  · intro r q1 q2; obtain ⟨a1, a2⟩ := h8 r q1 q2; rw [he 9 r (by omega), a1, t32, f39, ha 10 r (by omega)]; exact ⟨by simp only [eR, t30, t31, t33, t34, t35, t36, t37, t38, ha 9 r (by omega), ha 10 r (by omega)], fun q9 => bA_e (he 10 r (by omega)) (a2 (by rw [← t30]; exact q9))⟩
  · exact ⟨kg, ig, by rw [t1]; exact hk, by rw [t1, f40, ha 11 0 (by omega)]; exact bA_e (he kg ig (by omega)) h9⟩
theorem ec_r {dA : Nat → ClassId} {z : Nat → Nat} {g g' : St} {al al' : Al} {en en' : en_T} (h : EC dA z g al en) {r0 : Int} (hr : 0 ≤ r0 ∧ r0 < 4) (hg : ∀ (t : Nat) (i j : Int), ¬ (30 ≤ t ∧ t ≤ 39 ∧ i = r0) → g' t i j = g t i j) (ha : ∀ (k : Nat) (i : Int), ¬ (k = 10 ∧ i = r0) → al' k i = al k i) (he : ∀ (k : Nat) (i : Int), ¬ ((k = 9 ∨ k = 10) ∧ i = r0) → en' k i = en k i) (hs : en' 9 r0 = some (al 9 r0, .inr (3, eR g' al' r0))) (hs2 : g' 30 r0 0 = 1 → bA dA z en' 10 r0 (al' 10 r0) (g' 32 r0 0) (g' 39 r0)) : EC dA z g' al' en' := by
  obtain ⟨h0, h1, h2, h3, h4, h5, h6, h7, h8, kg, ig, hk, h9⟩ := h
  have t0 : ∀ i j : Int, g' 0 i j = g 0 i j := fun i j => hg 0 i j (by omega)
  have t1 : ∀ i j : Int, g' 1 i j = g 1 i j := fun i j => hg 1 i j (by omega)
  have t2 : ∀ i j : Int, g' 2 i j = g 2 i j := fun i j => hg 2 i j (by omega)
  have t3 : ∀ i j : Int, g' 3 i j = g 3 i j := fun i j => hg 3 i j (by omega)
  have t4 : ∀ i j : Int, g' 4 i j = g 4 i j := fun i j => hg 4 i j (by omega)
  have t11 : ∀ i j : Int, g' 11 i j = g 11 i j := fun i j => hg 11 i j (by omega)
  have t12 : ∀ i j : Int, g' 12 i j = g 12 i j := fun i j => hg 12 i j (by omega)
  have t13 : ∀ i j : Int, g' 13 i j = g 13 i j := fun i j => hg 13 i j (by omega)
  have t14 : ∀ i j : Int, g' 14 i j = g 14 i j := fun i j => hg 14 i j (by omega)
  have t15 : ∀ i j : Int, g' 15 i j = g 15 i j := fun i j => hg 15 i j (by omega)
  have t16 : ∀ i j : Int, g' 16 i j = g 16 i j := fun i j => hg 16 i j (by omega)
  have t17 : ∀ i j : Int, g' 17 i j = g 17 i j := fun i j => hg 17 i j (by omega)
  have t18 : ∀ i j : Int, g' 18 i j = g 18 i j := fun i j => hg 18 i j (by omega)
  have t19 : ∀ i j : Int, g' 19 i j = g 19 i j := fun i j => hg 19 i j (by omega)
  have t20 : ∀ i j : Int, g' 20 i j = g 20 i j := fun i j => hg 20 i j (by omega)
  have t21 : ∀ i j : Int, g' 21 i j = g 21 i j := fun i j => hg 21 i j (by omega)
  have t22 : ∀ i j : Int, g' 22 i j = g 22 i j := fun i j => hg 22 i j (by omega)
  have t23 : ∀ i j : Int, g' 23 i j = g 23 i j := fun i j => hg 23 i j (by omega)
  have t24 : ∀ i j : Int, g' 24 i j = g 24 i j := fun i j => hg 24 i j (by omega)
  have t25 : ∀ i j : Int, g' 25 i j = g 25 i j := fun i j => hg 25 i j (by omega)
  have t26 : ∀ i j : Int, g' 26 i j = g 26 i j := fun i j => hg 26 i j (by omega)
  have t27 : ∀ i j : Int, g' 27 i j = g 27 i j := fun i j => hg 27 i j (by omega)
  have t28 : ∀ i j : Int, g' 28 i j = g 28 i j := fun i j => hg 28 i j (by omega)
  have t40 : ∀ i j : Int, g' 40 i j = g 40 i j := fun i j => hg 40 i j (by omega)
  have f19 : ∀ i : Int, g' 19 i = g 19 i := fun i => funext fun j => t19 i j
  have f28 : ∀ i : Int, g' 28 i = g 28 i := fun i => funext fun j => t28 i j
  have f40 : ∀ i : Int, g' 40 i = g 40 i := fun i => funext fun j => t40 i j
  refine ⟨?_, ?_, ?_, ?_, ?_, ?_, ?_, ?_, ?_, ?_⟩
  · rw [he 0 0 (by omega), h0]; simp only [eX, t0, ha 1 0 (by omega), ha 1 1 (by omega), ha 3 0 (by omega), ha 4 0 (by omega), ha 11 0 (by omega), ha 0 0 (by omega)]
  · rw [he 1 0 (by omega), h1]; simp only [eL, t3, t1, ha 2 0 (by omega), ha 1 0 (by omega)]
  · rw [he 1 1 (by omega), h2]; simp only [eL, t3, t1, ha 2 1 (by omega), ha 1 1 (by omega)]
  · intro li hl; rw [t4, t1, he 2 li (by omega), ha 2 li (by omega), eA_c (t1 li 0) (fun j q1 q2 => by rcases hl with rfl | rfl <;> first | exact ha 5 j (by omega) | exact ha 7 j (by omega))]; exact h3 li hl
  · rw [he 3 0 (by omega), h4, ha 3 0 (by omega)]; congr 3; funext j; rw [ha 9 j (by omega)]
  · rw [he 4 0 (by omega), h5, ha 4 0 (by omega)]; simp only [t2]
  · intro m' q1 q2; rw [t1] at q2; rw [he 5 m' (by omega), he 6 m' (by omega), (h6 m' q1 q2).1, (h6 m' q1 q2).2, t11, f19]; simp only [eS, t12, t13, t14, t15, t16, t17, t18, ha 5 m' (by omega), ha 6 m' (by omega), and_self]
  · intro f q1 q2; rw [t1] at q2; obtain ⟨a1, a2⟩ := h7 f q1 q2; rw [he 7 f (by omega), a1, t26, f28, ha 8 f (by omega)]; exact ⟨by simp only [eF, t20, t21, t22, t23, t24, t25, t27, ha 7 f (by omega), ha 8 f (by omega)], bA_e (he 8 f (by omega)) a2⟩
  · intro r q1 q2
    by_cases q : r = r0
    · subst q
      rw [hs, ha 9 r (by omega)]
      exact ⟨rfl, hs2⟩
    · obtain ⟨a1, a2⟩ := h8 r q1 q2
      rw [he 9 r (by omega), a1, hg 32 r 0 (by omega), show g' 39 r = g 39 r from funext fun j => hg 39 r j (by omega), ha 10 r (by omega)]
      exact ⟨by simp only [eR, hg 30 r _ (by omega), hg 31 r _ (by omega), hg 33 r _ (by omega), hg 34 r _ (by omega), hg 35 r _ (by omega), hg 36 r _ (by omega), hg 37 r _ (by omega), hg 38 r _ (by omega), ha 9 r (by omega), ha 10 r (by omega)], fun q9 => bA_e (he 10 r (by omega)) (a2 (by rw [← hg 30 r 0 (by omega)]; exact q9))⟩
  · exact ⟨kg, ig, by rw [t1]; exact hk, by rw [t1, f40, ha 11 0 (by omega)]; exact bA_e (he kg ig (by omega)) h9⟩
theorem ec_g {dA : Nat → ClassId} {z : Nat → Nat} {g g' : St} {al al' : Al} {en en' : en_T} (h : EC dA z g al en)  (hg : ∀ (t : Nat) (i j : Int), ¬ (t = 0 ∨ (t = 1 ∧ i = 2) ∨ (t = 40 ∧ i = 0)) → g' t i j = g t i j) (ha : ∀ (k : Nat) (i : Int), ¬ (k = 11 ∧ i = 0) → al' k i = al k i) (he : ∀ (k : Nat) (i : Int), ¬ ((k = 0 ∧ i = 0) ∨ (k = 11 ∧ i = 0)) → en' k i = en k i) (hs : en' 0 0 = some (al 0 0, .inr (5, eX g' al'))) (hs2 : ∃ (kg : Nat) (ig : Int), (kg = 11 ∧ ig = 0 ∨ kg = 8 ∧ 1 ≤ ig ∧ ig ≤ g 1 1 0) ∧ bA dA z en' kg ig (al' 11 0) (g' 1 2 0) (g' 40 0)) : EC dA z g' al' en' := by
  obtain ⟨h0, h1, h2, h3, h4, h5, h6, h7, h8, kg, ig, hk, h9⟩ := h
  have t2 : ∀ i j : Int, g' 2 i j = g 2 i j := fun i j => hg 2 i j (by omega)
  have t3 : ∀ i j : Int, g' 3 i j = g 3 i j := fun i j => hg 3 i j (by omega)
  have t4 : ∀ i j : Int, g' 4 i j = g 4 i j := fun i j => hg 4 i j (by omega)
  have t11 : ∀ i j : Int, g' 11 i j = g 11 i j := fun i j => hg 11 i j (by omega)
  have t12 : ∀ i j : Int, g' 12 i j = g 12 i j := fun i j => hg 12 i j (by omega)
  have t13 : ∀ i j : Int, g' 13 i j = g 13 i j := fun i j => hg 13 i j (by omega)
  have t14 : ∀ i j : Int, g' 14 i j = g 14 i j := fun i j => hg 14 i j (by omega)
  have t15 : ∀ i j : Int, g' 15 i j = g 15 i j := fun i j => hg 15 i j (by omega)
  have t16 : ∀ i j : Int, g' 16 i j = g 16 i j := fun i j => hg 16 i j (by omega)
  have t17 : ∀ i j : Int, g' 17 i j = g 17 i j := fun i j => hg 17 i j (by omega)
  have t18 : ∀ i j : Int, g' 18 i j = g 18 i j := fun i j => hg 18 i j (by omega)
  have t19 : ∀ i j : Int, g' 19 i j = g 19 i j := fun i j => hg 19 i j (by omega)
  have t20 : ∀ i j : Int, g' 20 i j = g 20 i j := fun i j => hg 20 i j (by omega)
  have t21 : ∀ i j : Int, g' 21 i j = g 21 i j := fun i j => hg 21 i j (by omega)
  have t22 : ∀ i j : Int, g' 22 i j = g 22 i j := fun i j => hg 22 i j (by omega)
  have t23 : ∀ i j : Int, g' 23 i j = g 23 i j := fun i j => hg 23 i j (by omega)
  have t24 : ∀ i j : Int, g' 24 i j = g 24 i j := fun i j => hg 24 i j (by omega)
  have t25 : ∀ i j : Int, g' 25 i j = g 25 i j := fun i j => hg 25 i j (by omega)
  have t26 : ∀ i j : Int, g' 26 i j = g 26 i j := fun i j => hg 26 i j (by omega)
  have t27 : ∀ i j : Int, g' 27 i j = g 27 i j := fun i j => hg 27 i j (by omega)
  have t28 : ∀ i j : Int, g' 28 i j = g 28 i j := fun i j => hg 28 i j (by omega)
  have t30 : ∀ i j : Int, g' 30 i j = g 30 i j := fun i j => hg 30 i j (by omega)
  have t31 : ∀ i j : Int, g' 31 i j = g 31 i j := fun i j => hg 31 i j (by omega)
  have t32 : ∀ i j : Int, g' 32 i j = g 32 i j := fun i j => hg 32 i j (by omega)
  have t33 : ∀ i j : Int, g' 33 i j = g 33 i j := fun i j => hg 33 i j (by omega)
  have t34 : ∀ i j : Int, g' 34 i j = g 34 i j := fun i j => hg 34 i j (by omega)
  have t35 : ∀ i j : Int, g' 35 i j = g 35 i j := fun i j => hg 35 i j (by omega)
  have t36 : ∀ i j : Int, g' 36 i j = g 36 i j := fun i j => hg 36 i j (by omega)
  have t37 : ∀ i j : Int, g' 37 i j = g 37 i j := fun i j => hg 37 i j (by omega)
  have t38 : ∀ i j : Int, g' 38 i j = g 38 i j := fun i j => hg 38 i j (by omega)
  have t39 : ∀ i j : Int, g' 39 i j = g 39 i j := fun i j => hg 39 i j (by omega)
  have f19 : ∀ i : Int, g' 19 i = g 19 i := fun i => funext fun j => t19 i j
  have f28 : ∀ i : Int, g' 28 i = g 28 i := fun i => funext fun j => t28 i j
  have f39 : ∀ i : Int, g' 39 i = g 39 i := fun i => funext fun j => t39 i j
  refine ⟨?_, ?_, ?_, ?_, ?_, ?_, ?_, ?_, ?_, ?_⟩
  · rw [hs, ha 0 0 (by omega)]
  · rw [he 1 0 (by omega), h1]; simp only [eL, t3, hg 1 0 _ (by omega), ha 2 0 (by omega), ha 1 0 (by omega)]
  · rw [he 1 1 (by omega), h2]; simp only [eL, t3, hg 1 1 _ (by omega), ha 2 1 (by omega), ha 1 1 (by omega)]
  · intro li hl; rw [t4, hg 1 li 0 (by omega), he 2 li (by omega), ha 2 li (by omega), eA_c (hg 1 li 0 (by omega)) (fun j q1 q2 => by rcases hl with rfl | rfl <;> first | exact ha 5 j (by omega) | exact ha 7 j (by omega))]; exact h3 li hl
  · rw [he 3 0 (by omega), h4, ha 3 0 (by omega)]; congr 3; funext j; rw [ha 9 j (by omega)]
  · rw [he 4 0 (by omega), h5, ha 4 0 (by omega)]; simp only [t2]
  · intro m' q1 q2; rw [hg 1 0 0 (by omega)] at q2; rw [he 5 m' (by omega), he 6 m' (by omega), (h6 m' q1 q2).1, (h6 m' q1 q2).2, t11, f19]; simp only [eS, t12, t13, t14, t15, t16, t17, t18, ha 5 m' (by omega), ha 6 m' (by omega), and_self]
  · intro f q1 q2; rw [hg 1 1 0 (by omega)] at q2; obtain ⟨a1, a2⟩ := h7 f q1 q2; rw [he 7 f (by omega), a1, t26, f28, ha 8 f (by omega)]; exact ⟨by simp only [eF, t20, t21, t22, t23, t24, t25, t27, ha 7 f (by omega), ha 8 f (by omega)], bA_e (he 8 f (by omega)) a2⟩
  · intro r q1 q2; obtain ⟨a1, a2⟩ := h8 r q1 q2; rw [he 9 r (by omega), a1, t32, f39, ha 10 r (by omega)]; exact ⟨by simp only [eR, t30, t31, t33, t34, t35, t36, t37, t38, ha 9 r (by omega), ha 10 r (by omega)], fun q9 => bA_e (he 10 r (by omega)) (a2 (by rw [← t30]; exact q9))⟩
  · obtain ⟨kg, ig, q1, q2⟩ := hs2
    exact ⟨kg, ig, by rw [hg 1 1 0 (by omega)]; exact q1, q2⟩
theorem ec_ns {dA : Nat → ClassId} {z : Nat → Nat} {g g' : St} {al al' : Al} {en en' : en_T} (h : EC dA z g al en) {n : Int} (hn : n = g 1 0 0) (hn0 : 0 ≤ n) (hg : ∀ (t : Nat) (i j : Int), ¬ (((t = 1 ∨ t = 3 ∨ t = 4) ∧ i = 0) ∨ (11 ≤ t ∧ t ≤ 19 ∧ i = n + 1)) → g' t i j = g t i j) (ha : ∀ (k : Nat) (i : Int), ¬ ((k = 2 ∧ i = 0) ∨ ((k = 5 ∨ k = 6) ∧ i = n + 1)) → al' k i = al k i) (he : ∀ (k : Nat) (i : Int), ¬ (((k = 1 ∨ k = 2) ∧ i = 0) ∨ (k = 5 ∧ i = n + 1) ∨ (k = 6 ∧ i = n + 1) ∨ k = 99) → en' k i = en k i) (hc : g' 1 0 0 = n + 1) (hl1 : en' 1 0 = some (al 1 0, .inr (1, eL g' al' 0))) (hl2 : 10 ≤ g' 4 0 0 ∧ en' 2 0 = some (al' 2 0, aO dA (g' 4 0 0) (eA g' al' 0))) (hs : en' 5 (n + 1) = some (al' 5 (n + 1), .inr (4, eS g' al' (n + 1)))) (hs2 : en' 6 (n + 1) = some (al' 6 (n + 1), aB dA (g' 11 (n + 1) 0) (g' 19 (n + 1)))) : EC dA z g' al' en' := by
  obtain ⟨h0, h1, h2, h3, h4, h5, h6, h7, h8, kg, ig, hk, h9⟩ := h
  have t0 : ∀ i j : Int, g' 0 i j = g 0 i j := fun i j => hg 0 i j (by omega)
  have t2 : ∀ i j : Int, g' 2 i j = g 2 i j := fun i j => hg 2 i j (by omega)
  have t20 : ∀ i j : Int, g' 20 i j = g 20 i j := fun i j => hg 20 i j (by omega)
  have t21 : ∀ i j : Int, g' 21 i j = g 21 i j := fun i j => hg 21 i j (by omega)
  have t22 : ∀ i j : Int, g' 22 i j = g 22 i j := fun i j => hg 22 i j (by omega)
  have t23 : ∀ i j : Int, g' 23 i j = g 23 i j := fun i j => hg 23 i j (by omega)
  have t24 : ∀ i j : Int, g' 24 i j = g 24 i j := fun i j => hg 24 i j (by omega)
  have t25 : ∀ i j : Int, g' 25 i j = g 25 i j := fun i j => hg 25 i j (by omega)
  have t26 : ∀ i j : Int, g' 26 i j = g 26 i j := fun i j => hg 26 i j (by omega)
  have t27 : ∀ i j : Int, g' 27 i j = g 27 i j := fun i j => hg 27 i j (by omega)
  have t28 : ∀ i j : Int, g' 28 i j = g 28 i j := fun i j => hg 28 i j (by omega)
  have t30 : ∀ i j : Int, g' 30 i j = g 30 i j := fun i j => hg 30 i j (by omega)
  have t31 : ∀ i j : Int, g' 31 i j = g 31 i j := fun i j => hg 31 i j (by omega)
  have t32 : ∀ i j : Int, g' 32 i j = g 32 i j := fun i j => hg 32 i j (by omega)
  have t33 : ∀ i j : Int, g' 33 i j = g 33 i j := fun i j => hg 33 i j (by omega)
  have t34 : ∀ i j : Int, g' 34 i j = g 34 i j := fun i j => hg 34 i j (by omega)
  have t35 : ∀ i j : Int, g' 35 i j = g 35 i j := fun i j => hg 35 i j (by omega)
  have t36 : ∀ i j : Int, g' 36 i j = g 36 i j := fun i j => hg 36 i j (by omega)
  have t37 : ∀ i j : Int, g' 37 i j = g 37 i j := fun i j => hg 37 i j (by omega)
  have t38 : ∀ i j : Int, g' 38 i j = g 38 i j := fun i j => hg 38 i j (by omega)
  have t39 : ∀ i j : Int, g' 39 i j = g 39 i j := fun i j => hg 39 i j (by omega)
  have t40 : ∀ i j : Int, g' 40 i j = g 40 i j := fun i j => hg 40 i j (by omega)
  have f28 : ∀ i : Int, g' 28 i = g 28 i := fun i => funext fun j => t28 i j
  have f39 : ∀ i : Int, g' 39 i = g 39 i := fun i => funext fun j => t39 i j
  have f40 : ∀ i : Int, g' 40 i = g 40 i := fun i => funext fun j => t40 i j
  refine ⟨?_, ?_, ?_, ?_, ?_, ?_, ?_, ?_, ?_, ?_⟩
  · rw [he 0 0 (by omega), h0]; simp only [eX, t0, ha 1 0 (by omega), ha 1 1 (by omega), ha 3 0 (by omega), ha 4 0 (by omega), ha 11 0 (by omega), ha 0 0 (by omega)]
  · rw [hl1, ha 1 0 (by omega)]
  · rw [he 1 1 (by omega), h2]; simp only [eL, hg 3 1 _ (by omega), hg 1 1 _ (by omega), ha 2 1 (by omega), ha 1 1 (by omega)]
  · intro li hl
    rcases hl with rfl | rfl
    · exact Or.inr hl2
    · rw [hg 4 1 0 (by omega), hg 1 1 0 (by omega), he 2 1 (by omega), ha 2 1 (by omega), eA_c (hg 1 1 0 (by omega)) (fun j q1 q2 => ha 7 j (by omega))]
      exact h3 1 (Or.inr rfl)
  · rw [he 3 0 (by omega), h4, ha 3 0 (by omega)]; congr 3; funext j; rw [ha 9 j (by omega)]
  · rw [he 4 0 (by omega), h5, ha 4 0 (by omega)]; simp only [t2]
  · intro m' q1 q2
    rw [hc] at q2
    by_cases q : m' = n + 1
    · subst q
      exact ⟨hs, hs2⟩
    · have q3 : m' ≤ g 1 0 0 := by omega
      rw [he 5 m' (by omega), he 6 m' (by omega), (h6 m' q1 q3).1, (h6 m' q1 q3).2, hg 11 m' 0 (by omega), show g' 19 m' = g 19 m' from funext fun j => hg 19 m' j (by omega)]
      simp only [eS, hg 12 m' _ (by omega), hg 13 m' _ (by omega), hg 14 m' _ (by omega), hg 15 m' _ (by omega), hg 16 m' _ (by omega), hg 17 m' _ (by omega), hg 18 m' _ (by omega), ha 5 m' (by omega), ha 6 m' (by omega), and_self]
  · intro f q1 q2; rw [hg 1 1 0 (by omega)] at q2; obtain ⟨a1, a2⟩ := h7 f q1 q2; rw [he 7 f (by omega), a1, t26, f28, ha 8 f (by omega)]; exact ⟨by simp only [eF, t20, t21, t22, t23, t24, t25, t27, ha 7 f (by omega), ha 8 f (by omega)], bA_e (he 8 f (by omega)) a2⟩
  · intro r q1 q2; obtain ⟨a1, a2⟩ := h8 r q1 q2; rw [he 9 r (by omega), a1, t32, f39, ha 10 r (by omega)]; exact ⟨by simp only [eR, t30, t31, t33, t34, t35, t36, t37, t38, ha 9 r (by omega), ha 10 r (by omega)], fun q9 => bA_e (he 10 r (by omega)) (a2 (by rw [← t30]; exact q9))⟩
  · exact ⟨kg, ig, by rw [hg 1 1 0 (by omega)]; exact hk, by rw [hg 1 2 0 (by omega), f40, ha 11 0 (by omega)]; exact bA_e (he kg ig (by omega)) h9⟩
theorem ec_nf {dA : Nat → ClassId} {z : Nat → Nat} {g g' : St} {al al' : Al} {en en' : en_T} (h : EC dA z g al en) {n : Int} (hn : n = g 1 1 0) (hn0 : 0 ≤ n) (hg : ∀ (t : Nat) (i j : Int), ¬ (((t = 1 ∨ t = 3 ∨ t = 4) ∧ i = 1) ∨ (20 ≤ t ∧ t ≤ 28 ∧ i = n + 1)) → g' t i j = g t i j) (ha : ∀ (k : Nat) (i : Int), ¬ ((k = 2 ∧ i = 1) ∨ ((k = 7 ∨ k = 8) ∧ i = n + 1)) → al' k i = al k i) (he : ∀ (k : Nat) (i : Int), ¬ (((k = 1 ∨ k = 2) ∧ i = 1) ∨ (k = 7 ∧ i = n + 1) ∨ (k = 8 ∧ i = n + 1) ∨ k = 99) → en' k i = en k i) (hc : g' 1 1 0 = n + 1) (hl1 : en' 1 1 = some (al 1 1, .inr (1, eL g' al' 1))) (hl2 : 10 ≤ g' 4 1 0 ∧ en' 2 1 = some (al' 2 1, aO dA (g' 4 1 0) (eA g' al' 1))) (hs : en' 7 (n + 1) = some (al' 7 (n + 1), .inr (2, eF g' al' (n + 1)))) (hs2 : bA dA z en' 8 (n + 1) (al' 8 (n + 1)) (g' 26 (n + 1) 0) (g' 28 (n + 1))) : EC dA z g' al' en' := by
  obtain ⟨h0, h1, h2, h3, h4, h5, h6, h7, h8, kg, ig, hk, h9⟩ := h
  have t0 : ∀ i j : Int, g' 0 i j = g 0 i j := fun i j => hg 0 i j (by omega)
  have t2 : ∀ i j : Int, g' 2 i j = g 2 i j := fun i j => hg 2 i j (by omega)
  have t11 : ∀ i j : Int, g' 11 i j = g 11 i j := fun i j => hg 11 i j (by omega)
  have t12 : ∀ i j : Int, g' 12 i j = g 12 i j := fun i j => hg 12 i j (by omega)
  have t13 : ∀ i j : Int, g' 13 i j = g 13 i j := fun i j => hg 13 i j (by omega)
  have t14 : ∀ i j : Int, g' 14 i j = g 14 i j := fun i j => hg 14 i j (by omega)
  have t15 : ∀ i j : Int, g' 15 i j = g 15 i j := fun i j => hg 15 i j (by omega)
  have t16 : ∀ i j : Int, g' 16 i j = g 16 i j := fun i j => hg 16 i j (by omega)
  have t17 : ∀ i j : Int, g' 17 i j = g 17 i j := fun i j => hg 17 i j (by omega)
  have t18 : ∀ i j : Int, g' 18 i j = g 18 i j := fun i j => hg 18 i j (by omega)
  have t19 : ∀ i j : Int, g' 19 i j = g 19 i j := fun i j => hg 19 i j (by omega)
  have t30 : ∀ i j : Int, g' 30 i j = g 30 i j := fun i j => hg 30 i j (by omega)
  have t31 : ∀ i j : Int, g' 31 i j = g 31 i j := fun i j => hg 31 i j (by omega)
  have t32 : ∀ i j : Int, g' 32 i j = g 32 i j := fun i j => hg 32 i j (by omega)
  have t33 : ∀ i j : Int, g' 33 i j = g 33 i j := fun i j => hg 33 i j (by omega)
  have t34 : ∀ i j : Int, g' 34 i j = g 34 i j := fun i j => hg 34 i j (by omega)
  have t35 : ∀ i j : Int, g' 35 i j = g 35 i j := fun i j => hg 35 i j (by omega)
  have t36 : ∀ i j : Int, g' 36 i j = g 36 i j := fun i j => hg 36 i j (by omega)
  have t37 : ∀ i j : Int, g' 37 i j = g 37 i j := fun i j => hg 37 i j (by omega)
  have t38 : ∀ i j : Int, g' 38 i j = g 38 i j := fun i j => hg 38 i j (by omega)
  have t39 : ∀ i j : Int, g' 39 i j = g 39 i j := fun i j => hg 39 i j (by omega)
  have t40 : ∀ i j : Int, g' 40 i j = g 40 i j := fun i j => hg 40 i j (by omega)
  have f19 : ∀ i : Int, g' 19 i = g 19 i := fun i => funext fun j => t19 i j
  have f39 : ∀ i : Int, g' 39 i = g 39 i := fun i => funext fun j => t39 i j
  have f40 : ∀ i : Int, g' 40 i = g 40 i := fun i => funext fun j => t40 i j
  refine ⟨?_, ?_, ?_, ?_, ?_, ?_, ?_, ?_, ?_, ?_⟩
  · rw [he 0 0 (by omega), h0]; simp only [eX, t0, ha 1 0 (by omega), ha 1 1 (by omega), ha 3 0 (by omega), ha 4 0 (by omega), ha 11 0 (by omega), ha 0 0 (by omega)]
  · rw [he 1 0 (by omega), h1]; simp only [eL, hg 3 0 _ (by omega), hg 1 0 _ (by omega), ha 2 0 (by omega), ha 1 0 (by omega)]
  · rw [hl1, ha 1 1 (by omega)]
  · intro li hl
    rcases hl with rfl | rfl
    · rw [hg 4 0 0 (by omega), hg 1 0 0 (by omega), he 2 0 (by omega), ha 2 0 (by omega), eA_c (hg 1 0 0 (by omega)) (fun j q1 q2 => ha 5 j (by omega))]
      exact h3 0 (Or.inl rfl)
    · exact Or.inr hl2
  · rw [he 3 0 (by omega), h4, ha 3 0 (by omega)]; congr 3; funext j; rw [ha 9 j (by omega)]
  · rw [he 4 0 (by omega), h5, ha 4 0 (by omega)]; simp only [t2]
  · intro m' q1 q2; rw [hg 1 0 0 (by omega)] at q2; rw [he 5 m' (by omega), he 6 m' (by omega), (h6 m' q1 q2).1, (h6 m' q1 q2).2, t11, f19]; simp only [eS, t12, t13, t14, t15, t16, t17, t18, ha 5 m' (by omega), ha 6 m' (by omega), and_self]
  · intro f q1 q2
    rw [hc] at q2
    by_cases q : f = n + 1
    · subst q
      exact ⟨hs, hs2⟩
    · have q3 : f ≤ g 1 1 0 := by omega
      obtain ⟨a1, a2⟩ := h7 f q1 q3
      rw [he 7 f (by omega), a1, hg 26 f 0 (by omega), show g' 28 f = g 28 f from funext fun j => hg 28 f j (by omega), ha 8 f (by omega)]
      exact ⟨by simp only [eF, hg 20 f _ (by omega), hg 21 f _ (by omega), hg 22 f _ (by omega), hg 23 f _ (by omega), hg 24 f _ (by omega), hg 25 f _ (by omega), hg 27 f _ (by omega), ha 7 f (by omega), ha 8 f (by omega)], bA_e (he 8 f (by omega)) a2⟩
  · intro r q1 q2; obtain ⟨a1, a2⟩ := h8 r q1 q2; rw [he 9 r (by omega), a1, t32, f39, ha 10 r (by omega)]; exact ⟨by simp only [eR, t30, t31, t33, t34, t35, t36, t37, t38, ha 9 r (by omega), ha 10 r (by omega)], fun q9 => bA_e (he 10 r (by omega)) (a2 (by rw [← t30]; exact q9))⟩
  · exact ⟨kg, ig, by rw [hc]; omega, by rw [hg 1 2 0 (by omega), f40, ha 11 0 (by omega)]; exact bA_e (he kg ig (by omega)) h9⟩
