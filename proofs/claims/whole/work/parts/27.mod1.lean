/-! the reference: its numbers by field and place -/
abbrev Mu : Type := Nat → Int → Int
def u2 (mu : Mu) (k : Nat) (j v : Int) : Mu := fun k' j' => if k' = k ∧ j' = j then v else mu k' j'
theorem u2_s (mu : Mu) (k : Nat) (j v : Int) : u2 mu k j v k j = v := if_pos ⟨rfl, rfl⟩
theorem u2_n {mu : Mu} {k k' : Nat} {j j' v : Int} (h : ¬ (k' = k ∧ j' = j)) : u2 mu k j v k' j' = mu k' j' := if_neg h
theorem u2_r (mu : Mu) (k : Nat) (j v : Int) : u2 mu k j v k = uF (mu k) j v := by
  funext i
  unfold u2 uF
  by_cases q : i = j <;> simp [q]
theorem u2_k {mu : Mu} {k k' : Nat} {j v : Int} (h : k' ≠ k) : u2 mu k j v k' = mu k' := funext fun _ => if_neg (fun z => h z.1)
abbrev eM (mu : Mu) (b : Nat → Nat) : List Value := [.int (iZ (mu 0 0)), .int (iZ (mu 1 0)), .long (lZ (mu 2 0)), .int (iZ (mu 3 0)), .ref (b 4), .ref (b 5), .ref (b 6), .ref (b 7), .ref (b 8), .ref (b 9), .ref (b 10), .ref (b 11), .ref (b 12), .ref (b 13), .ref (b 14), .ref (b 15), .ref (b 16), .ref (b 17), .ref (b 18), .ref (b 19), .ref (b 20), .ref (b 21), .ref (b 22), .ref (b 23), .ref (b 24), .ref (b 25), .int (iZ (mu 26 0)), .ref (b 27), .ref (b 28), .ref (b 29), .ref (b 30), .ref (b 31), .ref (b 32), .ref (b 33), .ref (b 34), .int (iZ (mu 35 0)), .int (iZ (mu 36 0)), .int (iZ (mu 37 0)), .int (iZ (mu 38 0)), .int (iZ (mu 39 0)), .int (iZ (mu 40 0)), .ref (b 41), .ref (b 42)]
def mC (dA : Nat → ClassId) (k : Nat) (F : Int → Int) : va_E := match k with
  | 4 => aI dA 102 F
  | 5 => aB dA 1000000 F
  | 6 => aZ dA 101 F
  | 7 => aI dA 101 F
  | 8 => aI dA 101 F
  | 9 => aI dA 101 F
  | 10 => aI dA 101 F
  | 11 => aI dA 101 F
  | 12 => aI dA 101 F
  | 13 => aI dA 101 F
  | 14 => aJ dA 101 F
  | 15 => aJ dA 101 F
  | 16 => aI dA 4 F
  | 17 => aI dA 4 F
  | 18 => aI dA 4 F
  | 19 => aI dA 4 F
  | 20 => aI dA 4 F
  | 21 => aI dA 4 F
  | 22 => aI dA 4 F
  | 23 => aJ dA 4 F
  | 24 => aZ dA 4 F
  | 25 => aB dA 40000 F
  | 27 => aI dA 6001 F
  | 28 => aI dA 6001 F
  | 29 => aI dA 6001 F
  | 30 => aI dA 6001 F
  | 31 => aI dA 6001 F
  | 32 => aJ dA 6001 F
  | 33 => aZ dA 6001 F
  | 34 => aB dA 42007 F
  | 41 => aB dA 10000 F
  | 42 => aI dA 8 F
  | _ => aI dA 0 F
def mArr (k : Nat) : Bool := decide (4 ≤ k ∧ k ≤ 42 ∧ k ≠ 26 ∧ (k < 35 ∨ 40 < k))
def EM (dA : Nat → ClassId) (b : Nat → Nat) (mu : Mu) (en : en_T) : Prop := en 20 0 = some (b 0, .inr (6, eM mu b)) ∧ ∀ k : Nat, mArr k = true → en (20 + k) 0 = some (b k, mC dA k (mu k))
theorem em_w {dA : Nat → ClassId} {b : Nat → Nat} {mu : Mu} {en : en_T} (h : EM dA b mu en) {k0 : Nat} (hk : mArr k0 = true) {j v : Int} : EM dA b (u2 mu k0 j v) (e2 en (20 + k0) 0 (some (b k0, mC dA k0 (uF (mu k0) j v)))) := by
  have hk2 : 4 ≤ k0 ∧ k0 ≤ 42 ∧ k0 ≠ 26 ∧ (k0 < 35 ∨ 40 < k0) := by simpa [mArr] using hk
  refine ⟨?_, fun k q => ?_⟩
  · rw [e2_k (by omega), h.1]
    have e : ∀ s : Nat, s ≠ k0 → u2 mu k0 j v s 0 = mu s 0 := fun s hs => u2_n (by omega)
    simp only [eM]
    rw [e 0 (by omega), e 1 (by omega), e 2 (by omega), e 3 (by omega), e 26 (by omega), e 35 (by omega), e 36 (by omega), e 37 (by omega), e 38 (by omega), e 39 (by omega), e 40 (by omega)]
  · by_cases z : k = k0
    · subst z
      rw [e2_s, u2_r]
    · rw [e2_k (by omega), u2_k z]
      exact h.2 k q
theorem em_f {dA : Nat → ClassId} {b : Nat → Nat} {mu : Mu} {en : en_T} (h : EM dA b mu en) {k0 : Nat} (hk : mArr k0 = false) {v : Int} : EM dA b (u2 mu k0 0 v) (e2 en 20 0 (some (b 0, .inr (6, eM (u2 mu k0 0 v) b)))) := by
  refine ⟨e2_s _ _ _ _, fun k q => ?_⟩
  have hk2 : 4 ≤ k ∧ k ≤ 42 ∧ k ≠ 26 ∧ (k < 35 ∨ 40 < k) := by simpa [mArr] using q
  have z : k ≠ k0 := fun w => by subst w; rw [hk] at q; cases q
  rw [e2_k (by omega), u2_k z]
  exact h.2 k q
def FM (en en' : en_T) : Prop := ∀ (k : Nat) (i : Int), ¬ (20 ≤ k ∧ k ≤ 62) → en' k i = en k i
theorem FM.rf (en : en_T) : FM en en := fun _ _ _ => rfl
theorem FM.tr {a b c : en_T} (h1 : FM a b) (h2 : FM b c) : FM a c := fun k i q => (h2 k i q).trans (h1 k i q)
set_option maxHeartbeats 4000000 in
set_option maxRecDepth 100000 in
theorem c_X4_size (l : Launch) (D : va_G) (dA : Nat → ClassId) (z : Nat → Nat) (en : en_T) (b : Nat → Nat) (mu : Mu) (mm : Int) (h0 : 0 ≤ mm) (h1 : mm ≤ 100) (hE : EM dA b mu en) : Met l yX4_size wsX4_size ({ frames := 0, cells := 0, slots := 0, locals := 0 }) (gP D dA z en [.ref (b 0), .int (iZ (mm))]) (va_Qi (fun (r8 : Int32) (_ : Unit) => r8 = iZ (mu 4 (mm + 1) - mu 4 mm)) (fun _ t9 => Wd D (z 0) en t9.heap) (fun q => z 0 ≤ q)) (0) (0) (fun q => z 0 ≤ q) := by
  refine gMet (own := RX4) (cc := cX4_size) (maxL := 2) (ret := (some .int)) (by decide) rfl rfl (Nat.le_of_ble_eq_true rfl) ?_
  intro p e s m below meth c hx hb hml hown hts hr hlocks hnm hg hW ls hl
  have hK := hg.1
  have hS : va_S (fun q => z 0 ≤ q) s.heap s.heap [] := va_S.rf
  have hi6 : ∀ w ∈ u_ws RX4 TX4 43, w ∈ wsX4_size := by decide +kernel
  have hl : lv_has ls 2 [(0, .ref (b 0)), (1, .int (iZ (mm)))] := hl
  have fM : en 20 0 = some (b 0, .inr (6, [.int (iZ (mu 0 0)), .int (iZ (mu 1 0)), .long (lZ (mu 2 0)), .int (iZ (mu 3 0)), .ref (b 4), .ref (b 5), .ref (b 6), .ref (b 7), .ref (b 8), .ref (b 9), .ref (b 10), .ref (b 11), .ref (b 12), .ref (b 13), .ref (b 14), .ref (b 15), .ref (b 16), .ref (b 17), .ref (b 18), .ref (b 19), .ref (b 20), .ref (b 21), .ref (b 22), .ref (b 23), .ref (b 24), .ref (b 25), .int (iZ (mu 26 0)), .ref (b 27), .ref (b 28), .ref (b 29), .ref (b 30), .ref (b 31), .ref (b 32), .ref (b 33), .ref (b 34), .int (iZ (mu 35 0)), .int (iZ (mu 36 0)), .int (iZ (mu 37 0)), .int (iZ (mu 38 0)), .int (iZ (mu 39 0)), .int (iZ (mu 40 0)), .ref (b 41), .ref (b 42)])) := hE.1
  have f4_ : en 24 0 = some (b 4, aI dA (102) (mu 4)) := hE.2 4 (by decide)
  refine lv_aload_n hx hb dX4_size_0 rfl (lv_at hl 0 rfl) ?_
  refine g_get (C := RX4) (T := TX4) (N := 43) (ci := 6) (v := .ref (b 4)) hx hb hts hi6 hown hK hW fM rfl 4 (by decide) (hts (.fieldLink RX4 7 "LongTransferModel" "begin" "[I") (by decide +kernel)) (fun _ h9 => h9) rfl dX4_size_1 ?_
  refine lv_iload_n hx hb dX4_size_4 rfl (lv_at hl 1 rfl) ?_
  refine z_iconst hx hb dX4_size_5 ?_
  refine z_iadd hx hb dX4_size_6 ?_
  refine g_iald hx hb hK hW f4_ (by omega) (by omega) (by omega) dX4_size_7 ?_
  refine lv_aload_n hx hb dX4_size_8 rfl (lv_at hl 0 rfl) ?_
  refine g_get (C := RX4) (T := TX4) (N := 43) (ci := 6) (v := .ref (b 4)) hx hb hts hi6 hown hK hW fM rfl 4 (by decide) (hts (.fieldLink RX4 7 "LongTransferModel" "begin" "[I") (by decide +kernel)) (fun _ h9 => h9) rfl dX4_size_9 ?_
  refine lv_iload_n hx hb dX4_size_12 rfl (lv_at hl 1 rfl) ?_
  refine g_iald hx hb hK hW f4_ (by omega) (by omega) (by omega) dX4_size_13 ?_
  refine z_isub hx hb dX4_size_14 ?_
  exact W.iret hx hb hr (fun t ht hw => ⟨⟨_, (), rfl, rfl, by show Wd _ _ _ t.heap; rw [ht]; exact hW⟩, hS.F ht⟩) hS.2.2 dX4_size_15
def mMk (mu : Mu) (k m n c s : Int) : Mu := u2 (u2 (u2 (u2 (u2 (u2 (u2 mu 26 0 (mu 26 0 + 1)) 27 (mu 26 0 + 1) k) 28 (mu 26 0 + 1) m) 29 (mu 26 0 + 1) n) 30 (mu 26 0 + 1) c) 31 (mu 26 0 + 1) s) 32 (mu 26 0 + 1) (mu 2 0)
def mMake (mu : Mu) (k m n c s : Int) : Mu := if mu 26 0 = 6000 then mu else mMk mu k m n c s
set_option maxHeartbeats 4000000 in
set_option maxRecDepth 100000 in
theorem c_X4_make (l : Launch) (D : va_G) (dA : Nat → ClassId) (z : Nat → Nat) (en : en_T) (b : Nat → Nat) (mu : Mu) (kd mg nu ct sp : Int) (h0 : 0 ≤ mu 26 0) (h1 : mu 26 0 ≤ 6000) (hE : EM dA b mu en) : Met l yX4_make wsX4_make ({ frames := 0, cells := 0, slots := 0, locals := 0 }) (gP D dA z en [.ref (b 0), .int (iZ (kd)), .int (iZ (mg)), .int (iZ (nu)), .int (iZ (ct)), .int (iZ (sp))]) (va_Qi (fun (r8 : Int32) (u : en_T × Mu) => r8 = iZ (if mu 26 0 = 6000 then 0 else mu 26 0 + 1) ∧ EM dA b u.2 u.1 ∧ FM en u.1 ∧ u.2 = mMake mu kd mg nu ct sp) (fun u t9 => Wd D (z 0) u.1 t9.heap) (fun q => z 0 ≤ q)) (0) (0) (fun q => z 0 ≤ q) := by
  refine gMet (own := RX4) (cc := cX4_make) (maxL := 6) (ret := (some .int)) (by decide) rfl rfl (Nat.le_of_ble_eq_true rfl) ?_
  intro p e s m below meth c hx hb hml hown hts hr hlocks hnm hg hW ls hl
  have hK := hg.1
  have hS : va_S (fun q => z 0 ≤ q) s.heap s.heap [] := va_S.rf
  have hi6 : ∀ w ∈ u_ws RX4 TX4 43, w ∈ wsX4_make := by decide +kernel
  have hl : lv_has ls 6 [(0, .ref (b 0)), (1, .int (iZ (kd))), (2, .int (iZ (mg))), (3, .int (iZ (nu))), (4, .int (iZ (ct))), (5, .int (iZ (sp)))] := hl
  have fM : en 20 0 = some (b 0, .inr (6, [.int (iZ (mu 0 0)), .int (iZ (mu 1 0)), .long (lZ (mu 2 0)), .int (iZ (mu 3 0)), .ref (b 4), .ref (b 5), .ref (b 6), .ref (b 7), .ref (b 8), .ref (b 9), .ref (b 10), .ref (b 11), .ref (b 12), .ref (b 13), .ref (b 14), .ref (b 15), .ref (b 16), .ref (b 17), .ref (b 18), .ref (b 19), .ref (b 20), .ref (b 21), .ref (b 22), .ref (b 23), .ref (b 24), .ref (b 25), .int (iZ (mu 26 0)), .ref (b 27), .ref (b 28), .ref (b 29), .ref (b 30), .ref (b 31), .ref (b 32), .ref (b 33), .ref (b 34), .int (iZ (mu 35 0)), .int (iZ (mu 36 0)), .int (iZ (mu 37 0)), .int (iZ (mu 38 0)), .int (iZ (mu 39 0)), .int (iZ (mu 40 0)), .ref (b 41), .ref (b 42)])) := hE.1
  have f27_ : en 47 0 = some (b 27, aI dA (6001) (mu 27)) := hE.2 27 (by decide)
  have f28_ : en 48 0 = some (b 28, aI dA (6001) (mu 28)) := hE.2 28 (by decide)
  have f29_ : en 49 0 = some (b 29, aI dA (6001) (mu 29)) := hE.2 29 (by decide)
  have f30_ : en 50 0 = some (b 30, aI dA (6001) (mu 30)) := hE.2 30 (by decide)
  have f31_ : en 51 0 = some (b 31, aI dA (6001) (mu 31)) := hE.2 31 (by decide)
  have f32_ : en 52 0 = some (b 32, aJ dA (6001) (mu 32)) := hE.2 32 (by decide)
  have t26_0 : mu 26 (0) = mu 26 (0) := rfl
  have t2_0 : mu 2 (0) = mu 2 (0) := rfl
  refine lv_aload_n hx hb dX4_make_0 rfl (lv_at hl 0 rfl) ?_
  refine g_get (C := RX4) (T := TX4) (N := 43) (ci := 6) (v := .int (iZ (mu 26 0))) hx hb hts hi6 hown hK hW fM rfl 26 (by decide) (hts (.fieldLink RX4 134 "LongTransferModel" "frames" "I") (by decide +kernel)) (fun _ h9 => h9) rfl dX4_make_1 ?_
  refine z_sipush hx hb dX4_make_4 (by decide) ?_
  refine z_icmp_ne (tgt := 12) hx hb dX4_make_7 (by decide) (by omega) (by omega) (fun c_7 => ?_) (fun c_7 => ?_)
  · refine lv_aload_n hx hb dX4_make_12 rfl (lv_at hl 0 rfl) ?_
    refine lv_dup hx hb dX4_make_13 rfl ?_
    refine g_get (C := RX4) (T := TX4) (N := 43) (ci := 6) (v := .int (iZ (mu 26 0))) hx hb hts hi6 hown hK hW fM rfl 26 (by decide) (hts (.fieldLink RX4 134 "LongTransferModel" "frames" "I") (by decide +kernel)) (fun _ h9 => h9) rfl dX4_make_14 ?_
    refine z_iconst hx hb dX4_make_17 ?_
    refine z_iadd hx hb dX4_make_18 ?_
    refine g_put (C := RX4) (T := TX4) (N := 43) (ci := 6) (ty := .int) (v := .int (iZ ((mu 26 (0)) + 1))) (fs' := [.int (iZ (mu 0 0)), .int (iZ (mu 1 0)), .long (lZ (mu 2 0)), .int (iZ (mu 3 0)), .ref (b 4), .ref (b 5), .ref (b 6), .ref (b 7), .ref (b 8), .ref (b 9), .ref (b 10), .ref (b 11), .ref (b 12), .ref (b 13), .ref (b 14), .ref (b 15), .ref (b 16), .ref (b 17), .ref (b 18), .ref (b 19), .ref (b 20), .ref (b 21), .ref (b 22), .ref (b 23), .ref (b 24), .ref (b 25), .int (iZ ((mu 26 (0)) + 1)), .ref (b 27), .ref (b 28), .ref (b 29), .ref (b 30), .ref (b 31), .ref (b 32), .ref (b 33), .ref (b 34), .int (iZ (mu 35 0)), .int (iZ (mu 36 0)), .int (iZ (mu 37 0)), .int (iZ (mu 38 0)), .int (iZ (mu 39 0)), .int (iZ (mu 40 0)), .ref (b 41), .ref (b 42)]) hx hb hts hi6 tyX4 tyX4_ok nmX4 hown hK hW hS fM rfl 26 (by decide) (hts (.fieldLink RX4 134 "LongTransferModel" "frames" "I") (by decide +kernel)) (fun _ h9 => h9) rfl (by decide +kernel) rfl rfl (Nat.le_of_ble_eq_true rfl) dX4_make_19 rfl (fun H locs hW hS => ?_)
    obtain ⟨en1w, hen1w⟩ : ∃ x : en_T, x = e2 en 20 0 (some (b 0, .inr (6, [.int (iZ (mu 0 0)), .int (iZ (mu 1 0)), .long (lZ (mu 2 0)), .int (iZ (mu 3 0)), .ref (b 4), .ref (b 5), .ref (b 6), .ref (b 7), .ref (b 8), .ref (b 9), .ref (b 10), .ref (b 11), .ref (b 12), .ref (b 13), .ref (b 14), .ref (b 15), .ref (b 16), .ref (b 17), .ref (b 18), .ref (b 19), .ref (b 20), .ref (b 21), .ref (b 22), .ref (b 23), .ref (b 24), .ref (b 25), .int (iZ ((mu 26 (0)) + 1)), .ref (b 27), .ref (b 28), .ref (b 29), .ref (b 30), .ref (b 31), .ref (b 32), .ref (b 33), .ref (b 34), .int (iZ (mu 35 0)), .int (iZ (mu 36 0)), .int (iZ (mu 37 0)), .int (iZ (mu 38 0)), .int (iZ (mu 39 0)), .int (iZ (mu 40 0)), .ref (b 41), .ref (b 42)]))) := ⟨_, rfl⟩
    rw [← hen1w] at hW
    obtain ⟨mu1w, hmu1w⟩ : ∃ x : Mu, x = u2 mu 26 (0) ((mu 26 (0)) + 1) := ⟨_, rfl⟩
    have hE1w : EM dA b mu1w en1w := by rw [hen1w, hmu1w]; exact em_f hE (k0 := 26) (v := (mu 26 (0)) + 1) (by decide)
    have hF1w : FM en en1w := fun k i q => by rw [hen1w]; exact e2_k (fun w => q (by rw [w]; decide))
    replace t26_0 : mu1w 26 (0) = (mu 26 (0)) + 1 := by rw [hmu1w]; exact u2_s _ _ _ _
    replace t2_0 : mu1w 2 (0) = mu 2 (0) := by rw [hmu1w]; exact (u2_n (fun q => absurd q.1 (by decide))).trans t2_0
    have fM : en1w 20 0 = some (b 0, .inr (6, [.int (iZ (mu1w 0 0)), .int (iZ (mu1w 1 0)), .long (lZ (mu1w 2 0)), .int (iZ (mu1w 3 0)), .ref (b 4), .ref (b 5), .ref (b 6), .ref (b 7), .ref (b 8), .ref (b 9), .ref (b 10), .ref (b 11), .ref (b 12), .ref (b 13), .ref (b 14), .ref (b 15), .ref (b 16), .ref (b 17), .ref (b 18), .ref (b 19), .ref (b 20), .ref (b 21), .ref (b 22), .ref (b 23), .ref (b 24), .ref (b 25), .int (iZ (mu1w 26 0)), .ref (b 27), .ref (b 28), .ref (b 29), .ref (b 30), .ref (b 31), .ref (b 32), .ref (b 33), .ref (b 34), .int (iZ (mu1w 35 0)), .int (iZ (mu1w 36 0)), .int (iZ (mu1w 37 0)), .int (iZ (mu1w 38 0)), .int (iZ (mu1w 39 0)), .int (iZ (mu1w 40 0)), .ref (b 41), .ref (b 42)])) := hE1w.1
    have f27_ : en1w 47 0 = some (b 27, aI dA (6001) (mu1w 27)) := hE1w.2 27 (by decide)
    have f28_ : en1w 48 0 = some (b 28, aI dA (6001) (mu1w 28)) := hE1w.2 28 (by decide)
    have f29_ : en1w 49 0 = some (b 29, aI dA (6001) (mu1w 29)) := hE1w.2 29 (by decide)
    have f30_ : en1w 50 0 = some (b 30, aI dA (6001) (mu1w 30)) := hE1w.2 30 (by decide)
    have f31_ : en1w 51 0 = some (b 31, aI dA (6001) (mu1w 31)) := hE1w.2 31 (by decide)
    have f32_ : en1w 52 0 = some (b 32, aJ dA (6001) (mu1w 32)) := hE1w.2 32 (by decide)
    refine lv_aload_n hx hb dX4_make_22 rfl (lv_at hl 0 rfl) ?_
    refine g_get (C := RX4) (T := TX4) (N := 43) (ci := 6) (v := .ref (b 27)) hx hb hts hi6 hown hK hW fM rfl 27 (by decide) (hts (.fieldLink RX4 81 "LongTransferModel" "kind" "[I") (by decide +kernel)) (fun _ h9 => h9) rfl dX4_make_23 ?_
    refine lv_aload_n hx hb dX4_make_26 rfl (lv_at hl 0 rfl) ?_
    refine g_get (C := RX4) (T := TX4) (N := 43) (ci := 6) (v := .int (iZ (mu1w 26 0))) hx hb hts hi6 hown hK hW fM rfl 26 (by decide) (hts (.fieldLink RX4 134 "LongTransferModel" "frames" "I") (by decide +kernel)) (fun _ h9 => h9) rfl dX4_make_27 ?_
    rw [t26_0]
    refine lv_iload_n hx hb dX4_make_30 rfl (lv_at hl 1 rfl) ?_
    refine g_iast (x := kd) hx hb hK hW hS f27_ (by omega) (by omega) (by omega) dX4_make_31 (fun H locs hW hS => ?_)
    obtain ⟨en2w, hen2w⟩ : ∃ x : en_T, x = e2 en1w 47 0 (some (b 27, aI dA (6001) (uF (mu1w 27) ((mu 26 (0)) + 1) (kd)))) := ⟨_, rfl⟩
    rw [← hen2w] at hW
    obtain ⟨mu2w, hmu2w⟩ : ∃ x : Mu, x = u2 mu1w 27 ((mu 26 (0)) + 1) (kd) := ⟨_, rfl⟩
    have hE2w : EM dA b mu2w en2w := by rw [hen2w, hmu2w]; exact em_w hE1w (k0 := 27) (j := (mu 26 (0)) + 1) (v := kd) (by decide)
    have hF2w : FM en1w en2w := fun k i q => by rw [hen2w]; exact e2_k (fun w => q (by rw [w]; decide))
    have hF2w := FM.tr hF1w hF2w
    replace t26_0 : mu2w 26 (0) = (mu 26 (0)) + 1 := by rw [hmu2w]; exact (u2_n (fun q => absurd q.1 (by decide))).trans t26_0
    replace t2_0 : mu2w 2 (0) = mu 2 (0) := by rw [hmu2w]; exact (u2_n (fun q => absurd q.1 (by decide))).trans t2_0
    have fM : en2w 20 0 = some (b 0, .inr (6, [.int (iZ (mu2w 0 0)), .int (iZ (mu2w 1 0)), .long (lZ (mu2w 2 0)), .int (iZ (mu2w 3 0)), .ref (b 4), .ref (b 5), .ref (b 6), .ref (b 7), .ref (b 8), .ref (b 9), .ref (b 10), .ref (b 11), .ref (b 12), .ref (b 13), .ref (b 14), .ref (b 15), .ref (b 16), .ref (b 17), .ref (b 18), .ref (b 19), .ref (b 20), .ref (b 21), .ref (b 22), .ref (b 23), .ref (b 24), .ref (b 25), .int (iZ (mu2w 26 0)), .ref (b 27), .ref (b 28), .ref (b 29), .ref (b 30), .ref (b 31), .ref (b 32), .ref (b 33), .ref (b 34), .int (iZ (mu2w 35 0)), .int (iZ (mu2w 36 0)), .int (iZ (mu2w 37 0)), .int (iZ (mu2w 38 0)), .int (iZ (mu2w 39 0)), .int (iZ (mu2w 40 0)), .ref (b 41), .ref (b 42)])) := hE2w.1
    have f27_ : en2w 47 0 = some (b 27, aI dA (6001) (mu2w 27)) := hE2w.2 27 (by decide)
    have f28_ : en2w 48 0 = some (b 28, aI dA (6001) (mu2w 28)) := hE2w.2 28 (by decide)
    have f29_ : en2w 49 0 = some (b 29, aI dA (6001) (mu2w 29)) := hE2w.2 29 (by decide)
    have f30_ : en2w 50 0 = some (b 30, aI dA (6001) (mu2w 30)) := hE2w.2 30 (by decide)
    have f31_ : en2w 51 0 = some (b 31, aI dA (6001) (mu2w 31)) := hE2w.2 31 (by decide)
    have f32_ : en2w 52 0 = some (b 32, aJ dA (6001) (mu2w 32)) := hE2w.2 32 (by decide)
    refine lv_aload_n hx hb dX4_make_32 rfl (lv_at hl 0 rfl) ?_
    refine g_get (C := RX4) (T := TX4) (N := 43) (ci := 6) (v := .ref (b 28)) hx hb hts hi6 hown hK hW fM rfl 28 (by decide) (hts (.fieldLink RX4 84 "LongTransferModel" "of" "[I") (by decide +kernel)) (fun _ h9 => h9) rfl dX4_make_33 ?_
    refine lv_aload_n hx hb dX4_make_36 rfl (lv_at hl 0 rfl) ?_
    refine g_get (C := RX4) (T := TX4) (N := 43) (ci := 6) (v := .int (iZ (mu2w 26 0))) hx hb hts hi6 hown hK hW fM rfl 26 (by decide) (hts (.fieldLink RX4 134 "LongTransferModel" "frames" "I") (by decide +kernel)) (fun _ h9 => h9) rfl dX4_make_37 ?_
    rw [t26_0]
    refine lv_iload_n hx hb dX4_make_40 rfl (lv_at hl 2 rfl) ?_
    refine g_iast (x := mg) hx hb hK hW hS f28_ (by omega) (by omega) (by omega) dX4_make_41 (fun H locs hW hS => ?_)
    obtain ⟨en3w, hen3w⟩ : ∃ x : en_T, x = e2 en2w 48 0 (some (b 28, aI dA (6001) (uF (mu2w 28) ((mu 26 (0)) + 1) (mg)))) := ⟨_, rfl⟩
    rw [← hen3w] at hW
    obtain ⟨mu3w, hmu3w⟩ : ∃ x : Mu, x = u2 mu2w 28 ((mu 26 (0)) + 1) (mg) := ⟨_, rfl⟩
    have hE3w : EM dA b mu3w en3w := by rw [hen3w, hmu3w]; exact em_w hE2w (k0 := 28) (j := (mu 26 (0)) + 1) (v := mg) (by decide)
    have hF3w : FM en2w en3w := fun k i q => by rw [hen3w]; exact e2_k (fun w => q (by rw [w]; decide))
    have hF3w := FM.tr hF2w hF3w
    replace t26_0 : mu3w 26 (0) = (mu 26 (0)) + 1 := by rw [hmu3w]; exact (u2_n (fun q => absurd q.1 (by decide))).trans t26_0
    replace t2_0 : mu3w 2 (0) = mu 2 (0) := by rw [hmu3w]; exact (u2_n (fun q => absurd q.1 (by decide))).trans t2_0
    have fM : en3w 20 0 = some (b 0, .inr (6, [.int (iZ (mu3w 0 0)), .int (iZ (mu3w 1 0)), .long (lZ (mu3w 2 0)), .int (iZ (mu3w 3 0)), .ref (b 4), .ref (b 5), .ref (b 6), .ref (b 7), .ref (b 8), .ref (b 9), .ref (b 10), .ref (b 11), .ref (b 12), .ref (b 13), .ref (b 14), .ref (b 15), .ref (b 16), .ref (b 17), .ref (b 18), .ref (b 19), .ref (b 20), .ref (b 21), .ref (b 22), .ref (b 23), .ref (b 24), .ref (b 25), .int (iZ (mu3w 26 0)), .ref (b 27), .ref (b 28), .ref (b 29), .ref (b 30), .ref (b 31), .ref (b 32), .ref (b 33), .ref (b 34), .int (iZ (mu3w 35 0)), .int (iZ (mu3w 36 0)), .int (iZ (mu3w 37 0)), .int (iZ (mu3w 38 0)), .int (iZ (mu3w 39 0)), .int (iZ (mu3w 40 0)), .ref (b 41), .ref (b 42)])) := hE3w.1
    have f27_ : en3w 47 0 = some (b 27, aI dA (6001) (mu3w 27)) := hE3w.2 27 (by decide)
    have f28_ : en3w 48 0 = some (b 28, aI dA (6001) (mu3w 28)) := hE3w.2 28 (by decide)
    have f29_ : en3w 49 0 = some (b 29, aI dA (6001) (mu3w 29)) := hE3w.2 29 (by decide)
    have f30_ : en3w 50 0 = some (b 30, aI dA (6001) (mu3w 30)) := hE3w.2 30 (by decide)
    have f31_ : en3w 51 0 = some (b 31, aI dA (6001) (mu3w 31)) := hE3w.2 31 (by decide)
    have f32_ : en3w 52 0 = some (b 32, aJ dA (6001) (mu3w 32)) := hE3w.2 32 (by decide)
    refine lv_aload_n hx hb dX4_make_42 rfl (lv_at hl 0 rfl) ?_
    refine g_get (C := RX4) (T := TX4) (N := 43) (ci := 6) (v := .ref (b 29)) hx hb hts hi6 hown hK hW fM rfl 29 (by decide) (hts (.fieldLink RX4 87 "LongTransferModel" "number" "[I") (by decide +kernel)) (fun _ h9 => h9) rfl dX4_make_43 ?_
    refine lv_aload_n hx hb dX4_make_46 rfl (lv_at hl 0 rfl) ?_
    refine g_get (C := RX4) (T := TX4) (N := 43) (ci := 6) (v := .int (iZ (mu3w 26 0))) hx hb hts hi6 hown hK hW fM rfl 26 (by decide) (hts (.fieldLink RX4 134 "LongTransferModel" "frames" "I") (by decide +kernel)) (fun _ h9 => h9) rfl dX4_make_47 ?_
    rw [t26_0]
    refine lv_iload_n hx hb dX4_make_50 rfl (lv_at hl 3 rfl) ?_
    refine g_iast (x := nu) hx hb hK hW hS f29_ (by omega) (by omega) (by omega) dX4_make_51 (fun H locs hW hS => ?_)
    obtain ⟨en4w, hen4w⟩ : ∃ x : en_T, x = e2 en3w 49 0 (some (b 29, aI dA (6001) (uF (mu3w 29) ((mu 26 (0)) + 1) (nu)))) := ⟨_, rfl⟩
    rw [← hen4w] at hW
    obtain ⟨mu4w, hmu4w⟩ : ∃ x : Mu, x = u2 mu3w 29 ((mu 26 (0)) + 1) (nu) := ⟨_, rfl⟩
    have hE4w : EM dA b mu4w en4w := by rw [hen4w, hmu4w]; exact em_w hE3w (k0 := 29) (j := (mu 26 (0)) + 1) (v := nu) (by decide)
    have hF4w : FM en3w en4w := fun k i q => by rw [hen4w]; exact e2_k (fun w => q (by rw [w]; decide))
    have hF4w := FM.tr hF3w hF4w
    replace t26_0 : mu4w 26 (0) = (mu 26 (0)) + 1 := by rw [hmu4w]; exact (u2_n (fun q => absurd q.1 (by decide))).trans t26_0
    replace t2_0 : mu4w 2 (0) = mu 2 (0) := by rw [hmu4w]; exact (u2_n (fun q => absurd q.1 (by decide))).trans t2_0
    have fM : en4w 20 0 = some (b 0, .inr (6, [.int (iZ (mu4w 0 0)), .int (iZ (mu4w 1 0)), .long (lZ (mu4w 2 0)), .int (iZ (mu4w 3 0)), .ref (b 4), .ref (b 5), .ref (b 6), .ref (b 7), .ref (b 8), .ref (b 9), .ref (b 10), .ref (b 11), .ref (b 12), .ref (b 13), .ref (b 14), .ref (b 15), .ref (b 16), .ref (b 17), .ref (b 18), .ref (b 19), .ref (b 20), .ref (b 21), .ref (b 22), .ref (b 23), .ref (b 24), .ref (b 25), .int (iZ (mu4w 26 0)), .ref (b 27), .ref (b 28), .ref (b 29), .ref (b 30), .ref (b 31), .ref (b 32), .ref (b 33), .ref (b 34), .int (iZ (mu4w 35 0)), .int (iZ (mu4w 36 0)), .int (iZ (mu4w 37 0)), .int (iZ (mu4w 38 0)), .int (iZ (mu4w 39 0)), .int (iZ (mu4w 40 0)), .ref (b 41), .ref (b 42)])) := hE4w.1
    have f27_ : en4w 47 0 = some (b 27, aI dA (6001) (mu4w 27)) := hE4w.2 27 (by decide)
    have f28_ : en4w 48 0 = some (b 28, aI dA (6001) (mu4w 28)) := hE4w.2 28 (by decide)
    have f29_ : en4w 49 0 = some (b 29, aI dA (6001) (mu4w 29)) := hE4w.2 29 (by decide)
    have f30_ : en4w 50 0 = some (b 30, aI dA (6001) (mu4w 30)) := hE4w.2 30 (by decide)
    have f31_ : en4w 51 0 = some (b 31, aI dA (6001) (mu4w 31)) := hE4w.2 31 (by decide)
    have f32_ : en4w 52 0 = some (b 32, aJ dA (6001) (mu4w 32)) := hE4w.2 32 (by decide)
    refine lv_aload_n hx hb dX4_make_52 rfl (lv_at hl 0 rfl) ?_
    refine g_get (C := RX4) (T := TX4) (N := 43) (ci := 6) (v := .ref (b 30)) hx hb hts hi6 hown hK hW fM rfl 30 (by decide) (hts (.fieldLink RX4 90 "LongTransferModel" "count" "[I") (by decide +kernel)) (fun _ h9 => h9) rfl dX4_make_53 ?_
    refine lv_aload_n hx hb dX4_make_56 rfl (lv_at hl 0 rfl) ?_
    refine g_get (C := RX4) (T := TX4) (N := 43) (ci := 6) (v := .int (iZ (mu4w 26 0))) hx hb hts hi6 hown hK hW fM rfl 26 (by decide) (hts (.fieldLink RX4 134 "LongTransferModel" "frames" "I") (by decide +kernel)) (fun _ h9 => h9) rfl dX4_make_57 ?_
    rw [t26_0]
    refine lv_iload hx hb dX4_make_60 (lv_at hl 4 rfl) ?_
    refine g_iast (x := ct) hx hb hK hW hS f30_ (by omega) (by omega) (by omega) dX4_make_62 (fun H locs hW hS => ?_)
    obtain ⟨en5w, hen5w⟩ : ∃ x : en_T, x = e2 en4w 50 0 (some (b 30, aI dA (6001) (uF (mu4w 30) ((mu 26 (0)) + 1) (ct)))) := ⟨_, rfl⟩
    rw [← hen5w] at hW
    obtain ⟨mu5w, hmu5w⟩ : ∃ x : Mu, x = u2 mu4w 30 ((mu 26 (0)) + 1) (ct) := ⟨_, rfl⟩
    have hE5w : EM dA b mu5w en5w := by rw [hen5w, hmu5w]; exact em_w hE4w (k0 := 30) (j := (mu 26 (0)) + 1) (v := ct) (by decide)
    have hF5w : FM en4w en5w := fun k i q => by rw [hen5w]; exact e2_k (fun w => q (by rw [w]; decide))
    have hF5w := FM.tr hF4w hF5w
    replace t26_0 : mu5w 26 (0) = (mu 26 (0)) + 1 := by rw [hmu5w]; exact (u2_n (fun q => absurd q.1 (by decide))).trans t26_0
    replace t2_0 : mu5w 2 (0) = mu 2 (0) := by rw [hmu5w]; exact (u2_n (fun q => absurd q.1 (by decide))).trans t2_0
    have fM : en5w 20 0 = some (b 0, .inr (6, [.int (iZ (mu5w 0 0)), .int (iZ (mu5w 1 0)), .long (lZ (mu5w 2 0)), .int (iZ (mu5w 3 0)), .ref (b 4), .ref (b 5), .ref (b 6), .ref (b 7), .ref (b 8), .ref (b 9), .ref (b 10), .ref (b 11), .ref (b 12), .ref (b 13), .ref (b 14), .ref (b 15), .ref (b 16), .ref (b 17), .ref (b 18), .ref (b 19), .ref (b 20), .ref (b 21), .ref (b 22), .ref (b 23), .ref (b 24), .ref (b 25), .int (iZ (mu5w 26 0)), .ref (b 27), .ref (b 28), .ref (b 29), .ref (b 30), .ref (b 31), .ref (b 32), .ref (b 33), .ref (b 34), .int (iZ (mu5w 35 0)), .int (iZ (mu5w 36 0)), .int (iZ (mu5w 37 0)), .int (iZ (mu5w 38 0)), .int (iZ (mu5w 39 0)), .int (iZ (mu5w 40 0)), .ref (b 41), .ref (b 42)])) := hE5w.1
    have f27_ : en5w 47 0 = some (b 27, aI dA (6001) (mu5w 27)) := hE5w.2 27 (by decide)
    have f28_ : en5w 48 0 = some (b 28, aI dA (6001) (mu5w 28)) := hE5w.2 28 (by decide)
    have f29_ : en5w 49 0 = some (b 29, aI dA (6001) (mu5w 29)) := hE5w.2 29 (by decide)
    have f30_ : en5w 50 0 = some (b 30, aI dA (6001) (mu5w 30)) := hE5w.2 30 (by decide)
    have f31_ : en5w 51 0 = some (b 31, aI dA (6001) (mu5w 31)) := hE5w.2 31 (by decide)
    have f32_ : en5w 52 0 = some (b 32, aJ dA (6001) (mu5w 32)) := hE5w.2 32 (by decide)
    refine lv_aload_n hx hb dX4_make_63 rfl (lv_at hl 0 rfl) ?_
    refine g_get (C := RX4) (T := TX4) (N := 43) (ci := 6) (v := .ref (b 31)) hx hb hts hi6 hown hK hW fM rfl 31 (by decide) (hts (.fieldLink RX4 93 "LongTransferModel" "apart" "[I") (by decide +kernel)) (fun _ h9 => h9) rfl dX4_make_64 ?_
    refine lv_aload_n hx hb dX4_make_67 rfl (lv_at hl 0 rfl) ?_
    refine g_get (C := RX4) (T := TX4) (N := 43) (ci := 6) (v := .int (iZ (mu5w 26 0))) hx hb hts hi6 hown hK hW fM rfl 26 (by decide) (hts (.fieldLink RX4 134 "LongTransferModel" "frames" "I") (by decide +kernel)) (fun _ h9 => h9) rfl dX4_make_68 ?_
    rw [t26_0]
    refine lv_iload hx hb dX4_make_71 (lv_at hl 5 rfl) ?_
    refine g_iast (x := sp) hx hb hK hW hS f31_ (by omega) (by omega) (by omega) dX4_make_73 (fun H locs hW hS => ?_)
    obtain ⟨en6w, hen6w⟩ : ∃ x : en_T, x = e2 en5w 51 0 (some (b 31, aI dA (6001) (uF (mu5w 31) ((mu 26 (0)) + 1) (sp)))) := ⟨_, rfl⟩
    rw [← hen6w] at hW
    obtain ⟨mu6w, hmu6w⟩ : ∃ x : Mu, x = u2 mu5w 31 ((mu 26 (0)) + 1) (sp) := ⟨_, rfl⟩
    have hE6w : EM dA b mu6w en6w := by rw [hen6w, hmu6w]; exact em_w hE5w (k0 := 31) (j := (mu 26 (0)) + 1) (v := sp) (by decide)
    have hF6w : FM en5w en6w := fun k i q => by rw [hen6w]; exact e2_k (fun w => q (by rw [w]; decide))
    have hF6w := FM.tr hF5w hF6w
    replace t26_0 : mu6w 26 (0) = (mu 26 (0)) + 1 := by rw [hmu6w]; exact (u2_n (fun q => absurd q.1 (by decide))).trans t26_0
    replace t2_0 : mu6w 2 (0) = mu 2 (0) := by rw [hmu6w]; exact (u2_n (fun q => absurd q.1 (by decide))).trans t2_0
    have fM : en6w 20 0 = some (b 0, .inr (6, [.int (iZ (mu6w 0 0)), .int (iZ (mu6w 1 0)), .long (lZ (mu6w 2 0)), .int (iZ (mu6w 3 0)), .ref (b 4), .ref (b 5), .ref (b 6), .ref (b 7), .ref (b 8), .ref (b 9), .ref (b 10), .ref (b 11), .ref (b 12), .ref (b 13), .ref (b 14), .ref (b 15), .ref (b 16), .ref (b 17), .ref (b 18), .ref (b 19), .ref (b 20), .ref (b 21), .ref (b 22), .ref (b 23), .ref (b 24), .ref (b 25), .int (iZ (mu6w 26 0)), .ref (b 27), .ref (b 28), .ref (b 29), .ref (b 30), .ref (b 31), .ref (b 32), .ref (b 33), .ref (b 34), .int (iZ (mu6w 35 0)), .int (iZ (mu6w 36 0)), .int (iZ (mu6w 37 0)), .int (iZ (mu6w 38 0)), .int (iZ (mu6w 39 0)), .int (iZ (mu6w 40 0)), .ref (b 41), .ref (b 42)])) := hE6w.1
    have f27_ : en6w 47 0 = some (b 27, aI dA (6001) (mu6w 27)) := hE6w.2 27 (by decide)
    have f28_ : en6w 48 0 = some (b 28, aI dA (6001) (mu6w 28)) := hE6w.2 28 (by decide)
    have f29_ : en6w 49 0 = some (b 29, aI dA (6001) (mu6w 29)) := hE6w.2 29 (by decide)
    have f30_ : en6w 50 0 = some (b 30, aI dA (6001) (mu6w 30)) := hE6w.2 30 (by decide)
    have f31_ : en6w 51 0 = some (b 31, aI dA (6001) (mu6w 31)) := hE6w.2 31 (by decide)
    have f32_ : en6w 52 0 = some (b 32, aJ dA (6001) (mu6w 32)) := hE6w.2 32 (by decide)
    refine lv_aload_n hx hb dX4_make_74 rfl (lv_at hl 0 rfl) ?_
    refine g_get (C := RX4) (T := TX4) (N := 43) (ci := 6) (v := .ref (b 32)) hx hb hts hi6 hown hK hW fM rfl 32 (by decide) (hts (.fieldLink RX4 96 "LongTransferModel" "time" "[J") (by decide +kernel)) (fun _ h9 => h9) rfl dX4_make_75 ?_
    refine lv_aload_n hx hb dX4_make_78 rfl (lv_at hl 0 rfl) ?_
    refine g_get (C := RX4) (T := TX4) (N := 43) (ci := 6) (v := .int (iZ (mu6w 26 0))) hx hb hts hi6 hown hK hW fM rfl 26 (by decide) (hts (.fieldLink RX4 134 "LongTransferModel" "frames" "I") (by decide +kernel)) (fun _ h9 => h9) rfl dX4_make_79 ?_
    rw [t26_0]
    refine lv_aload_n hx hb dX4_make_82 rfl (lv_at hl 0 rfl) ?_
    refine g_get (C := RX4) (T := TX4) (N := 43) (ci := 6) (v := .long (lZ (mu6w 2 0))) hx hb hts hi6 hown hK hW fM rfl 2 (by decide) (hts (.fieldLink RX4 137 "LongTransferModel" "now" "J") (by decide +kernel)) (fun _ h9 => h9) rfl dX4_make_83 ?_
    rw [t2_0]
    refine g_last (x := mu 2 (0)) hx hb hK hW hS f32_ (by omega) (by omega) (by omega) dX4_make_86 (fun H locs hW hS => ?_)
    obtain ⟨en7w, hen7w⟩ : ∃ x : en_T, x = e2 en6w 52 0 (some (b 32, aJ dA (6001) (uF (mu6w 32) ((mu 26 (0)) + 1) (mu 2 (0))))) := ⟨_, rfl⟩
    rw [← hen7w] at hW
    obtain ⟨mu7w, hmu7w⟩ : ∃ x : Mu, x = u2 mu6w 32 ((mu 26 (0)) + 1) (mu 2 (0)) := ⟨_, rfl⟩
    have hE7w : EM dA b mu7w en7w := by rw [hen7w, hmu7w]; exact em_w hE6w (k0 := 32) (j := (mu 26 (0)) + 1) (v := mu 2 (0)) (by decide)
    have hF7w : FM en6w en7w := fun k i q => by rw [hen7w]; exact e2_k (fun w => q (by rw [w]; decide))
    have hF7w := FM.tr hF6w hF7w
    replace t26_0 : mu7w 26 (0) = (mu 26 (0)) + 1 := by rw [hmu7w]; exact (u2_n (fun q => absurd q.1 (by decide))).trans t26_0
    replace t2_0 : mu7w 2 (0) = mu 2 (0) := by rw [hmu7w]; exact (u2_n (fun q => absurd q.1 (by decide))).trans t2_0
    have fM : en7w 20 0 = some (b 0, .inr (6, [.int (iZ (mu7w 0 0)), .int (iZ (mu7w 1 0)), .long (lZ (mu7w 2 0)), .int (iZ (mu7w 3 0)), .ref (b 4), .ref (b 5), .ref (b 6), .ref (b 7), .ref (b 8), .ref (b 9), .ref (b 10), .ref (b 11), .ref (b 12), .ref (b 13), .ref (b 14), .ref (b 15), .ref (b 16), .ref (b 17), .ref (b 18), .ref (b 19), .ref (b 20), .ref (b 21), .ref (b 22), .ref (b 23), .ref (b 24), .ref (b 25), .int (iZ (mu7w 26 0)), .ref (b 27), .ref (b 28), .ref (b 29), .ref (b 30), .ref (b 31), .ref (b 32), .ref (b 33), .ref (b 34), .int (iZ (mu7w 35 0)), .int (iZ (mu7w 36 0)), .int (iZ (mu7w 37 0)), .int (iZ (mu7w 38 0)), .int (iZ (mu7w 39 0)), .int (iZ (mu7w 40 0)), .ref (b 41), .ref (b 42)])) := hE7w.1
    have f27_ : en7w 47 0 = some (b 27, aI dA (6001) (mu7w 27)) := hE7w.2 27 (by decide)
    have f28_ : en7w 48 0 = some (b 28, aI dA (6001) (mu7w 28)) := hE7w.2 28 (by decide)
    have f29_ : en7w 49 0 = some (b 29, aI dA (6001) (mu7w 29)) := hE7w.2 29 (by decide)
    have f30_ : en7w 50 0 = some (b 30, aI dA (6001) (mu7w 30)) := hE7w.2 30 (by decide)
    have f31_ : en7w 51 0 = some (b 31, aI dA (6001) (mu7w 31)) := hE7w.2 31 (by decide)
    have f32_ : en7w 52 0 = some (b 32, aJ dA (6001) (mu7w 32)) := hE7w.2 32 (by decide)
    refine lv_aload_n hx hb dX4_make_87 rfl (lv_at hl 0 rfl) ?_
    refine g_get (C := RX4) (T := TX4) (N := 43) (ci := 6) (v := .int (iZ (mu7w 26 0))) hx hb hts hi6 hown hK hW fM rfl 26 (by decide) (hts (.fieldLink RX4 134 "LongTransferModel" "frames" "I") (by decide +kernel)) (fun _ h9 => h9) rfl dX4_make_88 ?_
    rw [t26_0]
    have hf9 : mu7w 26 0 = mu 26 0 + 1 := by omega
    have hz9 : mu7w = mMk mu kd mg nu ct sp := by
      unfold mMk
      rw [hmu7w]
      rw [hmu6w]
      rw [hmu5w]
      rw [hmu4w]
      rw [hmu3w]
      rw [hmu2w]
      rw [hmu1w]
    have hpst : mu7w = mMake mu kd mg nu ct sp := hz9.trans (if_neg (by omega)).symm
    exact W.iret hx hb hr (fun t ht hw => ⟨⟨_, (en7w, mu7w), rfl, ⟨by rw [if_neg (by omega)], hE7w, hF7w, hpst⟩, by show Wd _ _ _ t.heap; rw [ht]; exact hW⟩, hS.F ht⟩) hS.2.2 dX4_make_91
  · refine z_iconst hx hb dX4_make_10 ?_
    have hpst : mu = mMake mu kd mg nu ct sp := (if_pos (by omega)).symm
    exact W.iret hx hb hr (fun t ht hw => ⟨⟨_, (en, mu), rfl, ⟨congrArg iZ (if_pos (by omega)).symm, hE, (FM.rf _), hpst⟩, by show Wd _ _ _ t.heap; rw [ht]; exact hW⟩, hS.F ht⟩) hS.2.2 dX4_make_11
def mEndS (mu : Mu) (i w : Int) : Mu := u2 (u2 mu 7 i 4) 42 w (mu 42 w + 1)
set_option maxHeartbeats 4000000 in
set_option maxRecDepth 100000 in
theorem c_X4_endSender (l : Launch) (D : va_G) (dA : Nat → ClassId) (z : Nat → Nat) (en : en_T) (b : Nat → Nat) (mu : Mu) (mm w9 : Int) (h0 : 0 ≤ mm) (h1 : mm ≤ 100) (hw0 : 0 ≤ w9) (hw1 : w9 < 8) (hE : EM dA b mu en) : Met l yX4_endSender wsX4_endSender ({ frames := 0, cells := 0, slots := 0, locals := 0 }) (gP D dA z en [.ref (b 0), .int (iZ (mm)), .int (iZ (w9))]) (va_Qv (fun u : en_T × Mu => EM dA b u.2 u.1 ∧ FM en u.1 ∧ u.2 = mEndS mu mm w9) (fun u t9 => Wd D (z 0) u.1 t9.heap) (fun q => z 0 ≤ q)) (0) (0) (fun q => z 0 ≤ q) := by
  refine gMet (own := RX4) (cc := cX4_endSender) (maxL := 3) (ret := none) (by decide) rfl rfl (Nat.le_of_ble_eq_true rfl) ?_
  intro p e s m below meth c hx hb hml hown hts hr hlocks hnm hg hW ls hl
  have hK := hg.1
  have hS : va_S (fun q => z 0 ≤ q) s.heap s.heap [] := va_S.rf
  have hi6 : ∀ w ∈ u_ws RX4 TX4 43, w ∈ wsX4_endSender := by decide +kernel
  have hl : lv_has ls 3 [(0, .ref (b 0)), (1, .int (iZ (mm))), (2, .int (iZ (w9)))] := hl
  have fM : en 20 0 = some (b 0, .inr (6, [.int (iZ (mu 0 0)), .int (iZ (mu 1 0)), .long (lZ (mu 2 0)), .int (iZ (mu 3 0)), .ref (b 4), .ref (b 5), .ref (b 6), .ref (b 7), .ref (b 8), .ref (b 9), .ref (b 10), .ref (b 11), .ref (b 12), .ref (b 13), .ref (b 14), .ref (b 15), .ref (b 16), .ref (b 17), .ref (b 18), .ref (b 19), .ref (b 20), .ref (b 21), .ref (b 22), .ref (b 23), .ref (b 24), .ref (b 25), .int (iZ (mu 26 0)), .ref (b 27), .ref (b 28), .ref (b 29), .ref (b 30), .ref (b 31), .ref (b 32), .ref (b 33), .ref (b 34), .int (iZ (mu 35 0)), .int (iZ (mu 36 0)), .int (iZ (mu 37 0)), .int (iZ (mu 38 0)), .int (iZ (mu 39 0)), .int (iZ (mu 40 0)), .ref (b 41), .ref (b 42)])) := hE.1
  have f7_ : en 27 0 = some (b 7, aI dA (101) (mu 7)) := hE.2 7 (by decide)
  have f42_ : en 62 0 = some (b 42, aI dA (8) (mu 42)) := hE.2 42 (by decide)
  have t42_w9 : mu 42 (w9) = mu 42 (w9) := rfl
  refine lv_aload_n hx hb dX4_endSender_0 rfl (lv_at hl 0 rfl) ?_
  refine g_get (C := RX4) (T := TX4) (N := 43) (ci := 6) (v := .ref (b 7)) hx hb hts hi6 hown hK hW fM rfl 7 (by decide) (hts (.fieldLink RX4 22 "LongTransferModel" "state" "[I") (by decide +kernel)) (fun _ h9 => h9) rfl dX4_endSender_1 ?_
  refine lv_iload_n hx hb dX4_endSender_4 rfl (lv_at hl 1 rfl) ?_
  refine z_iconst hx hb dX4_endSender_5 ?_
  refine g_iast (x := 4) hx hb hK hW hS f7_ (by omega) (by omega) (by omega) dX4_endSender_6 (fun H locs hW hS => ?_)
  obtain ⟨en1w, hen1w⟩ : ∃ x : en_T, x = e2 en 27 0 (some (b 7, aI dA (101) (uF (mu 7) (mm) (4)))) := ⟨_, rfl⟩
  rw [← hen1w] at hW
  obtain ⟨mu1w, hmu1w⟩ : ∃ x : Mu, x = u2 mu 7 (mm) (4) := ⟨_, rfl⟩
  have hE1w : EM dA b mu1w en1w := by rw [hen1w, hmu1w]; exact em_w hE (k0 := 7) (j := mm) (v := 4) (by decide)
  have hF1w : FM en en1w := fun k i q => by rw [hen1w]; exact e2_k (fun w => q (by rw [w]; decide))
  replace t42_w9 : mu1w 42 (w9) = mu 42 (w9) := by rw [hmu1w]; exact (u2_n (fun q => absurd q.1 (by decide))).trans t42_w9
  have fM : en1w 20 0 = some (b 0, .inr (6, [.int (iZ (mu1w 0 0)), .int (iZ (mu1w 1 0)), .long (lZ (mu1w 2 0)), .int (iZ (mu1w 3 0)), .ref (b 4), .ref (b 5), .ref (b 6), .ref (b 7), .ref (b 8), .ref (b 9), .ref (b 10), .ref (b 11), .ref (b 12), .ref (b 13), .ref (b 14), .ref (b 15), .ref (b 16), .ref (b 17), .ref (b 18), .ref (b 19), .ref (b 20), .ref (b 21), .ref (b 22), .ref (b 23), .ref (b 24), .ref (b 25), .int (iZ (mu1w 26 0)), .ref (b 27), .ref (b 28), .ref (b 29), .ref (b 30), .ref (b 31), .ref (b 32), .ref (b 33), .ref (b 34), .int (iZ (mu1w 35 0)), .int (iZ (mu1w 36 0)), .int (iZ (mu1w 37 0)), .int (iZ (mu1w 38 0)), .int (iZ (mu1w 39 0)), .int (iZ (mu1w 40 0)), .ref (b 41), .ref (b 42)])) := hE1w.1
  have f7_ : en1w 27 0 = some (b 7, aI dA (101) (mu1w 7)) := hE1w.2 7 (by decide)
  have f42_ : en1w 62 0 = some (b 42, aI dA (8) (mu1w 42)) := hE1w.2 42 (by decide)
  refine lv_aload_n hx hb dX4_endSender_7 rfl (lv_at hl 0 rfl) ?_
  refine g_get (C := RX4) (T := TX4) (N := 43) (ci := 6) (v := .ref (b 42)) hx hb hts hi6 hown hK hW fM rfl 42 (by decide) (hts (.fieldLink RX4 113 "LongTransferModel" "ended" "[I") (by decide +kernel)) (fun _ h9 => h9) rfl dX4_endSender_8 ?_
  refine lv_iload_n hx hb dX4_endSender_11 rfl (lv_at hl 2 rfl) ?_
  refine lv_dup2_11 hx hb dX4_endSender_12 rfl rfl ?_
  refine g_iald hx hb hK hW f42_ (by omega) (by omega) (by omega) dX4_endSender_13 ?_
  rw [t42_w9]
  refine z_iconst hx hb dX4_endSender_14 ?_
  refine z_iadd hx hb dX4_endSender_15 ?_
  refine g_iast (x := (mu 42 (w9)) + 1) hx hb hK hW hS f42_ (by omega) (by omega) (by omega) dX4_endSender_16 (fun H locs hW hS => ?_)
  obtain ⟨en2w, hen2w⟩ : ∃ x : en_T, x = e2 en1w 62 0 (some (b 42, aI dA (8) (uF (mu1w 42) (w9) ((mu 42 (w9)) + 1)))) := ⟨_, rfl⟩
  rw [← hen2w] at hW
  obtain ⟨mu2w, hmu2w⟩ : ∃ x : Mu, x = u2 mu1w 42 (w9) ((mu 42 (w9)) + 1) := ⟨_, rfl⟩
  have hE2w : EM dA b mu2w en2w := by rw [hen2w, hmu2w]; exact em_w hE1w (k0 := 42) (j := w9) (v := (mu 42 (w9)) + 1) (by decide)
  have hF2w : FM en1w en2w := fun k i q => by rw [hen2w]; exact e2_k (fun w => q (by rw [w]; decide))
  have hF2w := FM.tr hF1w hF2w
  replace t42_w9 : mu2w 42 (w9) = (mu 42 (w9)) + 1 := by rw [hmu2w]; exact u2_s _ _ _ _
  have fM : en2w 20 0 = some (b 0, .inr (6, [.int (iZ (mu2w 0 0)), .int (iZ (mu2w 1 0)), .long (lZ (mu2w 2 0)), .int (iZ (mu2w 3 0)), .ref (b 4), .ref (b 5), .ref (b 6), .ref (b 7), .ref (b 8), .ref (b 9), .ref (b 10), .ref (b 11), .ref (b 12), .ref (b 13), .ref (b 14), .ref (b 15), .ref (b 16), .ref (b 17), .ref (b 18), .ref (b 19), .ref (b 20), .ref (b 21), .ref (b 22), .ref (b 23), .ref (b 24), .ref (b 25), .int (iZ (mu2w 26 0)), .ref (b 27), .ref (b 28), .ref (b 29), .ref (b 30), .ref (b 31), .ref (b 32), .ref (b 33), .ref (b 34), .int (iZ (mu2w 35 0)), .int (iZ (mu2w 36 0)), .int (iZ (mu2w 37 0)), .int (iZ (mu2w 38 0)), .int (iZ (mu2w 39 0)), .int (iZ (mu2w 40 0)), .ref (b 41), .ref (b 42)])) := hE2w.1
  have f7_ : en2w 27 0 = some (b 7, aI dA (101) (mu2w 7)) := hE2w.2 7 (by decide)
  have f42_ : en2w 62 0 = some (b 42, aI dA (8) (mu2w 42)) := hE2w.2 42 (by decide)
  have hpst : mu2w = mEndS mu mm w9 := by unfold mEndS; rw [hmu2w, hmu1w]
  exact W.vret hx hb hr (fun t ht hw => ⟨⟨(en2w, mu2w), rfl, ⟨hE2w, hF2w, hpst⟩, by show Wd _ _ _ t.heap; rw [ht]; exact hW⟩, hS.F ht⟩) hS.2.2 dX4_endSender_17
def mEndR (mu : Mu) (i w : Int) : Mu := u2 (u2 mu 16 i 3) 42 w (mu 42 w + 1)
set_option maxHeartbeats 4000000 in
set_option maxRecDepth 100000 in
theorem c_X4_endReceiver (l : Launch) (D : va_G) (dA : Nat → ClassId) (z : Nat → Nat) (en : en_T) (b : Nat → Nat) (mu : Mu) (r w9 : Int) (h0 : 0 ≤ r) (h1 : r < 4) (hw0 : 0 ≤ w9) (hw1 : w9 < 8) (hE : EM dA b mu en) : Met l yX4_endReceiver wsX4_endReceiver ({ frames := 0, cells := 0, slots := 0, locals := 0 }) (gP D dA z en [.ref (b 0), .int (iZ (r)), .int (iZ (w9))]) (va_Qv (fun u : en_T × Mu => EM dA b u.2 u.1 ∧ FM en u.1 ∧ u.2 = mEndR mu r w9) (fun u t9 => Wd D (z 0) u.1 t9.heap) (fun q => z 0 ≤ q)) (0) (0) (fun q => z 0 ≤ q) := by
  refine gMet (own := RX4) (cc := cX4_endReceiver) (maxL := 3) (ret := none) (by decide) rfl rfl (Nat.le_of_ble_eq_true rfl) ?_
  intro p e s m below meth c hx hb hml hown hts hr hlocks hnm hg hW ls hl
  have hK := hg.1
  have hS : va_S (fun q => z 0 ≤ q) s.heap s.heap [] := va_S.rf
  have hi6 : ∀ w ∈ u_ws RX4 TX4 43, w ∈ wsX4_endReceiver := by decide +kernel
  have hl : lv_has ls 3 [(0, .ref (b 0)), (1, .int (iZ (r))), (2, .int (iZ (w9)))] := hl
  have fM : en 20 0 = some (b 0, .inr (6, [.int (iZ (mu 0 0)), .int (iZ (mu 1 0)), .long (lZ (mu 2 0)), .int (iZ (mu 3 0)), .ref (b 4), .ref (b 5), .ref (b 6), .ref (b 7), .ref (b 8), .ref (b 9), .ref (b 10), .ref (b 11), .ref (b 12), .ref (b 13), .ref (b 14), .ref (b 15), .ref (b 16), .ref (b 17), .ref (b 18), .ref (b 19), .ref (b 20), .ref (b 21), .ref (b 22), .ref (b 23), .ref (b 24), .ref (b 25), .int (iZ (mu 26 0)), .ref (b 27), .ref (b 28), .ref (b 29), .ref (b 30), .ref (b 31), .ref (b 32), .ref (b 33), .ref (b 34), .int (iZ (mu 35 0)), .int (iZ (mu 36 0)), .int (iZ (mu 37 0)), .int (iZ (mu 38 0)), .int (iZ (mu 39 0)), .int (iZ (mu 40 0)), .ref (b 41), .ref (b 42)])) := hE.1
  have f16_ : en 36 0 = some (b 16, aI dA (4) (mu 16)) := hE.2 16 (by decide)
  have f42_ : en 62 0 = some (b 42, aI dA (8) (mu 42)) := hE.2 42 (by decide)
  have t42_w9 : mu 42 (w9) = mu 42 (w9) := rfl
  refine lv_aload_n hx hb dX4_endReceiver_0 rfl (lv_at hl 0 rfl) ?_
  refine g_get (C := RX4) (T := TX4) (N := 43) (ci := 6) (v := .ref (b 16)) hx hb hts hi6 hown hK hW fM rfl 16 (by decide) (hts (.fieldLink RX4 50 "LongTransferModel" "place" "[I") (by decide +kernel)) (fun _ h9 => h9) rfl dX4_endReceiver_1 ?_
  refine lv_iload_n hx hb dX4_endReceiver_4 rfl (lv_at hl 1 rfl) ?_
  refine z_iconst hx hb dX4_endReceiver_5 ?_
  refine g_iast (x := 3) hx hb hK hW hS f16_ (by omega) (by omega) (by omega) dX4_endReceiver_6 (fun H locs hW hS => ?_)
  obtain ⟨en1w, hen1w⟩ : ∃ x : en_T, x = e2 en 36 0 (some (b 16, aI dA (4) (uF (mu 16) (r) (3)))) := ⟨_, rfl⟩
  rw [← hen1w] at hW
  obtain ⟨mu1w, hmu1w⟩ : ∃ x : Mu, x = u2 mu 16 (r) (3) := ⟨_, rfl⟩
  have hE1w : EM dA b mu1w en1w := by rw [hen1w, hmu1w]; exact em_w hE (k0 := 16) (j := r) (v := 3) (by decide)
  have hF1w : FM en en1w := fun k i q => by rw [hen1w]; exact e2_k (fun w => q (by rw [w]; decide))
  replace t42_w9 : mu1w 42 (w9) = mu 42 (w9) := by rw [hmu1w]; exact (u2_n (fun q => absurd q.1 (by decide))).trans t42_w9
  have fM : en1w 20 0 = some (b 0, .inr (6, [.int (iZ (mu1w 0 0)), .int (iZ (mu1w 1 0)), .long (lZ (mu1w 2 0)), .int (iZ (mu1w 3 0)), .ref (b 4), .ref (b 5), .ref (b 6), .ref (b 7), .ref (b 8), .ref (b 9), .ref (b 10), .ref (b 11), .ref (b 12), .ref (b 13), .ref (b 14), .ref (b 15), .ref (b 16), .ref (b 17), .ref (b 18), .ref (b 19), .ref (b 20), .ref (b 21), .ref (b 22), .ref (b 23), .ref (b 24), .ref (b 25), .int (iZ (mu1w 26 0)), .ref (b 27), .ref (b 28), .ref (b 29), .ref (b 30), .ref (b 31), .ref (b 32), .ref (b 33), .ref (b 34), .int (iZ (mu1w 35 0)), .int (iZ (mu1w 36 0)), .int (iZ (mu1w 37 0)), .int (iZ (mu1w 38 0)), .int (iZ (mu1w 39 0)), .int (iZ (mu1w 40 0)), .ref (b 41), .ref (b 42)])) := hE1w.1
  have f16_ : en1w 36 0 = some (b 16, aI dA (4) (mu1w 16)) := hE1w.2 16 (by decide)
  have f42_ : en1w 62 0 = some (b 42, aI dA (8) (mu1w 42)) := hE1w.2 42 (by decide)
  refine lv_aload_n hx hb dX4_endReceiver_7 rfl (lv_at hl 0 rfl) ?_
  refine g_get (C := RX4) (T := TX4) (N := 43) (ci := 6) (v := .ref (b 42)) hx hb hts hi6 hown hK hW fM rfl 42 (by decide) (hts (.fieldLink RX4 113 "LongTransferModel" "ended" "[I") (by decide +kernel)) (fun _ h9 => h9) rfl dX4_endReceiver_8 ?_
  refine lv_iload_n hx hb dX4_endReceiver_11 rfl (lv_at hl 2 rfl) ?_
  refine lv_dup2_11 hx hb dX4_endReceiver_12 rfl rfl ?_
  refine g_iald hx hb hK hW f42_ (by omega) (by omega) (by omega) dX4_endReceiver_13 ?_
  rw [t42_w9]
  refine z_iconst hx hb dX4_endReceiver_14 ?_
  refine z_iadd hx hb dX4_endReceiver_15 ?_
  refine g_iast (x := (mu 42 (w9)) + 1) hx hb hK hW hS f42_ (by omega) (by omega) (by omega) dX4_endReceiver_16 (fun H locs hW hS => ?_)
  obtain ⟨en2w, hen2w⟩ : ∃ x : en_T, x = e2 en1w 62 0 (some (b 42, aI dA (8) (uF (mu1w 42) (w9) ((mu 42 (w9)) + 1)))) := ⟨_, rfl⟩
  rw [← hen2w] at hW
  obtain ⟨mu2w, hmu2w⟩ : ∃ x : Mu, x = u2 mu1w 42 (w9) ((mu 42 (w9)) + 1) := ⟨_, rfl⟩
  have hE2w : EM dA b mu2w en2w := by rw [hen2w, hmu2w]; exact em_w hE1w (k0 := 42) (j := w9) (v := (mu 42 (w9)) + 1) (by decide)
  have hF2w : FM en1w en2w := fun k i q => by rw [hen2w]; exact e2_k (fun w => q (by rw [w]; decide))
  have hF2w := FM.tr hF1w hF2w
  replace t42_w9 : mu2w 42 (w9) = (mu 42 (w9)) + 1 := by rw [hmu2w]; exact u2_s _ _ _ _
  have fM : en2w 20 0 = some (b 0, .inr (6, [.int (iZ (mu2w 0 0)), .int (iZ (mu2w 1 0)), .long (lZ (mu2w 2 0)), .int (iZ (mu2w 3 0)), .ref (b 4), .ref (b 5), .ref (b 6), .ref (b 7), .ref (b 8), .ref (b 9), .ref (b 10), .ref (b 11), .ref (b 12), .ref (b 13), .ref (b 14), .ref (b 15), .ref (b 16), .ref (b 17), .ref (b 18), .ref (b 19), .ref (b 20), .ref (b 21), .ref (b 22), .ref (b 23), .ref (b 24), .ref (b 25), .int (iZ (mu2w 26 0)), .ref (b 27), .ref (b 28), .ref (b 29), .ref (b 30), .ref (b 31), .ref (b 32), .ref (b 33), .ref (b 34), .int (iZ (mu2w 35 0)), .int (iZ (mu2w 36 0)), .int (iZ (mu2w 37 0)), .int (iZ (mu2w 38 0)), .int (iZ (mu2w 39 0)), .int (iZ (mu2w 40 0)), .ref (b 41), .ref (b 42)])) := hE2w.1
  have f16_ : en2w 36 0 = some (b 16, aI dA (4) (mu2w 16)) := hE2w.2 16 (by decide)
  have f42_ : en2w 62 0 = some (b 42, aI dA (8) (mu2w 42)) := hE2w.2 42 (by decide)
  have hpst : mu2w = mEndR mu r w9 := by unfold mEndR; rw [hmu2w, hmu1w]
  exact W.vret hx hb hr (fun t ht hw => ⟨⟨(en2w, mu2w), rfl, ⟨hE2w, hF2w, hpst⟩, by show Wd _ _ _ t.heap; rw [ht]; exact hW⟩, hS.F ht⟩) hS.2.2 dX4_endReceiver_17
def mFl (mu : Mu) (f m fr k : Int) : Mu := fun t j => if t = 34 ∧ 7 * f ≤ j ∧ j < 7 * f + k then mu 5 (mu 4 m + fr + (j - 7 * f)) else mu t j
theorem mFl_0 (mu : Mu) (f m fr : Int) : mFl mu f m fr 0 = mu := by
  funext t j
  unfold mFl
  rw [if_neg (by omega)]
theorem mFl_n {mu : Mu} {f m fr k : Int} {t : Nat} {j : Int} (h : ¬ (t = 34 ∧ 7 * f ≤ j ∧ j < 7 * f + k)) : mFl mu f m fr k t j = mu t j := if_neg h
theorem mFl_s {mu : Mu} {f m fr k : Int} (hk : 0 ≤ k) : u2 (mFl mu f m fr k) 34 (7 * f + k) (mFl mu f m fr k 5 (mFl mu f m fr k 4 m + fr + k)) = mFl mu f m fr (k + 1) := by
  rw [mFl_n (t := 4) (by omega), mFl_n (t := 5) (by omega)]
  funext t j
  unfold u2 mFl
  by_cases q : t = 34 ∧ j = 7 * f + k
  · obtain ⟨rfl, rfl⟩ := q
    rw [if_pos ⟨rfl, rfl⟩, if_pos ⟨rfl, by omega, by omega⟩]
    congr 1
    omega
  · rw [if_neg q]
    by_cases q2 : t = 34 ∧ 7 * f ≤ j ∧ j < 7 * f + k
    · rw [if_pos q2, if_pos ⟨q2.1, q2.2.1, by omega⟩]
    · rw [if_neg q2, if_neg (fun w => by omega)]
set_option maxHeartbeats 4000000 in
set_option maxRecDepth 100000 in
theorem c_X4_fill (l : Launch) (D : va_G) (dA : Nat → ClassId) (z : Nat → Nat) (en : en_T) (b : Nat → Nat) (mu : Mu) (f9 mm fr n9 : Int) (h0 : 1 ≤ f9) (h1 : f9 ≤ 6000) (hm0 : 0 ≤ mm) (hm1 : mm ≤ 100) (hn0 : 0 ≤ n9) (hn1 : n9 ≤ 7) (hf0 : 0 ≤ mu 4 mm + fr) (hf1 : mu 4 mm + fr + n9 ≤ 1000000) (hB : ∀ j : Int, -128 ≤ mu 5 j ∧ mu 5 j ≤ 127) (hE : EM dA b mu en) : Met l yX4_fill wsX4_fill ({ frames := 0, cells := 0, slots := 0, locals := 0 }) (gP D dA z en [.ref (b 0), .int (iZ (f9)), .int (iZ (mm)), .int (iZ (fr)), .int (iZ (n9))]) (va_Qv (fun u : en_T × Mu => EM dA b u.2 u.1 ∧ FM en u.1 ∧ u.2 = mFl mu f9 mm fr n9) (fun u t9 => Wd D (z 0) u.1 t9.heap) (fun q => z 0 ≤ q)) (0) (0) (fun q => z 0 ≤ q) := by
  refine gMet (own := RX4) (cc := cX4_fill) (maxL := 6) (ret := none) (by decide) rfl rfl (Nat.le_of_ble_eq_true rfl) ?_
  intro p e s m below meth c hx hb hml hown hts hr hlocks hnm hg hW ls hl
  have hK := hg.1
  have hS : va_S (fun q => z 0 ≤ q) s.heap s.heap [] := va_S.rf
  have hi6 : ∀ w ∈ u_ws RX4 TX4 43, w ∈ wsX4_fill := by decide +kernel
  have hl : lv_has ls 6 [(0, .ref (b 0)), (1, .int (iZ (f9))), (2, .int (iZ (mm))), (3, .int (iZ (fr))), (4, .int (iZ (n9)))] := hl
  have hB5 := hB
  have loop : ∀ (n : Nat) (muA : Mu) (enA : en_T) (H : Heap) (locs : List Loc) (ls : Array Slot) (i : Int), EM dA b muA enA → Wd D (z 0) enA H → va_S (fun q => z 0 ≤ q) s.heap H locs → lv_has ls 6 [(5, .int (iZ (i))), (0, .ref (b 0)), (1, .int (iZ (f9))), (2, .int (iZ (mm))), (3, .int (iZ (fr))), (4, .int (iZ (n9)))] → FM en enA → 0 ≤ i → i + n = n9 → muA = mFl mu f9 mm fr i → W p l e ({ frames := 0, cells := 0, slots := 0, locals := 0 }) s m (([.ref (b 0), .int (iZ (f9)), .int (iZ (mm)), .int (iZ (fr)), .int (iZ (n9))] : List Value).toArray) below meth c H locs 0 0 (MQ below (va_Qv (fun u : en_T × Mu => EM dA b u.2 u.1 ∧ FM en u.1 ∧ u.2 = mFl mu f9 mm fr n9) (fun u t9 => Wd D (z 0) u.1 t9.heap) (fun q => z 0 ≤ q)) ([.ref (b 0), .int (iZ (f9)), .int (iZ (mm)), .int (iZ (fr)), .int (iZ (n9))] : List Value).toArray s (0) (0) (fun q => z 0 ≤ q)) (F0 m 3 ls []) := by
    intro n
    induction n with
    | zero =>
      intro muA enA H locs ls i hEA hW hS hl hFA hi0 hin hgo
      have e4 : muA 4 mm = mu 4 mm := by rw [hgo]; exact mFl_n (by omega)
      have e5 : ∀ j : Int, muA 5 j = mu 5 j := fun j => by rw [hgo]; exact mFl_n (by omega)
      have hq5 := hB5 (muA 4 mm + fr + i)
      rw [← e5] at hq5
      have fM : enA 20 0 = some (b 0, .inr (6, [.int (iZ (muA 0 0)), .int (iZ (muA 1 0)), .long (lZ (muA 2 0)), .int (iZ (muA 3 0)), .ref (b 4), .ref (b 5), .ref (b 6), .ref (b 7), .ref (b 8), .ref (b 9), .ref (b 10), .ref (b 11), .ref (b 12), .ref (b 13), .ref (b 14), .ref (b 15), .ref (b 16), .ref (b 17), .ref (b 18), .ref (b 19), .ref (b 20), .ref (b 21), .ref (b 22), .ref (b 23), .ref (b 24), .ref (b 25), .int (iZ (muA 26 0)), .ref (b 27), .ref (b 28), .ref (b 29), .ref (b 30), .ref (b 31), .ref (b 32), .ref (b 33), .ref (b 34), .int (iZ (muA 35 0)), .int (iZ (muA 36 0)), .int (iZ (muA 37 0)), .int (iZ (muA 38 0)), .int (iZ (muA 39 0)), .int (iZ (muA 40 0)), .ref (b 41), .ref (b 42)])) := hEA.1
      have f4_ : enA 24 0 = some (b 4, aI dA (102) (muA 4)) := hEA.2 4 (by decide)
      have f5_ : enA 25 0 = some (b 5, aB dA (1000000) (muA 5)) := hEA.2 5 (by decide)
      have f34_ : enA 54 0 = some (b 34, aB dA (42007) (muA 34)) := hEA.2 34 (by decide)
      refine lv_iload hx hb dX4_fill_3 (lv_at hl 0 rfl) ?_
      refine lv_iload hx hb dX4_fill_5 (lv_at hl 5 rfl) ?_
      refine z_icmp_ge (tgt := 48) hx hb dX4_fill_7 (by decide) (by omega) (by omega) (fun c_7 => ?_) (fun c_7 => ?_)
      · have hpst : muA = mFl mu f9 mm fr n9 := by rw [hgo]; congr 1; omega
        exact W.vret hx hb hr (fun t ht hw => ⟨⟨(enA, muA), rfl, ⟨hEA, hFA, hpst⟩, by show Wd _ _ _ t.heap; rw [ht]; exact hW⟩, hS.F ht⟩) hS.2.2 dX4_fill_48
      · exact absurd c_7 (by omega)
    | succ n ih =>
      intro muA enA H locs ls i hEA hW hS hl hFA hi0 hin hgo
      have e4 : muA 4 mm = mu 4 mm := by rw [hgo]; exact mFl_n (by omega)
      have e5 : ∀ j : Int, muA 5 j = mu 5 j := fun j => by rw [hgo]; exact mFl_n (by omega)
      have hq5 := hB5 (muA 4 mm + fr + i)
      rw [← e5] at hq5
      have fM : enA 20 0 = some (b 0, .inr (6, [.int (iZ (muA 0 0)), .int (iZ (muA 1 0)), .long (lZ (muA 2 0)), .int (iZ (muA 3 0)), .ref (b 4), .ref (b 5), .ref (b 6), .ref (b 7), .ref (b 8), .ref (b 9), .ref (b 10), .ref (b 11), .ref (b 12), .ref (b 13), .ref (b 14), .ref (b 15), .ref (b 16), .ref (b 17), .ref (b 18), .ref (b 19), .ref (b 20), .ref (b 21), .ref (b 22), .ref (b 23), .ref (b 24), .ref (b 25), .int (iZ (muA 26 0)), .ref (b 27), .ref (b 28), .ref (b 29), .ref (b 30), .ref (b 31), .ref (b 32), .ref (b 33), .ref (b 34), .int (iZ (muA 35 0)), .int (iZ (muA 36 0)), .int (iZ (muA 37 0)), .int (iZ (muA 38 0)), .int (iZ (muA 39 0)), .int (iZ (muA 40 0)), .ref (b 41), .ref (b 42)])) := hEA.1
      have f4_ : enA 24 0 = some (b 4, aI dA (102) (muA 4)) := hEA.2 4 (by decide)
      have f5_ : enA 25 0 = some (b 5, aB dA (1000000) (muA 5)) := hEA.2 5 (by decide)
      have f34_ : enA 54 0 = some (b 34, aB dA (42007) (muA 34)) := hEA.2 34 (by decide)
      refine lv_iload hx hb dX4_fill_3 (lv_at hl 0 rfl) ?_
      refine lv_iload hx hb dX4_fill_5 (lv_at hl 5 rfl) ?_
      refine z_icmp_ge (tgt := 48) hx hb dX4_fill_7 (by decide) (by omega) (by omega) (fun c_7 => ?_) (fun c_7 => ?_)
      · exact absurd c_7 (by omega)
      · refine lv_iload_n hx hb dX4_fill_10 rfl (lv_at hl 2 rfl) ?_
        refine z_if_le (tgt := 48) hx hb dX4_fill_11 (by decide) (by omega) (fun c_11 => ?_) (fun c_11 => ?_)
        · exact absurd c_11 (by omega)
        · refine lv_aload_n hx hb dX4_fill_14 rfl (lv_at hl 1 rfl) ?_
          refine g_get (C := RX4) (T := TX4) (N := 43) (ci := 6) (v := .ref (b 34)) hx hb hts hi6 hown hK hW fM rfl 34 (by decide) (hts (.fieldLink RX4 103 "LongTransferModel" "octets" "[B") (by decide +kernel)) (fun _ h9 => h9) rfl dX4_fill_15 ?_
          refine z_bipush hx hb dX4_fill_18 (by decide) ?_
          refine lv_iload_n hx hb dX4_fill_20 rfl (lv_at hl 2 rfl) ?_
          refine z_imul hx hb dX4_fill_21 ?_
          refine lv_iload hx hb dX4_fill_22 (lv_at hl 0 rfl) ?_
          refine z_iadd hx hb dX4_fill_24 ?_
          refine lv_aload_n hx hb dX4_fill_25 rfl (lv_at hl 1 rfl) ?_
          refine g_get (C := RX4) (T := TX4) (N := 43) (ci := 6) (v := .ref (b 5)) hx hb hts hi6 hown hK hW fM rfl 5 (by decide) (hts (.fieldLink RX4 14 "LongTransferModel" "data" "[B") (by decide +kernel)) (fun _ h9 => h9) rfl dX4_fill_26 ?_
          refine lv_aload_n hx hb dX4_fill_29 rfl (lv_at hl 1 rfl) ?_
          refine g_get (C := RX4) (T := TX4) (N := 43) (ci := 6) (v := .ref (b 4)) hx hb hts hi6 hown hK hW fM rfl 4 (by decide) (hts (.fieldLink RX4 7 "LongTransferModel" "begin" "[I") (by decide +kernel)) (fun _ h9 => h9) rfl dX4_fill_30 ?_
          refine lv_iload_n hx hb dX4_fill_33 rfl (lv_at hl 3 rfl) ?_
          refine g_iald hx hb hK hW f4_ (by omega) (by omega) (by omega) dX4_fill_34 ?_
          refine lv_iload_n hx hb dX4_fill_35 rfl (lv_at hl 4 rfl) ?_
          refine z_iadd hx hb dX4_fill_36 ?_
          refine lv_iload hx hb dX4_fill_37 (lv_at hl 0 rfl) ?_
          refine z_iadd hx hb dX4_fill_39 ?_
          refine g_bald hx hb hK hW f5_ (by omega) (by omega) (by omega) dX4_fill_40 ?_
          refine g_bast (x := (muA 5) ((((muA 4) (mm)) + fr) + i)) hx hb hK hW hS f34_ (by omega) (by omega) (by omega) (by omega) dX4_fill_41 (fun H locs hW hS => ?_)
          obtain ⟨en1w, hen1w⟩ : ∃ x : en_T, x = e2 enA 54 0 (some (b 34, aB dA (42007) (uF (muA 34) ((7 * f9) + i) ((muA 5) ((((muA 4) (mm)) + fr) + i))))) := ⟨_, rfl⟩
          rw [← hen1w] at hW
          obtain ⟨mu1w, hmu1w⟩ : ∃ x : Mu, x = u2 muA 34 ((7 * f9) + i) ((muA 5) ((((muA 4) (mm)) + fr) + i)) := ⟨_, rfl⟩
          have hE1w : EM dA b mu1w en1w := by rw [hen1w, hmu1w]; exact em_w hEA (k0 := 34) (j := (7 * f9) + i) (v := (muA 5) ((((muA 4) (mm)) + fr) + i)) (by decide)
          have hF1w : FM enA en1w := fun k i q => by rw [hen1w]; exact e2_k (fun w => q (by rw [w]; decide))
          have hF1w := FM.tr hFA hF1w
          have fM : en1w 20 0 = some (b 0, .inr (6, [.int (iZ (mu1w 0 0)), .int (iZ (mu1w 1 0)), .long (lZ (mu1w 2 0)), .int (iZ (mu1w 3 0)), .ref (b 4), .ref (b 5), .ref (b 6), .ref (b 7), .ref (b 8), .ref (b 9), .ref (b 10), .ref (b 11), .ref (b 12), .ref (b 13), .ref (b 14), .ref (b 15), .ref (b 16), .ref (b 17), .ref (b 18), .ref (b 19), .ref (b 20), .ref (b 21), .ref (b 22), .ref (b 23), .ref (b 24), .ref (b 25), .int (iZ (mu1w 26 0)), .ref (b 27), .ref (b 28), .ref (b 29), .ref (b 30), .ref (b 31), .ref (b 32), .ref (b 33), .ref (b 34), .int (iZ (mu1w 35 0)), .int (iZ (mu1w 36 0)), .int (iZ (mu1w 37 0)), .int (iZ (mu1w 38 0)), .int (iZ (mu1w 39 0)), .int (iZ (mu1w 40 0)), .ref (b 41), .ref (b 42)])) := hE1w.1
          have f4_ : en1w 24 0 = some (b 4, aI dA (102) (mu1w 4)) := hE1w.2 4 (by decide)
          have f5_ : en1w 25 0 = some (b 5, aB dA (1000000) (mu1w 5)) := hE1w.2 5 (by decide)
          have f34_ : en1w 54 0 = some (b 34, aB dA (42007) (mu1w 34)) := hE1w.2 34 (by decide)
          refine lv_iinc (v := iZ (i + 1)) (lv' := [(5, .int (iZ (i + 1))), (0, .ref (b 0)), (1, .int (iZ (f9))), (2, .int (iZ (mm))), (3, .int (iZ (fr))), (4, .int (iZ (n9)))]) hx hb dX4_fill_42 hl (k := 0) rfl (iZ_add _ _) (by decide) rfl (fun ls hl => ?_)
          refine lv_goto (tgt := 3) hx hb dX4_fill_45 (by decide) ?_
          have hgo9 : mu1w = mFl mu f9 mm fr (i + 1) := by rw [hmu1w, hgo]; exact mFl_s (by omega)
          refine W.widen (k := 0) (n := 0) (by omega) (by omega) ?_
          exact ih  mu1w en1w _ _ _ (i + 1) hE1w hW hS (lv_sub hl [0, 1, 2, 3, 4, 5] rfl) hF1w (by omega) (by omega) hgo9
  refine z_iconst hx hb dX4_fill_0 ?_
  refine lv_istore (lv' := [(5, .int (iZ (0))), (0, .ref (b 0)), (1, .int (iZ (f9))), (2, .int (iZ (mm))), (3, .int (iZ (fr))), (4, .int (iZ (n9)))]) hx hb dX4_fill_1 hl (by decide) rfl (fun ls hl => ?_)
  refine W.widen (k := 0) (n := 0) (by omega) (by omega) ?_
  exact loop n9.toNat mu en _ _ _ 0 hE hW hS (lv_sub hl [0, 1, 2, 3, 4, 5] rfl) (FM.rf _) (by omega) (by omega) (mFl_0 _ _ _ _).symm
set_option maxHeartbeats 4000000 in
set_option maxRecDepth 100000 in
theorem c_X4_fill0 (l : Launch) (D : va_G) (dA : Nat → ClassId) (z : Nat → Nat) (en : en_T) (b : Nat → Nat) (mu : Mu) (mm fr n9 : Int) (hn0 : 0 ≤ n9) (hn1 : n9 ≤ 7) (hE : EM dA b mu en) : Met l yX4_fill wsX4_fill ({ frames := 0, cells := 0, slots := 0, locals := 0 }) (gP D dA z en [.ref (b 0), .int (iZ (0)), .int (iZ (mm)), .int (iZ (fr)), .int (iZ (n9))]) (va_Qv (fun u : en_T × Mu => EM dA b u.2 u.1 ∧ FM en u.1 ∧ u.2 = mu) (fun u t9 => Wd D (z 0) u.1 t9.heap) (fun q => z 0 ≤ q)) (0) (0) (fun q => z 0 ≤ q) := by
  refine gMet (own := RX4) (cc := cX4_fill) (maxL := 6) (ret := none) (by decide) rfl rfl (Nat.le_of_ble_eq_true rfl) ?_
  intro p e s m below meth c hx hb hml hown hts hr hlocks hnm hg hW ls hl
  have hK := hg.1
  have hS : va_S (fun q => z 0 ≤ q) s.heap s.heap [] := va_S.rf
  have hl : lv_has ls 6 [(0, .ref (b 0)), (1, .int (iZ (0))), (2, .int (iZ (mm))), (3, .int (iZ (fr))), (4, .int (iZ (n9)))] := hl
  have fM : en 20 0 = some (b 0, .inr (6, [.int (iZ (mu 0 0)), .int (iZ (mu 1 0)), .long (lZ (mu 2 0)), .int (iZ (mu 3 0)), .ref (b 4), .ref (b 5), .ref (b 6), .ref (b 7), .ref (b 8), .ref (b 9), .ref (b 10), .ref (b 11), .ref (b 12), .ref (b 13), .ref (b 14), .ref (b 15), .ref (b 16), .ref (b 17), .ref (b 18), .ref (b 19), .ref (b 20), .ref (b 21), .ref (b 22), .ref (b 23), .ref (b 24), .ref (b 25), .int (iZ (mu 26 0)), .ref (b 27), .ref (b 28), .ref (b 29), .ref (b 30), .ref (b 31), .ref (b 32), .ref (b 33), .ref (b 34), .int (iZ (mu 35 0)), .int (iZ (mu 36 0)), .int (iZ (mu 37 0)), .int (iZ (mu 38 0)), .int (iZ (mu 39 0)), .int (iZ (mu 40 0)), .ref (b 41), .ref (b 42)])) := hE.1
  have f4_ : en 24 0 = some (b 4, aI dA (102) (mu 4)) := hE.2 4 (by decide)
  have f5_ : en 25 0 = some (b 5, aB dA (1000000) (mu 5)) := hE.2 5 (by decide)
  have f34_ : en 54 0 = some (b 34, aB dA (42007) (mu 34)) := hE.2 34 (by decide)
  refine z_iconst hx hb dX4_fill_0 ?_
  refine lv_istore (lv' := [(5, .int (iZ (0))), (0, .ref (b 0)), (1, .int (iZ (0))), (2, .int (iZ (mm))), (3, .int (iZ (fr))), (4, .int (iZ (n9)))]) hx hb dX4_fill_1 hl (by decide) rfl (fun ls hl => ?_)
  refine lv_iload hx hb dX4_fill_3 (lv_at hl 0 rfl) ?_
  refine lv_iload hx hb dX4_fill_5 (lv_at hl 5 rfl) ?_
  refine z_icmp_ge (tgt := 48) hx hb dX4_fill_7 (by decide) (by omega) (by omega) (fun c_7 => ?_) (fun c_7 => ?_)
  · have hpst : mu = mu := rfl
    exact W.vret hx hb hr (fun t ht hw => ⟨⟨(en, mu), rfl, ⟨hE, (FM.rf _), hpst⟩, by show Wd _ _ _ t.heap; rw [ht]; exact hW⟩, hS.F ht⟩) hS.2.2 dX4_fill_48
  · refine lv_iload_n hx hb dX4_fill_10 rfl (lv_at hl 2 rfl) ?_
    refine z_if_le (tgt := 48) hx hb dX4_fill_11 (by decide) (by omega) (fun c_11 => ?_) (fun c_11 => ?_)
    · have hpst : mu = mu := rfl
      exact W.vret hx hb hr (fun t ht hw => ⟨⟨(en, mu), rfl, ⟨hE, (FM.rf _), hpst⟩, by show Wd _ _ _ t.heap; rw [ht]; exact hW⟩, hS.F ht⟩) hS.2.2 dX4_fill_48
    · exact absurd c_11 (by omega)
def mPut (mu : Mu) (r f k : Int) : Mu := fun t j => if t = 25 ∧ 10000 * r + mu 19 r ≤ j ∧ j < 10000 * r + mu 19 r + k then mu 34 (7 * f + (j - (10000 * r + mu 19 r))) else if t = 19 ∧ j = r then mu 19 r + k else mu t j
theorem mPut_0 (mu : Mu) (r f : Int) : mPut mu r f 0 = mu := by
  funext t j
  unfold mPut
  rw [if_neg (by omega)]
  split
  · rename_i h
    obtain ⟨rfl, rfl⟩ := h
    omega
  · rfl
theorem mPut_n {mu : Mu} {r f k : Int} {t : Nat} {j : Int} (h : ¬ (t = 25 ∧ 10000 * r + mu 19 r ≤ j ∧ j < 10000 * r + mu 19 r + k)) (h2 : ¬ (t = 19 ∧ j = r)) : mPut mu r f k t j = mu t j := by
  unfold mPut
  rw [if_neg h, if_neg h2]
theorem mPut_c (mu : Mu) (r f k : Int) : mPut mu r f k 19 r = mu 19 r + k := by
  unfold mPut
  rw [if_neg (by omega), if_pos ⟨rfl, rfl⟩]
theorem mPut_s {mu : Mu} {r f k v c : Int} (hk : 0 ≤ k) (hv : v = mu 34 (7 * f + k)) (hc : c = mu 19 r + k + 1) : u2 (u2 (mPut mu r f k) 25 (10000 * r + (mu 19 r + k)) v) 19 r c = mPut mu r f (k + 1) := by
  funext t j
  unfold u2 mPut
  by_cases q : t = 19 ∧ j = r
  · rw [if_pos q, if_neg (by omega), if_pos q, hc]
    omega
  · rw [if_neg q, if_neg q, if_neg q]
    by_cases q1 : t = 25 ∧ j = 10000 * r + (mu 19 r + k)
    · rw [if_pos q1, if_pos (by omega), hv]
      congr 1
      omega
    · rw [if_neg q1]
      by_cases q2 : t = 25 ∧ 10000 * r + mu 19 r ≤ j ∧ j < 10000 * r + mu 19 r + k
      · rw [if_pos q2, if_pos (by omega)]
      · rw [if_neg q2, if_neg (by omega)]
set_option maxHeartbeats 4000000 in
set_option maxRecDepth 100000 in
theorem c_X4_put (l : Launch) (D : va_G) (dA : Nat → ClassId) (z : Nat → Nat) (en : en_T) (b : Nat → Nat) (mu : Mu) (r f9 : Int) (h0 : 0 ≤ r) (h1 : r < 4) (hf0 : 1 ≤ f9) (hf1 : f9 ≤ 6000) (hn0 : 0 ≤ mu 30 f9) (hn1 : mu 30 f9 ≤ 7) (hc0 : 0 ≤ mu 19 r) (hc1 : mu 19 r + mu 30 f9 ≤ 10000) (hB : ∀ j : Int, -128 ≤ mu 34 j ∧ mu 34 j ≤ 127) (hE : EM dA b mu en) : Met l yX4_put wsX4_put ({ frames := 0, cells := 0, slots := 0, locals := 0 }) (gP D dA z en [.ref (b 0), .int (iZ (r)), .int (iZ (f9))]) (va_Qv (fun u : en_T × Mu => EM dA b u.2 u.1 ∧ FM en u.1 ∧ u.2 = mPut mu r f9 (mu 30 f9)) (fun u t9 => Wd D (z 0) u.1 t9.heap) (fun q => z 0 ≤ q)) (0) (0) (fun q => z 0 ≤ q) := by
  refine gMet (own := RX4) (cc := cX4_put) (maxL := 4) (ret := none) (by decide) rfl rfl (Nat.le_of_ble_eq_true rfl) ?_
  intro p e s m below meth c hx hb hml hown hts hr hlocks hnm hg hW ls hl
  have hK := hg.1
  have hS : va_S (fun q => z 0 ≤ q) s.heap s.heap [] := va_S.rf
  have hi6 : ∀ w ∈ u_ws RX4 TX4 43, w ∈ wsX4_put := by decide +kernel
  have hl : lv_has ls 4 [(0, .ref (b 0)), (1, .int (iZ (r))), (2, .int (iZ (f9)))] := hl
  have loop : ∀ (n : Nat) (muA : Mu) (enA : en_T) (H : Heap) (locs : List Loc) (ls : Array Slot) (i : Int), EM dA b muA enA → Wd D (z 0) enA H → va_S (fun q => z 0 ≤ q) s.heap H locs → lv_has ls 4 [(3, .int (iZ (i))), (0, .ref (b 0)), (1, .int (iZ (r))), (2, .int (iZ (f9)))] → FM en enA → 0 ≤ i → i + n = mu 30 f9 → muA = mPut mu r f9 i → W p l e ({ frames := 0, cells := 0, slots := 0, locals := 0 }) s m (([.ref (b 0), .int (iZ (r)), .int (iZ (f9))] : List Value).toArray) below meth c H locs 0 0 (MQ below (va_Qv (fun u : en_T × Mu => EM dA b u.2 u.1 ∧ FM en u.1 ∧ u.2 = mPut mu r f9 (mu 30 f9)) (fun u t9 => Wd D (z 0) u.1 t9.heap) (fun q => z 0 ≤ q)) ([.ref (b 0), .int (iZ (r)), .int (iZ (f9))] : List Value).toArray s (0) (0) (fun q => z 0 ≤ q)) (F0 m 2 ls []) := by
    intro n
    induction n with
    | zero =>
      intro muA enA H locs ls i hEA hW hS hl hFA hi0 hin hgo
      have e30 : muA 30 f9 = mu 30 f9 := by rw [hgo]; exact mPut_n (by omega) (by omega)
      have e34 : ∀ j : Int, muA 34 j = mu 34 j := fun j => by rw [hgo]; exact mPut_n (by omega) (by omega)
      have e19 : muA 19 r = mu 19 r + i := by rw [hgo]; exact mPut_c _ _ _ _
      have hq5 := hB (7 * f9 + i)
      rw [← e34] at hq5
      have fM : enA 20 0 = some (b 0, .inr (6, [.int (iZ (muA 0 0)), .int (iZ (muA 1 0)), .long (lZ (muA 2 0)), .int (iZ (muA 3 0)), .ref (b 4), .ref (b 5), .ref (b 6), .ref (b 7), .ref (b 8), .ref (b 9), .ref (b 10), .ref (b 11), .ref (b 12), .ref (b 13), .ref (b 14), .ref (b 15), .ref (b 16), .ref (b 17), .ref (b 18), .ref (b 19), .ref (b 20), .ref (b 21), .ref (b 22), .ref (b 23), .ref (b 24), .ref (b 25), .int (iZ (muA 26 0)), .ref (b 27), .ref (b 28), .ref (b 29), .ref (b 30), .ref (b 31), .ref (b 32), .ref (b 33), .ref (b 34), .int (iZ (muA 35 0)), .int (iZ (muA 36 0)), .int (iZ (muA 37 0)), .int (iZ (muA 38 0)), .int (iZ (muA 39 0)), .int (iZ (muA 40 0)), .ref (b 41), .ref (b 42)])) := hEA.1
      have f19_ : enA 39 0 = some (b 19, aI dA (4) (muA 19)) := hEA.2 19 (by decide)
      have f25_ : enA 45 0 = some (b 25, aB dA (40000) (muA 25)) := hEA.2 25 (by decide)
      have f30_ : enA 50 0 = some (b 30, aI dA (6001) (muA 30)) := hEA.2 30 (by decide)
      have f34_ : enA 54 0 = some (b 34, aB dA (42007) (muA 34)) := hEA.2 34 (by decide)
      have t19_r : muA 19 (r) = muA 19 (r) := rfl
      refine lv_iload_n hx hb dX4_put_2 rfl (lv_at hl 0 rfl) ?_
      refine lv_aload_n hx hb dX4_put_3 rfl (lv_at hl 1 rfl) ?_
      refine g_get (C := RX4) (T := TX4) (N := 43) (ci := 6) (v := .ref (b 30)) hx hb hts hi6 hown hK hW fM rfl 30 (by decide) (hts (.fieldLink RX4 90 "LongTransferModel" "count" "[I") (by decide +kernel)) (fun _ h9 => h9) rfl dX4_put_4 ?_
      refine lv_iload_n hx hb dX4_put_7 rfl (lv_at hl 3 rfl) ?_
      refine g_iald hx hb hK hW f30_ (by omega) (by omega) (by omega) dX4_put_8 ?_
      refine z_icmp_ge (tgt := 56) hx hb dX4_put_9 (by decide) (by omega) (by omega) (fun c_9 => ?_) (fun c_9 => ?_)
      · have hpst : muA = mPut mu r f9 (mu 30 f9) := by rw [hgo]; congr 1; omega
        exact W.vret hx hb hr (fun t ht hw => ⟨⟨(enA, muA), rfl, ⟨hEA, hFA, hpst⟩, by show Wd _ _ _ t.heap; rw [ht]; exact hW⟩, hS.F ht⟩) hS.2.2 dX4_put_56
      · exact absurd c_9 (by omega)
    | succ n ih =>
      intro muA enA H locs ls i hEA hW hS hl hFA hi0 hin hgo
      have e30 : muA 30 f9 = mu 30 f9 := by rw [hgo]; exact mPut_n (by omega) (by omega)
      have e34 : ∀ j : Int, muA 34 j = mu 34 j := fun j => by rw [hgo]; exact mPut_n (by omega) (by omega)
      have e19 : muA 19 r = mu 19 r + i := by rw [hgo]; exact mPut_c _ _ _ _
      have hq5 := hB (7 * f9 + i)
      rw [← e34] at hq5
      have fM : enA 20 0 = some (b 0, .inr (6, [.int (iZ (muA 0 0)), .int (iZ (muA 1 0)), .long (lZ (muA 2 0)), .int (iZ (muA 3 0)), .ref (b 4), .ref (b 5), .ref (b 6), .ref (b 7), .ref (b 8), .ref (b 9), .ref (b 10), .ref (b 11), .ref (b 12), .ref (b 13), .ref (b 14), .ref (b 15), .ref (b 16), .ref (b 17), .ref (b 18), .ref (b 19), .ref (b 20), .ref (b 21), .ref (b 22), .ref (b 23), .ref (b 24), .ref (b 25), .int (iZ (muA 26 0)), .ref (b 27), .ref (b 28), .ref (b 29), .ref (b 30), .ref (b 31), .ref (b 32), .ref (b 33), .ref (b 34), .int (iZ (muA 35 0)), .int (iZ (muA 36 0)), .int (iZ (muA 37 0)), .int (iZ (muA 38 0)), .int (iZ (muA 39 0)), .int (iZ (muA 40 0)), .ref (b 41), .ref (b 42)])) := hEA.1
      have f19_ : enA 39 0 = some (b 19, aI dA (4) (muA 19)) := hEA.2 19 (by decide)
      have f25_ : enA 45 0 = some (b 25, aB dA (40000) (muA 25)) := hEA.2 25 (by decide)
      have f30_ : enA 50 0 = some (b 30, aI dA (6001) (muA 30)) := hEA.2 30 (by decide)
      have f34_ : enA 54 0 = some (b 34, aB dA (42007) (muA 34)) := hEA.2 34 (by decide)
      have t19_r : muA 19 (r) = muA 19 (r) := rfl
      refine lv_iload_n hx hb dX4_put_2 rfl (lv_at hl 0 rfl) ?_
      refine lv_aload_n hx hb dX4_put_3 rfl (lv_at hl 1 rfl) ?_
      refine g_get (C := RX4) (T := TX4) (N := 43) (ci := 6) (v := .ref (b 30)) hx hb hts hi6 hown hK hW fM rfl 30 (by decide) (hts (.fieldLink RX4 90 "LongTransferModel" "count" "[I") (by decide +kernel)) (fun _ h9 => h9) rfl dX4_put_4 ?_
      refine lv_iload_n hx hb dX4_put_7 rfl (lv_at hl 3 rfl) ?_
      refine g_iald hx hb hK hW f30_ (by omega) (by omega) (by omega) dX4_put_8 ?_
      refine z_icmp_ge (tgt := 56) hx hb dX4_put_9 (by decide) (by omega) (by omega) (fun c_9 => ?_) (fun c_9 => ?_)
      · exact absurd c_9 (by omega)
      · refine lv_aload_n hx hb dX4_put_12 rfl (lv_at hl 1 rfl) ?_
        refine g_get (C := RX4) (T := TX4) (N := 43) (ci := 6) (v := .ref (b 25)) hx hb hts hi6 hown hK hW fM rfl 25 (by decide) (hts (.fieldLink RX4 78 "LongTransferModel" "buffer" "[B") (by decide +kernel)) (fun _ h9 => h9) rfl dX4_put_13 ?_
        refine z_sipush hx hb dX4_put_16 (by decide) ?_
        refine lv_iload_n hx hb dX4_put_19 rfl (lv_at hl 2 rfl) ?_
        refine z_imul hx hb dX4_put_20 ?_
        refine lv_aload_n hx hb dX4_put_21 rfl (lv_at hl 1 rfl) ?_
        refine g_get (C := RX4) (T := TX4) (N := 43) (ci := 6) (v := .ref (b 19)) hx hb hts hi6 hown hK hW fM rfl 19 (by decide) (hts (.fieldLink RX4 59 "LongTransferModel" "come" "[I") (by decide +kernel)) (fun _ h9 => h9) rfl dX4_put_22 ?_
        refine lv_iload_n hx hb dX4_put_25 rfl (lv_at hl 2 rfl) ?_
        refine g_iald hx hb hK hW f19_ (by omega) (by omega) (by omega) dX4_put_26 ?_
        refine z_iadd hx hb dX4_put_27 ?_
        refine lv_aload_n hx hb dX4_put_28 rfl (lv_at hl 1 rfl) ?_
        refine g_get (C := RX4) (T := TX4) (N := 43) (ci := 6) (v := .ref (b 34)) hx hb hts hi6 hown hK hW fM rfl 34 (by decide) (hts (.fieldLink RX4 103 "LongTransferModel" "octets" "[B") (by decide +kernel)) (fun _ h9 => h9) rfl dX4_put_29 ?_
        refine z_bipush hx hb dX4_put_32 (by decide) ?_
        refine lv_iload_n hx hb dX4_put_34 rfl (lv_at hl 3 rfl) ?_
        refine z_imul hx hb dX4_put_35 ?_
        refine lv_iload_n hx hb dX4_put_36 rfl (lv_at hl 0 rfl) ?_
        refine z_iadd hx hb dX4_put_37 ?_
        refine g_bald hx hb hK hW f34_ (by omega) (by omega) (by omega) dX4_put_38 ?_
        refine g_bast (x := (muA 34) ((7 * f9) + i)) hx hb hK hW hS f25_ (by omega) (by omega) (by omega) (by omega) dX4_put_39 (fun H locs hW hS => ?_)
        obtain ⟨en1w, hen1w⟩ : ∃ x : en_T, x = e2 enA 45 0 (some (b 25, aB dA (40000) (uF (muA 25) ((10000 * r) + (muA 19 (r))) ((muA 34) ((7 * f9) + i))))) := ⟨_, rfl⟩
        rw [← hen1w] at hW
        obtain ⟨mu1w, hmu1w⟩ : ∃ x : Mu, x = u2 muA 25 ((10000 * r) + (muA 19 (r))) ((muA 34) ((7 * f9) + i)) := ⟨_, rfl⟩
        have hE1w : EM dA b mu1w en1w := by rw [hen1w, hmu1w]; exact em_w hEA (k0 := 25) (j := (10000 * r) + (muA 19 (r))) (v := (muA 34) ((7 * f9) + i)) (by decide)
        have hF1w : FM enA en1w := fun k i q => by rw [hen1w]; exact e2_k (fun w => q (by rw [w]; decide))
        have hF1w := FM.tr hFA hF1w
        replace t19_r : mu1w 19 (r) = muA 19 (r) := by rw [hmu1w]; exact (u2_n (fun q => absurd q.1 (by decide))).trans t19_r
        have fM : en1w 20 0 = some (b 0, .inr (6, [.int (iZ (mu1w 0 0)), .int (iZ (mu1w 1 0)), .long (lZ (mu1w 2 0)), .int (iZ (mu1w 3 0)), .ref (b 4), .ref (b 5), .ref (b 6), .ref (b 7), .ref (b 8), .ref (b 9), .ref (b 10), .ref (b 11), .ref (b 12), .ref (b 13), .ref (b 14), .ref (b 15), .ref (b 16), .ref (b 17), .ref (b 18), .ref (b 19), .ref (b 20), .ref (b 21), .ref (b 22), .ref (b 23), .ref (b 24), .ref (b 25), .int (iZ (mu1w 26 0)), .ref (b 27), .ref (b 28), .ref (b 29), .ref (b 30), .ref (b 31), .ref (b 32), .ref (b 33), .ref (b 34), .int (iZ (mu1w 35 0)), .int (iZ (mu1w 36 0)), .int (iZ (mu1w 37 0)), .int (iZ (mu1w 38 0)), .int (iZ (mu1w 39 0)), .int (iZ (mu1w 40 0)), .ref (b 41), .ref (b 42)])) := hE1w.1
        have f19_ : en1w 39 0 = some (b 19, aI dA (4) (mu1w 19)) := hE1w.2 19 (by decide)
        have f25_ : en1w 45 0 = some (b 25, aB dA (40000) (mu1w 25)) := hE1w.2 25 (by decide)
        have f30_ : en1w 50 0 = some (b 30, aI dA (6001) (mu1w 30)) := hE1w.2 30 (by decide)
        have f34_ : en1w 54 0 = some (b 34, aB dA (42007) (mu1w 34)) := hE1w.2 34 (by decide)
        refine lv_aload_n hx hb dX4_put_40 rfl (lv_at hl 1 rfl) ?_
        refine g_get (C := RX4) (T := TX4) (N := 43) (ci := 6) (v := .ref (b 19)) hx hb hts hi6 hown hK hW fM rfl 19 (by decide) (hts (.fieldLink RX4 59 "LongTransferModel" "come" "[I") (by decide +kernel)) (fun _ h9 => h9) rfl dX4_put_41 ?_
        refine lv_iload_n hx hb dX4_put_44 rfl (lv_at hl 2 rfl) ?_
        refine lv_dup2_11 hx hb dX4_put_45 rfl rfl ?_
        refine g_iald hx hb hK hW f19_ (by omega) (by omega) (by omega) dX4_put_46 ?_
        rw [t19_r]
        refine z_iconst hx hb dX4_put_47 ?_
        refine z_iadd hx hb dX4_put_48 ?_
        refine g_iast (x := (muA 19 (r)) + 1) hx hb hK hW hS f19_ (by omega) (by omega) (by omega) dX4_put_49 (fun H locs hW hS => ?_)
        obtain ⟨en2w, hen2w⟩ : ∃ x : en_T, x = e2 en1w 39 0 (some (b 19, aI dA (4) (uF (mu1w 19) (r) ((muA 19 (r)) + 1)))) := ⟨_, rfl⟩
        rw [← hen2w] at hW
        obtain ⟨mu2w, hmu2w⟩ : ∃ x : Mu, x = u2 mu1w 19 (r) ((muA 19 (r)) + 1) := ⟨_, rfl⟩
        have hE2w : EM dA b mu2w en2w := by rw [hen2w, hmu2w]; exact em_w hE1w (k0 := 19) (j := r) (v := (muA 19 (r)) + 1) (by decide)
        have hF2w : FM en1w en2w := fun k i q => by rw [hen2w]; exact e2_k (fun w => q (by rw [w]; decide))
        have hF2w := FM.tr hF1w hF2w
        replace t19_r : mu2w 19 (r) = (muA 19 (r)) + 1 := by rw [hmu2w]; exact u2_s _ _ _ _
        have fM : en2w 20 0 = some (b 0, .inr (6, [.int (iZ (mu2w 0 0)), .int (iZ (mu2w 1 0)), .long (lZ (mu2w 2 0)), .int (iZ (mu2w 3 0)), .ref (b 4), .ref (b 5), .ref (b 6), .ref (b 7), .ref (b 8), .ref (b 9), .ref (b 10), .ref (b 11), .ref (b 12), .ref (b 13), .ref (b 14), .ref (b 15), .ref (b 16), .ref (b 17), .ref (b 18), .ref (b 19), .ref (b 20), .ref (b 21), .ref (b 22), .ref (b 23), .ref (b 24), .ref (b 25), .int (iZ (mu2w 26 0)), .ref (b 27), .ref (b 28), .ref (b 29), .ref (b 30), .ref (b 31), .ref (b 32), .ref (b 33), .ref (b 34), .int (iZ (mu2w 35 0)), .int (iZ (mu2w 36 0)), .int (iZ (mu2w 37 0)), .int (iZ (mu2w 38 0)), .int (iZ (mu2w 39 0)), .int (iZ (mu2w 40 0)), .ref (b 41), .ref (b 42)])) := hE2w.1
        have f19_ : en2w 39 0 = some (b 19, aI dA (4) (mu2w 19)) := hE2w.2 19 (by decide)
        have f25_ : en2w 45 0 = some (b 25, aB dA (40000) (mu2w 25)) := hE2w.2 25 (by decide)
        have f30_ : en2w 50 0 = some (b 30, aI dA (6001) (mu2w 30)) := hE2w.2 30 (by decide)
        have f34_ : en2w 54 0 = some (b 34, aB dA (42007) (mu2w 34)) := hE2w.2 34 (by decide)
        refine lv_iinc (v := iZ (i + 1)) (lv' := [(3, .int (iZ (i + 1))), (0, .ref (b 0)), (1, .int (iZ (r))), (2, .int (iZ (f9)))]) hx hb dX4_put_50 hl (k := 0) rfl (iZ_add _ _) (by decide) rfl (fun ls hl => ?_)
        refine lv_goto (tgt := 2) hx hb dX4_put_53 (by decide) ?_
        have hgo9 : mu2w = mPut mu r f9 (i + 1) := by rw [← mPut_s (mu := mu) (r := r) (f := f9) (k := i) (v := muA 34 (7 * f9 + i)) (c := (muA 19 (r)) + 1) (by omega) (e34 _) (by omega), ← hgo, ← e19, ← hmu1w, ← hmu2w]
        refine W.widen (k := 0) (n := 0) (by omega) (by omega) ?_
        exact ih  mu2w en2w _ _ _ (i + 1) hE2w hW hS (lv_sub hl [0, 1, 2, 3] rfl) hF2w (by omega) (by omega) hgo9
  refine z_iconst hx hb dX4_put_0 ?_
  refine lv_istore_n (lv' := [(3, .int (iZ (0))), (0, .ref (b 0)), (1, .int (iZ (r))), (2, .int (iZ (f9)))]) hx hb dX4_put_1 rfl hl (by decide) rfl (fun ls hl => ?_)
  refine W.widen (k := 0) (n := 0) (by omega) (by omega) ?_
  exact loop (mu 30 f9).toNat mu en _ _ _ 0 hE hW hS (lv_sub hl [0, 1, 2, 3] rfl) (FM.rf _) (by omega) (by omega) (mPut_0 _ _ _).symm
def mW0 (mu : Mu) (r : Int) : Mu := u2 (u2 (u2 mu 16 r 2) 42 0 (mu 42 0 + 1)) 40 0 (mu 18 r)
def mWk (mu : Mu) (r k : Int) : Mu := fun t j => if t = 41 ∧ 0 ≤ j ∧ j < k then mu 25 (10000 * r + j) else mW0 mu r t j
theorem mWk_0 (mu : Mu) (r : Int) : mWk mu r 0 = mW0 mu r := by
  funext t j
  unfold mWk
  rw [if_neg (by omega)]
theorem mWk_n {mu : Mu} {r k : Int} {t : Nat} {j : Int} (h : ¬ (t = 41 ∧ 0 ≤ j ∧ j < k)) : mWk mu r k t j = mW0 mu r t j := if_neg h
theorem mW0_n {mu : Mu} {r : Int} {t : Nat} {j : Int} (h : ¬ ((t = 16 ∧ j = r) ∨ (t = 42 ∧ j = 0) ∨ (t = 40 ∧ j = 0))) : mW0 mu r t j = mu t j := by
  unfold mW0
  rw [u2_n (by omega), u2_n (by omega), u2_n (by omega)]
theorem mWk_s {mu : Mu} {r k v : Int} (hk : 0 ≤ k) (hv : v = mu 25 (10000 * r + k)) : u2 (mWk mu r k) 41 k v = mWk mu r (k + 1) := by
  funext t j
  unfold u2 mWk
  by_cases q : t = 41 ∧ j = k
  · rw [if_pos q, if_pos (by omega), hv, q.2]
  · rw [if_neg q]
    by_cases q2 : t = 41 ∧ 0 ≤ j ∧ j < k
    · rw [if_pos q2, if_pos (by omega)]
    · rw [if_neg q2, if_neg (by omega)]
set_option maxHeartbeats 4000000 in
set_option maxRecDepth 100000 in
theorem c_X4_whole (l : Launch) (D : va_G) (dA : Nat → ClassId) (z : Nat → Nat) (en : en_T) (b : Nat → Nat) (mu : Mu) (r : Int) (h0 : 0 ≤ r) (h1 : r < 4) (hc0 : 0 ≤ mu 18 r) (hc1 : mu 18 r ≤ 10000) (hB : ∀ j : Int, -128 ≤ mu 25 j ∧ mu 25 j ≤ 127) (hE : EM dA b mu en) : Met l yX4_whole wsX4_whole ({ frames := 0, cells := 0, slots := 0, locals := 0 }) (gP D dA z en [.ref (b 0), .int (iZ (r))]) (va_Qv (fun u : en_T × Mu => EM dA b u.2 u.1 ∧ FM en u.1 ∧ u.2 = mWk mu r (mu 18 r)) (fun u t9 => Wd D (z 0) u.1 t9.heap) (fun q => z 0 ≤ q)) (0) (0) (fun q => z 0 ≤ q) := by
  refine gMet (own := RX4) (cc := cX4_whole) (maxL := 3) (ret := none) (by decide) rfl rfl (Nat.le_of_ble_eq_true rfl) ?_
  intro p e s m below meth c hx hb hml hown hts hr hlocks hnm hg hW ls hl
  have hK := hg.1
  have hS : va_S (fun q => z 0 ≤ q) s.heap s.heap [] := va_S.rf
  have hi6 : ∀ w ∈ u_ws RX4 TX4 43, w ∈ wsX4_whole := by decide +kernel
  have hl : lv_has ls 3 [(0, .ref (b 0)), (1, .int (iZ (r)))] := hl
  have loop : ∀ (n : Nat) (muA : Mu) (enA : en_T) (H : Heap) (locs : List Loc) (ls : Array Slot) (i : Int), EM dA b muA enA → Wd D (z 0) enA H → va_S (fun q => z 0 ≤ q) s.heap H locs → lv_has ls 3 [(2, .int (iZ (i))), (0, .ref (b 0)), (1, .int (iZ (r)))] → FM en enA → 0 ≤ i → i + n = mu 18 r → muA = mWk mu r i → W p l e ({ frames := 0, cells := 0, slots := 0, locals := 0 }) s m (([.ref (b 0), .int (iZ (r))] : List Value).toArray) below meth c H locs 0 0 (MQ below (va_Qv (fun u : en_T × Mu => EM dA b u.2 u.1 ∧ FM en u.1 ∧ u.2 = mWk mu r (mu 18 r)) (fun u t9 => Wd D (z 0) u.1 t9.heap) (fun q => z 0 ≤ q)) ([.ref (b 0), .int (iZ (r))] : List Value).toArray s (0) (0) (fun q => z 0 ≤ q)) (F0 m 29 ls []) := by
    intro n
    induction n with
    | zero =>
      intro muA enA H locs ls i hEA hW hS hl hFA hi0 hin hgo
      have e40 : muA 40 0 = mu 18 r := by rw [hgo, mWk_n (by omega)]; exact u2_s _ _ _ _
      have e25 : ∀ j : Int, muA 25 j = mu 25 j := fun j => by rw [hgo, mWk_n (by omega)]; exact mW0_n (by omega)
      have hq5 := hB (10000 * r + i)
      rw [← e25] at hq5
      have fM : enA 20 0 = some (b 0, .inr (6, [.int (iZ (muA 0 0)), .int (iZ (muA 1 0)), .long (lZ (muA 2 0)), .int (iZ (muA 3 0)), .ref (b 4), .ref (b 5), .ref (b 6), .ref (b 7), .ref (b 8), .ref (b 9), .ref (b 10), .ref (b 11), .ref (b 12), .ref (b 13), .ref (b 14), .ref (b 15), .ref (b 16), .ref (b 17), .ref (b 18), .ref (b 19), .ref (b 20), .ref (b 21), .ref (b 22), .ref (b 23), .ref (b 24), .ref (b 25), .int (iZ (muA 26 0)), .ref (b 27), .ref (b 28), .ref (b 29), .ref (b 30), .ref (b 31), .ref (b 32), .ref (b 33), .ref (b 34), .int (iZ (muA 35 0)), .int (iZ (muA 36 0)), .int (iZ (muA 37 0)), .int (iZ (muA 38 0)), .int (iZ (muA 39 0)), .int (iZ (muA 40 0)), .ref (b 41), .ref (b 42)])) := hEA.1
      have f16_ : enA 36 0 = some (b 16, aI dA (4) (muA 16)) := hEA.2 16 (by decide)
      have f18_ : enA 38 0 = some (b 18, aI dA (4) (muA 18)) := hEA.2 18 (by decide)
      have f25_ : enA 45 0 = some (b 25, aB dA (40000) (muA 25)) := hEA.2 25 (by decide)
      have f41_ : enA 61 0 = some (b 41, aB dA (10000) (muA 41)) := hEA.2 41 (by decide)
      have f42_ : enA 62 0 = some (b 42, aI dA (8) (muA 42)) := hEA.2 42 (by decide)
      refine lv_iload_n hx hb dX4_whole_29 rfl (lv_at hl 0 rfl) ?_
      refine lv_aload_n hx hb dX4_whole_30 rfl (lv_at hl 1 rfl) ?_
      refine g_get (C := RX4) (T := TX4) (N := 43) (ci := 6) (v := .int (iZ (muA 40 0))) hx hb hts hi6 hown hK hW fM rfl 40 (by decide) (hts (.fieldLink RX4 165 "LongTransferModel" "gotten" "I") (by decide +kernel)) (fun _ h9 => h9) rfl dX4_whole_31 ?_
      refine z_icmp_ge (tgt := 61) hx hb dX4_whole_34 (by decide) (by omega) (by omega) (fun c_34 => ?_) (fun c_34 => ?_)
      · have hpst : muA = mWk mu r (mu 18 r) := by rw [hgo]; congr 1; omega
        exact W.vret hx hb hr (fun t ht hw => ⟨⟨(enA, muA), rfl, ⟨hEA, hFA, hpst⟩, by show Wd _ _ _ t.heap; rw [ht]; exact hW⟩, hS.F ht⟩) hS.2.2 dX4_whole_61
      · exact absurd c_34 (by omega)
    | succ n ih =>
      intro muA enA H locs ls i hEA hW hS hl hFA hi0 hin hgo
      have e40 : muA 40 0 = mu 18 r := by rw [hgo, mWk_n (by omega)]; exact u2_s _ _ _ _
      have e25 : ∀ j : Int, muA 25 j = mu 25 j := fun j => by rw [hgo, mWk_n (by omega)]; exact mW0_n (by omega)
      have hq5 := hB (10000 * r + i)
      rw [← e25] at hq5
      have fM : enA 20 0 = some (b 0, .inr (6, [.int (iZ (muA 0 0)), .int (iZ (muA 1 0)), .long (lZ (muA 2 0)), .int (iZ (muA 3 0)), .ref (b 4), .ref (b 5), .ref (b 6), .ref (b 7), .ref (b 8), .ref (b 9), .ref (b 10), .ref (b 11), .ref (b 12), .ref (b 13), .ref (b 14), .ref (b 15), .ref (b 16), .ref (b 17), .ref (b 18), .ref (b 19), .ref (b 20), .ref (b 21), .ref (b 22), .ref (b 23), .ref (b 24), .ref (b 25), .int (iZ (muA 26 0)), .ref (b 27), .ref (b 28), .ref (b 29), .ref (b 30), .ref (b 31), .ref (b 32), .ref (b 33), .ref (b 34), .int (iZ (muA 35 0)), .int (iZ (muA 36 0)), .int (iZ (muA 37 0)), .int (iZ (muA 38 0)), .int (iZ (muA 39 0)), .int (iZ (muA 40 0)), .ref (b 41), .ref (b 42)])) := hEA.1
      have f16_ : enA 36 0 = some (b 16, aI dA (4) (muA 16)) := hEA.2 16 (by decide)
      have f18_ : enA 38 0 = some (b 18, aI dA (4) (muA 18)) := hEA.2 18 (by decide)
      have f25_ : enA 45 0 = some (b 25, aB dA (40000) (muA 25)) := hEA.2 25 (by decide)
      have f41_ : enA 61 0 = some (b 41, aB dA (10000) (muA 41)) := hEA.2 41 (by decide)
      have f42_ : enA 62 0 = some (b 42, aI dA (8) (muA 42)) := hEA.2 42 (by decide)
      refine lv_iload_n hx hb dX4_whole_29 rfl (lv_at hl 0 rfl) ?_
      refine lv_aload_n hx hb dX4_whole_30 rfl (lv_at hl 1 rfl) ?_
      refine g_get (C := RX4) (T := TX4) (N := 43) (ci := 6) (v := .int (iZ (muA 40 0))) hx hb hts hi6 hown hK hW fM rfl 40 (by decide) (hts (.fieldLink RX4 165 "LongTransferModel" "gotten" "I") (by decide +kernel)) (fun _ h9 => h9) rfl dX4_whole_31 ?_
      refine z_icmp_ge (tgt := 61) hx hb dX4_whole_34 (by decide) (by omega) (by omega) (fun c_34 => ?_) (fun c_34 => ?_)
      · exact absurd c_34 (by omega)
      · refine lv_aload_n hx hb dX4_whole_37 rfl (lv_at hl 1 rfl) ?_
        refine g_get (C := RX4) (T := TX4) (N := 43) (ci := 6) (v := .ref (b 41)) hx hb hts hi6 hown hK hW fM rfl 41 (by decide) (hts (.fieldLink RX4 110 "LongTransferModel" "got" "[B") (by decide +kernel)) (fun _ h9 => h9) rfl dX4_whole_38 ?_
        refine lv_iload_n hx hb dX4_whole_41 rfl (lv_at hl 0 rfl) ?_
        refine lv_aload_n hx hb dX4_whole_42 rfl (lv_at hl 1 rfl) ?_
        refine g_get (C := RX4) (T := TX4) (N := 43) (ci := 6) (v := .ref (b 25)) hx hb hts hi6 hown hK hW fM rfl 25 (by decide) (hts (.fieldLink RX4 78 "LongTransferModel" "buffer" "[B") (by decide +kernel)) (fun _ h9 => h9) rfl dX4_whole_43 ?_
        refine z_sipush hx hb dX4_whole_46 (by decide) ?_
        refine lv_iload_n hx hb dX4_whole_49 rfl (lv_at hl 2 rfl) ?_
        refine z_imul hx hb dX4_whole_50 ?_
        refine lv_iload_n hx hb dX4_whole_51 rfl (lv_at hl 0 rfl) ?_
        refine z_iadd hx hb dX4_whole_52 ?_
        refine g_bald hx hb hK hW f25_ (by omega) (by omega) (by omega) dX4_whole_53 ?_
        refine g_bast (x := (muA 25) ((10000 * r) + i)) hx hb hK hW hS f41_ (by omega) (by omega) (by omega) (by omega) dX4_whole_54 (fun H locs hW hS => ?_)
        obtain ⟨en1w, hen1w⟩ : ∃ x : en_T, x = e2 enA 61 0 (some (b 41, aB dA (10000) (uF (muA 41) (i) ((muA 25) ((10000 * r) + i))))) := ⟨_, rfl⟩
        rw [← hen1w] at hW
        obtain ⟨mu1w, hmu1w⟩ : ∃ x : Mu, x = u2 muA 41 (i) ((muA 25) ((10000 * r) + i)) := ⟨_, rfl⟩
        have hE1w : EM dA b mu1w en1w := by rw [hen1w, hmu1w]; exact em_w hEA (k0 := 41) (j := i) (v := (muA 25) ((10000 * r) + i)) (by decide)
        have hF1w : FM enA en1w := fun k i q => by rw [hen1w]; exact e2_k (fun w => q (by rw [w]; decide))
        have hF1w := FM.tr hFA hF1w
        have fM : en1w 20 0 = some (b 0, .inr (6, [.int (iZ (mu1w 0 0)), .int (iZ (mu1w 1 0)), .long (lZ (mu1w 2 0)), .int (iZ (mu1w 3 0)), .ref (b 4), .ref (b 5), .ref (b 6), .ref (b 7), .ref (b 8), .ref (b 9), .ref (b 10), .ref (b 11), .ref (b 12), .ref (b 13), .ref (b 14), .ref (b 15), .ref (b 16), .ref (b 17), .ref (b 18), .ref (b 19), .ref (b 20), .ref (b 21), .ref (b 22), .ref (b 23), .ref (b 24), .ref (b 25), .int (iZ (mu1w 26 0)), .ref (b 27), .ref (b 28), .ref (b 29), .ref (b 30), .ref (b 31), .ref (b 32), .ref (b 33), .ref (b 34), .int (iZ (mu1w 35 0)), .int (iZ (mu1w 36 0)), .int (iZ (mu1w 37 0)), .int (iZ (mu1w 38 0)), .int (iZ (mu1w 39 0)), .int (iZ (mu1w 40 0)), .ref (b 41), .ref (b 42)])) := hE1w.1
        have f16_ : en1w 36 0 = some (b 16, aI dA (4) (mu1w 16)) := hE1w.2 16 (by decide)
        have f18_ : en1w 38 0 = some (b 18, aI dA (4) (mu1w 18)) := hE1w.2 18 (by decide)
        have f25_ : en1w 45 0 = some (b 25, aB dA (40000) (mu1w 25)) := hE1w.2 25 (by decide)
        have f41_ : en1w 61 0 = some (b 41, aB dA (10000) (mu1w 41)) := hE1w.2 41 (by decide)
        have f42_ : en1w 62 0 = some (b 42, aI dA (8) (mu1w 42)) := hE1w.2 42 (by decide)
        refine lv_iinc (v := iZ (i + 1)) (lv' := [(2, .int (iZ (i + 1))), (0, .ref (b 0)), (1, .int (iZ (r)))]) hx hb dX4_whole_55 hl (k := 0) rfl (iZ_add _ _) (by decide) rfl (fun ls hl => ?_)
        refine lv_goto (tgt := 29) hx hb dX4_whole_58 (by decide) ?_
        have hgo9 : mu1w = mWk mu r (i + 1) := by rw [← mWk_s (mu := mu) (r := r) (k := i) (v := muA 25 (10000 * r + i)) (by omega) (e25 _), ← hgo, ← hmu1w]
        refine W.widen (k := 0) (n := 0) (by omega) (by omega) ?_
        exact ih  mu1w en1w _ _ _ (i + 1) hE1w hW hS (lv_sub hl [0, 1, 2] rfl) hF1w (by omega) (by omega) hgo9
  have fM : en 20 0 = some (b 0, .inr (6, [.int (iZ (mu 0 0)), .int (iZ (mu 1 0)), .long (lZ (mu 2 0)), .int (iZ (mu 3 0)), .ref (b 4), .ref (b 5), .ref (b 6), .ref (b 7), .ref (b 8), .ref (b 9), .ref (b 10), .ref (b 11), .ref (b 12), .ref (b 13), .ref (b 14), .ref (b 15), .ref (b 16), .ref (b 17), .ref (b 18), .ref (b 19), .ref (b 20), .ref (b 21), .ref (b 22), .ref (b 23), .ref (b 24), .ref (b 25), .int (iZ (mu 26 0)), .ref (b 27), .ref (b 28), .ref (b 29), .ref (b 30), .ref (b 31), .ref (b 32), .ref (b 33), .ref (b 34), .int (iZ (mu 35 0)), .int (iZ (mu 36 0)), .int (iZ (mu 37 0)), .int (iZ (mu 38 0)), .int (iZ (mu 39 0)), .int (iZ (mu 40 0)), .ref (b 41), .ref (b 42)])) := hE.1
  have f16_ : en 36 0 = some (b 16, aI dA (4) (mu 16)) := hE.2 16 (by decide)
  have f18_ : en 38 0 = some (b 18, aI dA (4) (mu 18)) := hE.2 18 (by decide)
  have f25_ : en 45 0 = some (b 25, aB dA (40000) (mu 25)) := hE.2 25 (by decide)
  have f41_ : en 61 0 = some (b 41, aB dA (10000) (mu 41)) := hE.2 41 (by decide)
  have f42_ : en 62 0 = some (b 42, aI dA (8) (mu 42)) := hE.2 42 (by decide)
  have t42_0 : mu 42 (0) = mu 42 (0) := rfl
  have t18_r : mu 18 (r) = mu 18 (r) := rfl
  refine lv_aload_n hx hb dX4_whole_0 rfl (lv_at hl 0 rfl) ?_
  refine g_get (C := RX4) (T := TX4) (N := 43) (ci := 6) (v := .ref (b 16)) hx hb hts hi6 hown hK hW fM rfl 16 (by decide) (hts (.fieldLink RX4 50 "LongTransferModel" "place" "[I") (by decide +kernel)) (fun _ h9 => h9) rfl dX4_whole_1 ?_
  refine lv_iload_n hx hb dX4_whole_4 rfl (lv_at hl 1 rfl) ?_
  refine z_iconst hx hb dX4_whole_5 ?_
  refine g_iast (x := 2) hx hb hK hW hS f16_ (by omega) (by omega) (by omega) dX4_whole_6 (fun H locs hW hS => ?_)
  obtain ⟨en2w, hen2w⟩ : ∃ x : en_T, x = e2 en 36 0 (some (b 16, aI dA (4) (uF (mu 16) (r) (2)))) := ⟨_, rfl⟩
  rw [← hen2w] at hW
  obtain ⟨mu2w, hmu2w⟩ : ∃ x : Mu, x = u2 mu 16 (r) (2) := ⟨_, rfl⟩
  have hE2w : EM dA b mu2w en2w := by rw [hen2w, hmu2w]; exact em_w hE (k0 := 16) (j := r) (v := 2) (by decide)
  have hF2w : FM en en2w := fun k i q => by rw [hen2w]; exact e2_k (fun w => q (by rw [w]; decide))
  replace t42_0 : mu2w 42 (0) = mu 42 (0) := by rw [hmu2w]; exact (u2_n (fun q => absurd q.1 (by decide))).trans t42_0
  replace t18_r : mu2w 18 (r) = mu 18 (r) := by rw [hmu2w]; exact (u2_n (fun q => absurd q.1 (by decide))).trans t18_r
  have fM : en2w 20 0 = some (b 0, .inr (6, [.int (iZ (mu2w 0 0)), .int (iZ (mu2w 1 0)), .long (lZ (mu2w 2 0)), .int (iZ (mu2w 3 0)), .ref (b 4), .ref (b 5), .ref (b 6), .ref (b 7), .ref (b 8), .ref (b 9), .ref (b 10), .ref (b 11), .ref (b 12), .ref (b 13), .ref (b 14), .ref (b 15), .ref (b 16), .ref (b 17), .ref (b 18), .ref (b 19), .ref (b 20), .ref (b 21), .ref (b 22), .ref (b 23), .ref (b 24), .ref (b 25), .int (iZ (mu2w 26 0)), .ref (b 27), .ref (b 28), .ref (b 29), .ref (b 30), .ref (b 31), .ref (b 32), .ref (b 33), .ref (b 34), .int (iZ (mu2w 35 0)), .int (iZ (mu2w 36 0)), .int (iZ (mu2w 37 0)), .int (iZ (mu2w 38 0)), .int (iZ (mu2w 39 0)), .int (iZ (mu2w 40 0)), .ref (b 41), .ref (b 42)])) := hE2w.1
  have f16_ : en2w 36 0 = some (b 16, aI dA (4) (mu2w 16)) := hE2w.2 16 (by decide)
  have f18_ : en2w 38 0 = some (b 18, aI dA (4) (mu2w 18)) := hE2w.2 18 (by decide)
  have f25_ : en2w 45 0 = some (b 25, aB dA (40000) (mu2w 25)) := hE2w.2 25 (by decide)
  have f41_ : en2w 61 0 = some (b 41, aB dA (10000) (mu2w 41)) := hE2w.2 41 (by decide)
  have f42_ : en2w 62 0 = some (b 42, aI dA (8) (mu2w 42)) := hE2w.2 42 (by decide)
  refine lv_aload_n hx hb dX4_whole_7 rfl (lv_at hl 0 rfl) ?_
  refine g_get (C := RX4) (T := TX4) (N := 43) (ci := 6) (v := .ref (b 42)) hx hb hts hi6 hown hK hW fM rfl 42 (by decide) (hts (.fieldLink RX4 113 "LongTransferModel" "ended" "[I") (by decide +kernel)) (fun _ h9 => h9) rfl dX4_whole_8 ?_
  refine z_iconst hx hb dX4_whole_11 ?_
  refine lv_dup2_11 hx hb dX4_whole_12 rfl rfl ?_
  refine g_iald hx hb hK hW f42_ (by omega) (by omega) (by omega) dX4_whole_13 ?_
  rw [t42_0]
  refine z_iconst hx hb dX4_whole_14 ?_
  refine z_iadd hx hb dX4_whole_15 ?_
  refine g_iast (x := (mu 42 (0)) + 1) hx hb hK hW hS f42_ (by omega) (by omega) (by omega) dX4_whole_16 (fun H locs hW hS => ?_)
  obtain ⟨en3w, hen3w⟩ : ∃ x : en_T, x = e2 en2w 62 0 (some (b 42, aI dA (8) (uF (mu2w 42) (0) ((mu 42 (0)) + 1)))) := ⟨_, rfl⟩
  rw [← hen3w] at hW
  obtain ⟨mu3w, hmu3w⟩ : ∃ x : Mu, x = u2 mu2w 42 (0) ((mu 42 (0)) + 1) := ⟨_, rfl⟩
  have hE3w : EM dA b mu3w en3w := by rw [hen3w, hmu3w]; exact em_w hE2w (k0 := 42) (j := 0) (v := (mu 42 (0)) + 1) (by decide)
  have hF3w : FM en2w en3w := fun k i q => by rw [hen3w]; exact e2_k (fun w => q (by rw [w]; decide))
  have hF3w := FM.tr hF2w hF3w
  replace t42_0 : mu3w 42 (0) = (mu 42 (0)) + 1 := by rw [hmu3w]; exact u2_s _ _ _ _
  replace t18_r : mu3w 18 (r) = mu 18 (r) := by rw [hmu3w]; exact (u2_n (fun q => absurd q.1 (by decide))).trans t18_r
  have fM : en3w 20 0 = some (b 0, .inr (6, [.int (iZ (mu3w 0 0)), .int (iZ (mu3w 1 0)), .long (lZ (mu3w 2 0)), .int (iZ (mu3w 3 0)), .ref (b 4), .ref (b 5), .ref (b 6), .ref (b 7), .ref (b 8), .ref (b 9), .ref (b 10), .ref (b 11), .ref (b 12), .ref (b 13), .ref (b 14), .ref (b 15), .ref (b 16), .ref (b 17), .ref (b 18), .ref (b 19), .ref (b 20), .ref (b 21), .ref (b 22), .ref (b 23), .ref (b 24), .ref (b 25), .int (iZ (mu3w 26 0)), .ref (b 27), .ref (b 28), .ref (b 29), .ref (b 30), .ref (b 31), .ref (b 32), .ref (b 33), .ref (b 34), .int (iZ (mu3w 35 0)), .int (iZ (mu3w 36 0)), .int (iZ (mu3w 37 0)), .int (iZ (mu3w 38 0)), .int (iZ (mu3w 39 0)), .int (iZ (mu3w 40 0)), .ref (b 41), .ref (b 42)])) := hE3w.1
  have f16_ : en3w 36 0 = some (b 16, aI dA (4) (mu3w 16)) := hE3w.2 16 (by decide)
  have f18_ : en3w 38 0 = some (b 18, aI dA (4) (mu3w 18)) := hE3w.2 18 (by decide)
  have f25_ : en3w 45 0 = some (b 25, aB dA (40000) (mu3w 25)) := hE3w.2 25 (by decide)
  have f41_ : en3w 61 0 = some (b 41, aB dA (10000) (mu3w 41)) := hE3w.2 41 (by decide)
  have f42_ : en3w 62 0 = some (b 42, aI dA (8) (mu3w 42)) := hE3w.2 42 (by decide)
  refine lv_aload_n hx hb dX4_whole_17 rfl (lv_at hl 0 rfl) ?_
  refine lv_aload_n hx hb dX4_whole_18 rfl (lv_at hl 0 rfl) ?_
  refine g_get (C := RX4) (T := TX4) (N := 43) (ci := 6) (v := .ref (b 18)) hx hb hts hi6 hown hK hW fM rfl 18 (by decide) (hts (.fieldLink RX4 56 "LongTransferModel" "length" "[I") (by decide +kernel)) (fun _ h9 => h9) rfl dX4_whole_19 ?_
  refine lv_iload_n hx hb dX4_whole_22 rfl (lv_at hl 1 rfl) ?_
  refine g_iald hx hb hK hW f18_ (by omega) (by omega) (by omega) dX4_whole_23 ?_
  rw [t18_r]
  refine g_put (C := RX4) (T := TX4) (N := 43) (ci := 6) (ty := .int) (v := .int (iZ (mu 18 (r)))) (fs' := [.int (iZ (mu3w 0 0)), .int (iZ (mu3w 1 0)), .long (lZ (mu3w 2 0)), .int (iZ (mu3w 3 0)), .ref (b 4), .ref (b 5), .ref (b 6), .ref (b 7), .ref (b 8), .ref (b 9), .ref (b 10), .ref (b 11), .ref (b 12), .ref (b 13), .ref (b 14), .ref (b 15), .ref (b 16), .ref (b 17), .ref (b 18), .ref (b 19), .ref (b 20), .ref (b 21), .ref (b 22), .ref (b 23), .ref (b 24), .ref (b 25), .int (iZ (mu3w 26 0)), .ref (b 27), .ref (b 28), .ref (b 29), .ref (b 30), .ref (b 31), .ref (b 32), .ref (b 33), .ref (b 34), .int (iZ (mu3w 35 0)), .int (iZ (mu3w 36 0)), .int (iZ (mu3w 37 0)), .int (iZ (mu3w 38 0)), .int (iZ (mu3w 39 0)), .int (iZ (mu 18 (r))), .ref (b 41), .ref (b 42)]) hx hb hts hi6 tyX4 tyX4_ok nmX4 hown hK hW hS fM rfl 40 (by decide) (hts (.fieldLink RX4 165 "LongTransferModel" "gotten" "I") (by decide +kernel)) (fun _ h9 => h9) rfl (by decide +kernel) rfl rfl (Nat.le_of_ble_eq_true rfl) dX4_whole_24 rfl (fun H locs hW hS => ?_)
  obtain ⟨en4w, hen4w⟩ : ∃ x : en_T, x = e2 en3w 20 0 (some (b 0, .inr (6, [.int (iZ (mu3w 0 0)), .int (iZ (mu3w 1 0)), .long (lZ (mu3w 2 0)), .int (iZ (mu3w 3 0)), .ref (b 4), .ref (b 5), .ref (b 6), .ref (b 7), .ref (b 8), .ref (b 9), .ref (b 10), .ref (b 11), .ref (b 12), .ref (b 13), .ref (b 14), .ref (b 15), .ref (b 16), .ref (b 17), .ref (b 18), .ref (b 19), .ref (b 20), .ref (b 21), .ref (b 22), .ref (b 23), .ref (b 24), .ref (b 25), .int (iZ (mu3w 26 0)), .ref (b 27), .ref (b 28), .ref (b 29), .ref (b 30), .ref (b 31), .ref (b 32), .ref (b 33), .ref (b 34), .int (iZ (mu3w 35 0)), .int (iZ (mu3w 36 0)), .int (iZ (mu3w 37 0)), .int (iZ (mu3w 38 0)), .int (iZ (mu3w 39 0)), .int (iZ (mu 18 (r))), .ref (b 41), .ref (b 42)]))) := ⟨_, rfl⟩
  rw [← hen4w] at hW
  obtain ⟨mu4w, hmu4w⟩ : ∃ x : Mu, x = u2 mu3w 40 (0) (mu 18 (r)) := ⟨_, rfl⟩
  have hE4w : EM dA b mu4w en4w := by rw [hen4w, hmu4w]; exact em_f hE3w (k0 := 40) (v := mu 18 (r)) (by decide)
  have hF4w : FM en3w en4w := fun k i q => by rw [hen4w]; exact e2_k (fun w => q (by rw [w]; decide))
  have hF4w := FM.tr hF3w hF4w
  replace t42_0 : mu4w 42 (0) = (mu 42 (0)) + 1 := by rw [hmu4w]; exact (u2_n (fun q => absurd q.1 (by decide))).trans t42_0
  replace t18_r : mu4w 18 (r) = mu 18 (r) := by rw [hmu4w]; exact (u2_n (fun q => absurd q.1 (by decide))).trans t18_r
  have fM : en4w 20 0 = some (b 0, .inr (6, [.int (iZ (mu4w 0 0)), .int (iZ (mu4w 1 0)), .long (lZ (mu4w 2 0)), .int (iZ (mu4w 3 0)), .ref (b 4), .ref (b 5), .ref (b 6), .ref (b 7), .ref (b 8), .ref (b 9), .ref (b 10), .ref (b 11), .ref (b 12), .ref (b 13), .ref (b 14), .ref (b 15), .ref (b 16), .ref (b 17), .ref (b 18), .ref (b 19), .ref (b 20), .ref (b 21), .ref (b 22), .ref (b 23), .ref (b 24), .ref (b 25), .int (iZ (mu4w 26 0)), .ref (b 27), .ref (b 28), .ref (b 29), .ref (b 30), .ref (b 31), .ref (b 32), .ref (b 33), .ref (b 34), .int (iZ (mu4w 35 0)), .int (iZ (mu4w 36 0)), .int (iZ (mu4w 37 0)), .int (iZ (mu4w 38 0)), .int (iZ (mu4w 39 0)), .int (iZ (mu4w 40 0)), .ref (b 41), .ref (b 42)])) := hE4w.1
  have f16_ : en4w 36 0 = some (b 16, aI dA (4) (mu4w 16)) := hE4w.2 16 (by decide)
  have f18_ : en4w 38 0 = some (b 18, aI dA (4) (mu4w 18)) := hE4w.2 18 (by decide)
  have f25_ : en4w 45 0 = some (b 25, aB dA (40000) (mu4w 25)) := hE4w.2 25 (by decide)
  have f41_ : en4w 61 0 = some (b 41, aB dA (10000) (mu4w 41)) := hE4w.2 41 (by decide)
  have f42_ : en4w 62 0 = some (b 42, aI dA (8) (mu4w 42)) := hE4w.2 42 (by decide)
  refine z_iconst hx hb dX4_whole_27 ?_
  refine lv_istore_n (lv' := [(2, .int (iZ (0))), (0, .ref (b 0)), (1, .int (iZ (r)))]) hx hb dX4_whole_28 rfl hl (by decide) rfl (fun ls hl => ?_)
  have hz0 : mu4w = mW0 mu r := by unfold mW0; rw [hmu4w, hmu3w, hmu2w]
  refine W.widen (k := 0) (n := 0) (by omega) (by omega) ?_
  exact loop (mu 18 r).toNat mu4w en4w _ _ _ 0 hE4w hW hS (lv_sub hl [0, 1, 2] rfl) hF4w (by omega) (by omega) (hz0.trans (mWk_0 _ _).symm)
def mSum (mu : Mu) : Int := mu 42 1 + mu 42 2 + mu 42 3 + mu 42 4 + mu 42 5 + mu 42 6 + mu 42 7
set_option maxHeartbeats 4000000 in
set_option maxRecDepth 100000 in
theorem c_X4_sum (l : Launch) (D : va_G) (dA : Nat → ClassId) (z : Nat → Nat) (en : en_T) (b : Nat → Nat) (mu : Mu)  (hE : EM dA b mu en) : Met l yX4_sum wsX4_sum ({ frames := 0, cells := 0, slots := 0, locals := 0 }) (gP D dA z en [.ref (b 0)]) (va_Qi (fun (r8 : Int32) (_ : Unit) => r8 = iZ (mSum mu)) (fun _ t9 => Wd D (z 0) en t9.heap) (fun q => z 0 ≤ q)) (0) (0) (fun q => z 0 ≤ q) := by
  refine gMet (own := RX4) (cc := cX4_sum) (maxL := 3) (ret := (some .int)) (by decide) rfl rfl (Nat.le_of_ble_eq_true rfl) ?_
  intro p e s m below meth c hx hb hml hown hts hr hlocks hnm hg hW ls hl
  have hK := hg.1
  have hS : va_S (fun q => z 0 ≤ q) s.heap s.heap [] := va_S.rf
  have hi6 : ∀ w ∈ u_ws RX4 TX4 43, w ∈ wsX4_sum := by decide +kernel
  have hl : lv_has ls 3 [(0, .ref (b 0))] := hl
  have fM : en 20 0 = some (b 0, .inr (6, [.int (iZ (mu 0 0)), .int (iZ (mu 1 0)), .long (lZ (mu 2 0)), .int (iZ (mu 3 0)), .ref (b 4), .ref (b 5), .ref (b 6), .ref (b 7), .ref (b 8), .ref (b 9), .ref (b 10), .ref (b 11), .ref (b 12), .ref (b 13), .ref (b 14), .ref (b 15), .ref (b 16), .ref (b 17), .ref (b 18), .ref (b 19), .ref (b 20), .ref (b 21), .ref (b 22), .ref (b 23), .ref (b 24), .ref (b 25), .int (iZ (mu 26 0)), .ref (b 27), .ref (b 28), .ref (b 29), .ref (b 30), .ref (b 31), .ref (b 32), .ref (b 33), .ref (b 34), .int (iZ (mu 35 0)), .int (iZ (mu 36 0)), .int (iZ (mu 37 0)), .int (iZ (mu 38 0)), .int (iZ (mu 39 0)), .int (iZ (mu 40 0)), .ref (b 41), .ref (b 42)])) := hE.1
  have f42_ : en 62 0 = some (b 42, aI dA (8) (mu 42)) := hE.2 42 (by decide)
  refine z_iconst hx hb dX4_sum_0 ?_
  refine lv_istore_n (lv' := [(1, .int (iZ (0))), (0, .ref (b 0))]) hx hb dX4_sum_1 rfl hl (by decide) rfl (fun ls hl => ?_)
  refine z_iconst hx hb dX4_sum_2 ?_
  refine lv_istore_n (lv' := [(2, .int (iZ (1))), (1, .int (iZ (0))), (0, .ref (b 0))]) hx hb dX4_sum_3 rfl hl (by decide) rfl (fun ls hl => ?_)
  refine lv_iload_n hx hb dX4_sum_4 rfl (lv_at hl 0 rfl) ?_
  refine z_bipush hx hb dX4_sum_5 (by decide) ?_
  refine z_icmp_ge (tgt := 25) hx hb dX4_sum_7 (by decide) (by omega) (by omega) (fun c_7 => by omega) (fun _ => ?_)
  refine lv_iload_n hx hb dX4_sum_10 rfl (lv_at hl 1 rfl) ?_
  refine lv_aload_n hx hb dX4_sum_11 rfl (lv_at hl 2 rfl) ?_
  refine g_get (C := RX4) (T := TX4) (N := 43) (ci := 6) (v := .ref (b 42)) hx hb hts hi6 hown hK hW fM rfl 42 (by decide) (hts (.fieldLink RX4 113 "LongTransferModel" "ended" "[I") (by decide +kernel)) (fun _ h9 => h9) rfl dX4_sum_12 ?_
  refine lv_iload_n hx hb dX4_sum_15 rfl (lv_at hl 0 rfl) ?_
  refine g_iald hx hb hK hW f42_ (by omega) (by omega) (by omega) dX4_sum_16 ?_
  refine z_iadd hx hb dX4_sum_17 ?_
  refine lv_istore_n (lv' := [(1, .int (iZ (0 + ((mu 42) (1))))), (2, .int (iZ (1))), (0, .ref (b 0))]) hx hb dX4_sum_18 rfl hl (by decide) rfl (fun ls hl => ?_)
  refine lv_iinc (v := iZ (1 + 1)) (lv' := [(2, .int (iZ (1 + 1))), (1, .int (iZ (0 + ((mu 42) (1))))), (0, .ref (b 0))]) hx hb dX4_sum_19 hl (k := 1) rfl (iZ_add _ _) (by decide) rfl (fun ls hl => ?_)
  refine lv_goto (tgt := 4) hx hb dX4_sum_22 (by decide) ?_
  refine lv_iload_n hx hb dX4_sum_4 rfl (lv_at hl 0 rfl) ?_
  refine z_bipush hx hb dX4_sum_5 (by decide) ?_
  refine z_icmp_ge (tgt := 25) hx hb dX4_sum_7 (by decide) (by omega) (by omega) (fun c_7 => by omega) (fun _ => ?_)
  refine lv_iload_n hx hb dX4_sum_10 rfl (lv_at hl 1 rfl) ?_
  refine lv_aload_n hx hb dX4_sum_11 rfl (lv_at hl 2 rfl) ?_
  refine g_get (C := RX4) (T := TX4) (N := 43) (ci := 6) (v := .ref (b 42)) hx hb hts hi6 hown hK hW fM rfl 42 (by decide) (hts (.fieldLink RX4 113 "LongTransferModel" "ended" "[I") (by decide +kernel)) (fun _ h9 => h9) rfl dX4_sum_12 ?_
  refine lv_iload_n hx hb dX4_sum_15 rfl (lv_at hl 0 rfl) ?_
  refine g_iald hx hb hK hW f42_ (by omega) (by omega) (by omega) dX4_sum_16 ?_
  refine z_iadd hx hb dX4_sum_17 ?_
  refine lv_istore_n (lv' := [(1, .int (iZ ((0 + ((mu 42) (1))) + ((mu 42) (1 + 1))))), (2, .int (iZ (1 + 1))), (0, .ref (b 0))]) hx hb dX4_sum_18 rfl hl (by decide) rfl (fun ls hl => ?_)
  refine lv_iinc (v := iZ (1 + 1 + 1)) (lv' := [(2, .int (iZ (1 + 1 + 1))), (1, .int (iZ ((0 + ((mu 42) (1))) + ((mu 42) (1 + 1))))), (0, .ref (b 0))]) hx hb dX4_sum_19 hl (k := 1) rfl (iZ_add _ _) (by decide) rfl (fun ls hl => ?_)
  refine lv_goto (tgt := 4) hx hb dX4_sum_22 (by decide) ?_
  refine lv_iload_n hx hb dX4_sum_4 rfl (lv_at hl 0 rfl) ?_
  refine z_bipush hx hb dX4_sum_5 (by decide) ?_
  refine z_icmp_ge (tgt := 25) hx hb dX4_sum_7 (by decide) (by omega) (by omega) (fun c_7 => by omega) (fun _ => ?_)
  refine lv_iload_n hx hb dX4_sum_10 rfl (lv_at hl 1 rfl) ?_
  refine lv_aload_n hx hb dX4_sum_11 rfl (lv_at hl 2 rfl) ?_
  refine g_get (C := RX4) (T := TX4) (N := 43) (ci := 6) (v := .ref (b 42)) hx hb hts hi6 hown hK hW fM rfl 42 (by decide) (hts (.fieldLink RX4 113 "LongTransferModel" "ended" "[I") (by decide +kernel)) (fun _ h9 => h9) rfl dX4_sum_12 ?_
  refine lv_iload_n hx hb dX4_sum_15 rfl (lv_at hl 0 rfl) ?_
  refine g_iald hx hb hK hW f42_ (by omega) (by omega) (by omega) dX4_sum_16 ?_
  refine z_iadd hx hb dX4_sum_17 ?_
  refine lv_istore_n (lv' := [(1, .int (iZ (((0 + ((mu 42) (1))) + ((mu 42) (1 + 1))) + ((mu 42) (1 + 1 + 1))))), (2, .int (iZ (1 + 1 + 1))), (0, .ref (b 0))]) hx hb dX4_sum_18 rfl hl (by decide) rfl (fun ls hl => ?_)
  refine lv_iinc (v := iZ (1 + 1 + 1 + 1)) (lv' := [(2, .int (iZ (1 + 1 + 1 + 1))), (1, .int (iZ (((0 + ((mu 42) (1))) + ((mu 42) (1 + 1))) + ((mu 42) (1 + 1 + 1))))), (0, .ref (b 0))]) hx hb dX4_sum_19 hl (k := 1) rfl (iZ_add _ _) (by decide) rfl (fun ls hl => ?_)
  refine lv_goto (tgt := 4) hx hb dX4_sum_22 (by decide) ?_
  refine lv_iload_n hx hb dX4_sum_4 rfl (lv_at hl 0 rfl) ?_
  refine z_bipush hx hb dX4_sum_5 (by decide) ?_
  refine z_icmp_ge (tgt := 25) hx hb dX4_sum_7 (by decide) (by omega) (by omega) (fun c_7 => by omega) (fun _ => ?_)
  refine lv_iload_n hx hb dX4_sum_10 rfl (lv_at hl 1 rfl) ?_
  refine lv_aload_n hx hb dX4_sum_11 rfl (lv_at hl 2 rfl) ?_
  refine g_get (C := RX4) (T := TX4) (N := 43) (ci := 6) (v := .ref (b 42)) hx hb hts hi6 hown hK hW fM rfl 42 (by decide) (hts (.fieldLink RX4 113 "LongTransferModel" "ended" "[I") (by decide +kernel)) (fun _ h9 => h9) rfl dX4_sum_12 ?_
  refine lv_iload_n hx hb dX4_sum_15 rfl (lv_at hl 0 rfl) ?_
  refine g_iald hx hb hK hW f42_ (by omega) (by omega) (by omega) dX4_sum_16 ?_
  refine z_iadd hx hb dX4_sum_17 ?_
  refine lv_istore_n (lv' := [(1, .int (iZ ((((0 + ((mu 42) (1))) + ((mu 42) (1 + 1))) + ((mu 42) (1 + 1 + 1))) + ((mu 42) (1 + 1 + 1 + 1))))), (2, .int (iZ (1 + 1 + 1 + 1))), (0, .ref (b 0))]) hx hb dX4_sum_18 rfl hl (by decide) rfl (fun ls hl => ?_)
  refine lv_iinc (v := iZ (1 + 1 + 1 + 1 + 1)) (lv' := [(2, .int (iZ (1 + 1 + 1 + 1 + 1))), (1, .int (iZ ((((0 + ((mu 42) (1))) + ((mu 42) (1 + 1))) + ((mu 42) (1 + 1 + 1))) + ((mu 42) (1 + 1 + 1 + 1))))), (0, .ref (b 0))]) hx hb dX4_sum_19 hl (k := 1) rfl (iZ_add _ _) (by decide) rfl (fun ls hl => ?_)
  refine lv_goto (tgt := 4) hx hb dX4_sum_22 (by decide) ?_
  refine lv_iload_n hx hb dX4_sum_4 rfl (lv_at hl 0 rfl) ?_
  refine z_bipush hx hb dX4_sum_5 (by decide) ?_
  refine z_icmp_ge (tgt := 25) hx hb dX4_sum_7 (by decide) (by omega) (by omega) (fun c_7 => by omega) (fun _ => ?_)
  refine lv_iload_n hx hb dX4_sum_10 rfl (lv_at hl 1 rfl) ?_
  refine lv_aload_n hx hb dX4_sum_11 rfl (lv_at hl 2 rfl) ?_
  refine g_get (C := RX4) (T := TX4) (N := 43) (ci := 6) (v := .ref (b 42)) hx hb hts hi6 hown hK hW fM rfl 42 (by decide) (hts (.fieldLink RX4 113 "LongTransferModel" "ended" "[I") (by decide +kernel)) (fun _ h9 => h9) rfl dX4_sum_12 ?_
  refine lv_iload_n hx hb dX4_sum_15 rfl (lv_at hl 0 rfl) ?_
  refine g_iald hx hb hK hW f42_ (by omega) (by omega) (by omega) dX4_sum_16 ?_
  refine z_iadd hx hb dX4_sum_17 ?_
  refine lv_istore_n (lv' := [(1, .int (iZ (((((0 + ((mu 42) (1))) + ((mu 42) (1 + 1))) + ((mu 42) (1 + 1 + 1))) + ((mu 42) (1 + 1 + 1 + 1))) + ((mu 42) (1 + 1 + 1 + 1 + 1))))), (2, .int (iZ (1 + 1 + 1 + 1 + 1))), (0, .ref (b 0))]) hx hb dX4_sum_18 rfl hl (by decide) rfl (fun ls hl => ?_)
  refine lv_iinc (v := iZ (1 + 1 + 1 + 1 + 1 + 1)) (lv' := [(2, .int (iZ (1 + 1 + 1 + 1 + 1 + 1))), (1, .int (iZ (((((0 + ((mu 42) (1))) + ((mu 42) (1 + 1))) + ((mu 42) (1 + 1 + 1))) + ((mu 42) (1 + 1 + 1 + 1))) + ((mu 42) (1 + 1 + 1 + 1 + 1))))), (0, .ref (b 0))]) hx hb dX4_sum_19 hl (k := 1) rfl (iZ_add _ _) (by decide) rfl (fun ls hl => ?_)
  refine lv_goto (tgt := 4) hx hb dX4_sum_22 (by decide) ?_
  refine lv_iload_n hx hb dX4_sum_4 rfl (lv_at hl 0 rfl) ?_
  refine z_bipush hx hb dX4_sum_5 (by decide) ?_
  refine z_icmp_ge (tgt := 25) hx hb dX4_sum_7 (by decide) (by omega) (by omega) (fun c_7 => by omega) (fun _ => ?_)
  refine lv_iload_n hx hb dX4_sum_10 rfl (lv_at hl 1 rfl) ?_
  refine lv_aload_n hx hb dX4_sum_11 rfl (lv_at hl 2 rfl) ?_
  refine g_get (C := RX4) (T := TX4) (N := 43) (ci := 6) (v := .ref (b 42)) hx hb hts hi6 hown hK hW fM rfl 42 (by decide) (hts (.fieldLink RX4 113 "LongTransferModel" "ended" "[I") (by decide +kernel)) (fun _ h9 => h9) rfl dX4_sum_12 ?_
  refine lv_iload_n hx hb dX4_sum_15 rfl (lv_at hl 0 rfl) ?_
  refine g_iald hx hb hK hW f42_ (by omega) (by omega) (by omega) dX4_sum_16 ?_
  refine z_iadd hx hb dX4_sum_17 ?_
  refine lv_istore_n (lv' := [(1, .int (iZ ((((((0 + ((mu 42) (1))) + ((mu 42) (1 + 1))) + ((mu 42) (1 + 1 + 1))) + ((mu 42) (1 + 1 + 1 + 1))) + ((mu 42) (1 + 1 + 1 + 1 + 1))) + ((mu 42) (1 + 1 + 1 + 1 + 1 + 1))))), (2, .int (iZ (1 + 1 + 1 + 1 + 1 + 1))), (0, .ref (b 0))]) hx hb dX4_sum_18 rfl hl (by decide) rfl (fun ls hl => ?_)
  refine lv_iinc (v := iZ (1 + 1 + 1 + 1 + 1 + 1 + 1)) (lv' := [(2, .int (iZ (1 + 1 + 1 + 1 + 1 + 1 + 1))), (1, .int (iZ ((((((0 + ((mu 42) (1))) + ((mu 42) (1 + 1))) + ((mu 42) (1 + 1 + 1))) + ((mu 42) (1 + 1 + 1 + 1))) + ((mu 42) (1 + 1 + 1 + 1 + 1))) + ((mu 42) (1 + 1 + 1 + 1 + 1 + 1))))), (0, .ref (b 0))]) hx hb dX4_sum_19 hl (k := 1) rfl (iZ_add _ _) (by decide) rfl (fun ls hl => ?_)
  refine lv_goto (tgt := 4) hx hb dX4_sum_22 (by decide) ?_
  refine lv_iload_n hx hb dX4_sum_4 rfl (lv_at hl 0 rfl) ?_
  refine z_bipush hx hb dX4_sum_5 (by decide) ?_
  refine z_icmp_ge (tgt := 25) hx hb dX4_sum_7 (by decide) (by omega) (by omega) (fun c_7 => by omega) (fun _ => ?_)
  refine lv_iload_n hx hb dX4_sum_10 rfl (lv_at hl 1 rfl) ?_
  refine lv_aload_n hx hb dX4_sum_11 rfl (lv_at hl 2 rfl) ?_
  refine g_get (C := RX4) (T := TX4) (N := 43) (ci := 6) (v := .ref (b 42)) hx hb hts hi6 hown hK hW fM rfl 42 (by decide) (hts (.fieldLink RX4 113 "LongTransferModel" "ended" "[I") (by decide +kernel)) (fun _ h9 => h9) rfl dX4_sum_12 ?_
  refine lv_iload_n hx hb dX4_sum_15 rfl (lv_at hl 0 rfl) ?_
  refine g_iald hx hb hK hW f42_ (by omega) (by omega) (by omega) dX4_sum_16 ?_
  refine z_iadd hx hb dX4_sum_17 ?_
  refine lv_istore_n (lv' := [(1, .int (iZ (((((((0 + ((mu 42) (1))) + ((mu 42) (1 + 1))) + ((mu 42) (1 + 1 + 1))) + ((mu 42) (1 + 1 + 1 + 1))) + ((mu 42) (1 + 1 + 1 + 1 + 1))) + ((mu 42) (1 + 1 + 1 + 1 + 1 + 1))) + ((mu 42) (1 + 1 + 1 + 1 + 1 + 1 + 1))))), (2, .int (iZ (1 + 1 + 1 + 1 + 1 + 1 + 1))), (0, .ref (b 0))]) hx hb dX4_sum_18 rfl hl (by decide) rfl (fun ls hl => ?_)
  refine lv_iinc (v := iZ (1 + 1 + 1 + 1 + 1 + 1 + 1 + 1)) (lv' := [(2, .int (iZ (1 + 1 + 1 + 1 + 1 + 1 + 1 + 1))), (1, .int (iZ (((((((0 + ((mu 42) (1))) + ((mu 42) (1 + 1))) + ((mu 42) (1 + 1 + 1))) + ((mu 42) (1 + 1 + 1 + 1))) + ((mu 42) (1 + 1 + 1 + 1 + 1))) + ((mu 42) (1 + 1 + 1 + 1 + 1 + 1))) + ((mu 42) (1 + 1 + 1 + 1 + 1 + 1 + 1))))), (0, .ref (b 0))]) hx hb dX4_sum_19 hl (k := 1) rfl (iZ_add _ _) (by decide) rfl (fun ls hl => ?_)
  refine lv_goto (tgt := 4) hx hb dX4_sum_22 (by decide) ?_
  refine lv_iload_n hx hb dX4_sum_4 rfl (lv_at hl 0 rfl) ?_
  refine z_bipush hx hb dX4_sum_5 (by decide) ?_
  refine z_icmp_ge (tgt := 25) hx hb dX4_sum_7 (by decide) (by omega) (by omega) (fun _ => ?_) (fun c_7 => by omega)
  refine lv_iload_n hx hb dX4_sum_25 rfl (lv_at hl 1 rfl) ?_
  exact W.iret hx hb hr (fun t ht hw => ⟨⟨_, (), rfl, congrArg iZ (by unfold mSum; simp), by show Wd _ _ _ t.heap; rw [ht]; exact hW⟩, hS.F ht⟩) hS.2.2 dX4_sum_26
/-! whether a sender is due -/
set_option maxHeartbeats 4000000 in
set_option maxRecDepth 100000 in
theorem c_X4_senderDue (l : Launch) (D : va_G) (dA : Nat → ClassId) (z : Nat → Nat) (en : en_T) (b : Nat → Nat) (mu : Mu) (mm : Int) (h0 : 0 ≤ mm) (h1 : mm ≤ 100) (hs : 0 ≤ mu 7 mm ∧ mu 7 mm ≤ 4) (h15 : mu 7 mm = 2 → lB (mu 15 mm)) (h2 : 0 ≤ mu 2 0 ∧ mu 2 0 ≤ 4000000) (h14 : mu 7 mm = 1 → -1000 ≤ mu 14 mm ∧ mu 14 mm ≤ 9223372036854775807) (hE : EM dA b mu en) : Met l yX4_senderDue wsX4_senderDue ({ frames := 0, cells := 0, slots := 0, locals := 0 }) (gP D dA z en [.ref (b 0), .int (iZ (mm))]) (va_Qi (fun (r8 : Int32) (_ : Unit) => r8 = iZ (if (mu 7 mm = 2 ∧ mu 15 mm = mu 2 0) ∨ (mu 7 mm = 1 ∧ mu 2 0 - mu 14 mm = 1000) then 1 else 0)) (fun _ t9 => Wd D (z 0) en t9.heap) (fun q => z 0 ≤ q)) (0) (0) (fun q => z 0 ≤ q) := by
  refine gMet (own := RX4) (cc := cX4_senderDue) (maxL := 2) (ret := (some .boolean)) (by decide) rfl rfl (Nat.le_of_ble_eq_true rfl) ?_
  intro p e s m below meth c hx hb hml hown hts hr hlocks hnm hg hW ls hl
  have hK := hg.1
  have hS : va_S (fun q => z 0 ≤ q) s.heap s.heap [] := va_S.rf
  have hi6 : ∀ w ∈ u_ws RX4 TX4 43, w ∈ wsX4_senderDue := by decide +kernel
  have hl : lv_has ls 2 [(0, .ref (b 0)), (1, .int (iZ (mm)))] := hl
  have fM : en 20 0 = some (b 0, .inr (6, [.int (iZ (mu 0 0)), .int (iZ (mu 1 0)), .long (lZ (mu 2 0)), .int (iZ (mu 3 0)), .ref (b 4), .ref (b 5), .ref (b 6), .ref (b 7), .ref (b 8), .ref (b 9), .ref (b 10), .ref (b 11), .ref (b 12), .ref (b 13), .ref (b 14), .ref (b 15), .ref (b 16), .ref (b 17), .ref (b 18), .ref (b 19), .ref (b 20), .ref (b 21), .ref (b 22), .ref (b 23), .ref (b 24), .ref (b 25), .int (iZ (mu 26 0)), .ref (b 27), .ref (b 28), .ref (b 29), .ref (b 30), .ref (b 31), .ref (b 32), .ref (b 33), .ref (b 34), .int (iZ (mu 35 0)), .int (iZ (mu 36 0)), .int (iZ (mu 37 0)), .int (iZ (mu 38 0)), .int (iZ (mu 39 0)), .int (iZ (mu 40 0)), .ref (b 41), .ref (b 42)])) := hE.1
  have f7_ : en 27 0 = some (b 7, aI dA (101) (mu 7)) := hE.2 7 (by decide)
  have f14_ : en 34 0 = some (b 14, aJ dA (101) (mu 14)) := hE.2 14 (by decide)
  have f15_ : en 35 0 = some (b 15, aJ dA (101) (mu 15)) := hE.2 15 (by decide)
  refine lv_aload_n hx hb dX4_senderDue_0 rfl (lv_at hl 0 rfl) ?_
  refine g_get (C := RX4) (T := TX4) (N := 43) (ci := 6) (v := .ref (b 7)) hx hb hts hi6 hown hK hW fM rfl 7 (by decide) (hts (.fieldLink RX4 22 "LongTransferModel" "state" "[I") (by decide +kernel)) (fun _ h9 => h9) rfl dX4_senderDue_1 ?_
  refine lv_iload_n hx hb dX4_senderDue_4 rfl (lv_at hl 1 rfl) ?_
  refine g_iald hx hb hK hW f7_ (by omega) (by omega) (by omega) dX4_senderDue_5 ?_
  refine z_iconst hx hb dX4_senderDue_6 ?_
  refine z_icmp_ne (tgt := 24) hx hb dX4_senderDue_7 (by decide) (by omega) (by omega) (fun c_7 => ?_) (fun c_7 => ?_)
  · refine lv_aload_n hx hb dX4_senderDue_24 rfl (lv_at hl 0 rfl) ?_
    refine g_get (C := RX4) (T := TX4) (N := 43) (ci := 6) (v := .ref (b 7)) hx hb hts hi6 hown hK hW fM rfl 7 (by decide) (hts (.fieldLink RX4 22 "LongTransferModel" "state" "[I") (by decide +kernel)) (fun _ h9 => h9) rfl dX4_senderDue_25 ?_
    refine lv_iload_n hx hb dX4_senderDue_28 rfl (lv_at hl 1 rfl) ?_
    refine g_iald hx hb hK hW f7_ (by omega) (by omega) (by omega) dX4_senderDue_29 ?_
    refine z_iconst hx hb dX4_senderDue_30 ?_
    refine z_icmp_ne (tgt := 56) hx hb dX4_senderDue_31 (by decide) (by omega) (by omega) (fun c_31 => ?_) (fun c_31 => ?_)
    · refine z_iconst hx hb dX4_senderDue_56 ?_
      exact W.zret hx hb hr (by decide) (fun t ht hw => ⟨⟨_, (), rfl, congrArg iZ (if_neg (by omega)).symm, by show Wd _ _ _ t.heap; rw [ht]; exact hW⟩, hS.F ht⟩) hS.2.2 dX4_senderDue_57
    · refine lv_aload_n hx hb dX4_senderDue_34 rfl (lv_at hl 0 rfl) ?_
      refine g_get (C := RX4) (T := TX4) (N := 43) (ci := 6) (v := .long (lZ (mu 2 0))) hx hb hts hi6 hown hK hW fM rfl 2 (by decide) (hts (.fieldLink RX4 137 "LongTransferModel" "now" "J") (by decide +kernel)) (fun _ h9 => h9) rfl dX4_senderDue_35 ?_
      refine lv_aload_n hx hb dX4_senderDue_38 rfl (lv_at hl 0 rfl) ?_
      refine g_get (C := RX4) (T := TX4) (N := 43) (ci := 6) (v := .ref (b 14)) hx hb hts hi6 hown hK hW fM rfl 14 (by decide) (hts (.fieldLink RX4 43 "LongTransferModel" "since" "[J") (by decide +kernel)) (fun _ h9 => h9) rfl dX4_senderDue_39 ?_
      refine lv_iload_n hx hb dX4_senderDue_42 rfl (lv_at hl 1 rfl) ?_
      refine g_lald hx hb hK hW f14_ (by omega) (by omega) (by omega) dX4_senderDue_43 ?_
      refine z_lsub hx hb dX4_senderDue_44 ?_
      refine z_ldc2 hx hb 1000 hown (hts (.constantLong RX4 181 (1000)) (by decide +kernel)) (by decide) dX4_senderDue_45 ?_
      refine z_lc_ne (tgt := 56) hx hb dX4_senderDue_48 dX4_senderDue_49 (by decide) (by omega) (by omega) (fun c_48 => ?_) (fun c_48 => ?_)
      · refine z_iconst hx hb dX4_senderDue_56 ?_
        exact W.zret hx hb hr (by decide) (fun t ht hw => ⟨⟨_, (), rfl, congrArg iZ (if_neg (by omega)).symm, by show Wd _ _ _ t.heap; rw [ht]; exact hW⟩, hS.F ht⟩) hS.2.2 dX4_senderDue_57
      · refine z_iconst hx hb dX4_senderDue_52 ?_
        refine lv_goto (tgt := 57) hx hb dX4_senderDue_53 (by decide) ?_
        exact W.zret hx hb hr (by decide) (fun t ht hw => ⟨⟨_, (), rfl, congrArg iZ (if_pos (by omega)).symm, by show Wd _ _ _ t.heap; rw [ht]; exact hW⟩, hS.F ht⟩) hS.2.2 dX4_senderDue_57
  · refine lv_aload_n hx hb dX4_senderDue_10 rfl (lv_at hl 0 rfl) ?_
    refine g_get (C := RX4) (T := TX4) (N := 43) (ci := 6) (v := .ref (b 15)) hx hb hts hi6 hown hK hW fM rfl 15 (by decide) (hts (.fieldLink RX4 47 "LongTransferModel" "due" "[J") (by decide +kernel)) (fun _ h9 => h9) rfl dX4_senderDue_11 ?_
    refine lv_iload_n hx hb dX4_senderDue_14 rfl (lv_at hl 1 rfl) ?_
    refine g_lald hx hb hK hW f15_ (by omega) (by omega) (by omega) dX4_senderDue_15 ?_
    refine lv_aload_n hx hb dX4_senderDue_16 rfl (lv_at hl 0 rfl) ?_
    refine g_get (C := RX4) (T := TX4) (N := 43) (ci := 6) (v := .long (lZ (mu 2 0))) hx hb hts hi6 hown hK hW fM rfl 2 (by decide) (hts (.fieldLink RX4 137 "LongTransferModel" "now" "J") (by decide +kernel)) (fun _ h9 => h9) rfl dX4_senderDue_17 ?_
    refine z_lc_eq (tgt := 52) hx hb dX4_senderDue_20 dX4_senderDue_21 (by decide) (by omega) (by omega) (fun c_20 => ?_) (fun c_20 => ?_)
    · refine z_iconst hx hb dX4_senderDue_52 ?_
      refine lv_goto (tgt := 57) hx hb dX4_senderDue_53 (by decide) ?_
      exact W.zret hx hb hr (by decide) (fun t ht hw => ⟨⟨_, (), rfl, congrArg iZ (if_pos (by omega)).symm, by show Wd _ _ _ t.heap; rw [ht]; exact hW⟩, hS.F ht⟩) hS.2.2 dX4_senderDue_57
    · refine lv_aload_n hx hb dX4_senderDue_24 rfl (lv_at hl 0 rfl) ?_
      refine g_get (C := RX4) (T := TX4) (N := 43) (ci := 6) (v := .ref (b 7)) hx hb hts hi6 hown hK hW fM rfl 7 (by decide) (hts (.fieldLink RX4 22 "LongTransferModel" "state" "[I") (by decide +kernel)) (fun _ h9 => h9) rfl dX4_senderDue_25 ?_
      refine lv_iload_n hx hb dX4_senderDue_28 rfl (lv_at hl 1 rfl) ?_
      refine g_iald hx hb hK hW f7_ (by omega) (by omega) (by omega) dX4_senderDue_29 ?_
      refine z_iconst hx hb dX4_senderDue_30 ?_
      refine z_icmp_ne (tgt := 56) hx hb dX4_senderDue_31 (by decide) (by omega) (by omega) (fun c_31 => ?_) (fun c_31 => ?_)
      · refine z_iconst hx hb dX4_senderDue_56 ?_
        exact W.zret hx hb hr (by decide) (fun t ht hw => ⟨⟨_, (), rfl, congrArg iZ (if_neg (by omega)).symm, by show Wd _ _ _ t.heap; rw [ht]; exact hW⟩, hS.F ht⟩) hS.2.2 dX4_senderDue_57
      · refine lv_aload_n hx hb dX4_senderDue_34 rfl (lv_at hl 0 rfl) ?_
        refine g_get (C := RX4) (T := TX4) (N := 43) (ci := 6) (v := .long (lZ (mu 2 0))) hx hb hts hi6 hown hK hW fM rfl 2 (by decide) (hts (.fieldLink RX4 137 "LongTransferModel" "now" "J") (by decide +kernel)) (fun _ h9 => h9) rfl dX4_senderDue_35 ?_
        refine lv_aload_n hx hb dX4_senderDue_38 rfl (lv_at hl 0 rfl) ?_
        refine g_get (C := RX4) (T := TX4) (N := 43) (ci := 6) (v := .ref (b 14)) hx hb hts hi6 hown hK hW fM rfl 14 (by decide) (hts (.fieldLink RX4 43 "LongTransferModel" "since" "[J") (by decide +kernel)) (fun _ h9 => h9) rfl dX4_senderDue_39 ?_
        refine lv_iload_n hx hb dX4_senderDue_42 rfl (lv_at hl 1 rfl) ?_
        refine g_lald hx hb hK hW f14_ (by omega) (by omega) (by omega) dX4_senderDue_43 ?_
        refine z_lsub hx hb dX4_senderDue_44 ?_
        refine z_ldc2 hx hb 1000 hown (hts (.constantLong RX4 181 (1000)) (by decide +kernel)) (by decide) dX4_senderDue_45 ?_
        refine z_lc_ne (tgt := 56) hx hb dX4_senderDue_48 dX4_senderDue_49 (by decide) (by omega) (by omega) (fun c_48 => ?_) (fun c_48 => ?_)
        · refine z_iconst hx hb dX4_senderDue_56 ?_
          exact W.zret hx hb hr (by decide) (fun t ht hw => ⟨⟨_, (), rfl, congrArg iZ (if_neg (by omega)).symm, by show Wd _ _ _ t.heap; rw [ht]; exact hW⟩, hS.F ht⟩) hS.2.2 dX4_senderDue_57
        · refine z_iconst hx hb dX4_senderDue_52 ?_
          refine lv_goto (tgt := 57) hx hb dX4_senderDue_53 (by decide) ?_
          exact W.zret hx hb hr (by decide) (fun t ht hw => ⟨⟨_, (), rfl, congrArg iZ (if_pos (by omega)).symm, by show Wd _ _ _ t.heap; rw [ht]; exact hW⟩, hS.F ht⟩) hS.2.2 dX4_senderDue_57
