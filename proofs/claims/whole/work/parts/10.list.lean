/-- the room of a list's row behind an add: full rows grow by half -/
def lcap (cap : Int) : Int := if cap = 0 then 10 else cap + max 1 (cap / 2)
theorem lc_pos {cap : Int} (h : 0 ≤ cap) : cap + 1 ≤ lcap cap ∧ lcap cap ≤ cap + cap / 2 + 10 := by
  unfold lcap
  split <;> omega
theorem cp_none {F : Int → Option Nat} {n m : Int} (h : ∀ j : Int, ¬ (0 ≤ j ∧ j < n) → F j = none) (hm : n ≤ m) : cpF F (fun _ => none) 0 0 m = F := by
  funext j
  unfold cpF
  by_cases q : 0 ≤ j ∧ j < 0 + m
  · rw [if_pos q]; congr 1; omega
  · rw [if_neg q, h j (by omega)]
set_option maxHeartbeats 4000000 in
set_option maxRecDepth 100000 in
theorem c_AL_growA (l : Launch) (D : va_G) (dA : Nat → ClassId) (z : Nat → Nat) (en : en_T) (li : Int) (a ar : Nat) (mo n : Int) (F : Int → Option Nat) (h0 : 2 ≤ n) (h1 : n ≤ 50000) (hFn : ∀ j : Int, ¬ (0 ≤ j ∧ j < n) → F j = none) (he : en 1 li = some (a, .inr (1, [.int (iZ (mo)), .ref ar, .int (iZ (n))]))) (ha : en 2 li = some (ar, aO dA n F)) (hF : ∀ (j : Int) (y : Nat), F j = some y → ∃ (k : Nat) (i : Int) (ci : Nat) (fs : List Value), en k i = some (y, .inr (ci, fs)) ∧ (ci = 2 ∨ ci = 4) ∧ k ≠ 99) : Met l yJx4a65c_grow_92f84 wsJx4a65c_grow_92f84 ({ frames := 3, cells := 1, slots := (lcap n).toNat, locals := 84 }) (gP D dA z en [.ref a, .int (iZ (n + 1))]) (va_Qr (fun _ : Unit => True) (fun _ r9 t9 => Wd D (z 0) (e2 (e2 en 99 0 (some (r9, aO dA (lcap n) F))) 1 li (some (a, .inr (1, [.int (iZ (mo)), .ref r9, .int (iZ (n))])))) t9.heap) (fun q => z 0 ≤ q)) (1) ((lcap n).toNat) (fun q => z 0 ≤ q) := by
  refine gMet (own := RJx4a65c) (cc := cJx4a65c_grow_92f84) (maxL := 4) (ret := (some (.array (.object "java/lang/Object")))) (by decide) rfl rfl (Nat.le_of_ble_eq_true rfl) ?_
  intro p e s m below meth c hx hb hml hown hts hr hlocks hnm hg hW ls hl
  have hK := hg.1
  have hS : va_S (fun q => z 0 ≤ q) s.heap s.heap [] := va_S.rf
  have hi1 : ∀ w ∈ u_ws RJx4a65c TJx4a65c 3, w ∈ wsJx4a65c_grow_92f84 := by decide +kernel
  have hl : lv_has ls 4 [(0, .ref a), (1, .int (iZ (n + 1)))] := hl
  refine lv_aload_n hx hb dJx4a65c_grow_92f84_0 rfl (lv_at hl 0 rfl) ?_
  refine g_get (C := RJx4a65c) (T := TJx4a65c) (N := 3) (ci := 1) (v := .ref ar) hx hb hts hi1 hown hK hW he rfl 1 (by decide) (hts (.fieldLink RJx4a65c 9 "java/util/ArrayList" "elementData" "[Ljava/lang/Object;") (by decide +kernel)) (fun _ h9 => h9) rfl dJx4a65c_grow_92f84_1 ?_
  refine g_len_aO hx hb hK hW ha (by omega) dJx4a65c_grow_92f84_4 ?_
  refine lv_istore_n (lv' := [(2, .int (iZ (n))), (0, .ref a), (1, .int (iZ (n + 1)))]) hx hb dJx4a65c_grow_92f84_5 rfl hl (by decide) rfl (fun ls hl => ?_)
  refine lv_iload_n hx hb dJx4a65c_grow_92f84_6 rfl (lv_at hl 0 rfl) ?_
  refine z_if_gt (tgt := 20) hx hb dJx4a65c_grow_92f84_7 (by decide) (by omega) (fun c_7 => ?_) (fun c_7 => ?_)
  · refine lv_iload_n hx hb dJx4a65c_grow_92f84_20 rfl (lv_at hl 0 rfl) ?_
    refine lv_iload_n hx hb dJx4a65c_grow_92f84_21 rfl (lv_at hl 2 rfl) ?_
    refine lv_iload_n hx hb dJx4a65c_grow_92f84_22 rfl (lv_at hl 0 rfl) ?_
    refine z_isub hx hb dJx4a65c_grow_92f84_23 ?_
    refine lv_iload_n hx hb dJx4a65c_grow_92f84_24 rfl (lv_at hl 0 rfl) ?_
    refine z_iconst hx hb dJx4a65c_grow_92f84_25 ?_
    refine lv_ishr hx hb dJx4a65c_grow_92f84_26 ?_
    rw [sh_1 (by omega) (by omega)]
    refine va_calli (va_runS (As := [.int (iZ (n)), .int (iZ ((n + 1) - n)), .int (iZ (n / 2))]) (rest := []) ⟨hx, hb, hml, hown, hts⟩ (c_J8_newLength l D dA z en n (n + 1 - n) (n / 2) (by omega) (by omega) (by omega) (by omega) (by omega) (by omega)) (va_cwS 3 hts gJx4a65c_grow_92f84_J8_newLength_cabcc rfl rfl rfl (by decide +kernel) ⟨Nat.le_of_ble_eq_true rfl, Nat.le_of_ble_eq_true rfl⟩) ⟨gBl, gPre _ hg hS hW⟩ rfl rfl hl.1 rfl (lv_room (Nat.le_of_ble_eq_true rfl)) dJx4a65c_grow_92f84_27 ⟨(show 0 + 0 ≤ 1 by omega), (show 0 + 0 ≤ (lcap n).toNat by omega)⟩) hS (fun _ _ h => h) (fun _ h => h) (fun r9 u9 t9 H locs ht9 hvm9 hw9 hB9 hz9 hk9 hS => ?_)
    have hW : Wd D (z 0) en H := by rw [← ht9]; exact hB9
    subst hw9
    refine lv_istore_n (lv' := [(3, .int (iZ (n + max (n + 1 - n) (n / 2)))), (2, .int (iZ (n))), (0, .ref a), (1, .int (iZ (n + 1)))]) hx hb dJx4a65c_grow_92f84_30 rfl hl (by decide) rfl (fun ls hl => ?_)
    refine lv_aload_n hx hb dJx4a65c_grow_92f84_31 rfl (lv_at hl 2 rfl) ?_
    refine lv_aload_n hx hb dJx4a65c_grow_92f84_32 rfl (lv_at hl 2 rfl) ?_
    refine g_get (C := RJx4a65c) (T := TJx4a65c) (N := 3) (ci := 1) (v := .ref ar) hx hb hts hi1 hown hK hW he rfl 1 (by decide) (hts (.fieldLink RJx4a65c 9 "java/util/ArrayList" "elementData" "[Ljava/lang/Object;") (by decide +kernel)) (fun _ h9 => h9) rfl dJx4a65c_grow_92f84_33 ?_
    refine lv_iload_n hx hb dJx4a65c_grow_92f84_36 rfl (lv_at hl 0 rfl) ?_
    have hlc : n + max (n + 1 - n) (n / 2) = lcap n := by unfold lcap; rw [if_neg (by omega)]; omega
    rw [hlc] at hl ⊢
    have hlb := lc_pos (cap := n) (by omega)
    refine va_callr (va_runS (As := [.ref ar, .int (iZ (lcap n))]) (rest := [.ref a]) ⟨hx, hb, hml, hown, hts⟩ (c_J7_copyOf2 l D dA z en li ar n (lcap n) F (by omega) (by omega) (by omega) (by omega) ha hF) (va_cwS 2 hts gJx4a65c_grow_92f84_J7_copyOf_1904c rfl rfl rfl (by decide +kernel) ⟨Nat.le_of_ble_eq_true rfl, Nat.le_of_ble_eq_true rfl⟩) ⟨gBl, gPre _ hg hS hW⟩ rfl rfl hl.1 rfl (lv_room (Nat.le_of_ble_eq_true rfl)) dJx4a65c_grow_92f84_37 ⟨(show 0 + 0 + 1 ≤ 1 by omega), (show 0 + 0 + ((lcap n).toNat) ≤ (lcap n).toNat by omega)⟩) hS (fun _ _ h => h) (fun _ h => h) (fun u9 r9 t9 H locs ht9 hvm9 hw9 hB9 hz9 hk9 hS => ?_)
    obtain ⟨q, hq9⟩ : ∃ y : Nat, y = r9 := ⟨_, rfl⟩
    subst hq9
    have hW : Wd D (z 0) (e2 en 99 0 (some (q, aO dA (lcap n) (cpF F (fun _ => none) 0 0 (min n (lcap n)))))) H := by rw [← ht9]; exact hB9
    have he : (e2 en 99 0 (some (q, aO dA (lcap n) (cpF F (fun _ => none) 0 0 (min n (lcap n)))))) 1 li = some (a, .inr (1, [.int (iZ (mo)), .ref ar, .int (iZ (n))])) := (e2_k (by decide)).trans he
    have ha : (e2 en 99 0 (some (q, aO dA (lcap n) (cpF F (fun _ => none) 0 0 (min n (lcap n)))))) 2 li = some (ar, aO dA (n) (F)) := (e2_k (by decide)).trans ha
    have hq : (e2 en 99 0 (some (q, aO dA (lcap n) (cpF F (fun _ => none) 0 0 (min n (lcap n)))))) 99 0 = some (q, aO dA (lcap n) (cpF F (fun _ => none) 0 0 (min n (lcap n)))) := e2_s _ _ _ _
    refine lv_dup_x1 hx hb dJx4a65c_grow_92f84_40 rfl rfl ?_
    refine g_put (C := RJx4a65c) (T := TJx4a65c) (N := 3) (ci := 1) (ty := .array (.object "java/lang/Object")) (v := .ref q) (fs' := [.int (iZ (mo)), .ref q, .int (iZ (n))]) hx hb hts hi1 tyJx4a65c tyJx4a65c_ok nmJx4a65c hown hK hW hS he rfl 1 (by decide) (hts (.fieldLink RJx4a65c 9 "java/util/ArrayList" "elementData" "[Ljava/lang/Object;") (by decide +kernel)) (fun _ h9 => h9) rfl (by decide +kernel) rfl rfl (Nat.le_of_ble_eq_true rfl) dJx4a65c_grow_92f84_41 rfl (fun H locs hW hS => ?_)
    have ha : (e2 (e2 en 99 0 (some (q, aO dA (lcap n) (cpF F (fun _ => none) 0 0 (min n (lcap n)))))) 1 li (some (a, .inr (1, [.int (iZ (mo)), .ref q, .int (iZ (n))])))) 2 li = some (ar, aO dA (n) (F)) := (e2_k (by decide)).trans ha
    have hq : (e2 (e2 en 99 0 (some (q, aO dA (lcap n) (cpF F (fun _ => none) 0 0 (min n (lcap n)))))) 1 li (some (a, .inr (1, [.int (iZ (mo)), .ref q, .int (iZ (n))])))) 99 0 = some (q, aO dA (lcap n) (cpF F (fun _ => none) 0 0 (min n (lcap n)))) := (e2_k (by decide)).trans hq
    have he : (e2 (e2 en 99 0 (some (q, aO dA (lcap n) (cpF F (fun _ => none) 0 0 (min n (lcap n)))))) 1 li (some (a, .inr (1, [.int (iZ (mo)), .ref q, .int (iZ (n))])))) 1 li = some (a, .inr (1, [.int (iZ (mo)), .ref q, .int (iZ (n))])) := e2_s _ _ _ _
    refine W.widen (k := 1) (n := (lcap n).toNat) (by omega) (by omega) ?_
    rw [show min n (lcap n) = n by omega, cp_none hFn (by omega)] at hW
    exact W.aret hx hb hr (Or.inr ⟨_, rfl⟩) (Or.inr ⟨_, rfl⟩) (fun t9 ht hw => ⟨⟨(), _, rfl, trivial, by show Wd _ _ _ t9.heap; rw [ht]; exact hW⟩, hS.F ht⟩) hS.2.2 dJx4a65c_grow_92f84_44
  · exact absurd c_7 (by omega)
set_option maxHeartbeats 4000000 in
set_option maxRecDepth 100000 in
theorem c_AL_grow0 (l : Launch) (D : va_G) (dA : Nat → ClassId) (z : Nat → Nat) (en : en_T) (li : Int) (a : Nat) (mo : Int) (he : en 1 li = some (a, .inr (1, [.int (iZ (mo)), .ref (z 2), .int (iZ (0))]))) : Met l yJx4a65c_grow_92f84 wsJx4a65c_grow_92f84 ({ frames := 1, cells := 1, slots := 10, locals := 21 }) (gP D dA z en [.ref a, .int (iZ (0 + 1))]) (va_Qr (fun _ : Unit => True) (fun _ r9 t9 => Wd D (z 0) (e2 (e2 en 99 0 (some (r9, aO dA (10) (fun _ => none)))) 1 li (some (a, .inr (1, [.int (iZ (mo)), .ref r9, .int (iZ (0))])))) t9.heap) (fun q => z 0 ≤ q)) (1) (10) (fun q => z 0 ≤ q) := by
  refine gMet (own := RJx4a65c) (cc := cJx4a65c_grow_92f84) (maxL := 4) (ret := (some (.array (.object "java/lang/Object")))) (by decide) rfl rfl (Nat.le_of_ble_eq_true rfl) ?_
  intro p e s m below meth c hx hb hml hown hts hr hlocks hnm hg hW ls hl
  have hK := hg.1
  have hS : va_S (fun q => z 0 ≤ q) s.heap s.heap [] := va_S.rf
  have hi1 : ∀ w ∈ u_ws RJx4a65c TJx4a65c 3, w ∈ wsJx4a65c_grow_92f84 := by decide +kernel
  have hl : lv_has ls 4 [(0, .ref a), (1, .int (iZ (0 + 1)))] := hl
  refine lv_aload_n hx hb dJx4a65c_grow_92f84_0 rfl (lv_at hl 0 rfl) ?_
  refine g_get (C := RJx4a65c) (T := TJx4a65c) (N := 3) (ci := 1) (v := .ref (z 2)) hx hb hts hi1 hown hK hW he rfl 1 (by decide) (hts (.fieldLink RJx4a65c 9 "java/util/ArrayList" "elementData" "[Ljava/lang/Object;") (by decide +kernel)) (fun _ h9 => h9) rfl dJx4a65c_grow_92f84_1 ?_
  refine va_tlen hx hb hg.2.2.1.2.2.2 hS (v := iZ 0) rfl dJx4a65c_grow_92f84_4 ?_
  refine lv_istore_n (lv' := [(2, .int (iZ (0))), (0, .ref a), (1, .int (iZ (0 + 1)))]) hx hb dJx4a65c_grow_92f84_5 rfl hl (by decide) rfl (fun ls hl => ?_)
  refine lv_iload_n hx hb dJx4a65c_grow_92f84_6 rfl (lv_at hl 0 rfl) ?_
  refine z_if_gt (tgt := 20) hx hb dJx4a65c_grow_92f84_7 (by decide) (by omega) (fun c_7 => ?_) (fun c_7 => ?_)
  · exact absurd c_7 (by omega)
  · refine lv_aload_n hx hb dJx4a65c_grow_92f84_10 rfl (lv_at hl 1 rfl) ?_
    refine g_get (C := RJx4a65c) (T := TJx4a65c) (N := 3) (ci := 1) (v := .ref (z 2)) hx hb hts hi1 hown hK hW he rfl 1 (by decide) (hts (.fieldLink RJx4a65c 9 "java/util/ArrayList" "elementData" "[Ljava/lang/Object;") (by decide +kernel)) (fun _ h9 => h9) rfl dJx4a65c_grow_92f84_11 ?_
    refine va_gets hx hb hg.2.2.1.2.2.1 hS hown (hts (.fieldLink RJx4a65c 39 "java/util/ArrayList" "DEFAULTCAPACITY_EMPTY_ELEMENTDATA" "[Ljava/lang/Object;") (by decide +kernel)) (fun _ h => h) dJx4a65c_grow_92f84_14 ?_
    refine lv_acmp_eq (rx := some (z 2)) (ry := some (z 2)) (tgt := 45) hx hb dJx4a65c_grow_92f84_17 (by decide) (fun c_17 => ?_) (fun c_17 => absurd rfl c_17)
    refine lv_aload_n hx hb dJx4a65c_grow_92f84_45 rfl (lv_at hl 1 rfl) ?_
    refine z_bipush hx hb dJx4a65c_grow_92f84_46 (by decide) ?_
    refine lv_iload_n hx hb dJx4a65c_grow_92f84_48 rfl (lv_at hl 2 rfl) ?_
    refine z_mmax hx hb (by rw [hml]; exact hl.1.symm) hown (hts (.methodLink RJx4a65c 79 Lib.Math.max.name) (by decide +kernel)) (hts (.static Lib.Math.max.name) (by decide +kernel)) (hts (.initialized "java/lang/Math") (by decide +kernel)) (hts _ (List.mem_of_getElem? (i := 6) rfl)) (Nat.le_of_ble_eq_true rfl) (Nat.le_of_ble_eq_true rfl) (Nat.zero_le _) (Nat.zero_le _) dJx4a65c_grow_92f84_49 (by omega) (by omega) ?_
    refine g_newq_aO (n := 10) hx hb hown (hts (.classLink RJx4a65c 7 "java/lang/Object") (by decide +kernel)) hg.2.2.2.2.2.2.2.2.2.2.2.1 hK hW hS hg.2.1 (by omega) (by omega) (show 0 + 1 ≤ 1 by omega) (show 0 + (10 : Int).toNat ≤ 10 by omega) dJx4a65c_grow_92f84_52 99 0 (fun q H hW hS => ?_)
    have he : (e2 en 99 0 (some (q, aO dA (10) (fun _ => none)))) 1 li = some (a, .inr (1, [.int (iZ (mo)), .ref (z 2), .int (iZ (0))])) := (e2_k (by decide)).trans he
    have hq : (e2 en 99 0 (some (q, aO dA (10) (fun _ => none)))) 99 0 = some (q, aO dA (10) (fun _ => none)) := e2_s _ _ _ _
    refine lv_dup_x1 hx hb dJx4a65c_grow_92f84_55 rfl rfl ?_
    refine g_put (C := RJx4a65c) (T := TJx4a65c) (N := 3) (ci := 1) (ty := .array (.object "java/lang/Object")) (v := .ref q) (fs' := [.int (iZ (mo)), .ref q, .int (iZ (0))]) hx hb hts hi1 tyJx4a65c tyJx4a65c_ok nmJx4a65c hown hK hW hS he rfl 1 (by decide) (hts (.fieldLink RJx4a65c 9 "java/util/ArrayList" "elementData" "[Ljava/lang/Object;") (by decide +kernel)) (fun _ h9 => h9) rfl (by decide +kernel) rfl rfl (Nat.le_of_ble_eq_true rfl) dJx4a65c_grow_92f84_56 rfl (fun H locs hW hS => ?_)
    have hq : (e2 (e2 en 99 0 (some (q, aO dA (10) (fun _ => none)))) 1 li (some (a, .inr (1, [.int (iZ (mo)), .ref q, .int (iZ (0))])))) 99 0 = some (q, aO dA (10) (fun _ => none)) := (e2_k (by decide)).trans hq
    have he : (e2 (e2 en 99 0 (some (q, aO dA (10) (fun _ => none)))) 1 li (some (a, .inr (1, [.int (iZ (mo)), .ref q, .int (iZ (0))])))) 1 li = some (a, .inr (1, [.int (iZ (mo)), .ref q, .int (iZ (0))])) := e2_s _ _ _ _
    refine W.widen (k := 1) (n := 10) (by omega) (by omega) ?_
    exact W.aret hx hb hr (Or.inr ⟨_, rfl⟩) (Or.inr ⟨_, rfl⟩) (fun t9 ht hw => ⟨⟨(), _, rfl, trivial, by show Wd _ _ _ t9.heap; rw [ht]; exact hW⟩, hS.F ht⟩) hS.2.2 dJx4a65c_grow_92f84_59
set_option maxHeartbeats 4000000 in
set_option maxRecDepth 100000 in
theorem c_AL_grA (l : Launch) (D : va_G) (dA : Nat → ClassId) (z : Nat → Nat) (en : en_T) (li : Int) (a ar : Nat) (mo n : Int) (F : Int → Option Nat) (h0 : 2 ≤ n) (h1 : n ≤ 50000) (hFn : ∀ j : Int, ¬ (0 ≤ j ∧ j < n) → F j = none) (he : en 1 li = some (a, .inr (1, [.int (iZ (mo)), .ref ar, .int (iZ (n))]))) (ha : en 2 li = some (ar, aO dA n F)) (hF : ∀ (j : Int) (y : Nat), F j = some y → ∃ (k : Nat) (i : Int) (ci : Nat) (fs : List Value), en k i = some (y, .inr (ci, fs)) ∧ (ci = 2 ∨ ci = 4) ∧ k ≠ 99) : Met l yJx4a65c_grow_d5877 wsJx4a65c_grow_d5877 ({ frames := 4, cells := 1, slots := (lcap n).toNat, locals := 107 }) (gP D dA z en [.ref a]) (va_Qr (fun _ : Unit => True) (fun _ r9 t9 => Wd D (z 0) (e2 (e2 en 99 0 (some (r9, aO dA (lcap n) F))) 1 li (some (a, .inr (1, [.int (iZ (mo)), .ref r9, .int (iZ (n))])))) t9.heap) (fun q => z 0 ≤ q)) (1) ((lcap n).toNat) (fun q => z 0 ≤ q) := by
  refine gMet (own := RJx4a65c) (cc := cJx4a65c_grow_d5877) (maxL := 1) (ret := (some (.array (.object "java/lang/Object")))) (by decide) rfl rfl (Nat.le_of_ble_eq_true rfl) ?_
  intro p e s m below meth c hx hb hml hown hts hr hlocks hnm hg hW ls hl
  have hK := hg.1
  have hS : va_S (fun q => z 0 ≤ q) s.heap s.heap [] := va_S.rf
  have hi1 : ∀ w ∈ u_ws RJx4a65c TJx4a65c 3, w ∈ wsJx4a65c_grow_d5877 := by decide +kernel
  have hl : lv_has ls 1 [(0, .ref a)] := hl
  refine lv_aload_n hx hb dJx4a65c_grow_d5877_0 rfl (lv_at hl 0 rfl) ?_
  refine lv_aload_n hx hb dJx4a65c_grow_d5877_1 rfl (lv_at hl 0 rfl) ?_
  refine g_get (C := RJx4a65c) (T := TJx4a65c) (N := 3) (ci := 1) (v := .int (iZ (n))) hx hb hts hi1 hown hK hW he rfl 2 (by decide) (hts (.fieldLink RJx4a65c 48 "java/util/ArrayList" "size" "I") (by decide +kernel)) (fun _ h9 => h9) rfl dJx4a65c_grow_d5877_2 ?_
  refine z_iconst hx hb dJx4a65c_grow_d5877_5 ?_
  refine z_iadd hx hb dJx4a65c_grow_d5877_6 ?_
  refine va_callr (va_runV (As := [.int (iZ (n + 1))]) (rest := []) ⟨hx, hb, hml, hown, hts⟩ (c_AL_growA l D dA z en li a ar mo n F h0 h1 hFn he ha hF) (cwV 1 hts gJx4a65c_grow_d5877_Jx4a65c_grow_92f84 rfl rfl rfl (by decide +kernel) ⟨Nat.le_of_ble_eq_true rfl, Nat.le_of_ble_eq_true rfl⟩) ⟨gBl, gRecv hK hW (ci := 1) rfl he, gPre _ hg hS hW⟩ rfl rfl hl.1 rfl (lv_room (Nat.le_of_ble_eq_true rfl)) dJx4a65c_grow_d5877_7 ⟨(show 0 + 1 ≤ 1 by omega), (show 0 + ((lcap n).toNat) ≤ (lcap n).toNat by omega)⟩) hS (fun _ _ h => h) (fun _ h => h) (fun u9 r9 t9 H locs ht9 hvm9 hw9 hB9 hz9 hk9 hS => ?_)
  have hW : Wd D (z 0) (e2 (e2 en 99 0 (some (r9, aO dA (lcap n) F))) 1 li (some (a, .inr (1, [.int (iZ (mo)), .ref r9, .int (iZ (n))])))) H := by rw [← ht9]; exact hB9
  refine W.widen (k := 1) (n := (lcap n).toNat) (by omega) (by omega) ?_
  exact W.aret hx hb hr (Or.inr ⟨_, rfl⟩) (Or.inr ⟨_, rfl⟩) (fun t9 ht hw => ⟨⟨(), _, rfl, trivial, by show Wd _ _ _ t9.heap; rw [ht]; exact hW⟩, hS.F ht⟩) hS.2.2 dJx4a65c_grow_d5877_10
set_option maxHeartbeats 4000000 in
set_option maxRecDepth 100000 in
theorem c_AL_gr0 (l : Launch) (D : va_G) (dA : Nat → ClassId) (z : Nat → Nat) (en : en_T) (li : Int) (a : Nat) (mo : Int) (he : en 1 li = some (a, .inr (1, [.int (iZ (mo)), .ref (z 2), .int (iZ (0))]))) : Met l yJx4a65c_grow_d5877 wsJx4a65c_grow_d5877 ({ frames := 2, cells := 1, slots := 10, locals := 44 }) (gP D dA z en [.ref a]) (va_Qr (fun _ : Unit => True) (fun _ r9 t9 => Wd D (z 0) (e2 (e2 en 99 0 (some (r9, aO dA (10) (fun _ => none)))) 1 li (some (a, .inr (1, [.int (iZ (mo)), .ref r9, .int (iZ (0))])))) t9.heap) (fun q => z 0 ≤ q)) (1) (10) (fun q => z 0 ≤ q) := by
  refine gMet (own := RJx4a65c) (cc := cJx4a65c_grow_d5877) (maxL := 1) (ret := (some (.array (.object "java/lang/Object")))) (by decide) rfl rfl (Nat.le_of_ble_eq_true rfl) ?_
  intro p e s m below meth c hx hb hml hown hts hr hlocks hnm hg hW ls hl
  have hK := hg.1
  have hS : va_S (fun q => z 0 ≤ q) s.heap s.heap [] := va_S.rf
  have hi1 : ∀ w ∈ u_ws RJx4a65c TJx4a65c 3, w ∈ wsJx4a65c_grow_d5877 := by decide +kernel
  have hl : lv_has ls 1 [(0, .ref a)] := hl
  refine lv_aload_n hx hb dJx4a65c_grow_d5877_0 rfl (lv_at hl 0 rfl) ?_
  refine lv_aload_n hx hb dJx4a65c_grow_d5877_1 rfl (lv_at hl 0 rfl) ?_
  refine g_get (C := RJx4a65c) (T := TJx4a65c) (N := 3) (ci := 1) (v := .int (iZ (0))) hx hb hts hi1 hown hK hW he rfl 2 (by decide) (hts (.fieldLink RJx4a65c 48 "java/util/ArrayList" "size" "I") (by decide +kernel)) (fun _ h9 => h9) rfl dJx4a65c_grow_d5877_2 ?_
  refine z_iconst hx hb dJx4a65c_grow_d5877_5 ?_
  refine z_iadd hx hb dJx4a65c_grow_d5877_6 ?_
  refine va_callr (va_runV (As := [.int (iZ (0 + 1))]) (rest := []) ⟨hx, hb, hml, hown, hts⟩ (c_AL_grow0 l D dA z en li a mo he) (cwV 1 hts gJx4a65c_grow_d5877_Jx4a65c_grow_92f84 rfl rfl rfl (by decide +kernel) ⟨Nat.le_of_ble_eq_true rfl, Nat.le_of_ble_eq_true rfl⟩) ⟨gBl, gRecv hK hW (ci := 1) rfl he, gPre _ hg hS hW⟩ rfl rfl hl.1 rfl (lv_room (Nat.le_of_ble_eq_true rfl)) dJx4a65c_grow_d5877_7 ⟨(show 0 + 1 ≤ 1 by omega), (show 0 + 10 ≤ 10 by omega)⟩) hS (fun _ _ h => h) (fun _ h => h) (fun u9 r9 t9 H locs ht9 hvm9 hw9 hB9 hz9 hk9 hS => ?_)
  have hW : Wd D (z 0) (e2 (e2 en 99 0 (some (r9, aO dA (10) (fun _ => none)))) 1 li (some (a, .inr (1, [.int (iZ (mo)), .ref r9, .int (iZ (0))])))) H := by rw [← ht9]; exact hB9
  refine W.widen (k := 1) (n := 10) (by omega) (by omega) ?_
  exact W.aret hx hb hr (Or.inr ⟨_, rfl⟩) (Or.inr ⟨_, rfl⟩) (fun t9 ht hw => ⟨⟨(), _, rfl, trivial, by show Wd _ _ _ t9.heap; rw [ht]; exact hW⟩, hS.F ht⟩) hS.2.2 dJx4a65c_grow_d5877_10
set_option maxHeartbeats 4000000 in
set_option maxRecDepth 100000 in
theorem c_AL_pR (l : Launch) (D : va_G) (dA : Nat → ClassId) (z : Nat → Nat) (en : en_T) (li : Int) (a ar : Nat) (mo n : Int) (cap : Int) (F : Int → Option Nat) (h0 : 0 ≤ n) (h1 : n < cap) (hc : iB cap) (he : en 1 li = some (a, .inr (1, [.int (iZ (mo)), .ref ar, .int (iZ (n))]))) (ha : en 2 li = some (ar, aO dA cap F)) (y ky cy : Nat) (iy : Int) (fy : List Value) (hcy : cy = 2 ∨ cy = 4) (hk1 : ky ≠ 1) (hk2 : ky ≠ 2) (hkN : ky ≠ 99) (hy : en ky iy = some (y, .inr (cy, fy))) : Met l yJx4a65c_add_72be8 wsJx4a65c_add_72be8 ({ frames := 0, cells := 0, slots := 0, locals := 0 }) (gP D dA z en [.ref a, .ref y, .ref ar, .int (iZ (n))]) (va_Qv (fun _ : Unit => True) (fun _ t9 => Wd D (z 0) (e2 (e2 en 2 li (some (ar, aO dA (cap) (uF (F) (n) (some y))))) 1 li (some (a, .inr (1, [.int (iZ (mo)), .ref ar, .int (iZ (n + 1))])))) t9.heap) (fun q => z 0 ≤ q)) (0) (0) (fun q => z 0 ≤ q) := by
  refine gMet (own := RJx4a65c) (cc := cJx4a65c_add_72be8) (maxL := 4) (ret := none) (by decide) rfl rfl (Nat.le_of_ble_eq_true rfl) ?_
  intro p e s m below meth c hx hb hml hown hts hr hlocks hnm hg hW ls hl
  have hK := hg.1
  have hS : va_S (fun q => z 0 ≤ q) s.heap s.heap [] := va_S.rf
  have hi1 : ∀ w ∈ u_ws RJx4a65c TJx4a65c 3, w ∈ wsJx4a65c_add_72be8 := by decide +kernel
  have hl : lv_has ls 4 [(0, .ref a), (1, .ref y), (2, .ref ar), (3, .int (iZ (n)))] := hl
  refine lv_iload_n hx hb dJx4a65c_add_72be8_0 rfl (lv_at hl 3 rfl) ?_
  refine lv_aload_n hx hb dJx4a65c_add_72be8_1 rfl (lv_at hl 2 rfl) ?_
  refine g_len_aO hx hb hK hW ha (by omega) dJx4a65c_add_72be8_2 ?_
  refine z_icmp_ne (tgt := 11) hx hb dJx4a65c_add_72be8_3 (by decide) (by omega) (by omega) (fun c_3 => ?_) (fun c_3 => ?_)
  · refine lv_aload_n hx hb dJx4a65c_add_72be8_11 rfl (lv_at hl 2 rfl) ?_
    refine lv_iload_n hx hb dJx4a65c_add_72be8_12 rfl (lv_at hl 3 rfl) ?_
    refine lv_aload_n hx hb dJx4a65c_add_72be8_13 rfl (lv_at hl 1 rfl) ?_
    refine g_ast_el hx hb hg hW hS ha hy hcy (by omega) (by omega) (by omega) dJx4a65c_add_72be8_14 (fun H locs hW hS => ?_)
    have he : (e2 en 2 li (some (ar, aO dA (cap) (uF (F) (n) (some y))))) 1 li = some (a, .inr (1, [.int (iZ (mo)), .ref ar, .int (iZ (n))])) := (e2_k (by decide)).trans he
    have ha : (e2 en 2 li (some (ar, aO dA (cap) (uF (F) (n) (some y))))) 2 li = some (ar, aO dA (cap) (uF (F) (n) (some y))) := e2_s _ _ _ _
    refine lv_aload_n hx hb dJx4a65c_add_72be8_15 rfl (lv_at hl 0 rfl) ?_
    refine lv_iload_n hx hb dJx4a65c_add_72be8_16 rfl (lv_at hl 3 rfl) ?_
    refine z_iconst hx hb dJx4a65c_add_72be8_17 ?_
    refine z_iadd hx hb dJx4a65c_add_72be8_18 ?_
    refine g_put (C := RJx4a65c) (T := TJx4a65c) (N := 3) (ci := 1) (ty := .int) (v := .int (iZ (n + 1))) (fs' := [.int (iZ (mo)), .ref ar, .int (iZ (n + 1))]) hx hb hts hi1 tyJx4a65c tyJx4a65c_ok nmJx4a65c hown hK hW hS he rfl 2 (by decide) (hts (.fieldLink RJx4a65c 48 "java/util/ArrayList" "size" "I") (by decide +kernel)) (fun _ h9 => h9) rfl (by decide +kernel) rfl rfl (Nat.le_of_ble_eq_true rfl) dJx4a65c_add_72be8_19 rfl (fun H locs hW hS => ?_)
    have ha : (e2 (e2 en 2 li (some (ar, aO dA (cap) (uF (F) (n) (some y))))) 1 li (some (a, .inr (1, [.int (iZ (mo)), .ref ar, .int (iZ (n + 1))])))) 2 li = some (ar, aO dA (cap) (uF (F) (n) (some y))) := (e2_k (by decide)).trans ha
    have he : (e2 (e2 en 2 li (some (ar, aO dA (cap) (uF (F) (n) (some y))))) 1 li (some (a, .inr (1, [.int (iZ (mo)), .ref ar, .int (iZ (n + 1))])))) 1 li = some (a, .inr (1, [.int (iZ (mo)), .ref ar, .int (iZ (n + 1))])) := e2_s _ _ _ _
    exact W.vret hx hb hr (fun t ht hw => ⟨⟨(), rfl, trivial, by show Wd _ _ _ t.heap; rw [ht]; exact hW⟩, hS.F ht⟩) hS.2.2 dJx4a65c_add_72be8_22
  · exact absurd c_3 (by omega)
set_option maxHeartbeats 4000000 in
set_option maxRecDepth 100000 in
theorem c_AL_pA (l : Launch) (D : va_G) (dA : Nat → ClassId) (z : Nat → Nat) (en : en_T) (li : Int) (a ar : Nat) (mo n : Int) (F : Int → Option Nat) (h0 : 2 ≤ n) (h1 : n ≤ 50000) (hFn : ∀ j : Int, ¬ (0 ≤ j ∧ j < n) → F j = none) (he : en 1 li = some (a, .inr (1, [.int (iZ (mo)), .ref ar, .int (iZ (n))]))) (ha : en 2 li = some (ar, aO dA n F)) (hF : ∀ (j : Int) (y : Nat), F j = some y → ∃ (k : Nat) (i : Int) (ci : Nat) (fs : List Value), en k i = some (y, .inr (ci, fs)) ∧ (ci = 2 ∨ ci = 4) ∧ k ≠ 99) (y ky cy : Nat) (iy : Int) (fy : List Value) (hcy : cy = 2 ∨ cy = 4) (hk1 : ky ≠ 1) (hk2 : ky ≠ 2) (hkN : ky ≠ 99) (hy : en ky iy = some (y, .inr (cy, fy))) : Met l yJx4a65c_add_72be8 wsJx4a65c_add_72be8 ({ frames := 5, cells := 1, slots := (lcap n).toNat, locals := 127 }) (gP D dA z en [.ref a, .ref y, .ref ar, .int (iZ (n))]) (va_Qv (fun _ : Nat => True) (fun q t9 => Wd D (z 0) (e2 (e2 (e2 (e2 en 99 0 (some (q, aO dA (lcap n) (F)))) 1 li (some (a, .inr (1, [.int (iZ (mo)), .ref q, .int (iZ (n))])))) 99 0 (some (q, aO dA (lcap n) (uF (F) (n) (some y))))) 1 li (some (a, .inr (1, [.int (iZ (mo)), .ref q, .int (iZ (n + 1))])))) t9.heap) (fun q => z 0 ≤ q)) (1) ((lcap n).toNat) (fun q => z 0 ≤ q) := by
  refine gMet (own := RJx4a65c) (cc := cJx4a65c_add_72be8) (maxL := 4) (ret := none) (by decide) rfl rfl (Nat.le_of_ble_eq_true rfl) ?_
  intro p e s m below meth c hx hb hml hown hts hr hlocks hnm hg hW ls hl
  have hK := hg.1
  have hS : va_S (fun q => z 0 ≤ q) s.heap s.heap [] := va_S.rf
  have hi1 : ∀ w ∈ u_ws RJx4a65c TJx4a65c 3, w ∈ wsJx4a65c_add_72be8 := by decide +kernel
  have hl : lv_has ls 4 [(0, .ref a), (1, .ref y), (2, .ref ar), (3, .int (iZ (n)))] := hl
  refine lv_iload_n hx hb dJx4a65c_add_72be8_0 rfl (lv_at hl 3 rfl) ?_
  refine lv_aload_n hx hb dJx4a65c_add_72be8_1 rfl (lv_at hl 2 rfl) ?_
  refine g_len_aO hx hb hK hW ha (by omega) dJx4a65c_add_72be8_2 ?_
  refine z_icmp_ne (tgt := 11) hx hb dJx4a65c_add_72be8_3 (by decide) (by omega) (by omega) (fun c_3 => ?_) (fun c_3 => ?_)
  · exact absurd c_3 (by omega)
  · refine lv_aload_n hx hb dJx4a65c_add_72be8_6 rfl (lv_at hl 0 rfl) ?_
    refine va_callr (va_runV (As := []) (rest := []) ⟨hx, hb, hml, hown, hts⟩ (c_AL_grA l D dA z en li a ar mo n F h0 h1 hFn he ha hF) (cwV 0 hts gJx4a65c_add_72be8_Jx4a65c_grow_d5877 rfl rfl rfl (by decide +kernel) ⟨Nat.le_of_ble_eq_true rfl, Nat.le_of_ble_eq_true rfl⟩) ⟨gBl, gRecv hK hW (ci := 1) rfl he, gPre _ hg hS hW⟩ rfl rfl hl.1 rfl (lv_room (Nat.le_of_ble_eq_true rfl)) dJx4a65c_add_72be8_7 ⟨(show 0 + 1 ≤ 1 by omega), (show 0 + ((lcap n).toNat) ≤ (lcap n).toNat by omega)⟩) hS (fun _ _ h => h) (fun _ h => h) (fun u9 r9 t9 H locs ht9 hvm9 hw9 hB9 hz9 hk9 hS => ?_)
    obtain ⟨q, hq9⟩ : ∃ x : Nat, x = r9 := ⟨_, rfl⟩
    subst hq9
    have hW : Wd D (z 0) (e2 (e2 en 99 0 (some (q, aO dA (lcap n) (F)))) 1 li (some (a, .inr (1, [.int (iZ (mo)), .ref q, .int (iZ (n))])))) H := by rw [← ht9]; exact hB9
    have he : (e2 (e2 en 99 0 (some (q, aO dA (lcap n) (F)))) 1 li (some (a, .inr (1, [.int (iZ (mo)), .ref q, .int (iZ (n))])))) 1 li = some (a, .inr (1, [.int (iZ (mo)), .ref q, .int (iZ (n))])) := e2_s _ _ _ _
    have hq : (e2 (e2 en 99 0 (some (q, aO dA (lcap n) (F)))) 1 li (some (a, .inr (1, [.int (iZ (mo)), .ref q, .int (iZ (n))])))) 99 0 = some (q, aO dA (lcap n) (F)) := (e2_k (by decide)).trans (e2_s _ _ _ _)
    have hy : (e2 (e2 en 99 0 (some (q, aO dA (lcap n) (F)))) 1 li (some (a, .inr (1, [.int (iZ (mo)), .ref q, .int (iZ (n))])))) ky iy = some (y, .inr (cy, fy)) := (e2_k hk1).trans ((e2_k hkN).trans hy)
    refine lv_astore_n (lv' := [(2, .ref q), (0, .ref a), (1, .ref y), (3, .int (iZ (n)))]) hx hb dJx4a65c_add_72be8_10 rfl hl (by decide) rfl (fun ls hl => ?_)
    refine lv_aload_n hx hb dJx4a65c_add_72be8_11 rfl (lv_at hl 0 rfl) ?_
    refine lv_iload_n hx hb dJx4a65c_add_72be8_12 rfl (lv_at hl 3 rfl) ?_
    refine lv_aload_n hx hb dJx4a65c_add_72be8_13 rfl (lv_at hl 2 rfl) ?_
    have hlb := lc_pos (cap := n) (by omega)
    refine g_ast_el hx hb hg hW hS hq hy hcy (by omega) (by omega) (by omega) dJx4a65c_add_72be8_14 (fun H locs hW hS => ?_)
    have he : (e2 (e2 (e2 en 99 0 (some (q, aO dA (lcap n) (F)))) 1 li (some (a, .inr (1, [.int (iZ (mo)), .ref q, .int (iZ (n))])))) 99 0 (some (q, aO dA (lcap n) (uF (F) (n) (some y))))) 1 li = some (a, .inr (1, [.int (iZ (mo)), .ref q, .int (iZ (n))])) := (e2_k (by decide)).trans he
    have hq : (e2 (e2 (e2 en 99 0 (some (q, aO dA (lcap n) (F)))) 1 li (some (a, .inr (1, [.int (iZ (mo)), .ref q, .int (iZ (n))])))) 99 0 (some (q, aO dA (lcap n) (uF (F) (n) (some y))))) 99 0 = some (q, aO dA (lcap n) (uF (F) (n) (some y))) := e2_s _ _ _ _
    refine lv_aload_n hx hb dJx4a65c_add_72be8_15 rfl (lv_at hl 1 rfl) ?_
    refine lv_iload_n hx hb dJx4a65c_add_72be8_16 rfl (lv_at hl 3 rfl) ?_
    refine z_iconst hx hb dJx4a65c_add_72be8_17 ?_
    refine z_iadd hx hb dJx4a65c_add_72be8_18 ?_
    refine g_put (C := RJx4a65c) (T := TJx4a65c) (N := 3) (ci := 1) (ty := .int) (v := .int (iZ (n + 1))) (fs' := [.int (iZ (mo)), .ref q, .int (iZ (n + 1))]) hx hb hts hi1 tyJx4a65c tyJx4a65c_ok nmJx4a65c hown hK hW hS he rfl 2 (by decide) (hts (.fieldLink RJx4a65c 48 "java/util/ArrayList" "size" "I") (by decide +kernel)) (fun _ h9 => h9) rfl (by decide +kernel) rfl rfl (Nat.le_of_ble_eq_true rfl) dJx4a65c_add_72be8_19 rfl (fun H locs hW hS => ?_)
    have hq : (e2 (e2 (e2 (e2 en 99 0 (some (q, aO dA (lcap n) (F)))) 1 li (some (a, .inr (1, [.int (iZ (mo)), .ref q, .int (iZ (n))])))) 99 0 (some (q, aO dA (lcap n) (uF (F) (n) (some y))))) 1 li (some (a, .inr (1, [.int (iZ (mo)), .ref q, .int (iZ (n + 1))])))) 99 0 = some (q, aO dA (lcap n) (uF (F) (n) (some y))) := (e2_k (by decide)).trans hq
    have he : (e2 (e2 (e2 (e2 en 99 0 (some (q, aO dA (lcap n) (F)))) 1 li (some (a, .inr (1, [.int (iZ (mo)), .ref q, .int (iZ (n))])))) 99 0 (some (q, aO dA (lcap n) (uF (F) (n) (some y))))) 1 li (some (a, .inr (1, [.int (iZ (mo)), .ref q, .int (iZ (n + 1))])))) 1 li = some (a, .inr (1, [.int (iZ (mo)), .ref q, .int (iZ (n + 1))])) := e2_s _ _ _ _
    refine W.widen (k := 1) (n := (lcap n).toNat) (by omega) (by omega) ?_
    exact W.vret hx hb hr (fun t ht hw => ⟨⟨q, rfl, trivial, by show Wd _ _ _ t.heap; rw [ht]; exact hW⟩, hS.F ht⟩) hS.2.2 dJx4a65c_add_72be8_22
set_option maxHeartbeats 4000000 in
set_option maxRecDepth 100000 in
theorem c_AL_p0 (l : Launch) (D : va_G) (dA : Nat → ClassId) (z : Nat → Nat) (en : en_T) (li : Int) (a : Nat) (mo : Int) (he : en 1 li = some (a, .inr (1, [.int (iZ (mo)), .ref (z 2), .int (iZ (0))]))) (y ky cy : Nat) (iy : Int) (fy : List Value) (hcy : cy = 2 ∨ cy = 4) (hk1 : ky ≠ 1) (hk2 : ky ≠ 2) (hkN : ky ≠ 99) (hy : en ky iy = some (y, .inr (cy, fy))) : Met l yJx4a65c_add_72be8 wsJx4a65c_add_72be8 ({ frames := 3, cells := 1, slots := 10, locals := 64 }) (gP D dA z en [.ref a, .ref y, .ref (z 2), .int (iZ (0))]) (va_Qv (fun _ : Nat => True) (fun q t9 => Wd D (z 0) (e2 (e2 (e2 (e2 en 99 0 (some (q, aO dA (10) (fun _ => none)))) 1 li (some (a, .inr (1, [.int (iZ (mo)), .ref q, .int (iZ (0))])))) 99 0 (some (q, aO dA (10) (uF (fun _ => none) (0) (some y))))) 1 li (some (a, .inr (1, [.int (iZ (mo)), .ref q, .int (iZ (0 + 1))])))) t9.heap) (fun q => z 0 ≤ q)) (1) (10) (fun q => z 0 ≤ q) := by
  refine gMet (own := RJx4a65c) (cc := cJx4a65c_add_72be8) (maxL := 4) (ret := none) (by decide) rfl rfl (Nat.le_of_ble_eq_true rfl) ?_
  intro p e s m below meth c hx hb hml hown hts hr hlocks hnm hg hW ls hl
  have hK := hg.1
  have hS : va_S (fun q => z 0 ≤ q) s.heap s.heap [] := va_S.rf
  have hi1 : ∀ w ∈ u_ws RJx4a65c TJx4a65c 3, w ∈ wsJx4a65c_add_72be8 := by decide +kernel
  have hl : lv_has ls 4 [(0, .ref a), (1, .ref y), (2, .ref (z 2)), (3, .int (iZ (0)))] := hl
  refine lv_iload_n hx hb dJx4a65c_add_72be8_0 rfl (lv_at hl 3 rfl) ?_
  refine lv_aload_n hx hb dJx4a65c_add_72be8_1 rfl (lv_at hl 2 rfl) ?_
  refine va_tlen hx hb hg.2.2.1.2.2.2 hS (v := iZ 0) rfl dJx4a65c_add_72be8_2 ?_
  refine z_icmp_ne (tgt := 11) hx hb dJx4a65c_add_72be8_3 (by decide) (by omega) (by omega) (fun c_3 => ?_) (fun c_3 => ?_)
  · exact absurd c_3 (by omega)
  · refine lv_aload_n hx hb dJx4a65c_add_72be8_6 rfl (lv_at hl 0 rfl) ?_
    refine va_callr (va_runV (As := []) (rest := []) ⟨hx, hb, hml, hown, hts⟩ (c_AL_gr0 l D dA z en li a mo he) (cwV 0 hts gJx4a65c_add_72be8_Jx4a65c_grow_d5877 rfl rfl rfl (by decide +kernel) ⟨Nat.le_of_ble_eq_true rfl, Nat.le_of_ble_eq_true rfl⟩) ⟨gBl, gRecv hK hW (ci := 1) rfl he, gPre _ hg hS hW⟩ rfl rfl hl.1 rfl (lv_room (Nat.le_of_ble_eq_true rfl)) dJx4a65c_add_72be8_7 ⟨(show 0 + 1 ≤ 1 by omega), (show 0 + 10 ≤ 10 by omega)⟩) hS (fun _ _ h => h) (fun _ h => h) (fun u9 r9 t9 H locs ht9 hvm9 hw9 hB9 hz9 hk9 hS => ?_)
    obtain ⟨q, hq9⟩ : ∃ x : Nat, x = r9 := ⟨_, rfl⟩
    subst hq9
    have hW : Wd D (z 0) (e2 (e2 en 99 0 (some (q, aO dA (10) (fun _ => none)))) 1 li (some (a, .inr (1, [.int (iZ (mo)), .ref q, .int (iZ (0))])))) H := by rw [← ht9]; exact hB9
    have he : (e2 (e2 en 99 0 (some (q, aO dA (10) (fun _ => none)))) 1 li (some (a, .inr (1, [.int (iZ (mo)), .ref q, .int (iZ (0))])))) 1 li = some (a, .inr (1, [.int (iZ (mo)), .ref q, .int (iZ (0))])) := e2_s _ _ _ _
    have hq : (e2 (e2 en 99 0 (some (q, aO dA (10) (fun _ => none)))) 1 li (some (a, .inr (1, [.int (iZ (mo)), .ref q, .int (iZ (0))])))) 99 0 = some (q, aO dA (10) (fun _ => none)) := (e2_k (by decide)).trans (e2_s _ _ _ _)
    have hy : (e2 (e2 en 99 0 (some (q, aO dA (10) (fun _ => none)))) 1 li (some (a, .inr (1, [.int (iZ (mo)), .ref q, .int (iZ (0))])))) ky iy = some (y, .inr (cy, fy)) := (e2_k hk1).trans ((e2_k hkN).trans hy)
    refine lv_astore_n (lv' := [(2, .ref q), (0, .ref a), (1, .ref y), (3, .int (iZ (0)))]) hx hb dJx4a65c_add_72be8_10 rfl hl (by decide) rfl (fun ls hl => ?_)
    refine lv_aload_n hx hb dJx4a65c_add_72be8_11 rfl (lv_at hl 0 rfl) ?_
    refine lv_iload_n hx hb dJx4a65c_add_72be8_12 rfl (lv_at hl 3 rfl) ?_
    refine lv_aload_n hx hb dJx4a65c_add_72be8_13 rfl (lv_at hl 2 rfl) ?_
    refine g_ast_el hx hb hg hW hS hq hy hcy (by omega) (by omega) (by omega) dJx4a65c_add_72be8_14 (fun H locs hW hS => ?_)
    have he : (e2 (e2 (e2 en 99 0 (some (q, aO dA (10) (fun _ => none)))) 1 li (some (a, .inr (1, [.int (iZ (mo)), .ref q, .int (iZ (0))])))) 99 0 (some (q, aO dA (10) (uF (fun _ => none) (0) (some y))))) 1 li = some (a, .inr (1, [.int (iZ (mo)), .ref q, .int (iZ (0))])) := (e2_k (by decide)).trans he
    have hq : (e2 (e2 (e2 en 99 0 (some (q, aO dA (10) (fun _ => none)))) 1 li (some (a, .inr (1, [.int (iZ (mo)), .ref q, .int (iZ (0))])))) 99 0 (some (q, aO dA (10) (uF (fun _ => none) (0) (some y))))) 99 0 = some (q, aO dA (10) (uF (fun _ => none) (0) (some y))) := e2_s _ _ _ _
    refine lv_aload_n hx hb dJx4a65c_add_72be8_15 rfl (lv_at hl 1 rfl) ?_
    refine lv_iload_n hx hb dJx4a65c_add_72be8_16 rfl (lv_at hl 3 rfl) ?_
    refine z_iconst hx hb dJx4a65c_add_72be8_17 ?_
    refine z_iadd hx hb dJx4a65c_add_72be8_18 ?_
    refine g_put (C := RJx4a65c) (T := TJx4a65c) (N := 3) (ci := 1) (ty := .int) (v := .int (iZ (0 + 1))) (fs' := [.int (iZ (mo)), .ref q, .int (iZ (0 + 1))]) hx hb hts hi1 tyJx4a65c tyJx4a65c_ok nmJx4a65c hown hK hW hS he rfl 2 (by decide) (hts (.fieldLink RJx4a65c 48 "java/util/ArrayList" "size" "I") (by decide +kernel)) (fun _ h9 => h9) rfl (by decide +kernel) rfl rfl (Nat.le_of_ble_eq_true rfl) dJx4a65c_add_72be8_19 rfl (fun H locs hW hS => ?_)
    have hq : (e2 (e2 (e2 (e2 en 99 0 (some (q, aO dA (10) (fun _ => none)))) 1 li (some (a, .inr (1, [.int (iZ (mo)), .ref q, .int (iZ (0))])))) 99 0 (some (q, aO dA (10) (uF (fun _ => none) (0) (some y))))) 1 li (some (a, .inr (1, [.int (iZ (mo)), .ref q, .int (iZ (0 + 1))])))) 99 0 = some (q, aO dA (10) (uF (fun _ => none) (0) (some y))) := (e2_k (by decide)).trans hq
    have he : (e2 (e2 (e2 (e2 en 99 0 (some (q, aO dA (10) (fun _ => none)))) 1 li (some (a, .inr (1, [.int (iZ (mo)), .ref q, .int (iZ (0))])))) 99 0 (some (q, aO dA (10) (uF (fun _ => none) (0) (some y))))) 1 li (some (a, .inr (1, [.int (iZ (mo)), .ref q, .int (iZ (0 + 1))])))) 1 li = some (a, .inr (1, [.int (iZ (mo)), .ref q, .int (iZ (0 + 1))])) := e2_s _ _ _ _
    refine W.widen (k := 1) (n := 10) (by omega) (by omega) ?_
    exact W.vret hx hb hr (fun t ht hw => ⟨⟨q, rfl, trivial, by show Wd _ _ _ t.heap; rw [ht]; exact hW⟩, hS.F ht⟩) hS.2.2 dJx4a65c_add_72be8_22
set_option maxHeartbeats 4000000 in
set_option maxRecDepth 100000 in
theorem c_AL_aR (l : Launch) (D : va_G) (dA : Nat → ClassId) (z : Nat → Nat) (en : en_T) (li : Int) (a ar : Nat) (mo n : Int) (cap : Int) (F : Int → Option Nat) (h0 : 0 ≤ n) (h1 : n < cap) (hc : iB cap) (he : en 1 li = some (a, .inr (1, [.int (iZ (mo)), .ref ar, .int (iZ (n))]))) (ha : en 2 li = some (ar, aO dA cap F)) (y ky cy : Nat) (iy : Int) (fy : List Value) (hcy : cy = 2 ∨ cy = 4) (hk1 : ky ≠ 1) (hk2 : ky ≠ 2) (hkN : ky ≠ 99) (hy : en ky iy = some (y, .inr (cy, fy))) : Met l yJx4a65c_add_9ea2d wsJx4a65c_add_9ea2d ({ frames := 6, cells := 0, slots := 0, locals := 150 }) (gP D dA z en [.ref a, .ref y]) (va_Qi (fun (r : Int32) (u : en_T) => r = iZ 1 ∧ (∃ q : Nat, u 1 li = some (a, .inr (1, [.int (iZ (mo + 1)), .ref q, .int (iZ (n + 1))])) ∧ u 2 li = some (q, aO dA (cap) (uF (F) (n) (some y)))) ∧ ∀ (k : Nat) (i : Int), k ≠ 99 → ¬ (k = 1 ∧ i = li) → ¬ (k = 2 ∧ i = li) → u k i = en k i) (fun u t9 => Wd D (z 0) u t9.heap) (fun q => z 0 ≤ q)) (0) (0) (fun q => z 0 ≤ q) := by
  refine gMet (own := RJx4a65c) (cc := cJx4a65c_add_9ea2d) (maxL := 2) (ret := (some .boolean)) (by decide) rfl rfl (Nat.le_of_ble_eq_true rfl) ?_
  intro p e s m below meth c hx hb hml hown hts hr hlocks hnm hg hW ls hl
  have hK := hg.1
  have hS : va_S (fun q => z 0 ≤ q) s.heap s.heap [] := va_S.rf
  have hi1 : ∀ w ∈ u_ws RJx4a65c TJx4a65c 3, w ∈ wsJx4a65c_add_9ea2d := by decide +kernel
  have hl : lv_has ls 2 [(0, .ref a), (1, .ref y)] := hl
  refine lv_aload_n hx hb dJx4a65c_add_9ea2d_0 rfl (lv_at hl 0 rfl) ?_
  refine lv_dup hx hb dJx4a65c_add_9ea2d_1 rfl ?_
  refine g_get (C := RJx4a65c) (T := TJx4a65c) (N := 3) (ci := 1) (v := .int (iZ (mo))) hx hb hts hi1 hown hK hW he rfl 0 (by decide) (hts (.fieldLink RJx4a65c 63 "java/util/ArrayList" "modCount" "I") (by decide +kernel)) (u_same (hts (.sameField "java/util/ArrayList" "java/util/AbstractList" "modCount" "I") (by decide +kernel))) rfl dJx4a65c_add_9ea2d_2 ?_
  refine z_iconst hx hb dJx4a65c_add_9ea2d_5 ?_
  refine z_iadd hx hb dJx4a65c_add_9ea2d_6 ?_
  refine g_put (C := RJx4a65c) (T := TJx4a65c) (N := 3) (ci := 1) (ty := .int) (v := .int (iZ (mo + 1))) (fs' := [.int (iZ (mo + 1)), .ref ar, .int (iZ (n))]) hx hb hts hi1 tyJx4a65c tyJx4a65c_ok nmJx4a65c hown hK hW hS he rfl 0 (by decide) (hts (.fieldLink RJx4a65c 63 "java/util/ArrayList" "modCount" "I") (by decide +kernel)) (u_same (hts (.sameField "java/util/ArrayList" "java/util/AbstractList" "modCount" "I") (by decide +kernel))) rfl (by decide +kernel) rfl rfl (Nat.le_of_ble_eq_true rfl) dJx4a65c_add_9ea2d_7 rfl (fun H locs hW hS => ?_)
  have ha : (e2 en 1 li (some (a, .inr (1, [.int (iZ (mo + 1)), .ref ar, .int (iZ (n))])))) 2 li = some (ar, aO dA (cap) (F)) := (e2_k (by decide)).trans ha
  have he : (e2 en 1 li (some (a, .inr (1, [.int (iZ (mo + 1)), .ref ar, .int (iZ (n))])))) 1 li = some (a, .inr (1, [.int (iZ (mo + 1)), .ref ar, .int (iZ (n))])) := e2_s _ _ _ _
  refine lv_aload_n hx hb dJx4a65c_add_9ea2d_10 rfl (lv_at hl 0 rfl) ?_
  refine lv_aload_n hx hb dJx4a65c_add_9ea2d_11 rfl (lv_at hl 1 rfl) ?_
  refine lv_aload_n hx hb dJx4a65c_add_9ea2d_12 rfl (lv_at hl 0 rfl) ?_
  refine g_get (C := RJx4a65c) (T := TJx4a65c) (N := 3) (ci := 1) (v := .ref ar) hx hb hts hi1 hown hK hW he rfl 1 (by decide) (hts (.fieldLink RJx4a65c 9 "java/util/ArrayList" "elementData" "[Ljava/lang/Object;") (by decide +kernel)) (fun _ h9 => h9) rfl dJx4a65c_add_9ea2d_13 ?_
  refine lv_aload_n hx hb dJx4a65c_add_9ea2d_16 rfl (lv_at hl 0 rfl) ?_
  refine g_get (C := RJx4a65c) (T := TJx4a65c) (N := 3) (ci := 1) (v := .int (iZ (n))) hx hb hts hi1 hown hK hW he rfl 2 (by decide) (hts (.fieldLink RJx4a65c 48 "java/util/ArrayList" "size" "I") (by decide +kernel)) (fun _ h9 => h9) rfl dJx4a65c_add_9ea2d_17 ?_
  have hy1 : (e2 en 1 li (some (a, .inr (1, [.int (iZ (mo + 1)), .ref ar, .int (iZ (n))])))) ky iy = some (y, .inr (cy, fy)) := (e2_k hk1).trans hy
  refine va_callv (va_runV (As := [.ref y, .ref ar, .int (iZ (n))]) (rest := []) ⟨hx, hb, hml, hown, hts⟩ (c_AL_pR l D dA z (e2 en 1 li (some (a, .inr (1, [.int (iZ (mo + 1)), .ref ar, .int (iZ (n))])))) li a ar (mo + 1) n cap F h0 h1 hc he ha y ky cy iy fy hcy hk1 hk2 hkN hy1) (cwV 3 hts gJx4a65c_add_9ea2d_Jx4a65c_add_72be8 rfl rfl rfl (by decide +kernel) ⟨Nat.le_of_ble_eq_true rfl, Nat.le_of_ble_eq_true rfl⟩) ⟨gBl, gRecv hK hW (ci := 1) rfl he, gPre _ hg hS hW⟩ rfl rfl hl.1 rfl (lv_room (Nat.le_of_ble_eq_true rfl)) dJx4a65c_add_9ea2d_20 ⟨(show 0 + 0 ≤ 0 by omega), (show 0 + 0 ≤ 0 by omega)⟩) hS (fun _ _ h => h) (fun _ h => h) (fun u9 t9 H locs ht9 hvm9 hw9 hB9 hz9 hk9 hS => ?_)
  have hW : Wd D (z 0) (e2 (e2 (e2 en 1 li (some (a, .inr (1, [.int (iZ (mo + 1)), .ref ar, .int (iZ (n))])))) 2 li (some (ar, aO dA (cap) (uF (F) (n) (some y))))) 1 li (some (a, .inr (1, [.int (iZ (mo + 1)), .ref ar, .int (iZ (n + 1))])))) H := by rw [← ht9]; exact hB9
  refine z_iconst hx hb dJx4a65c_add_9ea2d_23 ?_
  obtain ⟨EN, hEN⟩ : ∃ x : en_T, x = (e2 (e2 (e2 en 1 li (some (a, .inr (1, [.int (iZ (mo + 1)), .ref ar, .int (iZ (n))])))) 2 li (some (ar, aO dA (cap) (uF (F) (n) (some y))))) 1 li (some (a, .inr (1, [.int (iZ (mo + 1)), .ref ar, .int (iZ (n + 1))])))) := ⟨_, rfl⟩
  rw [← hEN] at hW
  have g1 : EN 1 li = some (a, .inr (1, [.int (iZ (mo + 1)), .ref ar, .int (iZ (n + 1))])) := by rw [hEN]; simp [e2]
  have g2 : EN 2 li = some (ar, aO dA cap (uF (F) (n) (some y))) := by rw [hEN]; simp [e2]
  have g3 : ∀ (k : Nat) (i : Int), k ≠ 99 → ¬ (k = 1 ∧ i = li) → ¬ (k = 2 ∧ i = li) → EN k i = en k i := fun k i h1 h2 h3 => by rw [hEN]; simp only [e2, if_neg h2, if_neg h3, if_neg (fun w => h1 w.1 : ¬ (k = 99 ∧ i = 0))]
  exact W.zret hx hb hr (by decide) (fun t ht hw => ⟨⟨_, EN, rfl, ⟨rfl, ⟨ar, g1, g2⟩, g3⟩, by show Wd _ _ _ t.heap; rw [ht]; exact hW⟩, hS.F ht⟩) hS.2.2 dJx4a65c_add_9ea2d_24
set_option maxHeartbeats 4000000 in
set_option maxRecDepth 100000 in
theorem c_AL_aA (l : Launch) (D : va_G) (dA : Nat → ClassId) (z : Nat → Nat) (en : en_T) (li : Int) (a ar : Nat) (mo n : Int) (F : Int → Option Nat) (h0 : 2 ≤ n) (h1 : n ≤ 50000) (hFn : ∀ j : Int, ¬ (0 ≤ j ∧ j < n) → F j = none) (he : en 1 li = some (a, .inr (1, [.int (iZ (mo)), .ref ar, .int (iZ (n))]))) (ha : en 2 li = some (ar, aO dA n F)) (hF : ∀ (j : Int) (y : Nat), F j = some y → ∃ (k : Nat) (i : Int) (ci : Nat) (fs : List Value), en k i = some (y, .inr (ci, fs)) ∧ (ci = 2 ∨ ci = 4) ∧ k ≠ 99 ∧ k ≠ 1) (y ky cy : Nat) (iy : Int) (fy : List Value) (hcy : cy = 2 ∨ cy = 4) (hk1 : ky ≠ 1) (hk2 : ky ≠ 2) (hkN : ky ≠ 99) (hy : en ky iy = some (y, .inr (cy, fy))) : Met l yJx4a65c_add_9ea2d wsJx4a65c_add_9ea2d ({ frames := 6, cells := 1, slots := (lcap n).toNat, locals := 150 }) (gP D dA z en [.ref a, .ref y]) (va_Qi (fun (r : Int32) (u : en_T) => r = iZ 1 ∧ (∃ q : Nat, u 1 li = some (a, .inr (1, [.int (iZ (mo + 1)), .ref q, .int (iZ (n + 1))])) ∧ u 2 li = some (q, aO dA (lcap n) (uF (F) (n) (some y)))) ∧ ∀ (k : Nat) (i : Int), k ≠ 99 → ¬ (k = 1 ∧ i = li) → ¬ (k = 2 ∧ i = li) → u k i = en k i) (fun u t9 => Wd D (z 0) u t9.heap) (fun q => z 0 ≤ q)) (1) ((lcap n).toNat) (fun q => z 0 ≤ q) := by
  refine gMet (own := RJx4a65c) (cc := cJx4a65c_add_9ea2d) (maxL := 2) (ret := (some .boolean)) (by decide) rfl rfl (Nat.le_of_ble_eq_true rfl) ?_
  intro p e s m below meth c hx hb hml hown hts hr hlocks hnm hg hW ls hl
  have hK := hg.1
  have hS : va_S (fun q => z 0 ≤ q) s.heap s.heap [] := va_S.rf
  have hi1 : ∀ w ∈ u_ws RJx4a65c TJx4a65c 3, w ∈ wsJx4a65c_add_9ea2d := by decide +kernel
  have hl : lv_has ls 2 [(0, .ref a), (1, .ref y)] := hl
  refine lv_aload_n hx hb dJx4a65c_add_9ea2d_0 rfl (lv_at hl 0 rfl) ?_
  refine lv_dup hx hb dJx4a65c_add_9ea2d_1 rfl ?_
  refine g_get (C := RJx4a65c) (T := TJx4a65c) (N := 3) (ci := 1) (v := .int (iZ (mo))) hx hb hts hi1 hown hK hW he rfl 0 (by decide) (hts (.fieldLink RJx4a65c 63 "java/util/ArrayList" "modCount" "I") (by decide +kernel)) (u_same (hts (.sameField "java/util/ArrayList" "java/util/AbstractList" "modCount" "I") (by decide +kernel))) rfl dJx4a65c_add_9ea2d_2 ?_
  refine z_iconst hx hb dJx4a65c_add_9ea2d_5 ?_
  refine z_iadd hx hb dJx4a65c_add_9ea2d_6 ?_
  refine g_put (C := RJx4a65c) (T := TJx4a65c) (N := 3) (ci := 1) (ty := .int) (v := .int (iZ (mo + 1))) (fs' := [.int (iZ (mo + 1)), .ref ar, .int (iZ (n))]) hx hb hts hi1 tyJx4a65c tyJx4a65c_ok nmJx4a65c hown hK hW hS he rfl 0 (by decide) (hts (.fieldLink RJx4a65c 63 "java/util/ArrayList" "modCount" "I") (by decide +kernel)) (u_same (hts (.sameField "java/util/ArrayList" "java/util/AbstractList" "modCount" "I") (by decide +kernel))) rfl (by decide +kernel) rfl rfl (Nat.le_of_ble_eq_true rfl) dJx4a65c_add_9ea2d_7 rfl (fun H locs hW hS => ?_)
  have ha : (e2 en 1 li (some (a, .inr (1, [.int (iZ (mo + 1)), .ref ar, .int (iZ (n))])))) 2 li = some (ar, aO dA (n) (F)) := (e2_k (by decide)).trans ha
  have he : (e2 en 1 li (some (a, .inr (1, [.int (iZ (mo + 1)), .ref ar, .int (iZ (n))])))) 1 li = some (a, .inr (1, [.int (iZ (mo + 1)), .ref ar, .int (iZ (n))])) := e2_s _ _ _ _
  refine lv_aload_n hx hb dJx4a65c_add_9ea2d_10 rfl (lv_at hl 0 rfl) ?_
  refine lv_aload_n hx hb dJx4a65c_add_9ea2d_11 rfl (lv_at hl 1 rfl) ?_
  refine lv_aload_n hx hb dJx4a65c_add_9ea2d_12 rfl (lv_at hl 0 rfl) ?_
  refine g_get (C := RJx4a65c) (T := TJx4a65c) (N := 3) (ci := 1) (v := .ref ar) hx hb hts hi1 hown hK hW he rfl 1 (by decide) (hts (.fieldLink RJx4a65c 9 "java/util/ArrayList" "elementData" "[Ljava/lang/Object;") (by decide +kernel)) (fun _ h9 => h9) rfl dJx4a65c_add_9ea2d_13 ?_
  refine lv_aload_n hx hb dJx4a65c_add_9ea2d_16 rfl (lv_at hl 0 rfl) ?_
  refine g_get (C := RJx4a65c) (T := TJx4a65c) (N := 3) (ci := 1) (v := .int (iZ (n))) hx hb hts hi1 hown hK hW he rfl 2 (by decide) (hts (.fieldLink RJx4a65c 48 "java/util/ArrayList" "size" "I") (by decide +kernel)) (fun _ h9 => h9) rfl dJx4a65c_add_9ea2d_17 ?_
  have hy1 : (e2 en 1 li (some (a, .inr (1, [.int (iZ (mo + 1)), .ref ar, .int (iZ (n))])))) ky iy = some (y, .inr (cy, fy)) := (e2_k hk1).trans hy
  refine va_callv (va_runV (As := [.ref y, .ref ar, .int (iZ (n))]) (rest := []) ⟨hx, hb, hml, hown, hts⟩ (c_AL_pA l D dA z (e2 en 1 li (some (a, .inr (1, [.int (iZ (mo + 1)), .ref ar, .int (iZ (n))])))) li a ar (mo + 1) n F h0 h1 hFn he ha (fun j y hj => by obtain ⟨k, i, ci, fs, g1, g2, g3, g4⟩ := hF j y hj; exact ⟨k, i, ci, fs, (e2_k g4).trans g1, g2, g3⟩) y ky cy iy fy hcy hk1 hk2 hkN hy1) (cwV 3 hts gJx4a65c_add_9ea2d_Jx4a65c_add_72be8 rfl rfl rfl (by decide +kernel) ⟨Nat.le_of_ble_eq_true rfl, Nat.le_of_ble_eq_true rfl⟩) ⟨gBl, gRecv hK hW (ci := 1) rfl he, gPre _ hg hS hW⟩ rfl rfl hl.1 rfl (lv_room (Nat.le_of_ble_eq_true rfl)) dJx4a65c_add_9ea2d_20 ⟨(show 0 + 1 ≤ 1 by omega), (show 0 + ((lcap n).toNat) ≤ (lcap n).toNat by omega)⟩) hS (fun _ _ h => h) (fun _ h => h) (fun u9 t9 H locs ht9 hvm9 hw9 hB9 hz9 hk9 hS => ?_)
  obtain ⟨q, hq9⟩ : ∃ x : Nat, x = u9 := ⟨_, rfl⟩
  subst hq9
  have hW : Wd D (z 0) (e2 (e2 (e2 (e2 (e2 en 1 li (some (a, .inr (1, [.int (iZ (mo + 1)), .ref ar, .int (iZ (n))])))) 99 0 (some (q, aO dA (lcap n) (F)))) 1 li (some (a, .inr (1, [.int (iZ (mo + 1)), .ref q, .int (iZ (n))])))) 99 0 (some (q, aO dA (lcap n) (uF (F) (n) (some y))))) 1 li (some (a, .inr (1, [.int (iZ (mo + 1)), .ref q, .int (iZ (n + 1))])))) H := by rw [← ht9]; exact hB9
  refine z_iconst hx hb dJx4a65c_add_9ea2d_23 ?_
  have hq : (e2 (e2 (e2 (e2 (e2 en 1 li (some (a, .inr (1, [.int (iZ (mo + 1)), .ref ar, .int (iZ (n))])))) 99 0 (some (q, aO dA (lcap n) (F)))) 1 li (some (a, .inr (1, [.int (iZ (mo + 1)), .ref q, .int (iZ (n))])))) 99 0 (some (q, aO dA (lcap n) (uF (F) (n) (some y))))) 1 li (some (a, .inr (1, [.int (iZ (mo + 1)), .ref q, .int (iZ (n + 1))])))) 99 0 = some (q, aO dA (lcap n) (uF (F) (n) (some y))) := (e2_k (by decide)).trans (e2_s _ _ _ _)
  have hW := Wd.move hW 2 li hq
  refine W.widen (k := 1) (n := (lcap n).toNat) (by omega) (by omega) ?_
  obtain ⟨EN, hEN⟩ : ∃ x : en_T, x = (e2 (e2 (e2 (e2 (e2 (e2 (e2 en 1 li (some (a, .inr (1, [.int (iZ (mo + 1)), .ref ar, .int (iZ (n))])))) 99 0 (some (q, aO dA (lcap n) (F)))) 1 li (some (a, .inr (1, [.int (iZ (mo + 1)), .ref q, .int (iZ (n))])))) 99 0 (some (q, aO dA (lcap n) (uF (F) (n) (some y))))) 1 li (some (a, .inr (1, [.int (iZ (mo + 1)), .ref q, .int (iZ (n + 1))])))) 99 0 none) 2 li (some (q, aO dA (lcap n) (uF (F) (n) (some y))))) := ⟨_, rfl⟩
  rw [← hEN] at hW
  have g1 : EN 1 li = some (a, .inr (1, [.int (iZ (mo + 1)), .ref q, .int (iZ (n + 1))])) := by rw [hEN]; simp [e2]
  have g2 : EN 2 li = some (q, aO dA (lcap n) (uF (F) (n) (some y))) := by rw [hEN]; simp [e2]
  have g3 : ∀ (k : Nat) (i : Int), k ≠ 99 → ¬ (k = 1 ∧ i = li) → ¬ (k = 2 ∧ i = li) → EN k i = en k i := fun k i h1 h2 h3 => by rw [hEN]; simp only [e2, if_neg h2, if_neg h3, if_neg (fun w => h1 w.1 : ¬ (k = 99 ∧ i = 0))]
  exact W.zret hx hb hr (by decide) (fun t ht hw => ⟨⟨_, EN, rfl, ⟨rfl, ⟨q, g1, g2⟩, g3⟩, by show Wd _ _ _ t.heap; rw [ht]; exact hW⟩, hS.F ht⟩) hS.2.2 dJx4a65c_add_9ea2d_24
set_option maxHeartbeats 4000000 in
set_option maxRecDepth 100000 in
theorem c_AL_a0 (l : Launch) (D : va_G) (dA : Nat → ClassId) (z : Nat → Nat) (en : en_T) (li : Int) (a : Nat) (mo : Int) (he : en 1 li = some (a, .inr (1, [.int (iZ (mo)), .ref (z 2), .int (iZ (0))]))) (y ky cy : Nat) (iy : Int) (fy : List Value) (hcy : cy = 2 ∨ cy = 4) (hk1 : ky ≠ 1) (hk2 : ky ≠ 2) (hkN : ky ≠ 99) (hy : en ky iy = some (y, .inr (cy, fy))) : Met l yJx4a65c_add_9ea2d wsJx4a65c_add_9ea2d ({ frames := 6, cells := 1, slots := 10, locals := 150 }) (gP D dA z en [.ref a, .ref y]) (va_Qi (fun (r : Int32) (u : en_T) => r = iZ 1 ∧ (∃ q : Nat, u 1 li = some (a, .inr (1, [.int (iZ (mo + 1)), .ref q, .int (iZ (0 + 1))])) ∧ u 2 li = some (q, aO dA (10) (uF (fun _ => none) (0) (some y)))) ∧ ∀ (k : Nat) (i : Int), k ≠ 99 → ¬ (k = 1 ∧ i = li) → ¬ (k = 2 ∧ i = li) → u k i = en k i) (fun u t9 => Wd D (z 0) u t9.heap) (fun q => z 0 ≤ q)) (1) (10) (fun q => z 0 ≤ q) := by
  refine gMet (own := RJx4a65c) (cc := cJx4a65c_add_9ea2d) (maxL := 2) (ret := (some .boolean)) (by decide) rfl rfl (Nat.le_of_ble_eq_true rfl) ?_
  intro p e s m below meth c hx hb hml hown hts hr hlocks hnm hg hW ls hl
  have hK := hg.1
  have hS : va_S (fun q => z 0 ≤ q) s.heap s.heap [] := va_S.rf
  have hi1 : ∀ w ∈ u_ws RJx4a65c TJx4a65c 3, w ∈ wsJx4a65c_add_9ea2d := by decide +kernel
  have hl : lv_has ls 2 [(0, .ref a), (1, .ref y)] := hl
  refine lv_aload_n hx hb dJx4a65c_add_9ea2d_0 rfl (lv_at hl 0 rfl) ?_
  refine lv_dup hx hb dJx4a65c_add_9ea2d_1 rfl ?_
  refine g_get (C := RJx4a65c) (T := TJx4a65c) (N := 3) (ci := 1) (v := .int (iZ (mo))) hx hb hts hi1 hown hK hW he rfl 0 (by decide) (hts (.fieldLink RJx4a65c 63 "java/util/ArrayList" "modCount" "I") (by decide +kernel)) (u_same (hts (.sameField "java/util/ArrayList" "java/util/AbstractList" "modCount" "I") (by decide +kernel))) rfl dJx4a65c_add_9ea2d_2 ?_
  refine z_iconst hx hb dJx4a65c_add_9ea2d_5 ?_
  refine z_iadd hx hb dJx4a65c_add_9ea2d_6 ?_
  refine g_put (C := RJx4a65c) (T := TJx4a65c) (N := 3) (ci := 1) (ty := .int) (v := .int (iZ (mo + 1))) (fs' := [.int (iZ (mo + 1)), .ref (z 2), .int (iZ (0))]) hx hb hts hi1 tyJx4a65c tyJx4a65c_ok nmJx4a65c hown hK hW hS he rfl 0 (by decide) (hts (.fieldLink RJx4a65c 63 "java/util/ArrayList" "modCount" "I") (by decide +kernel)) (u_same (hts (.sameField "java/util/ArrayList" "java/util/AbstractList" "modCount" "I") (by decide +kernel))) rfl (by decide +kernel) rfl rfl (Nat.le_of_ble_eq_true rfl) dJx4a65c_add_9ea2d_7 rfl (fun H locs hW hS => ?_)
  have he : (e2 en 1 li (some (a, .inr (1, [.int (iZ (mo + 1)), .ref (z 2), .int (iZ (0))])))) 1 li = some (a, .inr (1, [.int (iZ (mo + 1)), .ref (z 2), .int (iZ (0))])) := e2_s _ _ _ _
  refine lv_aload_n hx hb dJx4a65c_add_9ea2d_10 rfl (lv_at hl 0 rfl) ?_
  refine lv_aload_n hx hb dJx4a65c_add_9ea2d_11 rfl (lv_at hl 1 rfl) ?_
  refine lv_aload_n hx hb dJx4a65c_add_9ea2d_12 rfl (lv_at hl 0 rfl) ?_
  refine g_get (C := RJx4a65c) (T := TJx4a65c) (N := 3) (ci := 1) (v := .ref (z 2)) hx hb hts hi1 hown hK hW he rfl 1 (by decide) (hts (.fieldLink RJx4a65c 9 "java/util/ArrayList" "elementData" "[Ljava/lang/Object;") (by decide +kernel)) (fun _ h9 => h9) rfl dJx4a65c_add_9ea2d_13 ?_
  refine lv_aload_n hx hb dJx4a65c_add_9ea2d_16 rfl (lv_at hl 0 rfl) ?_
  refine g_get (C := RJx4a65c) (T := TJx4a65c) (N := 3) (ci := 1) (v := .int (iZ (0))) hx hb hts hi1 hown hK hW he rfl 2 (by decide) (hts (.fieldLink RJx4a65c 48 "java/util/ArrayList" "size" "I") (by decide +kernel)) (fun _ h9 => h9) rfl dJx4a65c_add_9ea2d_17 ?_
  have hy1 : (e2 en 1 li (some (a, .inr (1, [.int (iZ (mo + 1)), .ref (z 2), .int (iZ (0))])))) ky iy = some (y, .inr (cy, fy)) := (e2_k hk1).trans hy
  refine va_callv (va_runV (As := [.ref y, .ref (z 2), .int (iZ (0))]) (rest := []) ⟨hx, hb, hml, hown, hts⟩ (c_AL_p0 l D dA z (e2 en 1 li (some (a, .inr (1, [.int (iZ (mo + 1)), .ref (z 2), .int (iZ (0))])))) li a (mo + 1) he y ky cy iy fy hcy hk1 hk2 hkN hy1) (cwV 3 hts gJx4a65c_add_9ea2d_Jx4a65c_add_72be8 rfl rfl rfl (by decide +kernel) ⟨Nat.le_of_ble_eq_true rfl, Nat.le_of_ble_eq_true rfl⟩) ⟨gBl, gRecv hK hW (ci := 1) rfl he, gPre _ hg hS hW⟩ rfl rfl hl.1 rfl (lv_room (Nat.le_of_ble_eq_true rfl)) dJx4a65c_add_9ea2d_20 ⟨(show 0 + 1 ≤ 1 by omega), (show 0 + 10 ≤ 10 by omega)⟩) hS (fun _ _ h => h) (fun _ h => h) (fun u9 t9 H locs ht9 hvm9 hw9 hB9 hz9 hk9 hS => ?_)
  obtain ⟨q, hq9⟩ : ∃ x : Nat, x = u9 := ⟨_, rfl⟩
  subst hq9
  have hW : Wd D (z 0) (e2 (e2 (e2 (e2 (e2 en 1 li (some (a, .inr (1, [.int (iZ (mo + 1)), .ref (z 2), .int (iZ (0))])))) 99 0 (some (q, aO dA (10) (fun _ => none)))) 1 li (some (a, .inr (1, [.int (iZ (mo + 1)), .ref q, .int (iZ (0))])))) 99 0 (some (q, aO dA (10) (uF (fun _ => none) (0) (some y))))) 1 li (some (a, .inr (1, [.int (iZ (mo + 1)), .ref q, .int (iZ (0 + 1))])))) H := by rw [← ht9]; exact hB9
  refine z_iconst hx hb dJx4a65c_add_9ea2d_23 ?_
  have hq : (e2 (e2 (e2 (e2 (e2 en 1 li (some (a, .inr (1, [.int (iZ (mo + 1)), .ref (z 2), .int (iZ (0))])))) 99 0 (some (q, aO dA (10) (fun _ => none)))) 1 li (some (a, .inr (1, [.int (iZ (mo + 1)), .ref q, .int (iZ (0))])))) 99 0 (some (q, aO dA (10) (uF (fun _ => none) (0) (some y))))) 1 li (some (a, .inr (1, [.int (iZ (mo + 1)), .ref q, .int (iZ (0 + 1))])))) 99 0 = some (q, aO dA (10) (uF (fun _ => none) (0) (some y))) := (e2_k (by decide)).trans (e2_s _ _ _ _)
  have hW := Wd.move hW 2 li hq
  refine W.widen (k := 1) (n := 10) (by omega) (by omega) ?_
  obtain ⟨EN, hEN⟩ : ∃ x : en_T, x = (e2 (e2 (e2 (e2 (e2 (e2 (e2 en 1 li (some (a, .inr (1, [.int (iZ (mo + 1)), .ref (z 2), .int (iZ (0))])))) 99 0 (some (q, aO dA (10) (fun _ => none)))) 1 li (some (a, .inr (1, [.int (iZ (mo + 1)), .ref q, .int (iZ (0))])))) 99 0 (some (q, aO dA (10) (uF (fun _ => none) (0) (some y))))) 1 li (some (a, .inr (1, [.int (iZ (mo + 1)), .ref q, .int (iZ (0 + 1))])))) 99 0 none) 2 li (some (q, aO dA (10) (uF (fun _ => none) (0) (some y))))) := ⟨_, rfl⟩
  rw [← hEN] at hW
  have g1 : EN 1 li = some (a, .inr (1, [.int (iZ (mo + 1)), .ref q, .int (iZ (0 + 1))])) := by rw [hEN]; simp [e2]
  have g2 : EN 2 li = some (q, aO dA (10) (uF (fun _ => none) (0) (some y))) := by rw [hEN]; simp [e2]
  have g3 : ∀ (k : Nat) (i : Int), k ≠ 99 → ¬ (k = 1 ∧ i = li) → ¬ (k = 2 ∧ i = li) → EN k i = en k i := fun k i h1 h2 h3 => by rw [hEN]; simp only [e2, if_neg h2, if_neg h3, if_neg (fun w => h1 w.1 : ¬ (k = 99 ∧ i = 0))]
  exact W.zret hx hb hr (by decide) (fun t ht hw => ⟨⟨_, EN, rfl, ⟨rfl, ⟨q, g1, g2⟩, g3⟩, by show Wd _ _ _ t.heap; rw [ht]; exact hW⟩, hS.F ht⟩) hS.2.2 dJx4a65c_add_9ea2d_24
set_option maxHeartbeats 4000000 in
set_option maxRecDepth 100000 in
theorem c_AC_init (l : Launch) (D : va_G) (dA : Nat → ClassId) (z : Nat → Nat) (en : en_T) (a : Nat) : Met l yJxa1e45_init_da8c8 wsJxa1e45_init_da8c8 ({ frames := 1, cells := 0, slots := 0, locals := 12 }) (gP D dA z en [.ref a]) (va_Qv (fun _ : Unit => True) (fun _ t9 => Wd D (z 0) en t9.heap) (fun q => z 0 ≤ q)) (0) (0) (fun q => z 0 ≤ q) := by
  refine gMet (own := RJxa1e45) (cc := cJxa1e45_init_da8c8) (maxL := 1) (ret := none) (by decide) rfl rfl (Nat.le_of_ble_eq_true rfl) ?_
  intro p e s m below meth c hx hb hml hown hts hr hlocks hnm hg hW ls hl
  have hK := hg.1
  have hS : va_S (fun q => z 0 ≤ q) s.heap s.heap [] := va_S.rf
  have hl : lv_has ls 1 [(0, .ref a)] := hl
  refine lv_aload_n hx hb dJxa1e45_init_da8c8_0 rfl (lv_at hl 0 rfl) ?_
  refine W.objInit hx hb hown (hts (.methodLink RJxa1e45 1 objectInit) (by decide +kernel)) (hts (.instanceMethod objectInit) (by decide +kernel)) (hts _ (List.mem_of_getElem? (i := 3) rfl)) rfl (by rw [hml]; exact hl.1) rfl dJxa1e45_init_da8c8_1 (Nat.le_of_ble_eq_true rfl) (Nat.le_of_ble_eq_true rfl) ?_
  refine W.eq (g2 := F0 m 4 ls []) rfl ?_
  exact W.vret hx hb hr (fun t ht hw => ⟨⟨(), rfl, trivial, by show Wd _ _ _ t.heap; rw [ht]; exact hW⟩, hS.F ht⟩) hS.2.2 dJxa1e45_init_da8c8_4
set_option maxHeartbeats 4000000 in
set_option maxRecDepth 100000 in
theorem c_Ab_init (l : Launch) (D : va_G) (dA : Nat → ClassId) (z : Nat → Nat) (en : en_T) (k : Nat) (i : Int) (a : Nat) (he : en k i = some (a, .inr (1, [.int (iZ (0)), .null, .int (iZ (0))]))) : Met l yJxc12de_init_da8c8 wsJxc12de_init_da8c8 ({ frames := 2, cells := 0, slots := 0, locals := 32 }) (gP D dA z en [.ref a]) (va_Qv (fun _ : Unit => True) (fun _ t9 => Wd D (z 0) (e2 en k i (some (a, .inr (1, [.int (iZ (0)), .null, .int (iZ (0))])))) t9.heap) (fun q => z 0 ≤ q)) (0) (0) (fun q => z 0 ≤ q) := by
  refine gMet (own := RJxc12de) (cc := cJxc12de_init_da8c8) (maxL := 1) (ret := none) (by decide) rfl rfl (Nat.le_of_ble_eq_true rfl) ?_
  intro p e s m below meth c hx hb hml hown hts hr hlocks hnm hg hW ls hl
  have hK := hg.1
  have hS : va_S (fun q => z 0 ≤ q) s.heap s.heap [] := va_S.rf
  have hi1 : ∀ w ∈ u_ws RJx4a65c TJx4a65c 3, w ∈ wsJxc12de_init_da8c8 := by decide +kernel
  have hl : lv_has ls 1 [(0, .ref a)] := hl
  refine lv_aload_n hx hb dJxc12de_init_da8c8_0 rfl (lv_at hl 0 rfl) ?_
  refine va_callv (va_runI (As := []) (rest := []) ⟨hx, hb, hml, hown, hts⟩ (c_AC_init l D dA z en a) (cwI 0 hts gJxc12de_init_da8c8_Jxa1e45_init_da8c8 rfl rfl rfl (hts (.initialized RJxa1e45) (by decide +kernel)) (hts (.methodLink RJxc12de 1 yJxa1e45_init_da8c8) (by decide +kernel)) (hts (.instanceMethod yJxa1e45_init_da8c8) (by decide +kernel)) rfl (by decide +kernel) ⟨Nat.le_of_ble_eq_true rfl, Nat.le_of_ble_eq_true rfl⟩) ⟨gBl, gPre _ hg hS hW⟩ rfl rfl hl.1 rfl (lv_room (Nat.le_of_ble_eq_true rfl)) dJxc12de_init_da8c8_1 ⟨(show 0 + 0 ≤ 0 by omega), (show 0 + 0 ≤ 0 by omega)⟩) hS (fun _ _ h => h) (fun _ h => h) (fun u9 t9 H locs ht9 hvm9 hw9 hB9 hz9 hk9 hS => ?_)
  have hW : Wd D (z 0) en H := by rw [← ht9]; exact hB9
  refine lv_aload_n hx hb dJxc12de_init_da8c8_4 rfl (lv_at hl 0 rfl) ?_
  refine z_iconst hx hb dJxc12de_init_da8c8_5 ?_
  refine g_put (C := RJx4a65c) (T := TJx4a65c) (N := 3) (ci := 1) (ty := .int) (v := .int (iZ (0))) (fs' := [.int (iZ (0)), .null, .int (iZ (0))]) hx hb hts hi1 tyJx4a65c tyJx4a65c_ok nmJx4a65c hown hK hW hS he rfl 0 (by decide) (hts (.fieldLink RJxc12de 7 "java/util/AbstractList" "modCount" "I") (by decide +kernel)) (fun _ h9 => h9) rfl (by decide +kernel) rfl rfl (Nat.le_of_ble_eq_true rfl) dJxc12de_init_da8c8_6 rfl (fun H locs hW hS => ?_)
  have he : (e2 en k i (some (a, .inr (1, [.int (iZ (0)), .null, .int (iZ (0))])))) k i = some (a, .inr (1, [.int (iZ (0)), .null, .int (iZ (0))])) := e2_s _ _ _ _
  exact W.vret hx hb hr (fun t ht hw => ⟨⟨(), rfl, trivial, by show Wd _ _ _ t.heap; rw [ht]; exact hW⟩, hS.F ht⟩) hS.2.2 dJxc12de_init_da8c8_9
set_option maxHeartbeats 4000000 in
set_option maxRecDepth 100000 in
theorem c_AL_init (l : Launch) (D : va_G) (dA : Nat → ClassId) (z : Nat → Nat) (en : en_T) (k : Nat) (i : Int) (a : Nat) (he : en k i = some (a, .inr (1, [.int (iZ (0)), .null, .int (iZ (0))]))) : Met l yJx4a65c_init_da8c8 wsJx4a65c_init_da8c8 ({ frames := 3, cells := 0, slots := 0, locals := 52 }) (gP D dA z en [.ref a]) (va_Qv (fun _ : Unit => True) (fun _ t9 => Wd D (z 0) (e2 en k i (some (a, .inr (1, [.int (iZ (0)), .ref (z 2), .int (iZ (0))])))) t9.heap) (fun q => z 0 ≤ q)) (0) (0) (fun q => z 0 ≤ q) := by
  refine gMet (own := RJx4a65c) (cc := cJx4a65c_init_da8c8) (maxL := 1) (ret := none) (by decide) rfl rfl (Nat.le_of_ble_eq_true rfl) ?_
  intro p e s m below meth c hx hb hml hown hts hr hlocks hnm hg hW ls hl
  have hK := hg.1
  have hS : va_S (fun q => z 0 ≤ q) s.heap s.heap [] := va_S.rf
  have hi1 : ∀ w ∈ u_ws RJx4a65c TJx4a65c 3, w ∈ wsJx4a65c_init_da8c8 := by decide +kernel
  have hl : lv_has ls 1 [(0, .ref a)] := hl
  refine lv_aload_n hx hb dJx4a65c_init_da8c8_0 rfl (lv_at hl 0 rfl) ?_
  refine va_callv (va_runI (As := []) (rest := []) ⟨hx, hb, hml, hown, hts⟩ (c_Ab_init l D dA z en k i a he) (cwI 0 hts gJx4a65c_init_da8c8_Jxc12de_init_da8c8 rfl rfl rfl (hts (.initialized RJxc12de) (by decide +kernel)) (hts (.methodLink RJx4a65c 1 yJxc12de_init_da8c8) (by decide +kernel)) (hts (.instanceMethod yJxc12de_init_da8c8) (by decide +kernel)) rfl (by decide +kernel) ⟨Nat.le_of_ble_eq_true rfl, Nat.le_of_ble_eq_true rfl⟩) ⟨gBl, gPre _ hg hS hW⟩ rfl rfl hl.1 rfl (lv_room (Nat.le_of_ble_eq_true rfl)) dJx4a65c_init_da8c8_1 ⟨(show 0 + 0 ≤ 0 by omega), (show 0 + 0 ≤ 0 by omega)⟩) hS (fun _ _ h => h) (fun _ h => h) (fun u9 t9 H locs ht9 hvm9 hw9 hB9 hz9 hk9 hS => ?_)
  have hW : Wd D (z 0) (e2 en k i (some (a, .inr (1, [.int (iZ (0)), .null, .int (iZ (0))])))) H := by rw [← ht9]; exact hB9
  have he : (e2 en k i (some (a, .inr (1, [.int (iZ (0)), .null, .int (iZ (0))])))) k i = some (a, .inr (1, [.int (iZ (0)), .null, .int (iZ (0))])) := e2_s _ _ _ _
  refine lv_aload_n hx hb dJx4a65c_init_da8c8_4 rfl (lv_at hl 0 rfl) ?_
  refine va_gets hx hb hg.2.2.1.2.2.1 hS hown (hts (.fieldLink RJx4a65c 39 "java/util/ArrayList" "DEFAULTCAPACITY_EMPTY_ELEMENTDATA" "[Ljava/lang/Object;") (by decide +kernel)) (fun _ h => h) dJx4a65c_init_da8c8_5 ?_
  refine g_put (C := RJx4a65c) (T := TJx4a65c) (N := 3) (ci := 1) (ty := .array (.object "java/lang/Object")) (v := .ref (z 2)) (fs' := [.int (iZ (0)), .ref (z 2), .int (iZ (0))]) hx hb hts hi1 tyJx4a65c tyJx4a65c_ok nmJx4a65c hown hK hW hS he rfl 1 (by decide) (hts (.fieldLink RJx4a65c 9 "java/util/ArrayList" "elementData" "[Ljava/lang/Object;") (by decide +kernel)) (fun _ h9 => h9) rfl (by decide +kernel) rfl rfl (Nat.le_of_ble_eq_true rfl) dJx4a65c_init_da8c8_8 rfl (fun H locs hW hS => ?_)
  rw [e2_e] at hW
  have he : (e2 en k i (some (a, .inr (1, [.int (iZ (0)), .ref (z 2), .int (iZ (0))])))) k i = some (a, .inr (1, [.int (iZ (0)), .ref (z 2), .int (iZ (0))])) := e2_s _ _ _ _
  exact W.vret hx hb hr (fun t ht hw => ⟨⟨(), rfl, trivial, by show Wd _ _ _ t.heap; rw [ht]; exact hW⟩, hS.F ht⟩) hS.2.2 dJx4a65c_init_da8c8_11
