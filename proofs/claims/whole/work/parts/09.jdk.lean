theorem sh_1 {a : Int} (h0 : 0 ≤ a) (ha : iB a) : iZ a >>> (iZ 1 &&& 31) = iZ (a / 2) := by
  apply Int32.toInt_inj.mp
  have h : ((iZ 1 &&& 31 : Int32).toBitVec.smod 32).toNat = 1 := by decide
  rw [pk_shr _ _ 1 h, iZ_T ha, iZ_T (by omega), Int.shiftRight_eq_div_pow]
  rfl
theorem nz_r {v : Int} (h : iB v) : narrow .int (.int (iZ v)) = .int (iZ v) := rfl
section EL
variable {p : Program} {l : Launch} {e : Env} {R : Room} {s : State} {m : MethodId} {args : Array Value} {below : List Frame} {meth : Method} {c : Code} {H : Heap} {locs : List Loc} {cells slots : Nat} {Q : State → Prop}
variable {cc : ByteArray} {pc : Nat} {ls : Array Slot} {rest : List Value} {D : va_G} {dA : Nat → ClassId} {z : Nat → Nat} {a : Nat} {en : en_T} {H0 : Heap} {kn : Nat} {ki : Int}
theorem g_ast_el (hx : p.tables.exec = Jvm.exec) (hb : c.code = cc) (hg : gK D dA z s) (hW : Wd D (z 0) en H) (hS : va_S (fun q => z 0 ≤ q) H0 H locs) {n : Int} {F : Int → Option Nat} (he : en kn ki = some (a, aO dA n F)) {i : Int} {v kv ci : Nat} {iv : Int} {vs : List Value} (hv : en kv iv = some (v, .inr (ci, vs))) (hci : ci = 2 ∨ ci = 4) (h0 : 0 ≤ i) (h1 : i < n) (hn : iB n) (hdg : decode cc pc = .ok (.aastore, 1)) (kk : ∀ (H1 : Heap) (locs1 : List Loc), Wd D (z 0) (e2 en kn ki (some (a, aO dA n (uF F i (some v))))) H1 → va_S (fun q => z 0 ≤ q) H0 H1 locs1 → W p l e R s m args below meth c H1 locs1 cells slots Q (F0 m (pc + 1) ls rest)) : W p l e R s m args below meth c H locs cells slots Q (F0 m pc ls (.ref v :: .int (iZ i) :: .ref a :: rest)) := by
  rcases hci with rfl | rfl
  · exact g_ast_aO hx hb hg.1 hW hS he hv (r := (RX0, TX0, 8)) rfl hg.2.2.2.2.2.2.2.2.2.1 h0 h1 hn hdg kk
  · exact g_ast_aO hx hb hg.1 hW hS he hv (r := (RX2, TX2, 9)) rfl hg.2.2.2.2.2.2.2.2.1 h0 h1 hn hdg kk
end EL
theorem Wd.repl {D : va_G} {B0 : Nat} {en : en_T} {H : Heap} (h : Wd D B0 en H) {k : Nat} {i : Int} {a : Nat} {e0 e' : va_E} (he : en k i = some (a, e0)) (hq : ∀ H : Heap, va_at D vwCl (a, e0) H → va_at D vwCl (a, e') H) : Wd D B0 (e2 en k i (some (a, e'))) H := by
  obtain ⟨ws, hP, hD, hm, hi⟩ := h
  obtain ⟨q0, h0⟩ := hm k i _ he
  refine Wd.set hm hi he h0 (e' := e') (fun j q hj => ?_) (hD.set h0)
  by_cases hz : j = q0
  · subst hz
    rw [List.getElem?_set_self (List.getElem?_eq_some_iff.mp h0).1] at hj
    cases hj
    exact hq H (hP _ _ h0)
  · rw [List.getElem?_set_ne (fun w => hz w.symm)] at hj
    exact hP j q hj
theorem aB_at {D : va_G} {dA : Nat → ClassId} {a : Nat} {n n' : Int} {F G : Int → Int} {H : Heap} (hn : n = n') (h : ∀ j : Int, 0 ≤ j → j < n → F j = G j) (hv : va_at D vwCl (a, aB dA n F) H) : va_at D vwCl (a, aB dA n' G) H := by
  subst hn
  have e : vp_cell (dA 0) (n.toNat, .inl (fun j : Nat => iZ (F j))) = vp_cell (dA 0) (n.toNat, .inl (fun j : Nat => iZ (G j))) := by
    rw [vp_cell_i, vp_cell_i]
    unfold arrV
    congr 1
    congr 1
    funext j
    exact congrArg (fun q => Value.int (iZ q)) (h j.val (by omega) (by have := j.isLt; omega))
  show H[a]? = some (vp_cell (dA 0) (n.toNat, .inl (fun j : Nat => iZ (G j))))
  rw [← e]
  exact hv
set_option maxHeartbeats 4000000 in
set_option maxRecDepth 100000 in
theorem c_J3_checkIndex (l : Launch) (D : va_G) (dA : Nat → ClassId) (z : Nat → Nat) (en : en_T) (i n : Int) (h0 : 0 ≤ i) (h1 : i < n) (hn : iB n) : Met l yJ3_checkIndex_8e157 wsJ3_checkIndex_8e157 ({ frames := 0, cells := 0, slots := 0, locals := 0 }) (gP D dA z en [.int (iZ (i)), .int (iZ (n)), .null]) (va_Qi (fun (r : Int32) (_ : Unit) => r = iZ (i)) (fun _ t9 => Wd D (z 0) en t9.heap) (fun q => z 0 ≤ q)) (0) (0) (fun q => z 0 ≤ q) := by
  refine gMet (own := RJ3) (cc := cJ3_checkIndex_8e157) (maxL := 3) (ret := (some .int)) (by decide) rfl rfl (Nat.le_of_ble_eq_true rfl) ?_
  intro p e s m below meth c hx hb hml hown hts hr hlocks hnm hg hW ls hl
  have hK := hg.1
  have hS : va_S (fun q => z 0 ≤ q) s.heap s.heap [] := va_S.rf
  have hl : lv_has ls 3 [(0, .int (iZ (i))), (1, .int (iZ (n))), (2, .null)] := hl
  refine lv_iload_n hx hb dJ3_checkIndex_8e157_0 rfl (lv_at hl 0 rfl) ?_
  refine z_if_lt (tgt := 9) hx hb dJ3_checkIndex_8e157_1 (by decide) (by omega) (fun c_1 => ?_) (fun c_1 => ?_)
  · exact absurd c_1 (by omega)
  · refine lv_iload_n hx hb dJ3_checkIndex_8e157_4 rfl (lv_at hl 0 rfl) ?_
    refine lv_iload_n hx hb dJ3_checkIndex_8e157_5 rfl (lv_at hl 1 rfl) ?_
    refine z_icmp_lt (tgt := 16) hx hb dJ3_checkIndex_8e157_6 (by decide) (by omega) (by omega) (fun c_6 => ?_) (fun c_6 => ?_)
    · refine lv_iload_n hx hb dJ3_checkIndex_8e157_16 rfl (lv_at hl 0 rfl) ?_
      exact W.iret hx hb hr (fun t ht hw => ⟨⟨_, (), rfl, rfl, by show Wd _ _ _ t.heap; rw [ht]; exact hW⟩, hS.F ht⟩) hS.2.2 dJ3_checkIndex_8e157_17
    · exact absurd c_6 (by omega)
set_option maxHeartbeats 4000000 in
set_option maxRecDepth 100000 in
theorem c_J15_checkIndex (l : Launch) (D : va_G) (dA : Nat → ClassId) (z : Nat → Nat) (en : en_T) (i n : Int) (h0 : 0 ≤ i) (h1 : i < n) (hn : iB n) : Met l yJ15_checkIndex_7cf53 wsJ15_checkIndex_7cf53 ({ frames := 1, cells := 0, slots := 0, locals := 22 }) (gP D dA z en [.int (iZ (i)), .int (iZ (n))]) (va_Qi (fun (r : Int32) (_ : Unit) => r = iZ (i)) (fun _ t9 => Wd D (z 0) en t9.heap) (fun q => z 0 ≤ q)) (0) (0) (fun q => z 0 ≤ q) := by
  refine gMet (own := RJ15) (cc := cJ15_checkIndex_7cf53) (maxL := 2) (ret := (some .int)) (by decide) rfl rfl (Nat.le_of_ble_eq_true rfl) ?_
  intro p e s m below meth c hx hb hml hown hts hr hlocks hnm hg hW ls hl
  have hK := hg.1
  have hS : va_S (fun q => z 0 ≤ q) s.heap s.heap [] := va_S.rf
  have hl : lv_has ls 2 [(0, .int (iZ (i))), (1, .int (iZ (n)))] := hl
  refine lv_iload_n hx hb dJ15_checkIndex_7cf53_0 rfl (lv_at hl 0 rfl) ?_
  refine lv_iload_n hx hb dJ15_checkIndex_7cf53_1 rfl (lv_at hl 1 rfl) ?_
  refine lv_null hx hb dJ15_checkIndex_7cf53_2 ?_
  refine va_calli (va_runS (As := [.int (iZ (i)), .int (iZ (n)), .null]) (rest := []) ⟨hx, hb, hml, hown, hts⟩ (c_J3_checkIndex l D dA z en i n h0 h1 hn) (va_cwS 3 hts gJ15_checkIndex_7cf53_J3_checkIndex_8e157 rfl rfl rfl (by decide +kernel) ⟨Nat.le_of_ble_eq_true rfl, Nat.le_of_ble_eq_true rfl⟩) ⟨gBl, gPre _ hg hS hW⟩ rfl rfl hl.1 rfl (lv_room (Nat.le_of_ble_eq_true rfl)) dJ15_checkIndex_7cf53_3 ⟨(show 0 + 0 ≤ 0 by omega), (show 0 + 0 ≤ 0 by omega)⟩) hS (fun _ _ h => h) (fun _ h => h) (fun r9 u9 t9 H locs ht9 hvm9 hw9 hB9 hz9 hk9 hS => ?_)
  have hW : Wd D (z 0) en H := by rw [← ht9]; exact hB9
  subst hw9
  exact W.iret hx hb hr (fun t ht hw => ⟨⟨_, (), rfl, rfl, by show Wd _ _ _ t.heap; rw [ht]; exact hW⟩, hS.F ht⟩) hS.2.2 dJ15_checkIndex_7cf53_6
set_option maxHeartbeats 4000000 in
set_option maxRecDepth 100000 in
theorem c_AL_size (l : Launch) (D : va_G) (dA : Nat → ClassId) (z : Nat → Nat) (en : en_T) (li : Int) (a ar : Nat) (mo n : Int) (he : en 1 li = some (a, .inr (1, [.int (iZ (mo)), .ref ar, .int (iZ (n))]))) : Met l yJx4a65c_size_8abf5 wsJx4a65c_size_8abf5 ({ frames := 0, cells := 0, slots := 0, locals := 0 }) (gP D dA z en [.ref a]) (va_Qi (fun (r : Int32) (_ : Unit) => r = iZ (n)) (fun _ t9 => Wd D (z 0) en t9.heap) (fun q => z 0 ≤ q)) (0) (0) (fun q => z 0 ≤ q) := by
  refine gMet (own := RJx4a65c) (cc := cJx4a65c_size_8abf5) (maxL := 1) (ret := (some .int)) (by decide) rfl rfl (Nat.le_of_ble_eq_true rfl) ?_
  intro p e s m below meth c hx hb hml hown hts hr hlocks hnm hg hW ls hl
  have hK := hg.1
  have hS : va_S (fun q => z 0 ≤ q) s.heap s.heap [] := va_S.rf
  have hi1 : ∀ w ∈ u_ws RJx4a65c TJx4a65c 3, w ∈ wsJx4a65c_size_8abf5 := by decide +kernel
  have hl : lv_has ls 1 [(0, .ref a)] := hl
  refine lv_aload_n hx hb dJx4a65c_size_8abf5_0 rfl (lv_at hl 0 rfl) ?_
  refine g_get (C := RJx4a65c) (T := TJx4a65c) (N := 3) (ci := 1) (v := .int (iZ (n))) hx hb hts hi1 hown hK hW he rfl 2 (by decide) (hts (.fieldLink RJx4a65c 48 "java/util/ArrayList" "size" "I") (by decide +kernel)) (fun _ h9 => h9) rfl dJx4a65c_size_8abf5_1 ?_
  exact W.iret hx hb hr (fun t ht hw => ⟨⟨_, (), rfl, rfl, by show Wd _ _ _ t.heap; rw [ht]; exact hW⟩, hS.F ht⟩) hS.2.2 dJx4a65c_size_8abf5_4
set_option maxHeartbeats 4000000 in
set_option maxRecDepth 100000 in
theorem c_AL_elem (l : Launch) (D : va_G) (dA : Nat → ClassId) (z : Nat → Nat) (en : en_T) (li : Int) (a ar : Nat) (mo n : Int) (cap i : Int) (F : Int → Option Nat) (y : Nat) (h0 : 0 ≤ i) (h1 : i < cap) (hc : iB cap) (hy : F i = some y) (he : en 1 li = some (a, .inr (1, [.int (iZ (mo)), .ref ar, .int (iZ (n))]))) (ha : en 2 li = some (ar, aO dA cap F)) : Met l yJx4a65c_elementData_915e3 wsJx4a65c_elementData_915e3 ({ frames := 0, cells := 0, slots := 0, locals := 0 }) (gP D dA z en [.ref a, .int (iZ (i))]) (va_Qr (fun _ : Unit => True) (fun _ r9 t9 => r9 = y ∧ Wd D (z 0) en t9.heap) (fun q => z 0 ≤ q)) (0) (0) (fun q => z 0 ≤ q) := by
  refine gMet (own := RJx4a65c) (cc := cJx4a65c_elementData_915e3) (maxL := 2) (ret := (some (.object "java/lang/Object"))) (by decide) rfl rfl (Nat.le_of_ble_eq_true rfl) ?_
  intro p e s m below meth c hx hb hml hown hts hr hlocks hnm hg hW ls hl
  have hK := hg.1
  have hS : va_S (fun q => z 0 ≤ q) s.heap s.heap [] := va_S.rf
  have hi1 : ∀ w ∈ u_ws RJx4a65c TJx4a65c 3, w ∈ wsJx4a65c_elementData_915e3 := by decide +kernel
  have hl : lv_has ls 2 [(0, .ref a), (1, .int (iZ (i)))] := hl
  refine lv_aload_n hx hb dJx4a65c_elementData_915e3_0 rfl (lv_at hl 0 rfl) ?_
  refine g_get (C := RJx4a65c) (T := TJx4a65c) (N := 3) (ci := 1) (v := .ref ar) hx hb hts hi1 hown hK hW he rfl 1 (by decide) (hts (.fieldLink RJx4a65c 9 "java/util/ArrayList" "elementData" "[Ljava/lang/Object;") (by decide +kernel)) (fun _ h9 => h9) rfl dJx4a65c_elementData_915e3_1 ?_
  refine lv_iload_n hx hb dJx4a65c_elementData_915e3_4 rfl (lv_at hl 1 rfl) ?_
  refine g_ald_aO hx hb hK hW ha (by omega) (by omega) (by omega) hy dJx4a65c_elementData_915e3_5 ?_
  exact W.aret hx hb hr (by first | exact Or.inl ⟨_, rfl⟩ | exact Or.inr ⟨_, rfl⟩) (Or.inr ⟨_, rfl⟩) (fun t ht hw => ⟨⟨(), _, rfl, trivial, rfl, by show Wd _ _ _ t.heap; rw [ht]; exact hW⟩, hS.F ht⟩) hS.2.2 dJx4a65c_elementData_915e3_6
set_option maxHeartbeats 4000000 in
set_option maxRecDepth 100000 in
theorem c_AL_get (l : Launch) (D : va_G) (dA : Nat → ClassId) (z : Nat → Nat) (en : en_T) (li : Int) (a ar : Nat) (mo n : Int) (cap i : Int) (F : Int → Option Nat) (y : Nat) (h0 : 0 ≤ i) (h1 : i < n) (hn : iB n) (hnc : n ≤ cap) (hc : iB cap) (hy : F i = some y) (he : en 1 li = some (a, .inr (1, [.int (iZ (mo)), .ref ar, .int (iZ (n))]))) (ha : en 2 li = some (ar, aO dA cap F)) : Met l yJx4a65c_get_915e3 wsJx4a65c_get_915e3 ({ frames := 2, cells := 0, slots := 0, locals := 43 }) (gP D dA z en [.ref a, .int (iZ (i))]) (va_Qr (fun _ : Unit => True) (fun _ r9 t9 => r9 = y ∧ Wd D (z 0) en t9.heap) (fun q => z 0 ≤ q)) (0) (0) (fun q => z 0 ≤ q) := by
  refine gMet (own := RJx4a65c) (cc := cJx4a65c_get_915e3) (maxL := 2) (ret := (some (.object "java/lang/Object"))) (by decide) rfl rfl (Nat.le_of_ble_eq_true rfl) ?_
  intro p e s m below meth c hx hb hml hown hts hr hlocks hnm hg hW ls hl
  have hK := hg.1
  have hS : va_S (fun q => z 0 ≤ q) s.heap s.heap [] := va_S.rf
  have hi1 : ∀ w ∈ u_ws RJx4a65c TJx4a65c 3, w ∈ wsJx4a65c_get_915e3 := by decide +kernel
  have hl : lv_has ls 2 [(0, .ref a), (1, .int (iZ (i)))] := hl
  refine lv_iload_n hx hb dJx4a65c_get_915e3_0 rfl (lv_at hl 1 rfl) ?_
  refine lv_aload_n hx hb dJx4a65c_get_915e3_1 rfl (lv_at hl 0 rfl) ?_
  refine g_get (C := RJx4a65c) (T := TJx4a65c) (N := 3) (ci := 1) (v := .int (iZ (n))) hx hb hts hi1 hown hK hW he rfl 2 (by decide) (hts (.fieldLink RJx4a65c 48 "java/util/ArrayList" "size" "I") (by decide +kernel)) (fun _ h9 => h9) rfl dJx4a65c_get_915e3_2 ?_
  refine va_calli (va_runS (As := [.int (iZ (i)), .int (iZ (n))]) (rest := []) ⟨hx, hb, hml, hown, hts⟩ (c_J15_checkIndex l D dA z en i n h0 h1 hn) (va_cwS 2 hts gJx4a65c_get_915e3_J15_checkIndex_7cf53 rfl rfl rfl (by decide +kernel) ⟨Nat.le_of_ble_eq_true rfl, Nat.le_of_ble_eq_true rfl⟩) ⟨gBl, gPre _ hg hS hW⟩ rfl rfl hl.1 rfl (lv_room (Nat.le_of_ble_eq_true rfl)) dJx4a65c_get_915e3_5 ⟨(show 0 + 0 ≤ 0 by omega), (show 0 + 0 ≤ 0 by omega)⟩) hS (fun _ _ h => h) (fun _ h => h) (fun r9 u9 t9 H locs ht9 hvm9 hw9 hB9 hz9 hk9 hS => ?_)
  have hW : Wd D (z 0) en H := by rw [← ht9]; exact hB9
  subst hw9
  refine lv_pop hx hb dJx4a65c_get_915e3_8 rfl ?_
  refine lv_aload_n hx hb dJx4a65c_get_915e3_9 rfl (lv_at hl 0 rfl) ?_
  refine lv_iload_n hx hb dJx4a65c_get_915e3_10 rfl (lv_at hl 1 rfl) ?_
  refine va_callr (va_runV (As := [.int (iZ (i))]) (rest := []) ⟨hx, hb, hml, hown, hts⟩ (c_AL_elem l D dA z en li a ar mo n cap i F y h0 (by omega) hc hy he ha) (cwV 1 hts gJx4a65c_get_915e3_Jx4a65c_elementData_915e3 rfl rfl rfl (by decide +kernel) ⟨Nat.le_of_ble_eq_true rfl, Nat.le_of_ble_eq_true rfl⟩) ⟨gBl, gRecv hK hW (ci := 1) rfl he, gPre _ hg hS hW⟩ rfl rfl hl.1 rfl (lv_room (Nat.le_of_ble_eq_true rfl)) dJx4a65c_get_915e3_11 ⟨(show 0 + 0 + 0 ≤ 0 by omega), (show 0 + 0 + 0 ≤ 0 by omega)⟩) hS (fun _ _ h => h) (fun _ h => h) (fun u9 r9 t9 H locs ht9 hvm9 hw9 hB9 hz9 hk9 hS => ?_)
  obtain ⟨rfl, hB9⟩ := hB9
  have hW : Wd D (z 0) en H := by rw [← ht9]; exact hB9
  exact W.aret hx hb hr (by first | exact Or.inl ⟨_, rfl⟩ | exact Or.inr ⟨_, rfl⟩) (Or.inr ⟨_, rfl⟩) (fun t ht hw => ⟨⟨(), _, rfl, trivial, rfl, by show Wd _ _ _ t.heap; rw [ht]; exact hW⟩, hS.F ht⟩) hS.2.2 dJx4a65c_get_915e3_14
set_option maxHeartbeats 4000000 in
set_option maxRecDepth 100000 in
theorem c_J8_newLength (l : Launch) (D : va_G) (dA : Nat → ClassId) (z : Nat → Nat) (en : en_T) (o mg pg : Int) (h0 : 0 ≤ o) (h1 : o ≤ 100000) (h2 : 1 ≤ mg) (h3 : mg ≤ 100000) (h4 : 0 ≤ pg) (h5 : pg ≤ 100000) : Met l yJ8_newLength_cabcc wsJ8_newLength_cabcc ({ frames := 1, cells := 0, slots := 0, locals := 21 }) (gP D dA z en [.int (iZ (o)), .int (iZ (mg)), .int (iZ (pg))]) (va_Qi (fun (r : Int32) (_ : Unit) => r = iZ (o + max mg pg)) (fun _ t9 => Wd D (z 0) en t9.heap) (fun q => z 0 ≤ q)) (0) (0) (fun q => z 0 ≤ q) := by
  refine gMet (own := RJ8) (cc := cJ8_newLength_cabcc) (maxL := 4) (ret := (some .int)) (by decide) rfl rfl (Nat.le_of_ble_eq_true rfl) ?_
  intro p e s m below meth c hx hb hml hown hts hr hlocks hnm hg hW ls hl
  have hK := hg.1
  have hS : va_S (fun q => z 0 ≤ q) s.heap s.heap [] := va_S.rf
  have hl : lv_has ls 4 [(0, .int (iZ (o))), (1, .int (iZ (mg))), (2, .int (iZ (pg)))] := hl
  refine lv_iload_n hx hb dJ8_newLength_cabcc_0 rfl (lv_at hl 0 rfl) ?_
  refine lv_iload_n hx hb dJ8_newLength_cabcc_1 rfl (lv_at hl 1 rfl) ?_
  refine lv_iload_n hx hb dJ8_newLength_cabcc_2 rfl (lv_at hl 2 rfl) ?_
  refine z_mmax hx hb (by rw [hml]; exact hl.1.symm) hown (hts (.methodLink RJ8 194 Lib.Math.max.name) (by decide +kernel)) (hts (.static Lib.Math.max.name) (by decide +kernel)) (hts (.initialized "java/lang/Math") (by decide +kernel)) (hts _ (List.mem_of_getElem? (i := 4) rfl)) (Nat.le_of_ble_eq_true rfl) (Nat.le_of_ble_eq_true rfl) (Nat.zero_le _) (Nat.zero_le _) dJ8_newLength_cabcc_3 (by omega) (by omega) ?_
  refine z_iadd hx hb dJ8_newLength_cabcc_6 ?_
  refine lv_istore_n (lv' := [(3, .int (iZ (o + (max mg pg)))), (0, .int (iZ (o))), (1, .int (iZ (mg))), (2, .int (iZ (pg)))]) hx hb dJ8_newLength_cabcc_7 rfl hl (by decide) rfl (fun ls hl => ?_)
  refine z_iconst hx hb dJ8_newLength_cabcc_8 ?_
  refine lv_iload_n hx hb dJ8_newLength_cabcc_9 rfl (lv_at hl 0 rfl) ?_
  refine z_icmp_ge (tgt := 21) hx hb dJ8_newLength_cabcc_10 (by decide) (by omega) (by omega) (fun c_10 => ?_) (fun c_10 => ?_)
  · exact absurd c_10 (by omega)
  · refine lv_iload_n hx hb dJ8_newLength_cabcc_13 rfl (lv_at hl 0 rfl) ?_
    refine z_ldc hx hb 2147483639 hown (hts (.constant RJ8 200 (2147483639)) (by decide +kernel)) (by decide) dJ8_newLength_cabcc_14 ?_
    refine z_icmp_gt (tgt := 21) hx hb dJ8_newLength_cabcc_16 (by decide) (by omega) (by omega) (fun c_16 => ?_) (fun c_16 => ?_)
    · exact absurd c_16 (by omega)
    · refine lv_iload_n hx hb dJ8_newLength_cabcc_19 rfl (lv_at hl 0 rfl) ?_
      exact W.iret hx hb hr (fun t ht hw => ⟨⟨_, (), rfl, rfl, by show Wd _ _ _ t.heap; rw [ht]; exact hW⟩, hS.F ht⟩) hS.2.2 dJ8_newLength_cabcc_20
set_option maxHeartbeats 4000000 in
set_option maxRecDepth 100000 in
theorem c_J7_copyOf3 (l : Launch) (D : va_G) (dA : Nat → ClassId) (z : Nat → Nat) (en : en_T) (li : Int) (ar : Nat) (cap nc : Int) (F : Int → Option Nat) (h0 : 0 ≤ cap) (hc : iB cap) (h1 : 0 ≤ nc) (h2 : nc ≤ 1000000) (ha : en 2 li = some (ar, aO dA cap F)) (hF : ∀ (j : Int) (y : Nat), F j = some y → ∃ (k : Nat) (i : Int) (ci : Nat) (fs : List Value), en k i = some (y, .inr (ci, fs)) ∧ (ci = 2 ∨ ci = 4) ∧ k ≠ 99) : Met l yJ7_copyOf_6403c wsJ7_copyOf_6403c ({ frames := 1, cells := 1, slots := nc.toNat, locals := 40 }) (gP D dA z en [.ref ar, .int (iZ (nc)), .ref (z 3)]) (va_Qr (fun _ : Unit => True) (fun _ r9 t9 => Wd D (z 0) (e2 en 99 0 (some (r9, aO dA (nc) (cpF F (fun _ => none) 0 0 (min cap nc))))) t9.heap) (fun q => z 0 ≤ q)) (1) (nc.toNat) (fun q => z 0 ≤ q) := by
  refine gMet (own := RJ7) (cc := cJ7_copyOf_6403c) (maxL := 4) (ret := (some (.array (.object "java/lang/Object")))) (by decide) rfl rfl (Nat.le_of_ble_eq_true rfl) ?_
  intro p e s m below meth c hx hb hml hown hts hr hlocks hnm hg hW ls hl
  have hK := hg.1
  have hS : va_S (fun q => z 0 ≤ q) s.heap s.heap [] := va_S.rf
  have hl : lv_has ls 4 [(0, .ref ar), (1, .int (iZ (nc))), (2, .ref (z 3))] := hl
  refine lv_aload_n hx hb dJ7_copyOf_6403c_0 rfl (lv_at hl 2 rfl) ?_
  refine va_ldcM hx hb hown (hts (.classLink RJ7 110 "[Ljava/lang/Object;") (by decide +kernel)) hg.2.2.2.2.2.2.2.2.2.2.2.2.2.2 dJ7_copyOf_6403c_1 ?_
  refine lv_acmp_ne (rx := some (z 3)) (ry := some (z 3)) (tgt := 13) hx hb dJ7_copyOf_6403c_3 (by decide) (fun c_3 => absurd rfl c_3) (fun c_3 => ?_)
  refine lv_iload_n hx hb dJ7_copyOf_6403c_6 rfl (lv_at hl 1 rfl) ?_
  refine g_newq_aO (n := nc) hx hb hown (hts (.classLink RJ7 2 "java/lang/Object") (by decide +kernel)) hg.2.2.2.2.2.2.2.2.2.2.2.1 hK hW hS hg.2.1 (by omega) (by omega) (show 0 + 1 ≤ 1 by omega) (show 0 + (nc : Int).toNat ≤ nc.toNat by omega) dJ7_copyOf_6403c_7 99 0 (fun q H hW hS => ?_)
  have ha : (e2 en 99 0 (some (q, aO dA (nc) (fun _ => none)))) 2 li = some (ar, aO dA (cap) (F)) := (e2_k (by decide)).trans ha
  have hq : (e2 en 99 0 (some (q, aO dA (nc) (fun _ => none)))) 99 0 = some (q, aO dA (nc) (fun _ => none)) := e2_s _ _ _ _
  refine lv_goto (tgt := 24) hx hb dJ7_copyOf_6403c_10 (by decide) ?_
  refine lv_astore_n (lv' := [(3, .ref q), (0, .ref ar), (1, .int (iZ (nc))), (2, .ref (z 3))]) hx hb dJ7_copyOf_6403c_24 rfl hl (by decide) rfl (fun ls hl => ?_)
  refine lv_aload_n hx hb dJ7_copyOf_6403c_25 rfl (lv_at hl 1 rfl) ?_
  refine z_iconst hx hb dJ7_copyOf_6403c_26 ?_
  refine lv_aload_n hx hb dJ7_copyOf_6403c_27 rfl (lv_at hl 0 rfl) ?_
  refine z_iconst hx hb dJ7_copyOf_6403c_28 ?_
  refine lv_aload_n hx hb dJ7_copyOf_6403c_29 rfl (lv_at hl 1 rfl) ?_
  refine g_len_aO hx hb hK hW ha (by omega) dJ7_copyOf_6403c_30 ?_
  refine lv_iload_n hx hb dJ7_copyOf_6403c_31 rfl (lv_at hl 2 rfl) ?_
  refine z_mmin hx hb (by rw [hml]; exact hl.1.symm) hown (hts (.methodLink RJ7 304 Lib.Math.min.name) (by decide +kernel)) (hts (.static Lib.Math.min.name) (by decide +kernel)) (hts (.initialized "java/lang/Math") (by decide +kernel)) (hts _ (List.mem_of_getElem? (i := 6) rfl)) (Nat.le_of_ble_eq_true rfl) (Nat.le_of_ble_eq_true rfl) (show 0 + 1 ≤ 1 by omega) (show 0 + nc.toNat ≤ nc.toNat by omega) dJ7_copyOf_6403c_32 (by omega) (by omega) ?_
  refine g_copyO hx hb (by rw [hml]; exact hl.1.symm) hown (hts (.methodLink RJ7 150 arraycopyName) (by decide +kernel)) (hts (.native arraycopyName) (by decide +kernel)) (hts (.static arraycopyName) (by decide +kernel)) (hts (.initialized "java/lang/System") (by decide +kernel)) hK hg.2.2.2.2.2.2.2.2.2.1 hg.2.2.2.2.2.2.2.2.1 hW hS ha hq (by omega) (by omega) (by omega) (by omega) (by omega) hc (by omega) (fun j y hy => by obtain ⟨k, i, ci, fs, h1, h2, h3⟩ := hF j y hy; exact ⟨k, i, ci, fs, (e2_k h3).trans h1, h2⟩) (Nat.le_of_ble_eq_true rfl) (Nat.le_of_ble_eq_true rfl) dJ7_copyOf_6403c_35 (fun H locs hW hS => ?_)
  rw [e2_e] at hW
  have ha : (e2 en 99 0 (some (q, aO dA (nc) (cpF F (fun _ => none) 0 0 (min cap nc))))) 2 li = some (ar, aO dA (cap) (F)) := (e2_k (by decide)).trans ((e2_k (by decide)).symm.trans ha)
  have hq : (e2 en 99 0 (some (q, aO dA (nc) (cpF F (fun _ => none) 0 0 (min cap nc))))) 99 0 = some (q, aO dA (nc) (cpF F (fun _ => none) 0 0 (min cap nc))) := e2_s _ _ _ _
  refine lv_aload_n hx hb dJ7_copyOf_6403c_38 rfl (lv_at hl 0 rfl) ?_
  refine W.widen (k := 1) (n := nc.toNat) (by omega) (by omega) ?_
  exact W.aret hx hb hr (Or.inr ⟨_, rfl⟩) (Or.inr ⟨_, rfl⟩) (fun t ht hw => ⟨⟨(), _, rfl, trivial, by show Wd _ _ _ t.heap; rw [ht]; exact hW⟩, hS.F ht⟩) hS.2.2 dJ7_copyOf_6403c_39
theorem gRecvO {s : State} {H : Heap} {D : va_G} {dA : Nat → ClassId} {B0 a k : Nat} {i n : Int} {F : Int → Option Nat} {en : en_T} (hK : va_K D vwCl (gT dA) s) (hW : Wd D B0 en H) (he : en k i = some (a, aO dA n F)) : ∃ cell : Cell, H[a]? = some cell ∧ cell.vm.isStatics = false ∧ s.vm.findClass "[Ljava/lang/Object;" = some cell.cls := by
  obtain ⟨ws, hP, hD, hm, hi⟩ := hW
  obtain ⟨q0, h0⟩ := hm k i _ he
  exact ⟨_, hP q0 _ h0, rfl, va_nmO (hK.2 4 (dA 4, .object "java/lang/Object") rfl).2 (by decide)⟩
set_option maxHeartbeats 4000000 in
set_option maxRecDepth 100000 in
theorem c_J7_copyOf2 (l : Launch) (D : va_G) (dA : Nat → ClassId) (z : Nat → Nat) (en : en_T) (li : Int) (ar : Nat) (cap nc : Int) (F : Int → Option Nat) (h0 : 0 ≤ cap) (hc : iB cap) (h1 : 0 ≤ nc) (h2 : nc ≤ 1000000) (ha : en 2 li = some (ar, aO dA cap F)) (hF : ∀ (j : Int) (y : Nat), F j = some y → ∃ (k : Nat) (i : Int) (ci : Nat) (fs : List Value), en k i = some (y, .inr (ci, fs)) ∧ (ci = 2 ∨ ci = 4) ∧ k ≠ 99) : Met l yJ7_copyOf_1904c wsJ7_copyOf_1904c ({ frames := 2, cells := 1, slots := nc.toNat, locals := 63 }) (gP D dA z en [.ref ar, .int (iZ (nc))]) (va_Qr (fun _ : Unit => True) (fun _ r9 t9 => Wd D (z 0) (e2 en 99 0 (some (r9, aO dA (nc) (cpF F (fun _ => none) 0 0 (min cap nc))))) t9.heap) (fun q => z 0 ≤ q)) (1) (nc.toNat) (fun q => z 0 ≤ q) := by
  refine gMet (own := RJ7) (cc := cJ7_copyOf_1904c) (maxL := 2) (ret := (some (.array (.object "java/lang/Object")))) (by decide) rfl rfl (Nat.le_of_ble_eq_true rfl) ?_
  intro p e s m below meth c hx hb hml hown hts hr hlocks hnm hg hW ls hl
  have hK := hg.1
  have hS : va_S (fun q => z 0 ≤ q) s.heap s.heap [] := va_S.rf
  have hl : lv_has ls 2 [(0, .ref ar), (1, .int (iZ (nc)))] := hl
  refine lv_aload_n hx hb dJ7_copyOf_1904c_0 rfl (lv_at hl 0 rfl) ?_
  refine lv_iload_n hx hb dJ7_copyOf_1904c_1 rfl (lv_at hl 1 rfl) ?_
  refine lv_aload_n hx hb dJ7_copyOf_1904c_2 rfl (lv_at hl 0 rfl) ?_
  refine va_getC (C := "[Ljava/lang/Object;") hx hb (by rw [hml]; exact hl.1.symm) hown (hts (.methodLink RJ7 86 ⟨"java/lang/Object", "getClass", "()Ljava/lang/Class;"⟩) (by decide +kernel)) (va_Dc.use hg.2.2.2.2.2.2.2.2.2.2.2.2.2.1) (hts (.selects "[Ljava/lang/Object;" ⟨"java/lang/Object", "getClass", "()Ljava/lang/Class;"⟩ ⟨"java/lang/Object", "getClass", "()Ljava/lang/Class;"⟩) (by decide +kernel)) (hts (.instanceMethod ⟨"java/lang/Object", "getClass", "()Ljava/lang/Class;"⟩) (by decide +kernel)) (hts (.native ⟨"java/lang/Object", "getClass", "()Ljava/lang/Class;"⟩) (by decide +kernel)) hg.2.2.2.2.2.2.2.2.2.2.2.2.2.2 (gRecvO hK hW ha) (Nat.le_of_ble_eq_true rfl) (Nat.le_of_ble_eq_true rfl) dJ7_copyOf_1904c_3 ?_
  refine va_callr (va_runS (As := [.ref ar, .int (iZ (nc)), .ref (z 3)]) (rest := []) ⟨hx, hb, hml, hown, hts⟩ (c_J7_copyOf3 l D dA z en li ar cap nc F h0 hc h1 h2 ha hF) (va_cwS 3 hts gJ7_copyOf_1904c_J7_copyOf_6403c rfl rfl rfl (by decide +kernel) ⟨Nat.le_of_ble_eq_true rfl, Nat.le_of_ble_eq_true rfl⟩) ⟨gBl, gPre _ hg hS hW⟩ rfl rfl hl.1 rfl (lv_room (Nat.le_of_ble_eq_true rfl)) dJ7_copyOf_1904c_6 ⟨(show 0 + 1 ≤ 1 by omega), (show 0 + nc.toNat ≤ nc.toNat by omega)⟩) hS (fun _ _ h => h) (fun _ h => h) (fun u9 r9 t9 H locs ht9 hvm9 hw9 hB9 hz9 hk9 hS => ?_)
  obtain ⟨q, hq9⟩ : ∃ y : Nat, y = r9 := ⟨_, rfl⟩
  subst hq9
  have hW : Wd D (z 0) (e2 en 99 0 (some (q, aO dA (nc) (cpF F (fun _ => none) 0 0 (min cap nc))))) H := by rw [← ht9]; exact hB9
  have ha : (e2 en 99 0 (some (q, aO dA (nc) (cpF F (fun _ => none) 0 0 (min cap nc))))) 2 li = some (ar, aO dA (cap) (F)) := (e2_k (by decide)).trans ha
  have hq : (e2 en 99 0 (some (q, aO dA (nc) (cpF F (fun _ => none) 0 0 (min cap nc))))) 99 0 = some (q, aO dA (nc) (cpF F (fun _ => none) 0 0 (min cap nc))) := e2_s _ _ _ _
  refine W.widen (k := 1) (n := nc.toNat) (by omega) (by omega) ?_
  exact W.aret hx hb hr (Or.inr ⟨_, rfl⟩) (Or.inr ⟨_, rfl⟩) (fun t ht hw => ⟨⟨(), _, rfl, trivial, by show Wd _ _ _ t.heap; rw [ht]; exact hW⟩, hS.F ht⟩) hS.2.2 dJ7_copyOf_1904c_9
set_option maxHeartbeats 4000000 in
set_option maxRecDepth 100000 in
theorem c_J7_checkLength (l : Launch) (D : va_G) (dA : Nat → ClassId) (z : Nat → Nat) (en : en_T) (f t : Int) (h : f ≤ t) (hf : iB f) (ht : iB t) : Met l yJ7_checkLength_df160 wsJ7_checkLength_df160 ({ frames := 0, cells := 0, slots := 0, locals := 0 }) (gP D dA z en [.int (iZ (f)), .int (iZ (t))]) (va_Qv (fun _ : Unit => True) (fun _ t9 => Wd D (z 0) en t9.heap) (fun q => z 0 ≤ q)) (0) (0) (fun q => z 0 ≤ q) := by
  refine gMet (own := RJ7) (cc := cJ7_checkLength_df160) (maxL := 2) (ret := none) (by decide) rfl rfl (Nat.le_of_ble_eq_true rfl) ?_
  intro p e s m below meth c hx hb hml hown hts hr hlocks hnm hg hW ls hl
  have hK := hg.1
  have hS : va_S (fun q => z 0 ≤ q) s.heap s.heap [] := va_S.rf
  have hl : lv_has ls 2 [(0, .int (iZ (f))), (1, .int (iZ (t)))] := hl
  refine lv_iload_n hx hb dJ7_checkLength_df160_0 rfl (lv_at hl 1 rfl) ?_
  refine lv_iload_n hx hb dJ7_checkLength_df160_1 rfl (lv_at hl 0 rfl) ?_
  refine z_icmp_ge (tgt := 37) hx hb dJ7_checkLength_df160_2 (by decide) (by omega) (by omega) (fun c_2 => ?_) (fun c_2 => ?_)
  · exact W.vret hx hb hr (fun t ht hw => ⟨⟨(), rfl, trivial, by show Wd _ _ _ t.heap; rw [ht]; exact hW⟩, hS.F ht⟩) hS.2.2 dJ7_checkLength_df160_37
  · exact absurd c_2 (by omega)
/-- the octets f .. f + n - 1, and 0 elsewhere -/
def slF (F : Int → Int) (f n : Int) : Int → Int := fun j => if 0 ≤ j ∧ j < n then F (f + j) else 0
theorem cp_0 {F : Int → Int} {f n : Int} : cpF F (fun _ => 0) f 0 n = slF F f n := by
  funext j
  unfold cpF slF
  by_cases h : 0 ≤ j ∧ j < n
  · rw [if_pos (by omega), if_pos h, Int.sub_zero]
  · rw [if_neg (by omega), if_neg h]
set_option maxHeartbeats 4000000 in
set_option maxRecDepth 100000 in
theorem c_J7_copyRB (l : Launch) (D : va_G) (dA : Nat → ClassId) (z : Nat → Nat) (en : en_T) (ob : Nat) (f t n : Int) (F : Int → Int) (ko : Nat) (io : Int) (k2 : Nat) (i2 : Int) (hne : ko ≠ k2) (h0 : 0 ≤ f) (h1 : f ≤ t) (h2 : t ≤ n) (h3 : n ≤ 1000000) (ho : en ko io = some (ob, aB dA n F)) (hF : ∀ j : Int, -128 ≤ F j ∧ F j ≤ 127) : Met l yJ7_copyOfRangeByte_39247 wsJ7_copyOfRangeByte_39247 ({ frames := 1, cells := 1, slots := (t - f).toNat, locals := 40 }) (gP D dA z en [.ref ob, .int (iZ (f)), .int (iZ (t))]) (va_Qr (fun _ : Unit => True) (fun _ r9 t9 => Wd D (z 0) (e2 en k2 i2 (some (r9, aB dA (t - f) (slF F f (t - f))))) t9.heap) (fun q => z 0 ≤ q)) (1) ((t - f).toNat) (fun q => z 0 ≤ q) := by
  refine gMet (own := RJ7) (cc := cJ7_copyOfRangeByte_39247) (maxL := 5) (ret := (some (.array .byte))) (by decide) rfl rfl (Nat.le_of_ble_eq_true rfl) ?_
  intro p e s m below meth c hx hb hml hown hts hr hlocks hnm hg hW ls hl
  have hK := hg.1
  have hS : va_S (fun q => z 0 ≤ q) s.heap s.heap [] := va_S.rf
  have hl : lv_has ls 5 [(0, .ref ob), (1, .int (iZ (f))), (2, .int (iZ (t)))] := hl
  refine lv_iload_n hx hb dJ7_copyOfRangeByte_39247_0 rfl (lv_at hl 1 rfl) ?_
  refine lv_iload_n hx hb dJ7_copyOfRangeByte_39247_1 rfl (lv_at hl 2 rfl) ?_
  refine va_callv (va_runS (As := [.int (iZ (f)), .int (iZ (t))]) (rest := []) ⟨hx, hb, hml, hown, hts⟩ (c_J7_checkLength l D dA z en f t (by omega) (by omega) (by omega)) (va_cwS 2 hts gJ7_copyOfRangeByte_39247_J7_checkLength_df160 rfl rfl rfl (by decide +kernel) ⟨Nat.le_of_ble_eq_true rfl, Nat.le_of_ble_eq_true rfl⟩) ⟨gBl, gPre _ hg hS hW⟩ rfl rfl hl.1 rfl (lv_room (Nat.le_of_ble_eq_true rfl)) dJ7_copyOfRangeByte_39247_2 ⟨(show 0 + 0 ≤ 1 by omega), (show 0 + 0 ≤ (t - f).toNat by omega)⟩) hS (fun _ _ h => h) (fun _ h => h) (fun u9 t9 H locs ht9 hvm9 hw9 hB9 hz9 hk9 hS => ?_)
  have hW : Wd D (z 0) en H := by rw [← ht9]; exact hB9
  refine lv_iload_n hx hb dJ7_copyOfRangeByte_39247_5 rfl (lv_at hl 2 rfl) ?_
  refine lv_iload_n hx hb dJ7_copyOfRangeByte_39247_6 rfl (lv_at hl 1 rfl) ?_
  refine z_isub hx hb dJ7_copyOfRangeByte_39247_7 ?_
  refine lv_istore_n (lv' := [(3, .int (iZ (t - f))), (0, .ref ob), (1, .int (iZ (f))), (2, .int (iZ (t)))]) hx hb dJ7_copyOfRangeByte_39247_8 rfl hl (by decide) rfl (fun ls hl => ?_)
  refine lv_iload_n hx hb dJ7_copyOfRangeByte_39247_9 rfl (lv_at hl 0 rfl) ?_
  refine g_newa_aB (n := t - f) hx hb rfl (hts (.arrayClass .byte) (by decide +kernel)) hK hW hS hg.2.1 (by omega) (by omega) (show 0 + 0 + 1 ≤ 1 by omega) (show 0 + 0 + (t - f : Int).toNat ≤ (t - f).toNat by omega) dJ7_copyOfRangeByte_39247_10 k2 i2 (fun q H hW hS => ?_)
  have ho : (e2 en k2 i2 (some (q, aB dA (t - f) (fun _ => 0)))) ko io = some (ob, aB dA (n) (F)) := (e2_k hne).trans ho
  have hq : (e2 en k2 i2 (some (q, aB dA (t - f) (fun _ => 0)))) k2 i2 = some (q, aB dA (t - f) (fun _ => 0)) := e2_s _ _ _ _
  refine lv_astore (lv' := [(4, .ref q), (3, .int (iZ (t - f))), (0, .ref ob), (1, .int (iZ (f))), (2, .int (iZ (t)))]) hx hb dJ7_copyOfRangeByte_39247_12 hl (by decide) rfl (fun ls hl => ?_)
  refine lv_aload_n hx hb dJ7_copyOfRangeByte_39247_14 rfl (lv_at hl 2 rfl) ?_
  refine lv_iload_n hx hb dJ7_copyOfRangeByte_39247_15 rfl (lv_at hl 3 rfl) ?_
  refine lv_aload hx hb dJ7_copyOfRangeByte_39247_16 (lv_at hl 0 rfl) ?_
  refine z_iconst hx hb dJ7_copyOfRangeByte_39247_18 ?_
  refine lv_aload_n hx hb dJ7_copyOfRangeByte_39247_19 rfl (lv_at hl 2 rfl) ?_
  refine g_len_aB hx hb hK hW ho (by omega) dJ7_copyOfRangeByte_39247_20 ?_
  refine lv_iload_n hx hb dJ7_copyOfRangeByte_39247_21 rfl (lv_at hl 3 rfl) ?_
  refine z_isub hx hb dJ7_copyOfRangeByte_39247_22 ?_
  refine lv_iload_n hx hb dJ7_copyOfRangeByte_39247_23 rfl (lv_at hl 1 rfl) ?_
  refine z_mmin hx hb (by rw [hml]; exact hl.1.symm) hown (hts (.methodLink RJ7 304 Lib.Math.min.name) (by decide +kernel)) (hts (.static Lib.Math.min.name) (by decide +kernel)) (hts (.initialized "java/lang/Math") (by decide +kernel)) (hts _ (List.mem_of_getElem? (i := 5) rfl)) (Nat.le_of_ble_eq_true rfl) (Nat.le_of_ble_eq_true rfl) (show 0 + 0 + 1 ≤ 1 by omega) (show 0 + 0 + (t - f).toNat ≤ (t - f).toNat by omega) dJ7_copyOfRangeByte_39247_24 (by omega) (by omega) ?_
  refine g_copyB hx hb (by rw [hml]; exact hl.1.symm) hown (hts (.methodLink RJ7 150 arraycopyName) (by decide +kernel)) (hts (.native arraycopyName) (by decide +kernel)) (hts (.static arraycopyName) (by decide +kernel)) (hts (.initialized "java/lang/System") (by decide +kernel)) hK hW hS ho hq (by omega) (by omega) (by omega) (by omega) (by omega) (by omega) (by omega) hF (Nat.le_of_ble_eq_true rfl) (Nat.le_of_ble_eq_true rfl) dJ7_copyOfRangeByte_39247_27 (fun H locs hW hS => ?_)
  rw [e2_e] at hW
  have ho : (e2 en k2 i2 (some (q, aB dA (t - f) (cpF (F) (fun _ => 0) (f) (0) (min (n - f) (t - f)))))) ko io = some (ob, aB dA (n) (F)) := (e2_k hne).trans ((e2_k hne).symm.trans ho)
  have hq : (e2 en k2 i2 (some (q, aB dA (t - f) (cpF (F) (fun _ => 0) (f) (0) (min (n - f) (t - f)))))) k2 i2 = some (q, aB dA (t - f) (cpF (F) (fun _ => 0) (f) (0) (min (n - f) (t - f)))) := e2_s _ _ _ _
  refine lv_aload hx hb dJ7_copyOfRangeByte_39247_30 (lv_at hl 0 rfl) ?_
  refine W.widen (k := 1) (n := (t - f).toNat) (by omega) (by omega) ?_
  rw [show min (n - f) (t - f) = t - f by omega, cp_0] at hW
  exact W.aret hx hb hr (Or.inr ⟨_, rfl⟩) (Or.inr ⟨_, rfl⟩) (fun t9 ht hw => ⟨⟨(), _, rfl, trivial, by show Wd _ _ _ t9.heap; rw [ht]; exact hW⟩, hS.F ht⟩) hS.2.2 dJ7_copyOfRangeByte_39247_32
set_option maxHeartbeats 4000000 in
set_option maxRecDepth 100000 in
theorem c_J7_copyOR (l : Launch) (D : va_G) (dA : Nat → ClassId) (z : Nat → Nat) (en : en_T) (ob : Nat) (f t n : Int) (F : Int → Int) (ko : Nat) (io : Int) (k2 : Nat) (i2 : Int) (hne : ko ≠ k2) (h0 : 0 ≤ f) (h1 : f ≤ t) (h2 : t ≤ n) (h3 : n ≤ 1000000) (ho : en ko io = some (ob, aB dA n F)) (hF : ∀ j : Int, -128 ≤ F j ∧ F j ≤ 127) : Met l yJ7_copyOfRange_39247 wsJ7_copyOfRange_39247 ({ frames := 2, cells := 1, slots := (t - f).toNat, locals := 64 }) (gP D dA z en [.ref ob, .int (iZ (f)), .int (iZ (t))]) (va_Qr (fun _ : Unit => True) (fun _ r9 t9 => Wd D (z 0) (e2 en k2 i2 (some (r9, aB dA (t - f) (slF F f (t - f))))) t9.heap) (fun q => z 0 ≤ q)) (1) ((t - f).toNat) (fun q => z 0 ≤ q) := by
  refine gMet (own := RJ7) (cc := cJ7_copyOfRange_39247) (maxL := 3) (ret := (some (.array .byte))) (by decide) rfl rfl (Nat.le_of_ble_eq_true rfl) ?_
  intro p e s m below meth c hx hb hml hown hts hr hlocks hnm hg hW ls hl
  have hK := hg.1
  have hS : va_S (fun q => z 0 ≤ q) s.heap s.heap [] := va_S.rf
  have hl : lv_has ls 3 [(0, .ref ob), (1, .int (iZ (f))), (2, .int (iZ (t)))] := hl
  refine lv_iload_n hx hb dJ7_copyOfRange_39247_0 rfl (lv_at hl 1 rfl) ?_
  refine z_if_ne (tgt := 10) hx hb dJ7_copyOfRange_39247_1 (by decide) (by omega) (fun c_1 => ?_) (fun c_1 => ?_)
  · refine lv_aload_n hx hb dJ7_copyOfRange_39247_10 rfl (lv_at hl 0 rfl) ?_
    refine lv_iload_n hx hb dJ7_copyOfRange_39247_11 rfl (lv_at hl 1 rfl) ?_
    refine lv_iload_n hx hb dJ7_copyOfRange_39247_12 rfl (lv_at hl 2 rfl) ?_
    refine va_callr (va_runS (As := [.ref ob, .int (iZ (f)), .int (iZ (t))]) (rest := []) ⟨hx, hb, hml, hown, hts⟩ (c_J7_copyRB l D dA z en ob f t n F ko io k2 i2 hne h0 h1 h2 h3 ho hF) (va_cwS 3 hts gJ7_copyOfRange_39247_J7_copyOfRangeByte_39247 rfl rfl rfl (by decide +kernel) ⟨Nat.le_of_ble_eq_true rfl, Nat.le_of_ble_eq_true rfl⟩) ⟨gBl, gPre _ hg hS hW⟩ rfl rfl hl.1 rfl (lv_room (Nat.le_of_ble_eq_true rfl)) dJ7_copyOfRange_39247_13 ⟨(show 0 + 1 ≤ 1 by omega), (show 0 + ((t - f).toNat) ≤ (t - f).toNat by omega)⟩) hS (fun _ _ h => h) (fun _ h => h) (fun u9 r9 t9 H locs ht9 hvm9 hw9 hB9 hz9 hk9 hS => ?_)
    obtain ⟨q, hq9⟩ : ∃ y : Nat, y = r9 := ⟨_, rfl⟩
    subst hq9
    have hW : Wd D (z 0) (e2 en k2 i2 (some (q, aB dA (t - f) (slF F f (t - f))))) H := by rw [← ht9]; exact hB9
    have ho : (e2 en k2 i2 (some (q, aB dA (t - f) (slF F f (t - f))))) ko io = some (ob, aB dA (n) (F)) := (e2_k hne).trans ho
    have hq : (e2 en k2 i2 (some (q, aB dA (t - f) (slF F f (t - f))))) k2 i2 = some (q, aB dA (t - f) (slF F f (t - f))) := e2_s _ _ _ _
    refine W.widen (k := 1) (n := (t - f).toNat) (by omega) (by omega) ?_
    exact W.aret hx hb hr (Or.inr ⟨_, rfl⟩) (Or.inr ⟨_, rfl⟩) (fun t9 ht hw => ⟨⟨(), _, rfl, trivial, by show Wd _ _ _ t9.heap; rw [ht]; exact hW⟩, hS.F ht⟩) hS.2.2 dJ7_copyOfRange_39247_16
  · refine lv_iload_n hx hb dJ7_copyOfRange_39247_4 rfl (lv_at hl 2 rfl) ?_
    refine lv_aload_n hx hb dJ7_copyOfRange_39247_5 rfl (lv_at hl 0 rfl) ?_
    refine g_len_aB hx hb hK hW ho (by omega) dJ7_copyOfRange_39247_6 ?_
    refine z_icmp_eq (tgt := 17) hx hb dJ7_copyOfRange_39247_7 (by decide) (by omega) (by omega) (fun c_7 => ?_) (fun c_7 => ?_)
    · refine lv_aload_n hx hb dJ7_copyOfRange_39247_17 rfl (lv_at hl 0 rfl) ?_
      refine g_cloneB hx hb (by rw [hml]; exact hl.1.symm) hown (hts (.methodLink RJ7 310 ⟨"[B", "clone", "()Ljava/lang/Object;"⟩) (by decide +kernel)) (hts (.sameMethod "[B" "java/lang/Object" "clone" "()Ljava/lang/Object;") (by decide +kernel)) (hts (.native ⟨"java/lang/Object", "clone", "()Ljava/lang/Object;"⟩) (by decide +kernel)) (hts (.instanceMethod ⟨"java/lang/Object", "clone", "()Ljava/lang/Object;"⟩) (by decide +kernel)) (hts (.selects "[B" ⟨"[B", "clone", "()Ljava/lang/Object;"⟩ ⟨"java/lang/Object", "clone", "()Ljava/lang/Object;"⟩) (by decide +kernel)) hg.2.2.2.2.2.2.2.2.2.2.1 hK hW hS hg.2.1 ho hF (Nat.le_of_ble_eq_true rfl) (Nat.le_of_ble_eq_true rfl) (show 0 + 1 ≤ 1 by omega) (show 0 + n.toNat ≤ (t - f).toNat by omega) dJ7_copyOfRange_39247_18 k2 i2 (fun q H hW hS => ?_)
      have ho : (e2 en k2 i2 (some (q, aB dA (n) (F)))) ko io = some (ob, aB dA (n) (F)) := (e2_k hne).trans ho
      have hq : (e2 en k2 i2 (some (q, aB dA (n) (F)))) k2 i2 = some (q, aB dA (n) (F)) := e2_s _ _ _ _
      refine g_castB hx hb hown (hts (.classLink RJ7 311 "[B") (by decide +kernel)) hK hW hq dJ7_copyOfRange_39247_21 ?_
      refine W.widen (k := 1) (n := (t - f).toNat) (by omega) (by omega) ?_
      have hW := Wd.repl hW hq (e' := aB dA (t - f) (slF F f (t - f))) (fun H9 h9 => aB_at (n' := t - f) (by omega) (fun j h1 h2 => by unfold slF; rw [if_pos (by omega)]; congr 1; omega) h9)
      rw [e2_e] at hW
      exact W.aret hx hb hr (Or.inr ⟨_, rfl⟩) (Or.inr ⟨_, rfl⟩) (fun t9 ht hw => ⟨⟨(), _, rfl, trivial, by show Wd _ _ _ t9.heap; rw [ht]; exact hW⟩, hS.F ht⟩) hS.2.2 dJ7_copyOfRange_39247_24
    · refine lv_aload_n hx hb dJ7_copyOfRange_39247_10 rfl (lv_at hl 0 rfl) ?_
      refine lv_iload_n hx hb dJ7_copyOfRange_39247_11 rfl (lv_at hl 1 rfl) ?_
      refine lv_iload_n hx hb dJ7_copyOfRange_39247_12 rfl (lv_at hl 2 rfl) ?_
      refine va_callr (va_runS (As := [.ref ob, .int (iZ (f)), .int (iZ (t))]) (rest := []) ⟨hx, hb, hml, hown, hts⟩ (c_J7_copyRB l D dA z en ob f t n F ko io k2 i2 hne h0 h1 h2 h3 ho hF) (va_cwS 3 hts gJ7_copyOfRange_39247_J7_copyOfRangeByte_39247 rfl rfl rfl (by decide +kernel) ⟨Nat.le_of_ble_eq_true rfl, Nat.le_of_ble_eq_true rfl⟩) ⟨gBl, gPre _ hg hS hW⟩ rfl rfl hl.1 rfl (lv_room (Nat.le_of_ble_eq_true rfl)) dJ7_copyOfRange_39247_13 ⟨(show 0 + 1 ≤ 1 by omega), (show 0 + ((t - f).toNat) ≤ (t - f).toNat by omega)⟩) hS (fun _ _ h => h) (fun _ h => h) (fun u9 r9 t9 H locs ht9 hvm9 hw9 hB9 hz9 hk9 hS => ?_)
      obtain ⟨q, hq9⟩ : ∃ y : Nat, y = r9 := ⟨_, rfl⟩
      subst hq9
      have hW : Wd D (z 0) (e2 en k2 i2 (some (q, aB dA (t - f) (slF F f (t - f))))) H := by rw [← ht9]; exact hB9
      have ho : (e2 en k2 i2 (some (q, aB dA (t - f) (slF F f (t - f))))) ko io = some (ob, aB dA (n) (F)) := (e2_k hne).trans ho
      have hq : (e2 en k2 i2 (some (q, aB dA (t - f) (slF F f (t - f))))) k2 i2 = some (q, aB dA (t - f) (slF F f (t - f))) := e2_s _ _ _ _
      refine W.widen (k := 1) (n := (t - f).toNat) (by omega) (by omega) ?_
      exact W.aret hx hb hr (Or.inr ⟨_, rfl⟩) (Or.inr ⟨_, rfl⟩) (fun t9 ht hw => ⟨⟨(), _, rfl, trivial, by show Wd _ _ _ t9.heap; rw [ht]; exact hW⟩, hS.F ht⟩) hS.2.2 dJ7_copyOfRange_39247_16
theorem fm_x {a b x : Int} (h0 : 0 ≤ a) (h1 : 0 < b) (ha : iB a) (hb : iB b) (hx : iZ a ^^^ iZ b = iZ x) (hn : ¬ 0 ≤ x) (hxb : iB x) : False := by
  have e := congrArg (fun q : Int32 => q.toBitVec.msb) hx
  have m1 : (iZ a).toBitVec.msb = false := by
    rw [BitVec.msb_eq_toInt]; show decide ((iZ a).toInt < 0) = false; rw [iZ_T ha]; simp; omega
  have m2 : (iZ b).toBitVec.msb = false := by
    rw [BitVec.msb_eq_toInt]; show decide ((iZ b).toInt < 0) = false; rw [iZ_T hb]; simp; omega
  have m3 : (iZ x).toBitVec.msb = true := by
    rw [BitVec.msb_eq_toInt]; show decide ((iZ x).toInt < 0) = true; rw [iZ_T hxb]; simp; omega
  simp [m1, m2, m3] at e
theorem gMetF {l : Launch} {y : MethodName} {own : String} {ws ws' : List Cond} {rm : Room} {Qc : Array Value → State → Outcome → State → Prop} {mc ms : Nat} {D : va_G} {dA : Nat → ClassId} {z : Nat → Nat} {en : en_T} {av : List Value} {cc : ByteArray} {maxL : Nat} {ret : Option FieldType} (hy : plainFor y = true) (ho : y.cls = own) (hw : ws = Cond.code y cc maxL ret :: ws') (hlen : (lg_sl av).length ≤ maxL)
    (body : ∀ (p : Program) (e : Env) (s : State) (m : MethodId) (below : List Frame) (meth : Method) (c : Code), p.tables.exec = Jvm.exec → c.code = cc → c.maxLocals = maxL → s.vm.findClass own = some m.cls → (∀ w ∈ ws, w.before av.toArray s = true) → meth.sig.returnType = ret → meth.locks = false → meth.name = y.name → gK D dA z s → Wd D (z 0) en s.heap → ∀ ls : Array Slot, lv_has ls maxL (lv_args 0 av) →
      W p l e rm s m av.toArray below meth c s.heap [] 0 0 (MQ below Qc av.toArray s mc ms (fun q => z 0 ≤ q)) (F0 m 0 ls [])) : Met l y ws rm (gP D dA z en av) Qc mc ms (fun q => z 0 ≤ q) := by
  refine va_MetF (cc := cc) (maxL := maxL) (ret := ret) hy hw ?_
  intro p e s m args below meth c s₁ B hml hv
  obtain ⟨rfl, hg, hW⟩ := hv
  have hl := lv_entry av (n := maxL) hlen
  rw [lg_entry_eq]
  exact body p e s m below meth c B.exec B.bytes hml (by rw [← ho]; exact findClass_of_methodNamed B.named) (atoms_spec (ws := ws) B.pre) B.returns B.notSynchronized (name_of_methodNamed B.named B.method).1 hg hW _ hl
set_option maxHeartbeats 4000000 in
set_option maxRecDepth 100000 in
theorem c_J9_floorMod (l : Launch) (D : va_G) (dA : Nat → ClassId) (z : Nat → Nat) (en : en_T) (a b : Int) (h0 : 0 ≤ a) (h1 : 0 < b) (ha : iB a) (hb2 : iB b) : Met l yJ9_floorMod_7cf53 wsJ9_floorMod_7cf53 ({ frames := 0, cells := 0, slots := 0, locals := 0 }) (gP D dA z en [.int (iZ (a)), .int (iZ (b))]) (va_Qi (fun (r : Int32) (_ : Unit) => r = iZ (a % b)) (fun _ t9 => Wd D (z 0) en t9.heap) (fun q => z 0 ≤ q)) (0) (0) (fun q => z 0 ≤ q) := by
  refine gMetF (own := RJ9) (cc := cJ9_floorMod_7cf53) (maxL := 3) (ret := (some .int)) (by decide +kernel) rfl rfl (Nat.le_of_ble_eq_true rfl) ?_
  intro p e s m below meth c hx hb hml hown hts hr hlocks hnm hg hW ls hl
  have hK := hg.1
  have hS : va_S (fun q => z 0 ≤ q) s.heap s.heap [] := va_S.rf
  have hl : lv_has ls 3 [(0, .int (iZ (a))), (1, .int (iZ (b)))] := hl
  refine lv_iload_n hx hb dJ9_floorMod_7cf53_0 rfl (lv_at hl 0 rfl) ?_
  refine lv_iload_n hx hb dJ9_floorMod_7cf53_1 rfl (lv_at hl 1 rfl) ?_
  refine z_irem hx hb (by omega) (by omega) (by omega) (by omega) dJ9_floorMod_7cf53_2 ?_
  refine lv_istore_n (lv' := [(2, .int (iZ (a % b))), (0, .int (iZ (a))), (1, .int (iZ (b)))]) hx hb dJ9_floorMod_7cf53_3 rfl hl (by decide) rfl (fun ls hl => ?_)
  refine lv_iload_n hx hb dJ9_floorMod_7cf53_4 rfl (lv_at hl 1 rfl) ?_
  refine lv_iload_n hx hb dJ9_floorMod_7cf53_5 rfl (lv_at hl 2 rfl) ?_
  refine lv_ixor hx hb dJ9_floorMod_7cf53_6 ?_
  obtain ⟨xv, hxv⟩ : ∃ y : Int, iB y ∧ iZ a ^^^ iZ b = iZ y := ⟨_, iB_of _, (iZ_of _).symm⟩
  rw [hxv.2]
  have hxv1 := hxv.1
  refine z_if_ge (tgt := 18) hx hb dJ9_floorMod_7cf53_7 (by decide) (by omega) (fun c_7 => ?_) (fun c_7 => ?_)
  · refine lv_iload_n hx hb dJ9_floorMod_7cf53_18 rfl (lv_at hl 0 rfl) ?_
    exact W.iret hx hb hr (fun t ht hw => ⟨⟨_, (), rfl, rfl, by show Wd _ _ _ t.heap; rw [ht]; exact hW⟩, hS.F ht⟩) hS.2.2 dJ9_floorMod_7cf53_19
  · exact absurd (fm_x h0 h1 ha hb2 hxv.2 c_7 hxv.1) id
