set_option maxHeartbeats 4000000 in
set_option maxRecDepth 100000 in
theorem c_X0_init (l : Launch) (D : va_G) (dA : Nat → ClassId) (z : Nat → Nat) (en : en_T) (k : Nat) (i : Int) (a : Nat) (ob : Nat) (kd mg nu t n : Int) (F : Int → Int) (ko : Nat) (io : Int) (hne : ko ≠ k) (h0 : 0 ≤ n) (he : en k i = some (a, .inr (2, [.int (iZ (0)), .int (iZ (0)), .int (iZ (0)), .int (iZ (0)), .int (iZ (0)), .long (lZ (0)), .null, .int (iZ (0))]))) (ho : en ko io = some (ob, aB dA n F)) : Met l yX0_init wsX0_init ({ frames := 1, cells := 0, slots := 0, locals := 12 }) (gP D dA z en [.ref a, .int (iZ (kd)), .int (iZ (mg)), .int (iZ (nu)), .ref ob, .long (lZ (t))]) (va_Qv (fun _ : Unit => True) (fun _ t9 => Wd D (z 0) (e2 en k i (some (a, .inr (2, [.int (iZ (kd)), .int (iZ (mg)), .int (iZ (nu)), .int (iZ (n)), .int (iZ (0)), .long (lZ (t)), .ref ob, .int (iZ (1))])))) t9.heap) (fun q => z 0 ≤ q)) (0) (0) (fun q => z 0 ≤ q) := by
  refine gMet (own := RX0) (cc := cX0_init) (maxL := 7) (ret := none) (by decide) rfl rfl (Nat.le_of_ble_eq_true rfl) ?_
  intro p e s m below meth c hx hb hml hown hts hr hlocks hnm hg hW ls hl
  have hK := hg.1
  have hS : va_S (fun q => z 0 ≤ q) s.heap s.heap [] := va_S.rf
  have hi2 : ∀ w ∈ u_ws RX0 TX0 8, w ∈ wsX0_init := by decide +kernel
  have hl : lv_has ls 7 [(0, .ref a), (1, .int (iZ (kd))), (2, .int (iZ (mg))), (3, .int (iZ (nu))), (4, .ref ob), (5, .long (lZ (t)))] := hl
  refine lv_aload_n hx hb dX0_init_0 rfl (lv_at hl 0 rfl) ?_
  refine W.objInit hx hb hown (hts (.methodLink RX0 3 objectInit) (by decide +kernel)) (hts (.instanceMethod objectInit) (by decide +kernel)) (hts _ (List.mem_of_getElem? (i := 3) rfl)) rfl (by rw [hml]; exact hl.1) rfl dX0_init_1 (Nat.le_of_ble_eq_true rfl) (Nat.le_of_ble_eq_true rfl) ?_
  refine W.eq (g2 := F0 m 4 ls []) rfl ?_
  refine lv_aload_n hx hb dX0_init_4 rfl (lv_at hl 0 rfl) ?_
  refine z_iconst hx hb dX0_init_5 ?_
  refine g_put (C := RX0) (T := TX0) (N := 8) (ci := 2) (ty := .boolean) (v := .int (iZ (1))) (fs' := [.int (iZ (0)), .int (iZ (0)), .int (iZ (0)), .int (iZ (0)), .int (iZ (0)), .long (lZ (0)), .null, .int (iZ (1))]) hx hb hts hi2 tyX0 tyX0_ok nmX0 hown hK hW hS he rfl 7 (by decide) (hts (.fieldLink RX0 9 "LongTransfer$Frame" "onItsWay" "Z") (by decide +kernel)) (fun _ h9 => h9) rfl (by decide +kernel) (by decide) (by decide) (Nat.le_of_ble_eq_true rfl) dX0_init_6 rfl (fun H locs hW hS => ?_)
  have ho : (e2 en k i (some (a, .inr (2, [.int (iZ (0)), .int (iZ (0)), .int (iZ (0)), .int (iZ (0)), .int (iZ (0)), .long (lZ (0)), .null, .int (iZ (1))])))) ko io = some (ob, aB dA (n) (F)) := (e2_k hne).trans ho
  have he : (e2 en k i (some (a, .inr (2, [.int (iZ (0)), .int (iZ (0)), .int (iZ (0)), .int (iZ (0)), .int (iZ (0)), .long (lZ (0)), .null, .int (iZ (1))])))) k i = some (a, .inr (2, [.int (iZ (0)), .int (iZ (0)), .int (iZ (0)), .int (iZ (0)), .int (iZ (0)), .long (lZ (0)), .null, .int (iZ (1))])) := e2_s _ _ _ _
  refine lv_aload_n hx hb dX0_init_9 rfl (lv_at hl 0 rfl) ?_
  refine lv_iload_n hx hb dX0_init_10 rfl (lv_at hl 1 rfl) ?_
  refine g_putF (C := RX0) (T := TX0) (N := 8) (ci := 2) (ty := .int) (v := .int (iZ (kd))) (fs' := [.int (iZ (kd)), .int (iZ (0)), .int (iZ (0)), .int (iZ (0)), .int (iZ (0)), .long (lZ (0)), .null, .int (iZ (1))]) hx hb hts hi2 tyX0 tyX0_ok nmX0 hown hK hW hS he rfl 0 (by decide) (hts (.fieldLink RX0 15 "LongTransfer$Frame" "kind" "I") (by decide +kernel)) (fun _ h9 => h9) rfl hnm rfl (by decide +kernel) rfl rfl (Nat.le_of_ble_eq_true rfl) dX0_init_11 rfl (fun H locs hW hS => ?_)
  rw [e2_e] at hW
  have ho : (e2 en k i (some (a, .inr (2, [.int (iZ (kd)), .int (iZ (0)), .int (iZ (0)), .int (iZ (0)), .int (iZ (0)), .long (lZ (0)), .null, .int (iZ (1))])))) ko io = some (ob, aB dA (n) (F)) := (e2_k hne).trans ((e2_k hne).symm.trans ho)
  have he : (e2 en k i (some (a, .inr (2, [.int (iZ (kd)), .int (iZ (0)), .int (iZ (0)), .int (iZ (0)), .int (iZ (0)), .long (lZ (0)), .null, .int (iZ (1))])))) k i = some (a, .inr (2, [.int (iZ (kd)), .int (iZ (0)), .int (iZ (0)), .int (iZ (0)), .int (iZ (0)), .long (lZ (0)), .null, .int (iZ (1))])) := e2_s _ _ _ _
  refine lv_aload_n hx hb dX0_init_14 rfl (lv_at hl 0 rfl) ?_
  refine lv_iload_n hx hb dX0_init_15 rfl (lv_at hl 2 rfl) ?_
  refine g_putF (C := RX0) (T := TX0) (N := 8) (ci := 2) (ty := .int) (v := .int (iZ (mg))) (fs' := [.int (iZ (kd)), .int (iZ (mg)), .int (iZ (0)), .int (iZ (0)), .int (iZ (0)), .long (lZ (0)), .null, .int (iZ (1))]) hx hb hts hi2 tyX0 tyX0_ok nmX0 hown hK hW hS he rfl 1 (by decide) (hts (.fieldLink RX0 19 "LongTransfer$Frame" "message" "I") (by decide +kernel)) (fun _ h9 => h9) rfl hnm rfl (by decide +kernel) rfl rfl (Nat.le_of_ble_eq_true rfl) dX0_init_16 rfl (fun H locs hW hS => ?_)
  rw [e2_e] at hW
  have ho : (e2 en k i (some (a, .inr (2, [.int (iZ (kd)), .int (iZ (mg)), .int (iZ (0)), .int (iZ (0)), .int (iZ (0)), .long (lZ (0)), .null, .int (iZ (1))])))) ko io = some (ob, aB dA (n) (F)) := (e2_k hne).trans ((e2_k hne).symm.trans ho)
  have he : (e2 en k i (some (a, .inr (2, [.int (iZ (kd)), .int (iZ (mg)), .int (iZ (0)), .int (iZ (0)), .int (iZ (0)), .long (lZ (0)), .null, .int (iZ (1))])))) k i = some (a, .inr (2, [.int (iZ (kd)), .int (iZ (mg)), .int (iZ (0)), .int (iZ (0)), .int (iZ (0)), .long (lZ (0)), .null, .int (iZ (1))])) := e2_s _ _ _ _
  refine lv_aload_n hx hb dX0_init_19 rfl (lv_at hl 0 rfl) ?_
  refine lv_iload_n hx hb dX0_init_20 rfl (lv_at hl 3 rfl) ?_
  refine g_putF (C := RX0) (T := TX0) (N := 8) (ci := 2) (ty := .int) (v := .int (iZ (nu))) (fs' := [.int (iZ (kd)), .int (iZ (mg)), .int (iZ (nu)), .int (iZ (0)), .int (iZ (0)), .long (lZ (0)), .null, .int (iZ (1))]) hx hb hts hi2 tyX0 tyX0_ok nmX0 hown hK hW hS he rfl 2 (by decide) (hts (.fieldLink RX0 22 "LongTransfer$Frame" "number" "I") (by decide +kernel)) (fun _ h9 => h9) rfl hnm rfl (by decide +kernel) rfl rfl (Nat.le_of_ble_eq_true rfl) dX0_init_21 rfl (fun H locs hW hS => ?_)
  rw [e2_e] at hW
  have ho : (e2 en k i (some (a, .inr (2, [.int (iZ (kd)), .int (iZ (mg)), .int (iZ (nu)), .int (iZ (0)), .int (iZ (0)), .long (lZ (0)), .null, .int (iZ (1))])))) ko io = some (ob, aB dA (n) (F)) := (e2_k hne).trans ((e2_k hne).symm.trans ho)
  have he : (e2 en k i (some (a, .inr (2, [.int (iZ (kd)), .int (iZ (mg)), .int (iZ (nu)), .int (iZ (0)), .int (iZ (0)), .long (lZ (0)), .null, .int (iZ (1))])))) k i = some (a, .inr (2, [.int (iZ (kd)), .int (iZ (mg)), .int (iZ (nu)), .int (iZ (0)), .int (iZ (0)), .long (lZ (0)), .null, .int (iZ (1))])) := e2_s _ _ _ _
  refine lv_aload_n hx hb dX0_init_24 rfl (lv_at hl 0 rfl) ?_
  refine lv_aload hx hb dX0_init_25 (lv_at hl 4 rfl) ?_
  refine g_len_aB hx hb hK hW ho (by omega) dX0_init_27 ?_
  refine g_putF (C := RX0) (T := TX0) (N := 8) (ci := 2) (ty := .int) (v := .int (iZ (n))) (fs' := [.int (iZ (kd)), .int (iZ (mg)), .int (iZ (nu)), .int (iZ (n)), .int (iZ (0)), .long (lZ (0)), .null, .int (iZ (1))]) hx hb hts hi2 tyX0 tyX0_ok nmX0 hown hK hW hS he rfl 3 (by decide) (hts (.fieldLink RX0 25 "LongTransfer$Frame" "size" "I") (by decide +kernel)) (fun _ h9 => h9) rfl hnm rfl (by decide +kernel) rfl rfl (Nat.le_of_ble_eq_true rfl) dX0_init_28 rfl (fun H locs hW hS => ?_)
  rw [e2_e] at hW
  have ho : (e2 en k i (some (a, .inr (2, [.int (iZ (kd)), .int (iZ (mg)), .int (iZ (nu)), .int (iZ (n)), .int (iZ (0)), .long (lZ (0)), .null, .int (iZ (1))])))) ko io = some (ob, aB dA (n) (F)) := (e2_k hne).trans ((e2_k hne).symm.trans ho)
  have he : (e2 en k i (some (a, .inr (2, [.int (iZ (kd)), .int (iZ (mg)), .int (iZ (nu)), .int (iZ (n)), .int (iZ (0)), .long (lZ (0)), .null, .int (iZ (1))])))) k i = some (a, .inr (2, [.int (iZ (kd)), .int (iZ (mg)), .int (iZ (nu)), .int (iZ (n)), .int (iZ (0)), .long (lZ (0)), .null, .int (iZ (1))])) := e2_s _ _ _ _
  refine lv_aload_n hx hb dX0_init_31 rfl (lv_at hl 0 rfl) ?_
  refine z_iconst hx hb dX0_init_32 ?_
  refine g_putF (C := RX0) (T := TX0) (N := 8) (ci := 2) (ty := .int) (v := .int (iZ (0))) (fs' := [.int (iZ (kd)), .int (iZ (mg)), .int (iZ (nu)), .int (iZ (n)), .int (iZ (0)), .long (lZ (0)), .null, .int (iZ (1))]) hx hb hts hi2 tyX0 tyX0_ok nmX0 hown hK hW hS he rfl 4 (by decide) (hts (.fieldLink RX0 28 "LongTransfer$Frame" "separation" "I") (by decide +kernel)) (fun _ h9 => h9) rfl hnm rfl (by decide +kernel) rfl rfl (Nat.le_of_ble_eq_true rfl) dX0_init_33 rfl (fun H locs hW hS => ?_)
  rw [e2_e] at hW
  have ho : (e2 en k i (some (a, .inr (2, [.int (iZ (kd)), .int (iZ (mg)), .int (iZ (nu)), .int (iZ (n)), .int (iZ (0)), .long (lZ (0)), .null, .int (iZ (1))])))) ko io = some (ob, aB dA (n) (F)) := (e2_k hne).trans ((e2_k hne).symm.trans ho)
  have he : (e2 en k i (some (a, .inr (2, [.int (iZ (kd)), .int (iZ (mg)), .int (iZ (nu)), .int (iZ (n)), .int (iZ (0)), .long (lZ (0)), .null, .int (iZ (1))])))) k i = some (a, .inr (2, [.int (iZ (kd)), .int (iZ (mg)), .int (iZ (nu)), .int (iZ (n)), .int (iZ (0)), .long (lZ (0)), .null, .int (iZ (1))])) := e2_s _ _ _ _
  refine lv_aload_n hx hb dX0_init_36 rfl (lv_at hl 0 rfl) ?_
  refine lv_lload hx hb dX0_init_37 (lv_at hl 5 rfl) ?_
  refine g_putF (C := RX0) (T := TX0) (N := 8) (ci := 2) (ty := .long) (v := .long (lZ (t))) (fs' := [.int (iZ (kd)), .int (iZ (mg)), .int (iZ (nu)), .int (iZ (n)), .int (iZ (0)), .long (lZ (t)), .null, .int (iZ (1))]) hx hb hts hi2 tyX0 tyX0_ok nmX0 hown hK hW hS he rfl 5 (by decide) (hts (.fieldLink RX0 31 "LongTransfer$Frame" "time" "J") (by decide +kernel)) (fun _ h9 => h9) rfl hnm rfl (by decide +kernel) rfl rfl (Nat.le_of_ble_eq_true rfl) dX0_init_39 rfl (fun H locs hW hS => ?_)
  rw [e2_e] at hW
  have ho : (e2 en k i (some (a, .inr (2, [.int (iZ (kd)), .int (iZ (mg)), .int (iZ (nu)), .int (iZ (n)), .int (iZ (0)), .long (lZ (t)), .null, .int (iZ (1))])))) ko io = some (ob, aB dA (n) (F)) := (e2_k hne).trans ((e2_k hne).symm.trans ho)
  have he : (e2 en k i (some (a, .inr (2, [.int (iZ (kd)), .int (iZ (mg)), .int (iZ (nu)), .int (iZ (n)), .int (iZ (0)), .long (lZ (t)), .null, .int (iZ (1))])))) k i = some (a, .inr (2, [.int (iZ (kd)), .int (iZ (mg)), .int (iZ (nu)), .int (iZ (n)), .int (iZ (0)), .long (lZ (t)), .null, .int (iZ (1))])) := e2_s _ _ _ _
  refine lv_aload_n hx hb dX0_init_42 rfl (lv_at hl 0 rfl) ?_
  refine lv_aload hx hb dX0_init_43 (lv_at hl 4 rfl) ?_
  refine g_putF (C := RX0) (T := TX0) (N := 8) (ci := 2) (ty := .array .byte) (v := .ref ob) (fs' := [.int (iZ (kd)), .int (iZ (mg)), .int (iZ (nu)), .int (iZ (n)), .int (iZ (0)), .long (lZ (t)), .ref ob, .int (iZ (1))]) hx hb hts hi2 tyX0 tyX0_ok nmX0 hown hK hW hS he rfl 6 (by decide) (hts (.fieldLink RX0 35 "LongTransfer$Frame" "octets" "[B") (by decide +kernel)) (fun _ h9 => h9) rfl hnm rfl (by decide +kernel) rfl rfl (Nat.le_of_ble_eq_true rfl) dX0_init_45 rfl (fun H locs hW hS => ?_)
  rw [e2_e] at hW
  have ho : (e2 en k i (some (a, .inr (2, [.int (iZ (kd)), .int (iZ (mg)), .int (iZ (nu)), .int (iZ (n)), .int (iZ (0)), .long (lZ (t)), .ref ob, .int (iZ (1))])))) ko io = some (ob, aB dA (n) (F)) := (e2_k hne).trans ((e2_k hne).symm.trans ho)
  have he : (e2 en k i (some (a, .inr (2, [.int (iZ (kd)), .int (iZ (mg)), .int (iZ (nu)), .int (iZ (n)), .int (iZ (0)), .long (lZ (t)), .ref ob, .int (iZ (1))])))) k i = some (a, .inr (2, [.int (iZ (kd)), .int (iZ (mg)), .int (iZ (nu)), .int (iZ (n)), .int (iZ (0)), .long (lZ (t)), .ref ob, .int (iZ (1))])) := e2_s _ _ _ _
  exact W.vret hx hb hr (fun t ht hw => ⟨⟨(), rfl, trivial, by show Wd _ _ _ t.heap; rw [ht]; exact hW⟩, hS.F ht⟩) hS.2.2 dX0_init_48
set_option maxHeartbeats 4000000 in
set_option maxRecDepth 100000 in
theorem c_X0_init_ (l : Launch) (D : va_G) (dA : Nat → ClassId) (z : Nat → Nat) (en : en_T) (k : Nat) (i : Int) (a : Nat) (mg fk bk sp t : Int) (he : en k i = some (a, .inr (2, [.int (iZ (0)), .int (iZ (0)), .int (iZ (0)), .int (iZ (0)), .int (iZ (0)), .long (lZ (0)), .null, .int (iZ (0))]))) : Met l yX0_init_ wsX0_init_ ({ frames := 1, cells := 0, slots := 0, locals := 12 }) (gP D dA z en [.ref a, .int (iZ (mg)), .int (iZ (fk)), .int (iZ (bk)), .int (iZ (sp)), .long (lZ (t))]) (va_Qv (fun _ : Unit => True) (fun _ t9 => Wd D (z 0) (e2 en k i (some (a, .inr (2, [.int (iZ (3)), .int (iZ (mg)), .int (iZ (fk)), .int (iZ (bk)), .int (iZ (sp)), .long (lZ (t)), .ref (z 1), .int (iZ (1))])))) t9.heap) (fun q => z 0 ≤ q)) (0) (0) (fun q => z 0 ≤ q) := by
  refine gMet (own := RX0) (cc := cX0_init_) (maxL := 7) (ret := none) (by decide) rfl rfl (Nat.le_of_ble_eq_true rfl) ?_
  intro p e s m below meth c hx hb hml hown hts hr hlocks hnm hg hW ls hl
  have hK := hg.1
  have hS : va_S (fun q => z 0 ≤ q) s.heap s.heap [] := va_S.rf
  have hi2 : ∀ w ∈ u_ws RX0 TX0 8, w ∈ wsX0_init_ := by decide +kernel
  have hl : lv_has ls 7 [(0, .ref a), (1, .int (iZ (mg))), (2, .int (iZ (fk))), (3, .int (iZ (bk))), (4, .int (iZ (sp))), (5, .long (lZ (t)))] := hl
  refine lv_aload_n hx hb dX0_init__0 rfl (lv_at hl 0 rfl) ?_
  refine W.objInit hx hb hown (hts (.methodLink RX0 3 objectInit) (by decide +kernel)) (hts (.instanceMethod objectInit) (by decide +kernel)) (hts _ (List.mem_of_getElem? (i := 3) rfl)) rfl (by rw [hml]; exact hl.1) rfl dX0_init__1 (Nat.le_of_ble_eq_true rfl) (Nat.le_of_ble_eq_true rfl) ?_
  refine W.eq (g2 := F0 m 4 ls []) rfl ?_
  refine lv_aload_n hx hb dX0_init__4 rfl (lv_at hl 0 rfl) ?_
  refine z_iconst hx hb dX0_init__5 ?_
  refine g_put (C := RX0) (T := TX0) (N := 8) (ci := 2) (ty := .boolean) (v := .int (iZ (1))) (fs' := [.int (iZ (0)), .int (iZ (0)), .int (iZ (0)), .int (iZ (0)), .int (iZ (0)), .long (lZ (0)), .null, .int (iZ (1))]) hx hb hts hi2 tyX0 tyX0_ok nmX0 hown hK hW hS he rfl 7 (by decide) (hts (.fieldLink RX0 9 "LongTransfer$Frame" "onItsWay" "Z") (by decide +kernel)) (fun _ h9 => h9) rfl (by decide +kernel) (by decide) (by decide) (Nat.le_of_ble_eq_true rfl) dX0_init__6 rfl (fun H locs hW hS => ?_)
  have he : (e2 en k i (some (a, .inr (2, [.int (iZ (0)), .int (iZ (0)), .int (iZ (0)), .int (iZ (0)), .int (iZ (0)), .long (lZ (0)), .null, .int (iZ (1))])))) k i = some (a, .inr (2, [.int (iZ (0)), .int (iZ (0)), .int (iZ (0)), .int (iZ (0)), .int (iZ (0)), .long (lZ (0)), .null, .int (iZ (1))])) := e2_s _ _ _ _
  refine lv_aload_n hx hb dX0_init__9 rfl (lv_at hl 0 rfl) ?_
  refine z_iconst hx hb dX0_init__10 ?_
  refine g_putF (C := RX0) (T := TX0) (N := 8) (ci := 2) (ty := .int) (v := .int (iZ (3))) (fs' := [.int (iZ (3)), .int (iZ (0)), .int (iZ (0)), .int (iZ (0)), .int (iZ (0)), .long (lZ (0)), .null, .int (iZ (1))]) hx hb hts hi2 tyX0 tyX0_ok nmX0 hown hK hW hS he rfl 0 (by decide) (hts (.fieldLink RX0 15 "LongTransfer$Frame" "kind" "I") (by decide +kernel)) (fun _ h9 => h9) rfl hnm rfl (by decide +kernel) rfl rfl (Nat.le_of_ble_eq_true rfl) dX0_init__11 rfl (fun H locs hW hS => ?_)
  rw [e2_e] at hW
  have he : (e2 en k i (some (a, .inr (2, [.int (iZ (3)), .int (iZ (0)), .int (iZ (0)), .int (iZ (0)), .int (iZ (0)), .long (lZ (0)), .null, .int (iZ (1))])))) k i = some (a, .inr (2, [.int (iZ (3)), .int (iZ (0)), .int (iZ (0)), .int (iZ (0)), .int (iZ (0)), .long (lZ (0)), .null, .int (iZ (1))])) := e2_s _ _ _ _
  refine lv_aload_n hx hb dX0_init__14 rfl (lv_at hl 0 rfl) ?_
  refine lv_iload_n hx hb dX0_init__15 rfl (lv_at hl 1 rfl) ?_
  refine g_putF (C := RX0) (T := TX0) (N := 8) (ci := 2) (ty := .int) (v := .int (iZ (mg))) (fs' := [.int (iZ (3)), .int (iZ (mg)), .int (iZ (0)), .int (iZ (0)), .int (iZ (0)), .long (lZ (0)), .null, .int (iZ (1))]) hx hb hts hi2 tyX0 tyX0_ok nmX0 hown hK hW hS he rfl 1 (by decide) (hts (.fieldLink RX0 19 "LongTransfer$Frame" "message" "I") (by decide +kernel)) (fun _ h9 => h9) rfl hnm rfl (by decide +kernel) rfl rfl (Nat.le_of_ble_eq_true rfl) dX0_init__16 rfl (fun H locs hW hS => ?_)
  rw [e2_e] at hW
  have he : (e2 en k i (some (a, .inr (2, [.int (iZ (3)), .int (iZ (mg)), .int (iZ (0)), .int (iZ (0)), .int (iZ (0)), .long (lZ (0)), .null, .int (iZ (1))])))) k i = some (a, .inr (2, [.int (iZ (3)), .int (iZ (mg)), .int (iZ (0)), .int (iZ (0)), .int (iZ (0)), .long (lZ (0)), .null, .int (iZ (1))])) := e2_s _ _ _ _
  refine lv_aload_n hx hb dX0_init__19 rfl (lv_at hl 0 rfl) ?_
  refine lv_iload_n hx hb dX0_init__20 rfl (lv_at hl 2 rfl) ?_
  refine g_putF (C := RX0) (T := TX0) (N := 8) (ci := 2) (ty := .int) (v := .int (iZ (fk))) (fs' := [.int (iZ (3)), .int (iZ (mg)), .int (iZ (fk)), .int (iZ (0)), .int (iZ (0)), .long (lZ (0)), .null, .int (iZ (1))]) hx hb hts hi2 tyX0 tyX0_ok nmX0 hown hK hW hS he rfl 2 (by decide) (hts (.fieldLink RX0 22 "LongTransfer$Frame" "number" "I") (by decide +kernel)) (fun _ h9 => h9) rfl hnm rfl (by decide +kernel) rfl rfl (Nat.le_of_ble_eq_true rfl) dX0_init__21 rfl (fun H locs hW hS => ?_)
  rw [e2_e] at hW
  have he : (e2 en k i (some (a, .inr (2, [.int (iZ (3)), .int (iZ (mg)), .int (iZ (fk)), .int (iZ (0)), .int (iZ (0)), .long (lZ (0)), .null, .int (iZ (1))])))) k i = some (a, .inr (2, [.int (iZ (3)), .int (iZ (mg)), .int (iZ (fk)), .int (iZ (0)), .int (iZ (0)), .long (lZ (0)), .null, .int (iZ (1))])) := e2_s _ _ _ _
  refine lv_aload_n hx hb dX0_init__24 rfl (lv_at hl 0 rfl) ?_
  refine lv_iload_n hx hb dX0_init__25 rfl (lv_at hl 3 rfl) ?_
  refine g_putF (C := RX0) (T := TX0) (N := 8) (ci := 2) (ty := .int) (v := .int (iZ (bk))) (fs' := [.int (iZ (3)), .int (iZ (mg)), .int (iZ (fk)), .int (iZ (bk)), .int (iZ (0)), .long (lZ (0)), .null, .int (iZ (1))]) hx hb hts hi2 tyX0 tyX0_ok nmX0 hown hK hW hS he rfl 3 (by decide) (hts (.fieldLink RX0 25 "LongTransfer$Frame" "size" "I") (by decide +kernel)) (fun _ h9 => h9) rfl hnm rfl (by decide +kernel) rfl rfl (Nat.le_of_ble_eq_true rfl) dX0_init__26 rfl (fun H locs hW hS => ?_)
  rw [e2_e] at hW
  have he : (e2 en k i (some (a, .inr (2, [.int (iZ (3)), .int (iZ (mg)), .int (iZ (fk)), .int (iZ (bk)), .int (iZ (0)), .long (lZ (0)), .null, .int (iZ (1))])))) k i = some (a, .inr (2, [.int (iZ (3)), .int (iZ (mg)), .int (iZ (fk)), .int (iZ (bk)), .int (iZ (0)), .long (lZ (0)), .null, .int (iZ (1))])) := e2_s _ _ _ _
  refine lv_aload_n hx hb dX0_init__29 rfl (lv_at hl 0 rfl) ?_
  refine lv_iload hx hb dX0_init__30 (lv_at hl 4 rfl) ?_
  refine g_putF (C := RX0) (T := TX0) (N := 8) (ci := 2) (ty := .int) (v := .int (iZ (sp))) (fs' := [.int (iZ (3)), .int (iZ (mg)), .int (iZ (fk)), .int (iZ (bk)), .int (iZ (sp)), .long (lZ (0)), .null, .int (iZ (1))]) hx hb hts hi2 tyX0 tyX0_ok nmX0 hown hK hW hS he rfl 4 (by decide) (hts (.fieldLink RX0 28 "LongTransfer$Frame" "separation" "I") (by decide +kernel)) (fun _ h9 => h9) rfl hnm rfl (by decide +kernel) rfl rfl (Nat.le_of_ble_eq_true rfl) dX0_init__32 rfl (fun H locs hW hS => ?_)
  rw [e2_e] at hW
  have he : (e2 en k i (some (a, .inr (2, [.int (iZ (3)), .int (iZ (mg)), .int (iZ (fk)), .int (iZ (bk)), .int (iZ (sp)), .long (lZ (0)), .null, .int (iZ (1))])))) k i = some (a, .inr (2, [.int (iZ (3)), .int (iZ (mg)), .int (iZ (fk)), .int (iZ (bk)), .int (iZ (sp)), .long (lZ (0)), .null, .int (iZ (1))])) := e2_s _ _ _ _
  refine lv_aload_n hx hb dX0_init__35 rfl (lv_at hl 0 rfl) ?_
  refine lv_lload hx hb dX0_init__36 (lv_at hl 5 rfl) ?_
  refine g_putF (C := RX0) (T := TX0) (N := 8) (ci := 2) (ty := .long) (v := .long (lZ (t))) (fs' := [.int (iZ (3)), .int (iZ (mg)), .int (iZ (fk)), .int (iZ (bk)), .int (iZ (sp)), .long (lZ (t)), .null, .int (iZ (1))]) hx hb hts hi2 tyX0 tyX0_ok nmX0 hown hK hW hS he rfl 5 (by decide) (hts (.fieldLink RX0 31 "LongTransfer$Frame" "time" "J") (by decide +kernel)) (fun _ h9 => h9) rfl hnm rfl (by decide +kernel) rfl rfl (Nat.le_of_ble_eq_true rfl) dX0_init__38 rfl (fun H locs hW hS => ?_)
  rw [e2_e] at hW
  have he : (e2 en k i (some (a, .inr (2, [.int (iZ (3)), .int (iZ (mg)), .int (iZ (fk)), .int (iZ (bk)), .int (iZ (sp)), .long (lZ (t)), .null, .int (iZ (1))])))) k i = some (a, .inr (2, [.int (iZ (3)), .int (iZ (mg)), .int (iZ (fk)), .int (iZ (bk)), .int (iZ (sp)), .long (lZ (t)), .null, .int (iZ (1))])) := e2_s _ _ _ _
  refine lv_aload_n hx hb dX0_init__41 rfl (lv_at hl 0 rfl) ?_
  refine va_getsN hx hb hg.2.2.1.1 hS hown (va_Nw.use rfl hg.2.2.2.1) (fun _ h => h) dX0_init__42 ?_
  refine g_putF (C := RX0) (T := TX0) (N := 8) (ci := 2) (ty := .array .byte) (v := .ref (z 1)) (fs' := [.int (iZ (3)), .int (iZ (mg)), .int (iZ (fk)), .int (iZ (bk)), .int (iZ (sp)), .long (lZ (t)), .ref (z 1), .int (iZ (1))]) hx hb hts hi2 tyX0 tyX0_ok nmX0 hown hK hW hS he rfl 6 (by decide) (hts (.fieldLink RX0 35 "LongTransfer$Frame" "octets" "[B") (by decide +kernel)) (fun _ h9 => h9) rfl hnm rfl (by decide +kernel) rfl rfl (Nat.le_of_ble_eq_true rfl) dX0_init__45 rfl (fun H locs hW hS => ?_)
  rw [e2_e] at hW
  have he : (e2 en k i (some (a, .inr (2, [.int (iZ (3)), .int (iZ (mg)), .int (iZ (fk)), .int (iZ (bk)), .int (iZ (sp)), .long (lZ (t)), .ref (z 1), .int (iZ (1))])))) k i = some (a, .inr (2, [.int (iZ (3)), .int (iZ (mg)), .int (iZ (fk)), .int (iZ (bk)), .int (iZ (sp)), .long (lZ (t)), .ref (z 1), .int (iZ (1))])) := e2_s _ _ _ _
  exact W.vret hx hb hr (fun t ht hw => ⟨⟨(), rfl, trivial, by show Wd _ _ _ t.heap; rw [ht]; exact hW⟩, hS.F ht⟩) hS.2.2 dX0_init__48
set_option maxHeartbeats 4000000 in
set_option maxRecDepth 100000 in
theorem c_X2_init (l : Launch) (D : va_G) (dA : Nat → ClassId) (z : Nat → Nat) (en : en_T) (k : Nat) (i : Int) (a : Nat) (ob : Nat) (mg : Int) (he : en k i = some (a, .inr (4, [.int (iZ (0)), .null, .int (iZ (0)), .int (iZ (0)), .int (iZ (0)), .int (iZ (0)), .int (iZ (0)), .int (iZ (0)), .long (lZ (0))]))) : Met l yX2_init wsX2_init ({ frames := 1, cells := 0, slots := 0, locals := 12 }) (gP D dA z en [.ref a, .int (iZ (mg)), .ref ob]) (va_Qv (fun _ : Unit => True) (fun _ t9 => Wd D (z 0) (e2 en k i (some (a, .inr (4, [.int (iZ (mg)), .ref ob, .int (iZ (0)), .int (iZ (0)), .int (iZ (1)), .int (iZ (0)), .int (iZ (0)), .int (iZ (0)), .long (lZ (9223372036854775807))])))) t9.heap) (fun q => z 0 ≤ q)) (0) (0) (fun q => z 0 ≤ q) := by
  refine gMet (own := RX2) (cc := cX2_init) (maxL := 3) (ret := none) (by decide) rfl rfl (Nat.le_of_ble_eq_true rfl) ?_
  intro p e s m below meth c hx hb hml hown hts hr hlocks hnm hg hW ls hl
  have hK := hg.1
  have hS : va_S (fun q => z 0 ≤ q) s.heap s.heap [] := va_S.rf
  have hi4 : ∀ w ∈ u_ws RX2 TX2 9, w ∈ wsX2_init := by decide +kernel
  have hl : lv_has ls 3 [(0, .ref a), (1, .int (iZ (mg))), (2, .ref ob)] := hl
  refine lv_aload_n hx hb dX2_init_0 rfl (lv_at hl 0 rfl) ?_
  refine W.objInit hx hb hown (hts (.methodLink RX2 3 objectInit) (by decide +kernel)) (hts (.instanceMethod objectInit) (by decide +kernel)) (hts _ (List.mem_of_getElem? (i := 3) rfl)) rfl (by rw [hml]; exact hl.1) rfl dX2_init_1 (Nat.le_of_ble_eq_true rfl) (Nat.le_of_ble_eq_true rfl) ?_
  refine W.eq (g2 := F0 m 4 ls []) rfl ?_
  refine lv_aload_n hx hb dX2_init_4 rfl (lv_at hl 0 rfl) ?_
  refine z_iconst hx hb dX2_init_5 ?_
  refine g_put (C := RX2) (T := TX2) (N := 9) (ci := 4) (ty := .int) (v := .int (iZ (0))) (fs' := [.int (iZ (0)), .null, .int (iZ (0)), .int (iZ (0)), .int (iZ (0)), .int (iZ (0)), .int (iZ (0)), .int (iZ (0)), .long (lZ (0))]) hx hb hts hi4 tyX2 tyX2_ok nmX2 hown hK hW hS he rfl 2 (by decide) (hts (.fieldLink RX2 9 "LongTransfer$Sender" "state" "I") (by decide +kernel)) (fun _ h9 => h9) rfl (by decide +kernel) rfl rfl (Nat.le_of_ble_eq_true rfl) dX2_init_6 rfl (fun H locs hW hS => ?_)
  have he : (e2 en k i (some (a, .inr (4, [.int (iZ (0)), .null, .int (iZ (0)), .int (iZ (0)), .int (iZ (0)), .int (iZ (0)), .int (iZ (0)), .int (iZ (0)), .long (lZ (0))])))) k i = some (a, .inr (4, [.int (iZ (0)), .null, .int (iZ (0)), .int (iZ (0)), .int (iZ (0)), .int (iZ (0)), .int (iZ (0)), .int (iZ (0)), .long (lZ (0))])) := e2_s _ _ _ _
  refine lv_aload_n hx hb dX2_init_9 rfl (lv_at hl 0 rfl) ?_
  refine z_iconst hx hb dX2_init_10 ?_
  refine g_put (C := RX2) (T := TX2) (N := 9) (ci := 4) (ty := .int) (v := .int (iZ (1))) (fs' := [.int (iZ (0)), .null, .int (iZ (0)), .int (iZ (0)), .int (iZ (1)), .int (iZ (0)), .int (iZ (0)), .int (iZ (0)), .long (lZ (0))]) hx hb hts hi4 tyX2 tyX2_ok nmX2 hown hK hW hS he rfl 4 (by decide) (hts (.fieldLink RX2 15 "LongTransfer$Sender" "sequence" "I") (by decide +kernel)) (fun _ h9 => h9) rfl (by decide +kernel) rfl rfl (Nat.le_of_ble_eq_true rfl) dX2_init_11 rfl (fun H locs hW hS => ?_)
  rw [e2_e] at hW
  have he : (e2 en k i (some (a, .inr (4, [.int (iZ (0)), .null, .int (iZ (0)), .int (iZ (0)), .int (iZ (1)), .int (iZ (0)), .int (iZ (0)), .int (iZ (0)), .long (lZ (0))])))) k i = some (a, .inr (4, [.int (iZ (0)), .null, .int (iZ (0)), .int (iZ (0)), .int (iZ (1)), .int (iZ (0)), .int (iZ (0)), .int (iZ (0)), .long (lZ (0))])) := e2_s _ _ _ _
  refine lv_aload_n hx hb dX2_init_14 rfl (lv_at hl 0 rfl) ?_
  refine z_ldc2 hx hb 9223372036854775807 hown (hts (.constantLong RX2 18 (9223372036854775807)) (by decide +kernel)) (by decide) dX2_init_15 ?_
  refine g_put (C := RX2) (T := TX2) (N := 9) (ci := 4) (ty := .long) (v := .long (lZ (9223372036854775807))) (fs' := [.int (iZ (0)), .null, .int (iZ (0)), .int (iZ (0)), .int (iZ (1)), .int (iZ (0)), .int (iZ (0)), .int (iZ (0)), .long (lZ (9223372036854775807))]) hx hb hts hi4 tyX2 tyX2_ok nmX2 hown hK hW hS he rfl 8 (by decide) (hts (.fieldLink RX2 20 "LongTransfer$Sender" "wakeAt" "J") (by decide +kernel)) (fun _ h9 => h9) rfl (by decide +kernel) rfl rfl (Nat.le_of_ble_eq_true rfl) dX2_init_18 rfl (fun H locs hW hS => ?_)
  rw [e2_e] at hW
  have he : (e2 en k i (some (a, .inr (4, [.int (iZ (0)), .null, .int (iZ (0)), .int (iZ (0)), .int (iZ (1)), .int (iZ (0)), .int (iZ (0)), .int (iZ (0)), .long (lZ (9223372036854775807))])))) k i = some (a, .inr (4, [.int (iZ (0)), .null, .int (iZ (0)), .int (iZ (0)), .int (iZ (1)), .int (iZ (0)), .int (iZ (0)), .int (iZ (0)), .long (lZ (9223372036854775807))])) := e2_s _ _ _ _
  refine lv_aload_n hx hb dX2_init_21 rfl (lv_at hl 0 rfl) ?_
  refine lv_iload_n hx hb dX2_init_22 rfl (lv_at hl 1 rfl) ?_
  refine g_putF (C := RX2) (T := TX2) (N := 9) (ci := 4) (ty := .int) (v := .int (iZ (mg))) (fs' := [.int (iZ (mg)), .null, .int (iZ (0)), .int (iZ (0)), .int (iZ (1)), .int (iZ (0)), .int (iZ (0)), .int (iZ (0)), .long (lZ (9223372036854775807))]) hx hb hts hi4 tyX2 tyX2_ok nmX2 hown hK hW hS he rfl 0 (by decide) (hts (.fieldLink RX2 24 "LongTransfer$Sender" "message" "I") (by decide +kernel)) (fun _ h9 => h9) rfl hnm rfl (by decide +kernel) rfl rfl (Nat.le_of_ble_eq_true rfl) dX2_init_23 rfl (fun H locs hW hS => ?_)
  rw [e2_e] at hW
  have he : (e2 en k i (some (a, .inr (4, [.int (iZ (mg)), .null, .int (iZ (0)), .int (iZ (0)), .int (iZ (1)), .int (iZ (0)), .int (iZ (0)), .int (iZ (0)), .long (lZ (9223372036854775807))])))) k i = some (a, .inr (4, [.int (iZ (mg)), .null, .int (iZ (0)), .int (iZ (0)), .int (iZ (1)), .int (iZ (0)), .int (iZ (0)), .int (iZ (0)), .long (lZ (9223372036854775807))])) := e2_s _ _ _ _
  refine lv_aload_n hx hb dX2_init_26 rfl (lv_at hl 0 rfl) ?_
  refine lv_aload_n hx hb dX2_init_27 rfl (lv_at hl 2 rfl) ?_
  refine g_putF (C := RX2) (T := TX2) (N := 9) (ci := 4) (ty := .array .byte) (v := .ref ob) (fs' := [.int (iZ (mg)), .ref ob, .int (iZ (0)), .int (iZ (0)), .int (iZ (1)), .int (iZ (0)), .int (iZ (0)), .int (iZ (0)), .long (lZ (9223372036854775807))]) hx hb hts hi4 tyX2 tyX2_ok nmX2 hown hK hW hS he rfl 1 (by decide) (hts (.fieldLink RX2 27 "LongTransfer$Sender" "octets" "[B") (by decide +kernel)) (fun _ h9 => h9) rfl hnm rfl (by decide +kernel) rfl rfl (Nat.le_of_ble_eq_true rfl) dX2_init_28 rfl (fun H locs hW hS => ?_)
  rw [e2_e] at hW
  have he : (e2 en k i (some (a, .inr (4, [.int (iZ (mg)), .ref ob, .int (iZ (0)), .int (iZ (0)), .int (iZ (1)), .int (iZ (0)), .int (iZ (0)), .int (iZ (0)), .long (lZ (9223372036854775807))])))) k i = some (a, .inr (4, [.int (iZ (mg)), .ref ob, .int (iZ (0)), .int (iZ (0)), .int (iZ (1)), .int (iZ (0)), .int (iZ (0)), .int (iZ (0)), .long (lZ (9223372036854775807))])) := e2_s _ _ _ _
  exact W.vret hx hb hr (fun t ht hw => ⟨⟨(), rfl, trivial, by show Wd _ _ _ t.heap; rw [ht]; exact hW⟩, hS.F ht⟩) hS.2.2 dX2_init_31
set_option maxHeartbeats 4000000 in
set_option maxRecDepth 100000 in
theorem c_X2_awaitFlow (l : Launch) (D : va_G) (dA : Nat → ClassId) (z : Nat → Nat) (en : en_T) (k : Nat) (i : Int) (a : Nat) (ob : Nat) (mg st fr sq wt bl sp wk : Int) (t : Int) (he : en k i = some (a, .inr (4, [.int (iZ (mg)), .ref ob, .int (iZ (st)), .int (iZ (fr)), .int (iZ (sq)), .int (iZ (wt)), .int (iZ (bl)), .int (iZ (sp)), .long (lZ (wk))]))) : Met l yX2_awaitFlow wsX2_awaitFlow ({ frames := 0, cells := 0, slots := 0, locals := 0 }) (gP D dA z en [.ref a, .long (lZ (t))]) (va_Qv (fun _ : Unit => True) (fun _ t9 => Wd D (z 0) (e2 en k i (some (a, .inr (4, [.int (iZ (mg)), .ref ob, .int (iZ (1)), .int (iZ (fr)), .int (iZ (sq)), .int (iZ (wt)), .int (iZ (bl)), .int (iZ (sp)), .long (lZ (t + 1000))])))) t9.heap) (fun q => z 0 ≤ q)) (0) (0) (fun q => z 0 ≤ q) := by
  refine gMet (own := RX2) (cc := cX2_awaitFlow) (maxL := 3) (ret := none) (by decide) rfl rfl (Nat.le_of_ble_eq_true rfl) ?_
  intro p e s m below meth c hx hb hml hown hts hr hlocks hnm hg hW ls hl
  have hK := hg.1
  have hS : va_S (fun q => z 0 ≤ q) s.heap s.heap [] := va_S.rf
  have hi4 : ∀ w ∈ u_ws RX2 TX2 9, w ∈ wsX2_awaitFlow := by decide +kernel
  have hl : lv_has ls 3 [(0, .ref a), (1, .long (lZ (t)))] := hl
  refine lv_aload_n hx hb dX2_awaitFlow_0 rfl (lv_at hl 0 rfl) ?_
  refine z_iconst hx hb dX2_awaitFlow_1 ?_
  refine g_put (C := RX2) (T := TX2) (N := 9) (ci := 4) (ty := .int) (v := .int (iZ (1))) (fs' := [.int (iZ (mg)), .ref ob, .int (iZ (1)), .int (iZ (fr)), .int (iZ (sq)), .int (iZ (wt)), .int (iZ (bl)), .int (iZ (sp)), .long (lZ (wk))]) hx hb hts hi4 tyX2 tyX2_ok nmX2 hown hK hW hS he rfl 2 (by decide) (hts (.fieldLink RX2 9 "LongTransfer$Sender" "state" "I") (by decide +kernel)) (fun _ h9 => h9) rfl (by decide +kernel) rfl rfl (Nat.le_of_ble_eq_true rfl) dX2_awaitFlow_2 rfl (fun H locs hW hS => ?_)
  have he : (e2 en k i (some (a, .inr (4, [.int (iZ (mg)), .ref ob, .int (iZ (1)), .int (iZ (fr)), .int (iZ (sq)), .int (iZ (wt)), .int (iZ (bl)), .int (iZ (sp)), .long (lZ (wk))])))) k i = some (a, .inr (4, [.int (iZ (mg)), .ref ob, .int (iZ (1)), .int (iZ (fr)), .int (iZ (sq)), .int (iZ (wt)), .int (iZ (bl)), .int (iZ (sp)), .long (lZ (wk))])) := e2_s _ _ _ _
  refine lv_aload_n hx hb dX2_awaitFlow_5 rfl (lv_at hl 0 rfl) ?_
  refine lv_lload_n hx hb dX2_awaitFlow_6 rfl (lv_at hl 1 rfl) ?_
  refine z_ldc2 hx hb 1000 hown (hts (.constantLong RX2 34 (1000)) (by decide +kernel)) (by decide) dX2_awaitFlow_7 ?_
  refine z_ladd hx hb dX2_awaitFlow_10 ?_
  refine g_put (C := RX2) (T := TX2) (N := 9) (ci := 4) (ty := .long) (v := .long (lZ (t + 1000))) (fs' := [.int (iZ (mg)), .ref ob, .int (iZ (1)), .int (iZ (fr)), .int (iZ (sq)), .int (iZ (wt)), .int (iZ (bl)), .int (iZ (sp)), .long (lZ (t + 1000))]) hx hb hts hi4 tyX2 tyX2_ok nmX2 hown hK hW hS he rfl 8 (by decide) (hts (.fieldLink RX2 20 "LongTransfer$Sender" "wakeAt" "J") (by decide +kernel)) (fun _ h9 => h9) rfl (by decide +kernel) rfl rfl (Nat.le_of_ble_eq_true rfl) dX2_awaitFlow_11 rfl (fun H locs hW hS => ?_)
  rw [e2_e] at hW
  have he : (e2 en k i (some (a, .inr (4, [.int (iZ (mg)), .ref ob, .int (iZ (1)), .int (iZ (fr)), .int (iZ (sq)), .int (iZ (wt)), .int (iZ (bl)), .int (iZ (sp)), .long (lZ (t + 1000))])))) k i = some (a, .inr (4, [.int (iZ (mg)), .ref ob, .int (iZ (1)), .int (iZ (fr)), .int (iZ (sq)), .int (iZ (wt)), .int (iZ (bl)), .int (iZ (sp)), .long (lZ (t + 1000))])) := e2_s _ _ _ _
  exact W.vret hx hb hr (fun t ht hw => ⟨⟨(), rfl, trivial, by show Wd _ _ _ t.heap; rw [ht]; exact hW⟩, hS.F ht⟩) hS.2.2 dX2_awaitFlow_14
set_option maxHeartbeats 4000000 in
set_option maxRecDepth 100000 in
theorem c_X2_goOn (l : Launch) (D : va_G) (dA : Nat → ClassId) (z : Nat → Nat) (en : en_T) (k : Nat) (i : Int) (a : Nat) (ob : Nat) (mg st fr sq wt bl sp wk : Int) (b2 s2 t : Int) (he : en k i = some (a, .inr (4, [.int (iZ (mg)), .ref ob, .int (iZ (st)), .int (iZ (fr)), .int (iZ (sq)), .int (iZ (wt)), .int (iZ (bl)), .int (iZ (sp)), .long (lZ (wk))]))) : Met l yX2_goOn wsX2_goOn ({ frames := 0, cells := 0, slots := 0, locals := 0 }) (gP D dA z en [.ref a, .int (iZ (b2)), .int (iZ (s2)), .long (lZ (t))]) (va_Qv (fun _ : Unit => True) (fun _ t9 => Wd D (z 0) (e2 en k i (some (a, .inr (4, [.int (iZ (mg)), .ref ob, .int (iZ (2)), .int (iZ (fr)), .int (iZ (sq)), .int (iZ (wt)), .int (iZ (b2)), .int (iZ (s2)), .long (lZ (t))])))) t9.heap) (fun q => z 0 ≤ q)) (0) (0) (fun q => z 0 ≤ q) := by
  refine gMet (own := RX2) (cc := cX2_goOn) (maxL := 5) (ret := none) (by decide) rfl rfl (Nat.le_of_ble_eq_true rfl) ?_
  intro p e s m below meth c hx hb hml hown hts hr hlocks hnm hg hW ls hl
  have hK := hg.1
  have hS : va_S (fun q => z 0 ≤ q) s.heap s.heap [] := va_S.rf
  have hi4 : ∀ w ∈ u_ws RX2 TX2 9, w ∈ wsX2_goOn := by decide +kernel
  have hl : lv_has ls 5 [(0, .ref a), (1, .int (iZ (b2))), (2, .int (iZ (s2))), (3, .long (lZ (t)))] := hl
  refine lv_aload_n hx hb dX2_goOn_0 rfl (lv_at hl 0 rfl) ?_
  refine z_iconst hx hb dX2_goOn_1 ?_
  refine g_put (C := RX2) (T := TX2) (N := 9) (ci := 4) (ty := .int) (v := .int (iZ (2))) (fs' := [.int (iZ (mg)), .ref ob, .int (iZ (2)), .int (iZ (fr)), .int (iZ (sq)), .int (iZ (wt)), .int (iZ (bl)), .int (iZ (sp)), .long (lZ (wk))]) hx hb hts hi4 tyX2 tyX2_ok nmX2 hown hK hW hS he rfl 2 (by decide) (hts (.fieldLink RX2 9 "LongTransfer$Sender" "state" "I") (by decide +kernel)) (fun _ h9 => h9) rfl (by decide +kernel) rfl rfl (Nat.le_of_ble_eq_true rfl) dX2_goOn_2 rfl (fun H locs hW hS => ?_)
  have he : (e2 en k i (some (a, .inr (4, [.int (iZ (mg)), .ref ob, .int (iZ (2)), .int (iZ (fr)), .int (iZ (sq)), .int (iZ (wt)), .int (iZ (bl)), .int (iZ (sp)), .long (lZ (wk))])))) k i = some (a, .inr (4, [.int (iZ (mg)), .ref ob, .int (iZ (2)), .int (iZ (fr)), .int (iZ (sq)), .int (iZ (wt)), .int (iZ (bl)), .int (iZ (sp)), .long (lZ (wk))])) := e2_s _ _ _ _
  refine lv_aload_n hx hb dX2_goOn_5 rfl (lv_at hl 0 rfl) ?_
  refine lv_iload_n hx hb dX2_goOn_6 rfl (lv_at hl 1 rfl) ?_
  refine g_put (C := RX2) (T := TX2) (N := 9) (ci := 4) (ty := .int) (v := .int (iZ (b2))) (fs' := [.int (iZ (mg)), .ref ob, .int (iZ (2)), .int (iZ (fr)), .int (iZ (sq)), .int (iZ (wt)), .int (iZ (b2)), .int (iZ (sp)), .long (lZ (wk))]) hx hb hts hi4 tyX2 tyX2_ok nmX2 hown hK hW hS he rfl 6 (by decide) (hts (.fieldLink RX2 36 "LongTransfer$Sender" "blockLeft" "I") (by decide +kernel)) (fun _ h9 => h9) rfl (by decide +kernel) rfl rfl (Nat.le_of_ble_eq_true rfl) dX2_goOn_7 rfl (fun H locs hW hS => ?_)
  rw [e2_e] at hW
  have he : (e2 en k i (some (a, .inr (4, [.int (iZ (mg)), .ref ob, .int (iZ (2)), .int (iZ (fr)), .int (iZ (sq)), .int (iZ (wt)), .int (iZ (b2)), .int (iZ (sp)), .long (lZ (wk))])))) k i = some (a, .inr (4, [.int (iZ (mg)), .ref ob, .int (iZ (2)), .int (iZ (fr)), .int (iZ (sq)), .int (iZ (wt)), .int (iZ (b2)), .int (iZ (sp)), .long (lZ (wk))])) := e2_s _ _ _ _
  refine lv_aload_n hx hb dX2_goOn_10 rfl (lv_at hl 0 rfl) ?_
  refine lv_iload_n hx hb dX2_goOn_11 rfl (lv_at hl 2 rfl) ?_
  refine g_put (C := RX2) (T := TX2) (N := 9) (ci := 4) (ty := .int) (v := .int (iZ (s2))) (fs' := [.int (iZ (mg)), .ref ob, .int (iZ (2)), .int (iZ (fr)), .int (iZ (sq)), .int (iZ (wt)), .int (iZ (b2)), .int (iZ (s2)), .long (lZ (wk))]) hx hb hts hi4 tyX2 tyX2_ok nmX2 hown hK hW hS he rfl 7 (by decide) (hts (.fieldLink RX2 39 "LongTransfer$Sender" "separation" "I") (by decide +kernel)) (fun _ h9 => h9) rfl (by decide +kernel) rfl rfl (Nat.le_of_ble_eq_true rfl) dX2_goOn_12 rfl (fun H locs hW hS => ?_)
  rw [e2_e] at hW
  have he : (e2 en k i (some (a, .inr (4, [.int (iZ (mg)), .ref ob, .int (iZ (2)), .int (iZ (fr)), .int (iZ (sq)), .int (iZ (wt)), .int (iZ (b2)), .int (iZ (s2)), .long (lZ (wk))])))) k i = some (a, .inr (4, [.int (iZ (mg)), .ref ob, .int (iZ (2)), .int (iZ (fr)), .int (iZ (sq)), .int (iZ (wt)), .int (iZ (b2)), .int (iZ (s2)), .long (lZ (wk))])) := e2_s _ _ _ _
  refine lv_aload_n hx hb dX2_goOn_15 rfl (lv_at hl 0 rfl) ?_
  refine lv_lload_n hx hb dX2_goOn_16 rfl (lv_at hl 3 rfl) ?_
  refine g_put (C := RX2) (T := TX2) (N := 9) (ci := 4) (ty := .long) (v := .long (lZ (t))) (fs' := [.int (iZ (mg)), .ref ob, .int (iZ (2)), .int (iZ (fr)), .int (iZ (sq)), .int (iZ (wt)), .int (iZ (b2)), .int (iZ (s2)), .long (lZ (t))]) hx hb hts hi4 tyX2 tyX2_ok nmX2 hown hK hW hS he rfl 8 (by decide) (hts (.fieldLink RX2 20 "LongTransfer$Sender" "wakeAt" "J") (by decide +kernel)) (fun _ h9 => h9) rfl (by decide +kernel) rfl rfl (Nat.le_of_ble_eq_true rfl) dX2_goOn_17 rfl (fun H locs hW hS => ?_)
  rw [e2_e] at hW
  have he : (e2 en k i (some (a, .inr (4, [.int (iZ (mg)), .ref ob, .int (iZ (2)), .int (iZ (fr)), .int (iZ (sq)), .int (iZ (wt)), .int (iZ (b2)), .int (iZ (s2)), .long (lZ (t))])))) k i = some (a, .inr (4, [.int (iZ (mg)), .ref ob, .int (iZ (2)), .int (iZ (fr)), .int (iZ (sq)), .int (iZ (wt)), .int (iZ (b2)), .int (iZ (s2)), .long (lZ (t))])) := e2_s _ _ _ _
  exact W.vret hx hb hr (fun t ht hw => ⟨⟨(), rfl, trivial, by show Wd _ _ _ t.heap; rw [ht]; exact hW⟩, hS.F ht⟩) hS.2.2 dX2_goOn_20
set_option maxHeartbeats 4000000 in
set_option maxRecDepth 100000 in
theorem c_X2_rest (l : Launch) (D : va_G) (dA : Nat → ClassId) (z : Nat → Nat) (en : en_T) (k : Nat) (i : Int) (a : Nat) (ob : Nat) (mg st fr sq wt bl sp wk : Int) (r : Int) (he : en k i = some (a, .inr (4, [.int (iZ (mg)), .ref ob, .int (iZ (st)), .int (iZ (fr)), .int (iZ (sq)), .int (iZ (wt)), .int (iZ (bl)), .int (iZ (sp)), .long (lZ (wk))]))) : Met l yX2_rest wsX2_rest ({ frames := 0, cells := 0, slots := 0, locals := 0 }) (gP D dA z en [.ref a, .int (iZ (r))]) (va_Qv (fun _ : Unit => True) (fun _ t9 => Wd D (z 0) (e2 en k i (some (a, .inr (4, [.int (iZ (mg)), .ref ob, .int (iZ (r)), .int (iZ (fr)), .int (iZ (sq)), .int (iZ (wt)), .int (iZ (bl)), .int (iZ (sp)), .long (lZ (9223372036854775807))])))) t9.heap) (fun q => z 0 ≤ q)) (0) (0) (fun q => z 0 ≤ q) := by
  refine gMet (own := RX2) (cc := cX2_rest) (maxL := 2) (ret := none) (by decide) rfl rfl (Nat.le_of_ble_eq_true rfl) ?_
  intro p e s m below meth c hx hb hml hown hts hr hlocks hnm hg hW ls hl
  have hK := hg.1
  have hS : va_S (fun q => z 0 ≤ q) s.heap s.heap [] := va_S.rf
  have hi4 : ∀ w ∈ u_ws RX2 TX2 9, w ∈ wsX2_rest := by decide +kernel
  have hl : lv_has ls 2 [(0, .ref a), (1, .int (iZ (r)))] := hl
  refine lv_aload_n hx hb dX2_rest_0 rfl (lv_at hl 0 rfl) ?_
  refine lv_iload_n hx hb dX2_rest_1 rfl (lv_at hl 1 rfl) ?_
  refine g_put (C := RX2) (T := TX2) (N := 9) (ci := 4) (ty := .int) (v := .int (iZ (r))) (fs' := [.int (iZ (mg)), .ref ob, .int (iZ (r)), .int (iZ (fr)), .int (iZ (sq)), .int (iZ (wt)), .int (iZ (bl)), .int (iZ (sp)), .long (lZ (wk))]) hx hb hts hi4 tyX2 tyX2_ok nmX2 hown hK hW hS he rfl 2 (by decide) (hts (.fieldLink RX2 9 "LongTransfer$Sender" "state" "I") (by decide +kernel)) (fun _ h9 => h9) rfl (by decide +kernel) rfl rfl (Nat.le_of_ble_eq_true rfl) dX2_rest_2 rfl (fun H locs hW hS => ?_)
  have he : (e2 en k i (some (a, .inr (4, [.int (iZ (mg)), .ref ob, .int (iZ (r)), .int (iZ (fr)), .int (iZ (sq)), .int (iZ (wt)), .int (iZ (bl)), .int (iZ (sp)), .long (lZ (wk))])))) k i = some (a, .inr (4, [.int (iZ (mg)), .ref ob, .int (iZ (r)), .int (iZ (fr)), .int (iZ (sq)), .int (iZ (wt)), .int (iZ (bl)), .int (iZ (sp)), .long (lZ (wk))])) := e2_s _ _ _ _
  refine lv_aload_n hx hb dX2_rest_5 rfl (lv_at hl 0 rfl) ?_
  refine z_ldc2 hx hb 9223372036854775807 hown (hts (.constantLong RX2 18 (9223372036854775807)) (by decide +kernel)) (by decide) dX2_rest_6 ?_
  refine g_put (C := RX2) (T := TX2) (N := 9) (ci := 4) (ty := .long) (v := .long (lZ (9223372036854775807))) (fs' := [.int (iZ (mg)), .ref ob, .int (iZ (r)), .int (iZ (fr)), .int (iZ (sq)), .int (iZ (wt)), .int (iZ (bl)), .int (iZ (sp)), .long (lZ (9223372036854775807))]) hx hb hts hi4 tyX2 tyX2_ok nmX2 hown hK hW hS he rfl 8 (by decide) (hts (.fieldLink RX2 20 "LongTransfer$Sender" "wakeAt" "J") (by decide +kernel)) (fun _ h9 => h9) rfl (by decide +kernel) rfl rfl (Nat.le_of_ble_eq_true rfl) dX2_rest_9 rfl (fun H locs hW hS => ?_)
  rw [e2_e] at hW
  have he : (e2 en k i (some (a, .inr (4, [.int (iZ (mg)), .ref ob, .int (iZ (r)), .int (iZ (fr)), .int (iZ (sq)), .int (iZ (wt)), .int (iZ (bl)), .int (iZ (sp)), .long (lZ (9223372036854775807))])))) k i = some (a, .inr (4, [.int (iZ (mg)), .ref ob, .int (iZ (r)), .int (iZ (fr)), .int (iZ (sq)), .int (iZ (wt)), .int (iZ (bl)), .int (iZ (sp)), .long (lZ (9223372036854775807))])) := e2_s _ _ _ _
  exact W.vret hx hb hr (fun t ht hw => ⟨⟨(), rfl, trivial, by show Wd _ _ _ t.heap; rw [ht]; exact hW⟩, hS.F ht⟩) hS.2.2 dX2_rest_12
set_option maxHeartbeats 4000000 in
set_option maxRecDepth 100000 in
theorem c_X2_isAllFramed (l : Launch) (D : va_G) (dA : Nat → ClassId) (z : Nat → Nat) (en : en_T) (k : Nat) (i : Int) (a : Nat) (ob : Nat) (mg st fr sq wt bl sp wk : Int) (n : Int) (F : Int → Int) (ko : Nat) (io : Int) (h0 : 0 ≤ n) (hn : iB n) (hf : iB fr) (he : en k i = some (a, .inr (4, [.int (iZ (mg)), .ref ob, .int (iZ (st)), .int (iZ (fr)), .int (iZ (sq)), .int (iZ (wt)), .int (iZ (bl)), .int (iZ (sp)), .long (lZ (wk))]))) (ho : en ko io = some (ob, aB dA n F)) : Met l yX2_isAllFramed wsX2_isAllFramed ({ frames := 0, cells := 0, slots := 0, locals := 0 }) (gP D dA z en [.ref a]) (va_Qi (fun (r : Int32) (_ : Unit) => r = iZ (if n ≤ fr then 1 else 0)) (fun _ t9 => Wd D (z 0) en t9.heap) (fun q => z 0 ≤ q)) (0) (0) (fun q => z 0 ≤ q) := by
  refine gMet (own := RX2) (cc := cX2_isAllFramed) (maxL := 1) (ret := (some .boolean)) (by decide) rfl rfl (Nat.le_of_ble_eq_true rfl) ?_
  intro p e s m below meth c hx hb hml hown hts hr hlocks hnm hg hW ls hl
  have hK := hg.1
  have hS : va_S (fun q => z 0 ≤ q) s.heap s.heap [] := va_S.rf
  have hi4 : ∀ w ∈ u_ws RX2 TX2 9, w ∈ wsX2_isAllFramed := by decide +kernel
  have hl : lv_has ls 1 [(0, .ref a)] := hl
  refine lv_aload_n hx hb dX2_isAllFramed_0 rfl (lv_at hl 0 rfl) ?_
  refine g_get (C := RX2) (T := TX2) (N := 9) (ci := 4) (v := .int (iZ (fr))) hx hb hts hi4 hown hK hW he rfl 3 (by decide) (hts (.fieldLink RX2 31 "LongTransfer$Sender" "framed" "I") (by decide +kernel)) (fun _ h9 => h9) rfl dX2_isAllFramed_1 ?_
  refine lv_aload_n hx hb dX2_isAllFramed_4 rfl (lv_at hl 0 rfl) ?_
  refine g_get (C := RX2) (T := TX2) (N := 9) (ci := 4) (v := .ref ob) hx hb hts hi4 hown hK hW he rfl 1 (by decide) (hts (.fieldLink RX2 27 "LongTransfer$Sender" "octets" "[B") (by decide +kernel)) (fun _ h9 => h9) rfl dX2_isAllFramed_5 ?_
  refine g_len_aB hx hb hK hW ho (by omega) dX2_isAllFramed_8 ?_
  refine z_icmp_lt (tgt := 16) hx hb dX2_isAllFramed_9 (by decide) (by omega) (by omega) (fun c_9 => ?_) (fun c_9 => ?_)
  · refine z_iconst hx hb dX2_isAllFramed_16 ?_
    exact W.zret hx hb hr (by decide) (fun t ht hw => ⟨⟨_, (), rfl, congrArg iZ (if_neg (by omega)).symm, by show Wd _ _ _ t.heap; rw [ht]; exact hW⟩, hS.F ht⟩) hS.2.2 dX2_isAllFramed_17
  · refine z_iconst hx hb dX2_isAllFramed_12 ?_
    refine lv_goto (tgt := 17) hx hb dX2_isAllFramed_13 (by decide) ?_
    exact W.zret hx hb hr (by decide) (fun t ht hw => ⟨⟨_, (), rfl, congrArg iZ (if_pos (by omega)).symm, by show Wd _ _ _ t.heap; rw [ht]; exact hW⟩, hS.F ht⟩) hS.2.2 dX2_isAllFramed_17
set_option maxHeartbeats 4000000 in
set_option maxRecDepth 100000 in
theorem c_X1_init (l : Launch) (D : va_G) (dA : Nat → ClassId) (z : Nat → Nat) (en : en_T) (k : Nat) (i : Int) (a : Nat) (he : en k i = some (a, .inr (3, [.int (iZ (0)), .int (iZ (0)), .null, .int (iZ (0)), .int (iZ (0)), .int (iZ (0)), .int (iZ (0)), .long (lZ (0)), .long (lZ (0))]))) : Met l yX1_init wsX1_init ({ frames := 1, cells := 0, slots := 0, locals := 12 }) (gP D dA z en [.ref a]) (va_Qv (fun _ : Unit => True) (fun _ t9 => Wd D (z 0) (e2 en k i (some (a, .inr (3, [.int (iZ (0)), .int (iZ (0)), .ref (z 1), .int (iZ (0)), .int (iZ (0)), .int (iZ (0)), .int (iZ (0)), .long (lZ (9223372036854775807)), .long (lZ (9223372036854775807))])))) t9.heap) (fun q => z 0 ≤ q)) (0) (0) (fun q => z 0 ≤ q) := by
  refine gMet (own := RX1) (cc := cX1_init) (maxL := 1) (ret := none) (by decide) rfl rfl (Nat.le_of_ble_eq_true rfl) ?_
  intro p e s m below meth c hx hb hml hown hts hr hlocks hnm hg hW ls hl
  have hK := hg.1
  have hS : va_S (fun q => z 0 ≤ q) s.heap s.heap [] := va_S.rf
  have hi3 : ∀ w ∈ u_ws RX1 TX1 9, w ∈ wsX1_init := by decide +kernel
  have hl : lv_has ls 1 [(0, .ref a)] := hl
  refine lv_aload_n hx hb dX1_init_0 rfl (lv_at hl 0 rfl) ?_
  refine W.objInit hx hb hown (hts (.methodLink RX1 3 objectInit) (by decide +kernel)) (hts (.instanceMethod objectInit) (by decide +kernel)) (hts _ (List.mem_of_getElem? (i := 3) rfl)) rfl (by rw [hml]; exact hl.1) rfl dX1_init_1 (Nat.le_of_ble_eq_true rfl) (Nat.le_of_ble_eq_true rfl) ?_
  refine W.eq (g2 := F0 m 4 ls []) rfl ?_
  refine lv_aload_n hx hb dX1_init_4 rfl (lv_at hl 0 rfl) ?_
  refine z_iconst hx hb dX1_init_5 ?_
  refine g_put (C := RX1) (T := TX1) (N := 9) (ci := 3) (ty := .int) (v := .int (iZ (0))) (fs' := [.int (iZ (0)), .int (iZ (0)), .null, .int (iZ (0)), .int (iZ (0)), .int (iZ (0)), .int (iZ (0)), .long (lZ (0)), .long (lZ (0))]) hx hb hts hi3 tyX1 tyX1_ok nmX1 hown hK hW hS he rfl 0 (by decide) (hts (.fieldLink RX1 9 "LongTransfer$Receiver" "state" "I") (by decide +kernel)) (fun _ h9 => h9) rfl (by decide +kernel) rfl rfl (Nat.le_of_ble_eq_true rfl) dX1_init_6 rfl (fun H locs hW hS => ?_)
  have he : (e2 en k i (some (a, .inr (3, [.int (iZ (0)), .int (iZ (0)), .null, .int (iZ (0)), .int (iZ (0)), .int (iZ (0)), .int (iZ (0)), .long (lZ (0)), .long (lZ (0))])))) k i = some (a, .inr (3, [.int (iZ (0)), .int (iZ (0)), .null, .int (iZ (0)), .int (iZ (0)), .int (iZ (0)), .int (iZ (0)), .long (lZ (0)), .long (lZ (0))])) := e2_s _ _ _ _
  refine lv_aload_n hx hb dX1_init_9 rfl (lv_at hl 0 rfl) ?_
  refine va_getsN hx hb hg.2.2.1.1 hS hown (va_Nw.use rfl hg.2.2.2.2.1) (fun _ h => h) dX1_init_10 ?_
  refine g_put (C := RX1) (T := TX1) (N := 9) (ci := 3) (ty := .array .byte) (v := .ref (z 1)) (fs' := [.int (iZ (0)), .int (iZ (0)), .ref (z 1), .int (iZ (0)), .int (iZ (0)), .int (iZ (0)), .int (iZ (0)), .long (lZ (0)), .long (lZ (0))]) hx hb hts hi3 tyX1 tyX1_ok nmX1 hown hK hW hS he rfl 2 (by decide) (hts (.fieldLink RX1 19 "LongTransfer$Receiver" "octets" "[B") (by decide +kernel)) (fun _ h9 => h9) rfl (by decide +kernel) rfl rfl (Nat.le_of_ble_eq_true rfl) dX1_init_13 rfl (fun H locs hW hS => ?_)
  rw [e2_e] at hW
  have he : (e2 en k i (some (a, .inr (3, [.int (iZ (0)), .int (iZ (0)), .ref (z 1), .int (iZ (0)), .int (iZ (0)), .int (iZ (0)), .int (iZ (0)), .long (lZ (0)), .long (lZ (0))])))) k i = some (a, .inr (3, [.int (iZ (0)), .int (iZ (0)), .ref (z 1), .int (iZ (0)), .int (iZ (0)), .int (iZ (0)), .int (iZ (0)), .long (lZ (0)), .long (lZ (0))])) := e2_s _ _ _ _
  refine lv_aload_n hx hb dX1_init_16 rfl (lv_at hl 0 rfl) ?_
  refine z_ldc2 hx hb 9223372036854775807 hown (hts (.constantLong RX1 22 (9223372036854775807)) (by decide +kernel)) (by decide) dX1_init_17 ?_
  refine g_put (C := RX1) (T := TX1) (N := 9) (ci := 3) (ty := .long) (v := .long (lZ (9223372036854775807))) (fs' := [.int (iZ (0)), .int (iZ (0)), .ref (z 1), .int (iZ (0)), .int (iZ (0)), .int (iZ (0)), .int (iZ (0)), .long (lZ (9223372036854775807)), .long (lZ (0))]) hx hb hts hi3 tyX1 tyX1_ok nmX1 hown hK hW hS he rfl 7 (by decide) (hts (.fieldLink RX1 24 "LongTransfer$Receiver" "answerAt" "J") (by decide +kernel)) (fun _ h9 => h9) rfl (by decide +kernel) rfl rfl (Nat.le_of_ble_eq_true rfl) dX1_init_20 rfl (fun H locs hW hS => ?_)
  rw [e2_e] at hW
  have he : (e2 en k i (some (a, .inr (3, [.int (iZ (0)), .int (iZ (0)), .ref (z 1), .int (iZ (0)), .int (iZ (0)), .int (iZ (0)), .int (iZ (0)), .long (lZ (9223372036854775807)), .long (lZ (0))])))) k i = some (a, .inr (3, [.int (iZ (0)), .int (iZ (0)), .ref (z 1), .int (iZ (0)), .int (iZ (0)), .int (iZ (0)), .int (iZ (0)), .long (lZ (9223372036854775807)), .long (lZ (0))])) := e2_s _ _ _ _
  refine lv_aload_n hx hb dX1_init_23 rfl (lv_at hl 0 rfl) ?_
  refine z_ldc2 hx hb 9223372036854775807 hown (hts (.constantLong RX1 22 (9223372036854775807)) (by decide +kernel)) (by decide) dX1_init_24 ?_
  refine g_put (C := RX1) (T := TX1) (N := 9) (ci := 3) (ty := .long) (v := .long (lZ (9223372036854775807))) (fs' := [.int (iZ (0)), .int (iZ (0)), .ref (z 1), .int (iZ (0)), .int (iZ (0)), .int (iZ (0)), .int (iZ (0)), .long (lZ (9223372036854775807)), .long (lZ (9223372036854775807))]) hx hb hts hi3 tyX1 tyX1_ok nmX1 hown hK hW hS he rfl 8 (by decide) (hts (.fieldLink RX1 28 "LongTransfer$Receiver" "giveUpAt" "J") (by decide +kernel)) (fun _ h9 => h9) rfl (by decide +kernel) rfl rfl (Nat.le_of_ble_eq_true rfl) dX1_init_27 rfl (fun H locs hW hS => ?_)
  rw [e2_e] at hW
  have he : (e2 en k i (some (a, .inr (3, [.int (iZ (0)), .int (iZ (0)), .ref (z 1), .int (iZ (0)), .int (iZ (0)), .int (iZ (0)), .int (iZ (0)), .long (lZ (9223372036854775807)), .long (lZ (9223372036854775807))])))) k i = some (a, .inr (3, [.int (iZ (0)), .int (iZ (0)), .ref (z 1), .int (iZ (0)), .int (iZ (0)), .int (iZ (0)), .int (iZ (0)), .long (lZ (9223372036854775807)), .long (lZ (9223372036854775807))])) := e2_s _ _ _ _
  exact W.vret hx hb hr (fun t ht hw => ⟨⟨(), rfl, trivial, by show Wd _ _ _ t.heap; rw [ht]; exact hW⟩, hS.F ht⟩) hS.2.2 dX1_init_30
set_option maxHeartbeats 4000000 in
set_option maxRecDepth 100000 in
theorem c_X1_rest (l : Launch) (D : va_G) (dA : Nat → ClassId) (z : Nat → Nat) (en : en_T) (k : Nat) (i : Int) (a : Nat) (ob : Nat) (st mg hv sq bl cm an gu : Int) (r : Int) (he : en k i = some (a, .inr (3, [.int (iZ (st)), .int (iZ (mg)), .ref ob, .int (iZ (hv)), .int (iZ (sq)), .int (iZ (bl)), .int (iZ (cm)), .long (lZ (an)), .long (lZ (gu))]))) : Met l yX1_rest wsX1_rest ({ frames := 0, cells := 0, slots := 0, locals := 0 }) (gP D dA z en [.ref a, .int (iZ (r))]) (va_Qv (fun _ : Unit => True) (fun _ t9 => Wd D (z 0) (e2 en k i (some (a, .inr (3, [.int (iZ (r)), .int (iZ (mg)), .ref ob, .int (iZ (hv)), .int (iZ (sq)), .int (iZ (bl)), .int (iZ (cm)), .long (lZ (9223372036854775807)), .long (lZ (9223372036854775807))])))) t9.heap) (fun q => z 0 ≤ q)) (0) (0) (fun q => z 0 ≤ q) := by
  refine gMet (own := RX1) (cc := cX1_rest) (maxL := 2) (ret := none) (by decide) rfl rfl (Nat.le_of_ble_eq_true rfl) ?_
  intro p e s m below meth c hx hb hml hown hts hr hlocks hnm hg hW ls hl
  have hK := hg.1
  have hS : va_S (fun q => z 0 ≤ q) s.heap s.heap [] := va_S.rf
  have hi3 : ∀ w ∈ u_ws RX1 TX1 9, w ∈ wsX1_rest := by decide +kernel
  have hl : lv_has ls 2 [(0, .ref a), (1, .int (iZ (r)))] := hl
  refine lv_aload_n hx hb dX1_rest_0 rfl (lv_at hl 0 rfl) ?_
  refine lv_iload_n hx hb dX1_rest_1 rfl (lv_at hl 1 rfl) ?_
  refine g_put (C := RX1) (T := TX1) (N := 9) (ci := 3) (ty := .int) (v := .int (iZ (r))) (fs' := [.int (iZ (r)), .int (iZ (mg)), .ref ob, .int (iZ (hv)), .int (iZ (sq)), .int (iZ (bl)), .int (iZ (cm)), .long (lZ (an)), .long (lZ (gu))]) hx hb hts hi3 tyX1 tyX1_ok nmX1 hown hK hW hS he rfl 0 (by decide) (hts (.fieldLink RX1 9 "LongTransfer$Receiver" "state" "I") (by decide +kernel)) (fun _ h9 => h9) rfl (by decide +kernel) rfl rfl (Nat.le_of_ble_eq_true rfl) dX1_rest_2 rfl (fun H locs hW hS => ?_)
  have he : (e2 en k i (some (a, .inr (3, [.int (iZ (r)), .int (iZ (mg)), .ref ob, .int (iZ (hv)), .int (iZ (sq)), .int (iZ (bl)), .int (iZ (cm)), .long (lZ (an)), .long (lZ (gu))])))) k i = some (a, .inr (3, [.int (iZ (r)), .int (iZ (mg)), .ref ob, .int (iZ (hv)), .int (iZ (sq)), .int (iZ (bl)), .int (iZ (cm)), .long (lZ (an)), .long (lZ (gu))])) := e2_s _ _ _ _
  refine lv_aload_n hx hb dX1_rest_5 rfl (lv_at hl 0 rfl) ?_
  refine z_ldc2 hx hb 9223372036854775807 hown (hts (.constantLong RX1 22 (9223372036854775807)) (by decide +kernel)) (by decide) dX1_rest_6 ?_
  refine g_put (C := RX1) (T := TX1) (N := 9) (ci := 3) (ty := .long) (v := .long (lZ (9223372036854775807))) (fs' := [.int (iZ (r)), .int (iZ (mg)), .ref ob, .int (iZ (hv)), .int (iZ (sq)), .int (iZ (bl)), .int (iZ (cm)), .long (lZ (9223372036854775807)), .long (lZ (gu))]) hx hb hts hi3 tyX1 tyX1_ok nmX1 hown hK hW hS he rfl 7 (by decide) (hts (.fieldLink RX1 24 "LongTransfer$Receiver" "answerAt" "J") (by decide +kernel)) (fun _ h9 => h9) rfl (by decide +kernel) rfl rfl (Nat.le_of_ble_eq_true rfl) dX1_rest_9 rfl (fun H locs hW hS => ?_)
  rw [e2_e] at hW
  have he : (e2 en k i (some (a, .inr (3, [.int (iZ (r)), .int (iZ (mg)), .ref ob, .int (iZ (hv)), .int (iZ (sq)), .int (iZ (bl)), .int (iZ (cm)), .long (lZ (9223372036854775807)), .long (lZ (gu))])))) k i = some (a, .inr (3, [.int (iZ (r)), .int (iZ (mg)), .ref ob, .int (iZ (hv)), .int (iZ (sq)), .int (iZ (bl)), .int (iZ (cm)), .long (lZ (9223372036854775807)), .long (lZ (gu))])) := e2_s _ _ _ _
  refine lv_aload_n hx hb dX1_rest_12 rfl (lv_at hl 0 rfl) ?_
  refine z_ldc2 hx hb 9223372036854775807 hown (hts (.constantLong RX1 22 (9223372036854775807)) (by decide +kernel)) (by decide) dX1_rest_13 ?_
  refine g_put (C := RX1) (T := TX1) (N := 9) (ci := 3) (ty := .long) (v := .long (lZ (9223372036854775807))) (fs' := [.int (iZ (r)), .int (iZ (mg)), .ref ob, .int (iZ (hv)), .int (iZ (sq)), .int (iZ (bl)), .int (iZ (cm)), .long (lZ (9223372036854775807)), .long (lZ (9223372036854775807))]) hx hb hts hi3 tyX1 tyX1_ok nmX1 hown hK hW hS he rfl 8 (by decide) (hts (.fieldLink RX1 28 "LongTransfer$Receiver" "giveUpAt" "J") (by decide +kernel)) (fun _ h9 => h9) rfl (by decide +kernel) rfl rfl (Nat.le_of_ble_eq_true rfl) dX1_rest_16 rfl (fun H locs hW hS => ?_)
  rw [e2_e] at hW
  have he : (e2 en k i (some (a, .inr (3, [.int (iZ (r)), .int (iZ (mg)), .ref ob, .int (iZ (hv)), .int (iZ (sq)), .int (iZ (bl)), .int (iZ (cm)), .long (lZ (9223372036854775807)), .long (lZ (9223372036854775807))])))) k i = some (a, .inr (3, [.int (iZ (r)), .int (iZ (mg)), .ref ob, .int (iZ (hv)), .int (iZ (sq)), .int (iZ (bl)), .int (iZ (cm)), .long (lZ (9223372036854775807)), .long (lZ (9223372036854775807))])) := e2_s _ _ _ _
  exact W.vret hx hb hr (fun t ht hw => ⟨⟨(), rfl, trivial, by show Wd _ _ _ t.heap; rw [ht]; exact hW⟩, hS.F ht⟩) hS.2.2 dX1_rest_19
set_option maxHeartbeats 4000000 in
set_option maxRecDepth 100000 in
theorem c_X1_isWhole (l : Launch) (D : va_G) (dA : Nat → ClassId) (z : Nat → Nat) (en : en_T) (k : Nat) (i : Int) (a : Nat) (ob : Nat) (st mg hv sq bl cm an gu : Int) (n : Int) (F : Int → Int) (ko : Nat) (io : Int) (hn : iB n) (hf : iB hv) (he : en k i = some (a, .inr (3, [.int (iZ (st)), .int (iZ (mg)), .ref ob, .int (iZ (hv)), .int (iZ (sq)), .int (iZ (bl)), .int (iZ (cm)), .long (lZ (an)), .long (lZ (gu))]))) (ho : bA dA z en ko io ob n F) : Met l yX1_isWhole wsX1_isWhole ({ frames := 0, cells := 0, slots := 0, locals := 0 }) (gP D dA z en [.ref a]) (va_Qi (fun (r : Int32) (_ : Unit) => r = iZ (if n ≤ hv then 1 else 0)) (fun _ t9 => Wd D (z 0) en t9.heap) (fun q => z 0 ≤ q)) (0) (0) (fun q => z 0 ≤ q) := by
  refine gMet (own := RX1) (cc := cX1_isWhole) (maxL := 1) (ret := (some .boolean)) (by decide) rfl rfl (Nat.le_of_ble_eq_true rfl) ?_
  intro p e s m below meth c hx hb hml hown hts hr hlocks hnm hg hW ls hl
  have hK := hg.1
  have hS : va_S (fun q => z 0 ≤ q) s.heap s.heap [] := va_S.rf
  have hi3 : ∀ w ∈ u_ws RX1 TX1 9, w ∈ wsX1_isWhole := by decide +kernel
  have hl : lv_has ls 1 [(0, .ref a)] := hl
  refine lv_aload_n hx hb dX1_isWhole_0 rfl (lv_at hl 0 rfl) ?_
  refine g_get (C := RX1) (T := TX1) (N := 9) (ci := 3) (v := .int (iZ (hv))) hx hb hts hi3 hown hK hW he rfl 3 (by decide) (hts (.fieldLink RX1 31 "LongTransfer$Receiver" "have" "I") (by decide +kernel)) (fun _ h9 => h9) rfl dX1_isWhole_1 ?_
  refine lv_aload_n hx hb dX1_isWhole_4 rfl (lv_at hl 0 rfl) ?_
  refine g_get (C := RX1) (T := TX1) (N := 9) (ci := 3) (v := .ref ob) hx hb hts hi3 hown hK hW he rfl 2 (by decide) (hts (.fieldLink RX1 19 "LongTransfer$Receiver" "octets" "[B") (by decide +kernel)) (fun _ h9 => h9) rfl dX1_isWhole_5 ?_
  refine g_blen hx hb hg hW hS ho dX1_isWhole_8 ?_
  refine z_icmp_lt (tgt := 16) hx hb dX1_isWhole_9 (by decide) (by omega) (by omega) (fun c_9 => ?_) (fun c_9 => ?_)
  · refine z_iconst hx hb dX1_isWhole_16 ?_
    exact W.zret hx hb hr (by decide) (fun t ht hw => ⟨⟨_, (), rfl, congrArg iZ (if_neg (by omega)).symm, by show Wd _ _ _ t.heap; rw [ht]; exact hW⟩, hS.F ht⟩) hS.2.2 dX1_isWhole_17
  · refine z_iconst hx hb dX1_isWhole_12 ?_
    refine lv_goto (tgt := 17) hx hb dX1_isWhole_13 (by decide) ?_
    exact W.zret hx hb hr (by decide) (fun t ht hw => ⟨⟨_, (), rfl, congrArg iZ (if_pos (by omega)).symm, by show Wd _ _ _ t.heap; rw [ht]; exact hW⟩, hS.F ht⟩) hS.2.2 dX1_isWhole_17
set_option maxHeartbeats 4000000 in
set_option maxRecDepth 100000 in
theorem c_X1_isReceiving (l : Launch) (D : va_G) (dA : Nat → ClassId) (z : Nat → Nat) (en : en_T) (k : Nat) (i : Int) (a : Nat) (ob : Nat) (st mg hv sq bl cm an gu : Int) (nu : Int) (h1 : iB st) (h2 : iB mg) (h3 : iB nu) (he : en k i = some (a, .inr (3, [.int (iZ (st)), .int (iZ (mg)), .ref ob, .int (iZ (hv)), .int (iZ (sq)), .int (iZ (bl)), .int (iZ (cm)), .long (lZ (an)), .long (lZ (gu))]))) : Met l yX1_isReceiving wsX1_isReceiving ({ frames := 0, cells := 0, slots := 0, locals := 0 }) (gP D dA z en [.ref a, .int (iZ (nu))]) (va_Qi (fun (r : Int32) (_ : Unit) => r = iZ (if st = 1 ∧ mg = nu then 1 else 0)) (fun _ t9 => Wd D (z 0) en t9.heap) (fun q => z 0 ≤ q)) (0) (0) (fun q => z 0 ≤ q) := by
  refine gMet (own := RX1) (cc := cX1_isReceiving) (maxL := 2) (ret := (some .boolean)) (by decide) rfl rfl (Nat.le_of_ble_eq_true rfl) ?_
  intro p e s m below meth c hx hb hml hown hts hr hlocks hnm hg hW ls hl
  have hK := hg.1
  have hS : va_S (fun q => z 0 ≤ q) s.heap s.heap [] := va_S.rf
  have hi3 : ∀ w ∈ u_ws RX1 TX1 9, w ∈ wsX1_isReceiving := by decide +kernel
  have hl : lv_has ls 2 [(0, .ref a), (1, .int (iZ (nu)))] := hl
  refine lv_aload_n hx hb dX1_isReceiving_0 rfl (lv_at hl 0 rfl) ?_
  refine g_get (C := RX1) (T := TX1) (N := 9) (ci := 3) (v := .int (iZ (st))) hx hb hts hi3 hown hK hW he rfl 0 (by decide) (hts (.fieldLink RX1 9 "LongTransfer$Receiver" "state" "I") (by decide +kernel)) (fun _ h9 => h9) rfl dX1_isReceiving_1 ?_
  refine z_iconst hx hb dX1_isReceiving_4 ?_
  refine z_icmp_ne (tgt := 20) hx hb dX1_isReceiving_5 (by decide) (by omega) (by omega) (fun c_5 => ?_) (fun c_5 => ?_)
  · refine z_iconst hx hb dX1_isReceiving_20 ?_
    exact W.zret hx hb hr (by decide) (fun t ht hw => ⟨⟨_, (), rfl, congrArg iZ (if_neg (by omega)).symm, by show Wd _ _ _ t.heap; rw [ht]; exact hW⟩, hS.F ht⟩) hS.2.2 dX1_isReceiving_21
  · refine lv_aload_n hx hb dX1_isReceiving_8 rfl (lv_at hl 0 rfl) ?_
    refine g_get (C := RX1) (T := TX1) (N := 9) (ci := 3) (v := .int (iZ (mg))) hx hb hts hi3 hown hK hW he rfl 1 (by decide) (hts (.fieldLink RX1 34 "LongTransfer$Receiver" "message" "I") (by decide +kernel)) (fun _ h9 => h9) rfl dX1_isReceiving_9 ?_
    refine lv_iload_n hx hb dX1_isReceiving_12 rfl (lv_at hl 1 rfl) ?_
    refine z_icmp_ne (tgt := 20) hx hb dX1_isReceiving_13 (by decide) (by omega) (by omega) (fun c_13 => ?_) (fun c_13 => ?_)
    · refine z_iconst hx hb dX1_isReceiving_20 ?_
      exact W.zret hx hb hr (by decide) (fun t ht hw => ⟨⟨_, (), rfl, congrArg iZ (if_neg (by omega)).symm, by show Wd _ _ _ t.heap; rw [ht]; exact hW⟩, hS.F ht⟩) hS.2.2 dX1_isReceiving_21
    · refine z_iconst hx hb dX1_isReceiving_16 ?_
      refine lv_goto (tgt := 21) hx hb dX1_isReceiving_17 (by decide) ?_
      exact W.zret hx hb hr (by decide) (fun t ht hw => ⟨⟨_, (), rfl, congrArg iZ (if_pos (by omega)).symm, by show Wd _ _ _ t.heap; rw [ht]; exact hW⟩, hS.F ht⟩) hS.2.2 dX1_isReceiving_21
set_option maxHeartbeats 4000000 in
set_option maxRecDepth 100000 in
theorem c_X1_wakeAt (l : Launch) (D : va_G) (dA : Nat → ClassId) (z : Nat → Nat) (en : en_T) (k : Nat) (i : Int) (a : Nat) (ob : Nat) (st mg hv sq bl cm an gu : Int) (h1 : lB an) (h2 : lB gu) (he : en k i = some (a, .inr (3, [.int (iZ (st)), .int (iZ (mg)), .ref ob, .int (iZ (hv)), .int (iZ (sq)), .int (iZ (bl)), .int (iZ (cm)), .long (lZ (an)), .long (lZ (gu))]))) : Met l yX1_wakeAt wsX1_wakeAt ({ frames := 1, cells := 0, slots := 0, locals := 15 }) (gP D dA z en [.ref a]) (va_Ql (fun (r : Int64) (_ : Unit) => r = lZ (min an gu)) (fun _ t9 => Wd D (z 0) en t9.heap) (fun q => z 0 ≤ q)) (0) (0) (fun q => z 0 ≤ q) := by
  refine gMet (own := RX1) (cc := cX1_wakeAt) (maxL := 1) (ret := (some .long)) (by decide) rfl rfl (Nat.le_of_ble_eq_true rfl) ?_
  intro p e s m below meth c hx hb hml hown hts hr hlocks hnm hg hW ls hl
  have hK := hg.1
  have hS : va_S (fun q => z 0 ≤ q) s.heap s.heap [] := va_S.rf
  have hi3 : ∀ w ∈ u_ws RX1 TX1 9, w ∈ wsX1_wakeAt := by decide +kernel
  have hl : lv_has ls 1 [(0, .ref a)] := hl
  refine lv_aload_n hx hb dX1_wakeAt_0 rfl (lv_at hl 0 rfl) ?_
  refine g_get (C := RX1) (T := TX1) (N := 9) (ci := 3) (v := .long (lZ (an))) hx hb hts hi3 hown hK hW he rfl 7 (by decide) (hts (.fieldLink RX1 24 "LongTransfer$Receiver" "answerAt" "J") (by decide +kernel)) (fun _ h9 => h9) rfl dX1_wakeAt_1 ?_
  refine lv_aload_n hx hb dX1_wakeAt_4 rfl (lv_at hl 0 rfl) ?_
  refine g_get (C := RX1) (T := TX1) (N := 9) (ci := 3) (v := .long (lZ (gu))) hx hb hts hi3 hown hK hW he rfl 8 (by decide) (hts (.fieldLink RX1 28 "LongTransfer$Receiver" "giveUpAt" "J") (by decide +kernel)) (fun _ h9 => h9) rfl dX1_wakeAt_5 ?_
  refine z_mminl hx hb (by rw [hml]; exact hl.1.symm) hown (hts (.methodLink RX1 37 Lib.MathLoose.min_long.x) (by decide +kernel)) (hts (.static Lib.MathLoose.min_long.x) (by decide +kernel)) (hts (.initialized "java/lang/Math") (by decide +kernel)) (hts _ (List.mem_of_getElem? (i := 6) rfl)) (Nat.le_of_ble_eq_true rfl) (Nat.le_of_ble_eq_true rfl) (Nat.zero_le _) (Nat.zero_le _) dX1_wakeAt_8 (by omega) (by omega) ?_
  exact W.lret hx hb hr (fun t ht hw => ⟨⟨_, (), rfl, rfl, by show Wd _ _ _ t.heap; rw [ht]; exact hW⟩, hS.F ht⟩) hS.2.2 dX1_wakeAt_11
