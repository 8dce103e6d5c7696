/-! THE CLAIM OUT OF ONE WALK OF THE LAW'S BODY. Your part is whole_start (and what it stands on); all else here is the same for every law, but numbers. -/
def R_law : String := "LongTransferLaw"
def lw_P (b : Addr) (xs : List Int32) (args : Array Value) (s : State) : Prop := args = #[.ref b] ∧ s.IntsAt b xs ∧ xs.length ≤ 2049 ∧ (Jvm.Cond.and given_1 narrow_1).before args s = true
def lw_Q (_ : Array Value) (s : State) (o : Outcome) (t : State) : Prop := o = .returned (some (.int 1)) ∧ Framed s o t [] 601024 7293000
def lw_Z (below : List Frame) (a : Array Value) (s : State) : State → Prop := fun t => ∃ o, t.status = .running ∧ Ended t below o ∧ lw_Q a s o t
/-- the law's own end, with 1 on the stack, nothing written that was there before, its room as the claim has it -/
theorem lw_ret {p : Program} {l : Launch} {e : Env} {s : State} {m : MethodId} {below : List Frame} {meth : Method} {c : Code} {b : Nat} (hx : p.tables.exec = Jvm.exec) (hb : c.code = code) (hr : meth.sig.returnType = ret) (hlocks : meth.locks = false) {pc : Nat} {H : Heap} {ls : Array Slot} (hdg : decode code pc = .ok (.ireturn, 1)) : W p l e room_1 s m #[Value.ref b] below meth c H [] 601024 7293000 (lw_Z below #[Value.ref b] s) (F0 m pc ls [.int 1]) := by
  intro T hT X
  obtain ⟨fs, hret, hrun, hended, hW, hframe⟩ := X.leave (v := some (.int 1)) (hlocks := hlocks) (fun h => by rw [hr] at h; cases h)
  have hmeth' : T.vm.method? m = some meth := X.method'
  refine ⟨T.setFrames fs, ?_, .returned (some (.int 1)), hrun, hended, rfl, ⟨_, rfl⟩, hW, hframe⟩
  jvm_step X.here [X.here.top, hx, hb, hdg, hmeth', hr, ret, narrow_b1]
  (try refine ⟨rfl, ?_⟩); (try refine ⟨rfl, ?_⟩)
  first | (intro acts; rw [hret _ acts rfl rfl rfl]) | rw [hret _ _ rfl rfl rfl]
  exact Steps.refl _
/-- what holds at the law's entry: the machine, the code, the tables' words (any of lw_tbl by 'hts w (by decide +kernel)'), the script of L ints xs at the cell b, what the Statement gives of the start (any of its parts by flat_of_before) -/
def lw_At (p : Program) (s : State) (m : MethodId) (meth : Method) (c : Code) (b L : Nat) (xs : Nat → Int32) : Prop :=
  p.tables.exec = Jvm.exec ∧ c.code = code ∧ meth.sig.returnType = ret ∧ c.maxLocals = 7 ∧ s.vm.findClass R_law = some m.cls ∧ (∀ w ∈ lw_tbl, w.before #[Value.ref b] s = true) ∧ va_X b L xs s s.heap ∧ b < s.heap.size ∧ meth.locks = false ∧ (Jvm.Cond.and given_1 narrow_1).before #[Value.ref b] s = true
theorem g_thr : GoodIn lw_tbl wsThr := goodIn_r _ [59, 610, 619, 621, 624, 626, 611, 612, 70, 71, 613, 618, 622, 645, 600, 646, 602, 647, 604, 614, 616, 606, 641, 642, 644, 606, 629, 630, 631, 632, 632, 633, 634, 635, 635, 636, 637, 638, 638, 639, 640, 641, 628, 587, 597, 598, 599, 601, 603, 605, 609, 608, 607] (by decide +kernel) (by decide +kernel)
theorem g_lgT : GoodIn lw_tbl wsL_gotT := by
  intro w h
  have hg : ∀ w ∈ wsL_got, w ∈ lw_tbl ∧ ((w.onTables && w.keeps) = true ∨ ∃ ty, w = .arrayClass ty) := fun w h => ⟨wsL_law_in w (ggL_law_L_got w h).1, (ggL_law_L_got w h).2⟩
  rcases List.mem_cons.mp h with h | h
  · exact hg w (List.mem_cons.mpr (Or.inl h))
  · rcases List.mem_append.mp h with h | h
    · exact hg w (List.mem_cons_of_mem _ h)
    · rcases List.mem_cons.mp h with h | h
      · rw [h]
        exact goodIn_r [.classLink RL 13 RJx00060] [581] (by decide +kernel) (by decide +kernel) _ List.mem_cons_self
      · exact g_thr w h
set_option maxHeartbeats 8000000 in
set_option maxRecDepth 100000 in
theorem law_loop {p : Program} {e : Env} {s : State} {m : MethodId} {below : List Frame} {meth : Method} {c : Code} (l : Launch) (hlt : l.stackTraces = false) {b L : Nat} {xs : Nat → Int32} (hL : L ≤ 2049) (C0 : lw_At p s m meth c b L xs) {D : va_G} {dA : Nat → ClassId} {z : Nat → Nat} {q9 : Nat} (hz : z 0 = s.heap.size) (hg : gK D dA z s) (he9 : gE z q9 s s.heap) (bb : Nat → Nat) (ao : Nat) :
    ∀ (n k : Nat) (g : St) (al : Al) (mu : Mu) (en : en_T) (F : Int → Int) (H : Heap) (locs : List Loc) (ls : Array Slot), L ≤ 4 * (k + n) → k ≤ 512 → EC dA z g al en → EM dA bb mu en → en 70 0 = some (ao, aJ dA (1) (F)) → VV g → Rl g mu → g 0 7 0 ≤ 5000 * (k : Int) → Wd D (z 0) en H → va_S (fun q => z 0 ≤ q) s.heap H locs → lv_has ls 7 [(0, .ref b), (1, .ref (al 0 0)), (2, .ref (bb 0)), (3, .ref ao), (4, .int (iZ (4 * (k : Int) + 1)))] →
      W p l e room_1 s m #[Value.ref b] below meth c H locs (100 + kC g + 3 * k) (1200000 + kS g + 10200 * k) (lw_Z below #[Value.ref b] s) (F0 m 33 ls []) := by
  obtain ⟨hx, hb, hr, hml, hown, hts, hX, hbl, hlocks, hgv⟩ := C0
  have htsL : ∀ w ∈ wsL_law, w.before #[Value.ref b] s = true := fun w h => hts w (wsL_law_in w h)
  have hK := hg.1
  have hbA : ¬ (fun q : Nat => z 0 ≤ q) b := by rw [hz]; exact Nat.not_le.mpr hbl
  intro n
  induction n with
  | zero =>
    intro k g al mu en F H locs ls hLn hk hE hM hO hV hR hnow hW hS hl
    have hkb := kl_b hV.1.1.2.1
    refine lv_iload hx hb dL_law_33 (lv_at hl 4 rfl) ?_
    refine lv_aload_n hx hb dL_law_35 rfl (lv_at hl 0 rfl) ?_
    refine l_slen hx hb hX hbl hbA hS dL_law_36 ?_
    refine z_iconst hx hb dL_law_37 ?_
    refine z_isub hx hb dL_law_38 ?_
    refine z_icmp_gt (tgt := 545) hx hb dL_law_39 (by decide) (by omega) (by omega) (fun c_39 => ?_) (fun c_39 => absurd c_39 (by omega))
    refine lv_iconst (v := 1) hx hb dL_law_545 (by decide) ?_
    refine va_forget (fun q hq => by rw [← hz]; exact hS.2.2 q hq) ?_
    refine W.widen (k := 601024) (n := 7293000) (by omega) (by omega) ?_
    exact lw_ret hx hb hr hlocks dL_law_546
  | succ n ih =>
    intro k g al mu en F H locs ls hLn hk hE hM hO hV hR hnow hW hS hl
    have hkb := kl_b hV.1.1.2.1
    refine lv_iload hx hb dL_law_33 (lv_at hl 4 rfl) ?_
    refine lv_aload_n hx hb dL_law_35 rfl (lv_at hl 0 rfl) ?_
    refine l_slen hx hb hX hbl hbA hS dL_law_36 ?_
    refine z_iconst hx hb dL_law_37 ?_
    refine z_isub hx hb dL_law_38 ?_
    refine z_icmp_gt (tgt := 545) hx hb dL_law_39 (by decide) (by omega) (by omega) (fun c_39 => ?_) (fun c_39 => ?_)
    · refine lv_iconst (v := 1) hx hb dL_law_545 (by decide) ?_
      refine va_forget (fun q hq => by rw [← hz]; exact hS.2.2 q hq) ?_
      refine W.widen (k := 601024) (n := 7293000) (by omega) (by omega) ?_
      exact lw_ret hx hb hr hlocks dL_law_546
    · obtain ⟨a0, ha0⟩ : ∃ x : Int, x = fX xs (4 * (k : Int) + 1) := ⟨_, rfl⟩
      have hb0 : iB a0 := by rw [ha0]; exact fX_b _ _
      obtain ⟨a1, ha1⟩ : ∃ x : Int, x = fX xs (4 * (k : Int) + 1 + 1) := ⟨_, rfl⟩
      have hb1 : iB a1 := by rw [ha1]; exact fX_b _ _
      obtain ⟨a2, ha2⟩ : ∃ x : Int, x = fX xs (4 * (k : Int) + 1 + 2) := ⟨_, rfl⟩
      have hb2 : iB a2 := by rw [ha2]; exact fX_b _ _
      obtain ⟨a3, ha3⟩ : ∃ x : Int, x = fX xs (4 * (k : Int) + 1 + 3) := ⟨_, rfl⟩
      have hb3 : iB a3 := by rw [ha3]; exact fX_b _ _
      obtain ⟨b9, hb9⟩ : ∃ x : Int, x = (iZ a3).toInt8.toInt := ⟨_, rfl⟩
      have hb9b : -128 ≤ b9 ∧ b9 ≤ 127 := by rw [hb9]; exact i8_b _
      have hk5 : k ≤ 511 := by omega
      obtain ⟨fu, hfu⟩ : ∃ x : Nat, x = 6001 := ⟨_, rfl⟩
      obtain ⟨fp, hfp⟩ : ∃ x : Nat, x = 5001 := ⟨_, rfl⟩
      have hx0 := hV.1.1.1
      unfold IX at hx0
      have hn3 : g 0 7 0 ≤ 3990000 := by omega
      have k539 : ∀ (g1 : St) (al1 : Al) (mu1 : Mu) (en1 : en_T) (F1 : Int → Int) (H : Heap) (locs : List Loc) (ls : Array Slot), EC dA z g1 al1 en1 → EM dA bb mu1 en1 → en1 70 0 = some (ao, aJ dA (1) (F1)) → VV g1 → Rl g1 mu1 → g1 0 7 0 ≤ 5000 * (k : Int) + 5000 → Wd D (z 0) en1 H → va_S (fun q => z 0 ≤ q) s.heap H locs → lv_has ls 7 [(0, .ref b), (1, .ref (al1 0 0)), (2, .ref (bb 0)), (3, .ref ao), (4, .int (iZ (4 * (k : Int) + 1)))] → W p l e room_1 s m #[Value.ref b] below meth c H locs (100 + kC g1 + 3 * (k + 1)) (1200000 + kS g1 + 10200 * (k + 1)) (lw_Z below #[Value.ref b] s) (F0 m 539 ls []) := by
        intro g1 al1 mu1 en1 F1 H locs ls hE hM hO hV hR hnow hW hS hl
        refine lv_iinc (v := iZ (4 * ((k + 1 : Nat) : Int) + 1)) (lv' := [(4, .int (iZ (4 * ((k + 1 : Nat) : Int) + 1))), (0, .ref b), (1, .ref (al1 0 0)), (2, .ref (bb 0)), (3, .ref ao)]) hx hb dL_law_539 hl (k := 4) rfl ((iZ_add _ _).trans (congrArg iZ (by omega))) (by decide) rfl (fun ls hl => ?_)
        refine lv_goto (tgt := 33) hx hb dL_law_542 (by decide) ?_
        exact ih (k + 1) g1 al1 mu1 en1 F1 H locs ls (by omega) (by omega) hE hM hO hV hR (by omega) hW hS (lv_sub hl [1, 2, 3, 4, 0] rfl)
      refine lv_aload_n hx hb dL_law_42 rfl (lv_at hl 0 rfl) ?_
      refine lv_iload hx hb dL_law_43 (lv_at hl 4 rfl) ?_
      refine l_sld hx hb hX hbl hbA hS hL (by omega) (by omega) dL_law_45 ?_
      rw [← ha0]
      refine z_bipush hx hb dL_law_46 (by decide) ?_
      refine lv_iand hx hb dL_law_48 ?_
      refine lv_topi (fun kx ekx => ?_)
      clear ekx
      by_cases h_0 : kx.toInt = 0
      · refine lv_tableIn (off := 63) (tgt := 112) hx hb dL_law_49 (by omega) (by omega) (by rw [h_0]; rfl) (by decide) ?_
        refine lv_aload_n hx hb dL_law_112 rfl (lv_at hl 1 rfl) ?_
        refine lv_aload_n hx hb dL_law_113 rfl (lv_at hl 0 rfl) ?_
        refine lv_iload hx hb dL_law_114 (lv_at hl 4 rfl) ?_
        refine z_iconst hx hb dL_law_116 ?_
        refine z_iadd hx hb dL_law_117 ?_
        refine l_sld hx hb hX hbl hbA hS hL (by omega) (by omega) dL_law_118 ?_
        rw [← ha1]
        have hV1c : VV (sSend g a1) := vv_send hV
        have hN1c := nk_send (g := g) (n := a1)
        have hkb1 := kl_b hV1c.1.1.2.1
        have hKl1 : kC g ≤ kC (sSend g a1) ∧ kS g ≤ kS (sSend g a1) := hN1c.2
        obtain ⟨g1c, hg1c⟩ : ∃ x : St, x = sSend g a1 := ⟨_, rfl⟩
        have hkc1 : kC g1c = kC (sSend g a1) ∧ kS g1c = kS (sSend g a1) := by rw [hg1c]; exact ⟨rfl, rfl⟩
        rw [← hg1c] at hV1c hN1c
        have hX1c := ec_X hE
        refine va_calli (va_runV (As := [.int (iZ (a1))]) (rest := []) ⟨hx, hb, hml, hown, htsL⟩ (c_X3_send l D dA z en g al a1 hb1 hE hV.1.1) (cwV 1 htsL gL_law_X3_send rfl rfl rfl (by decide +kernel) ⟨Nat.le_of_ble_eq_true rfl, Nat.le_of_ble_eq_true rfl⟩) ⟨gBl, gRecv hK hW (ci := 5) rfl hX1c, gPre _ hg hS hW⟩ rfl rfl hl.1 rfl (lv_room (Nat.le_of_ble_eq_true rfl)) dL_law_119 ⟨(show 100 + kC g + 3 * k + (3) ≤ 601024 by omega), (show 1200000 + kS g + 10200 * k + (10200) ≤ 7293000 by omega)⟩) hS (fun _ _ h => h) (fun _ h => h) (fun r9 u9 t9 H locs ht9 hvm9 hw9 hB9 hz9 hk9 hS => ?_)
        obtain ⟨en1c, al1c⟩ := u9
        obtain ⟨hr9, hE1c, hF1c, hA1c⟩ := hw9
        have hW : Wd D (z 0) en1c H := by rw [← ht9]; exact hB9
        dsimp only at hE1c hF1c hA1c
        subst hr9
        rw [← hg1c] at hE1c hA1c
        have hM1c : EM dA bb mu en1c := em_e hM (fun k i h1 h2 => hF1c k i h1 (by omega))
        have hO1c : en1c 70 0 = some (ao, aJ dA (1) (F)) := (hF1c 70 0 (by decide) (by decide)).trans hO
        have hal1 : al1c 0 0 = al 0 0 := hA1c.2 0 0 (Or.inl rfl)
        refine lv_aload_n hx hb dL_law_122 rfl (lv_at hl 2 rfl) ?_
        refine lv_aload_n hx hb dL_law_123 rfl (lv_at hl 0 rfl) ?_
        refine lv_iload hx hb dL_law_124 (lv_at hl 4 rfl) ?_
        refine z_iconst hx hb dL_law_126 ?_
        refine z_iadd hx hb dL_law_127 ?_
        refine l_sld hx hb hX hbl hbA hS hL (by omega) (by omega) dL_law_128 ?_
        rw [← ha1]
        have hX2c := hM1c.1
        refine va_calli (va_runV (As := [.int (iZ (a1))]) (rest := [.int (iZ (aSend g a1))]) ⟨hx, hb, hml, hown, htsL⟩ (c_X4_send l D dA z en1c bb mu g a1 hb1 hV.1.1 hR hM1c) (cwV 1 htsL gL_law_X4_send rfl rfl rfl (by decide +kernel) ⟨Nat.le_of_ble_eq_true rfl, Nat.le_of_ble_eq_true rfl⟩) ⟨gBl, gRecv hK hW (ci := 6) rfl hX2c, gPre _ hg hS hW⟩ rfl rfl hl.1 rfl (lv_room (Nat.le_of_ble_eq_true rfl)) dL_law_129 ⟨(show 100 + kC g + 3 * k + (3) + (0) ≤ 601024 by omega), (show 1200000 + kS g + 10200 * k + (10200) + (0) ≤ 7293000 by omega)⟩) hS (fun _ _ h => h) (fun _ h => h) (fun r9 u9 t9 H locs ht9 hvm9 hw9 hB9 hz9 hk9 hS => ?_)
        obtain ⟨en2c, mu2c⟩ := u9
        obtain ⟨hr9, hM2c, hF2c, hR2c⟩ := hw9
        have hW : Wd D (z 0) en2c H := by rw [← ht9]; exact hB9
        dsimp only at hM2c hF2c hR2c
        subst hr9
        have hE2c : EC dA z g1c al1c en2c := ec_e hE1c (fun k i h => hF2c k i (by omega))
        have hO2c : en2c 70 0 = some (ao, aJ dA (1) (F)) := (hF2c 70 0 (by omega)).trans hO1c
        rw [← hg1c] at hR2c
        refine lv_icmp_eq (tgt := 539) hx hb dL_law_132 (by decide) (fun _ => ?_) (fun c_9 => absurd rfl c_9)
        refine W.widen (k := 100 + kC g1c + 3 * (k + 1)) (n := 1200000 + kS g1c + 10200 * (k + 1)) (by omega) (by omega) ?_
        exact k539 g1c al1c mu2c en2c (F) _ _ _ hE2c hM2c hO2c hV1c hR2c (by omega) hW hS (by rw [hal1]; exact (lv_sub hl [0, 1, 2, 3, 4] rfl))
      by_cases h_1 : kx.toInt = 1
      · refine lv_tableIn (off := 88) (tgt := 137) hx hb dL_law_49 (by omega) (by omega) (by rw [h_1]; rfl) (by decide) ?_
        refine lv_aload_n hx hb dL_law_137 rfl (lv_at hl 1 rfl) ?_
        refine lv_aload_n hx hb dL_law_138 rfl (lv_at hl 0 rfl) ?_
        refine lv_iload hx hb dL_law_139 (lv_at hl 4 rfl) ?_
        refine z_iconst hx hb dL_law_141 ?_
        refine z_iadd hx hb dL_law_142 ?_
        refine l_sld hx hb hX hbl hbA hS hL (by omega) (by omega) dL_law_143 ?_
        rw [← ha1]
        refine lv_aload_n hx hb dL_law_144 rfl (lv_at hl 0 rfl) ?_
        refine lv_iload hx hb dL_law_145 (lv_at hl 4 rfl) ?_
        refine z_iconst hx hb dL_law_147 ?_
        refine z_iadd hx hb dL_law_148 ?_
        refine l_sld hx hb hX hbl hbA hS hL (by omega) (by omega) dL_law_149 ?_
        rw [← ha2]
        refine lv_aload_n hx hb dL_law_150 rfl (lv_at hl 0 rfl) ?_
        refine lv_iload hx hb dL_law_151 (lv_at hl 4 rfl) ?_
        refine z_iconst hx hb dL_law_153 ?_
        refine z_iadd hx hb dL_law_154 ?_
        refine l_sld hx hb hX hbl hbA hS hL (by omega) (by omega) dL_law_155 ?_
        rw [← ha3]
        refine l_i2b hx hb dL_law_156 ?_
        rw [← hb9]
        have hV1c : VV (sOct g a1 a2 b9) := vv_oct hV hb9b
        have hN1c := nk_oct (g := g) (m := a1) (i := a2) (b := b9)
        have hkb1 := kl_b hV1c.1.1.2.1
        have hKl1 : kC g ≤ kC (sOct g a1 a2 b9) ∧ kS g ≤ kS (sOct g a1 a2 b9) := hN1c.2
        obtain ⟨g1c, hg1c⟩ : ∃ x : St, x = sOct g a1 a2 b9 := ⟨_, rfl⟩
        have hkc1 : kC g1c = kC (sOct g a1 a2 b9) ∧ kS g1c = kS (sOct g a1 a2 b9) := by rw [hg1c]; exact ⟨rfl, rfl⟩
        rw [← hg1c] at hV1c hN1c
        have hX1c := ec_X hE
        refine va_callv (va_runV (As := [.int (iZ (a1)), .int (iZ (a2)), .int (iZ (b9))]) (rest := []) ⟨hx, hb, hml, hown, htsL⟩ (c_X3_octet l D dA z en g al a1 a2 b9 hb1 hb2 hb9b hE hV.1.1) (cwV 3 htsL gL_law_X3_octet rfl rfl rfl (by decide +kernel) ⟨Nat.le_of_ble_eq_true rfl, Nat.le_of_ble_eq_true rfl⟩) ⟨gBl, gRecv hK hW (ci := 5) rfl hX1c, gPre _ hg hS hW⟩ rfl rfl hl.1 rfl (lv_room (Nat.le_of_ble_eq_true rfl)) dL_law_157 ⟨(show 100 + kC g + 3 * k + (0) ≤ 601024 by omega), (show 1200000 + kS g + 10200 * k + (0) ≤ 7293000 by omega)⟩) hS (fun _ _ h => h) (fun _ h => h) (fun u9 t9 H locs ht9 hvm9 hw9 hB9 hz9 hk9 hS => ?_)
        obtain ⟨en1c, al1c⟩ := u9
        obtain ⟨hE1c, hF1c, hA1c⟩ := hw9
        have hW : Wd D (z 0) en1c H := by rw [← ht9]; exact hB9
        dsimp only at hE1c hF1c hA1c
        rw [← hg1c] at hE1c hA1c
        have hM1c : EM dA bb mu en1c := em_e hM (fun k i h1 h2 => hF1c k i h1 (by omega))
        have hO1c : en1c 70 0 = some (ao, aJ dA (1) (F)) := (hF1c 70 0 (by decide) (by decide)).trans hO
        have hal1 : al1c 0 0 = al 0 0 := hA1c.2 0 0 (Or.inl rfl)
        refine lv_aload_n hx hb dL_law_160 rfl (lv_at hl 2 rfl) ?_
        refine lv_aload_n hx hb dL_law_161 rfl (lv_at hl 0 rfl) ?_
        refine lv_iload hx hb dL_law_162 (lv_at hl 4 rfl) ?_
        refine z_iconst hx hb dL_law_164 ?_
        refine z_iadd hx hb dL_law_165 ?_
        refine l_sld hx hb hX hbl hbA hS hL (by omega) (by omega) dL_law_166 ?_
        rw [← ha1]
        refine lv_aload_n hx hb dL_law_167 rfl (lv_at hl 0 rfl) ?_
        refine lv_iload hx hb dL_law_168 (lv_at hl 4 rfl) ?_
        refine z_iconst hx hb dL_law_170 ?_
        refine z_iadd hx hb dL_law_171 ?_
        refine l_sld hx hb hX hbl hbA hS hL (by omega) (by omega) dL_law_172 ?_
        rw [← ha2]
        refine lv_aload_n hx hb dL_law_173 rfl (lv_at hl 0 rfl) ?_
        refine lv_iload hx hb dL_law_174 (lv_at hl 4 rfl) ?_
        refine z_iconst hx hb dL_law_176 ?_
        refine z_iadd hx hb dL_law_177 ?_
        refine l_sld hx hb hX hbl hbA hS hL (by omega) (by omega) dL_law_178 ?_
        rw [← ha3]
        refine l_i2b hx hb dL_law_179 ?_
        rw [← hb9]
        have hX2c := hM1c.1
        refine va_callv (va_runV (As := [.int (iZ (a1)), .int (iZ (a2)), .int (iZ (b9))]) (rest := []) ⟨hx, hb, hml, hown, htsL⟩ (c_X4_octet l D dA z en1c bb mu g a1 a2 b9 hb1 hb2 hb9b hV.1.1 hR hM1c) (cwV 3 htsL gL_law_X4_octet rfl rfl rfl (by decide +kernel) ⟨Nat.le_of_ble_eq_true rfl, Nat.le_of_ble_eq_true rfl⟩) ⟨gBl, gRecv hK hW (ci := 6) rfl hX2c, gPre _ hg hS hW⟩ rfl rfl hl.1 rfl (lv_room (Nat.le_of_ble_eq_true rfl)) dL_law_180 ⟨(show 100 + kC g + 3 * k + (0) + (0) ≤ 601024 by omega), (show 1200000 + kS g + 10200 * k + (0) + (0) ≤ 7293000 by omega)⟩) hS (fun _ _ h => h) (fun _ h => h) (fun u9 t9 H locs ht9 hvm9 hw9 hB9 hz9 hk9 hS => ?_)
        obtain ⟨en2c, mu2c⟩ := u9
        obtain ⟨hM2c, hF2c, hR2c⟩ := hw9
        have hW : Wd D (z 0) en2c H := by rw [← ht9]; exact hB9
        dsimp only at hM2c hF2c hR2c
        have hE2c : EC dA z g1c al1c en2c := ec_e hE1c (fun k i h => hF2c k i (by omega))
        have hO2c : en2c 70 0 = some (ao, aJ dA (1) (F)) := (hF2c 70 0 (by omega)).trans hO1c
        rw [← hg1c] at hR2c
        refine lv_goto (tgt := 539) hx hb dL_law_183 (by decide) ?_
        refine W.widen (k := 100 + kC g1c + 3 * (k + 1)) (n := 1200000 + kS g1c + 10200 * (k + 1)) (by omega) (by omega) ?_
        exact k539 g1c al1c mu2c en2c (F) _ _ _ hE2c hM2c hO2c hV1c hR2c (by omega) hW hS (by rw [hal1]; exact (lv_sub hl [0, 1, 2, 3, 4] rfl))
      by_cases h_2 : kx.toInt = 2
      · refine lv_tableIn (off := 137) (tgt := 186) hx hb dL_law_49 (by omega) (by omega) (by rw [h_2]; rfl) (by decide) ?_
        refine lv_aload_n hx hb dL_law_186 rfl (lv_at hl 1 rfl) ?_
        refine lv_aload_n hx hb dL_law_187 rfl (lv_at hl 0 rfl) ?_
        refine lv_iload hx hb dL_law_188 (lv_at hl 4 rfl) ?_
        refine z_iconst hx hb dL_law_190 ?_
        refine z_iadd hx hb dL_law_191 ?_
        refine l_sld hx hb hX hbl hbA hS hL (by omega) (by omega) dL_law_192 ?_
        rw [← ha1]
        refine lv_aload_n hx hb dL_law_193 rfl (lv_at hl 0 rfl) ?_
        refine lv_iload hx hb dL_law_194 (lv_at hl 4 rfl) ?_
        refine z_iconst hx hb dL_law_196 ?_
        refine z_iadd hx hb dL_law_197 ?_
        refine l_sld hx hb hX hbl hbA hS hL (by omega) (by omega) dL_law_198 ?_
        rw [← ha2]
        have hX1c := ec_X hE
        refine va_calli (va_runV (As := [.int (iZ (a1)), .int (iZ (a2))]) (rest := []) ⟨hx, hb, hml, hown, htsL⟩ (c_X3_frame l D dA z en g al a1 a2 hb1 hb2 hE hV.1.1) (cwV 2 htsL gL_law_X3_frame rfl rfl rfl (by decide +kernel) ⟨Nat.le_of_ble_eq_true rfl, Nat.le_of_ble_eq_true rfl⟩) ⟨gBl, gRecv hK hW (ci := 5) rfl hX1c, gPre _ hg hS hW⟩ rfl rfl hl.1 rfl (lv_room (Nat.le_of_ble_eq_true rfl)) dL_law_199 ⟨(show 100 + kC g + 3 * k + (0) ≤ 601024 by omega), (show 1200000 + kS g + 10200 * k + (0) ≤ 7293000 by omega)⟩) hS (fun _ _ h => h) (fun _ h => h) (fun r9 u9 t9 H locs ht9 hvm9 hw9 hB9 hz9 hk9 hS => ?_)
        have hW : Wd D (z 0) en H := by rw [← ht9]; exact hB9
        subst hw9
        refine lv_aload_n hx hb dL_law_202 rfl (lv_at hl 2 rfl) ?_
        refine lv_aload_n hx hb dL_law_203 rfl (lv_at hl 0 rfl) ?_
        refine lv_iload hx hb dL_law_204 (lv_at hl 4 rfl) ?_
        refine z_iconst hx hb dL_law_206 ?_
        refine z_iadd hx hb dL_law_207 ?_
        refine l_sld hx hb hX hbl hbA hS hL (by omega) (by omega) dL_law_208 ?_
        rw [← ha1]
        refine lv_aload_n hx hb dL_law_209 rfl (lv_at hl 0 rfl) ?_
        refine lv_iload hx hb dL_law_210 (lv_at hl 4 rfl) ?_
        refine z_iconst hx hb dL_law_212 ?_
        refine z_iadd hx hb dL_law_213 ?_
        refine l_sld hx hb hX hbl hbA hS hL (by omega) (by omega) dL_law_214 ?_
        rw [← ha2]
        have hX2c := hM.1
        refine va_calli (va_runV (As := [.int (iZ (a1)), .int (iZ (a2))]) (rest := [.int (iZ (aFrm g a1 a2))]) ⟨hx, hb, hml, hown, htsL⟩ (c_X4_frame l D dA z en bb mu g a1 a2 hb1 hb2 hV.1.1 hR hM) (cwV 2 htsL gL_law_X4_frame rfl rfl rfl (by decide +kernel) ⟨Nat.le_of_ble_eq_true rfl, Nat.le_of_ble_eq_true rfl⟩) ⟨gBl, gRecv hK hW (ci := 6) rfl hX2c, gPre _ hg hS hW⟩ rfl rfl hl.1 rfl (lv_room (Nat.le_of_ble_eq_true rfl)) dL_law_215 ⟨(show 100 + kC g + 3 * k + (0) + (0) ≤ 601024 by omega), (show 1200000 + kS g + 10200 * k + (0) + (0) ≤ 7293000 by omega)⟩) hS (fun _ _ h => h) (fun _ h => h) (fun r9 u9 t9 H locs ht9 hvm9 hw9 hB9 hz9 hk9 hS => ?_)
        obtain ⟨en2c, mu2c⟩ := u9
        obtain ⟨hr9, hM2c, hF2c, hR2c⟩ := hw9
        have hW : Wd D (z 0) en2c H := by rw [← ht9]; exact hB9
        dsimp only at hM2c hF2c hR2c
        subst hr9
        have hE2c : EC dA z g al en2c := ec_e hE (fun k i h => hF2c k i (by omega))
        have hO2c : en2c 70 0 = some (ao, aJ dA (1) (F)) := (hF2c 70 0 (by omega)).trans hO
        refine lv_icmp_eq (tgt := 539) hx hb dL_law_218 (by decide) (fun _ => ?_) (fun c_9 => absurd rfl c_9)
        refine W.widen (k := 100 + kC g + 3 * (k + 1)) (n := 1200000 + kS g + 10200 * (k + 1)) (by omega) (by omega) ?_
        exact k539 g al mu2c en2c (F) _ _ _ hE2c hM2c hO2c hV hR2c (by omega) hW hS (lv_sub hl [0, 1, 2, 3, 4] rfl)
      by_cases h_3 : kx.toInt = 3
      · refine lv_tableIn (off := 174) (tgt := 223) hx hb dL_law_49 (by omega) (by omega) (by rw [h_3]; rfl) (by decide) ?_
        refine lv_aload_n hx hb dL_law_223 rfl (lv_at hl 1 rfl) ?_
        refine lv_aload_n hx hb dL_law_224 rfl (lv_at hl 0 rfl) ?_
        refine lv_iload hx hb dL_law_225 (lv_at hl 4 rfl) ?_
        refine z_iconst hx hb dL_law_227 ?_
        refine z_iadd hx hb dL_law_228 ?_
        refine l_sld hx hb hX hbl hbA hS hL (by omega) (by omega) dL_law_229 ?_
        rw [← ha1]
        have hV1c : VV (sRecv g a1) := vv_recv hV
        have hN1c := nk_recv hV.1.1 (f := a1)
        have hkb1 := kl_b hV1c.1.1.2.1
        have hKl1 : kC g ≤ kC (sRecv g a1) ∧ kS g ≤ kS (sRecv g a1) := hN1c.2
        obtain ⟨g1c, hg1c⟩ : ∃ x : St, x = sRecv g a1 := ⟨_, rfl⟩
        have hkc1 : kC g1c = kC (sRecv g a1) ∧ kS g1c = kS (sRecv g a1) := by rw [hg1c]; exact ⟨rfl, rfl⟩
        rw [← hg1c] at hV1c hN1c
        have hX1c := ec_X hE
        refine va_calli (va_runV (As := [.int (iZ (a1))]) (rest := []) ⟨hx, hb, hml, hown, htsL⟩ (c_X3_receive l D dA z en g al a1 hb1 (fun w1 w2 w3 w4 => kb_hcs hV.1.1 hV.2.1 w1.1 w1.2.1 w1.2.2 w2 w3 w4) (fun w1 w2 => kb_hfs hV.1.1 hV.2.1 w1.1 w1.2.1 w2) hV.1.2 hE hV.1.1) (cwV 1 htsL gL_law_X3_receive rfl rfl rfl (by decide +kernel) ⟨Nat.le_of_ble_eq_true rfl, Nat.le_of_ble_eq_true rfl⟩) ⟨gBl, gRecv hK hW (ci := 5) rfl hX1c, gPre _ hg hS hW⟩ rfl rfl hl.1 rfl (lv_room (Nat.le_of_ble_eq_true rfl)) dL_law_230 ⟨(show 100 + kC g + 3 * k + (kC (sRecv g a1) - kC g + 1) ≤ 601024 by omega), (show 1200000 + kS g + 10200 * k + (kS (sRecv g a1) - kS g + 10000) ≤ 7293000 by omega)⟩) hS (fun _ _ h => h) (fun _ h => h) (fun r9 u9 t9 H locs ht9 hvm9 hw9 hB9 hz9 hk9 hS => ?_)
        obtain ⟨en1c, al1c⟩ := u9
        obtain ⟨hr9, hE1c, hF1c, hA1c⟩ := hw9
        have hW : Wd D (z 0) en1c H := by rw [← ht9]; exact hB9
        dsimp only at hE1c hF1c hA1c
        subst hr9
        rw [← hg1c] at hE1c hA1c
        have hM1c : EM dA bb mu en1c := em_e hM (fun k i h1 h2 => hF1c k i h1 (by omega))
        have hO1c : en1c 70 0 = some (ao, aJ dA (1) (F)) := (hF1c 70 0 (by decide) (by decide)).trans hO
        have hal1 : al1c 0 0 = al 0 0 := hA1c.2 0 0 (Or.inl rfl)
        refine lv_aload_n hx hb dL_law_233 rfl (lv_at hl 2 rfl) ?_
        refine lv_aload_n hx hb dL_law_234 rfl (lv_at hl 0 rfl) ?_
        refine lv_iload hx hb dL_law_235 (lv_at hl 4 rfl) ?_
        refine z_iconst hx hb dL_law_237 ?_
        refine z_iadd hx hb dL_law_238 ?_
        refine l_sld hx hb hX hbl hbA hS hL (by omega) (by omega) dL_law_239 ?_
        rw [← ha1]
        have hX2c := hM1c.1
        refine va_calli (va_runV (As := [.int (iZ (a1))]) (rest := [.int (iZ (aRecv g a1))]) ⟨hx, hb, hml, hown, htsL⟩ (c_X4_receive l D dA z en1c bb mu g a1 hb1 hV.1.2 hV.2.1 hV.1.1 hR hM1c) (cwV 1 htsL gL_law_X4_receive rfl rfl rfl (by decide +kernel) ⟨Nat.le_of_ble_eq_true rfl, Nat.le_of_ble_eq_true rfl⟩) ⟨gBl, gRecv hK hW (ci := 6) rfl hX2c, gPre _ hg hS hW⟩ rfl rfl hl.1 rfl (lv_room (Nat.le_of_ble_eq_true rfl)) dL_law_240 ⟨(show 100 + kC g + 3 * k + (kC (sRecv g a1) - kC g + 1) + (0) ≤ 601024 by omega), (show 1200000 + kS g + 10200 * k + (kS (sRecv g a1) - kS g + 10000) + (0) ≤ 7293000 by omega)⟩) hS (fun _ _ h => h) (fun _ h => h) (fun r9 u9 t9 H locs ht9 hvm9 hw9 hB9 hz9 hk9 hS => ?_)
        obtain ⟨en2c, mu2c⟩ := u9
        obtain ⟨hr9, hM2c, hF2c, hR2c⟩ := hw9
        have hW : Wd D (z 0) en2c H := by rw [← ht9]; exact hB9
        dsimp only at hM2c hF2c hR2c
        subst hr9
        have hE2c : EC dA z g1c al1c en2c := ec_e hE1c (fun k i h => hF2c k i (by omega))
        have hO2c : en2c 70 0 = some (ao, aJ dA (1) (F)) := (hF2c 70 0 (by omega)).trans hO1c
        rw [← hg1c] at hR2c
        refine lv_icmp_eq (tgt := 539) hx hb dL_law_243 (by decide) (fun _ => ?_) (fun c_9 => absurd rfl c_9)
        refine W.widen (k := 100 + kC g1c + 3 * (k + 1)) (n := 1200000 + kS g1c + 10200 * (k + 1)) (by omega) (by omega) ?_
        exact k539 g1c al1c mu2c en2c (F) _ _ _ hE2c hM2c hO2c hV1c hR2c (by omega) hW hS (by rw [hal1]; exact (lv_sub hl [0, 1, 2, 3, 4] rfl))
      by_cases h_4 : kx.toInt = 4
      · refine lv_tableIn (off := 199) (tgt := 248) hx hb dL_law_49 (by omega) (by omega) (by rw [h_4]; rfl) (by decide) ?_
        refine lv_aload_n hx hb dL_law_248 rfl (lv_at hl 1 rfl) ?_
        refine lv_aload_n hx hb dL_law_249 rfl (lv_at hl 0 rfl) ?_
        refine lv_iload hx hb dL_law_250 (lv_at hl 4 rfl) ?_
        refine z_iconst hx hb dL_law_252 ?_
        refine z_iadd hx hb dL_law_253 ?_
        refine l_sld hx hb hX hbl hbA hS hL (by omega) (by omega) dL_law_254 ?_
        rw [← ha1]
        have hV1c : VV (sLose g a1) := vv_lose hV
        have hN1c := nk_lose (g := g) (f := a1)
        have hkb1 := kl_b hV1c.1.1.2.1
        have hKl1 : kC g ≤ kC (sLose g a1) ∧ kS g ≤ kS (sLose g a1) := hN1c.2
        obtain ⟨g1c, hg1c⟩ : ∃ x : St, x = sLose g a1 := ⟨_, rfl⟩
        have hkc1 : kC g1c = kC (sLose g a1) ∧ kS g1c = kS (sLose g a1) := by rw [hg1c]; exact ⟨rfl, rfl⟩
        rw [← hg1c] at hV1c hN1c
        have hX1c := ec_X hE
        refine va_calli (va_runV (As := [.int (iZ (a1))]) (rest := []) ⟨hx, hb, hml, hown, htsL⟩ (c_X3_lose l D dA z en g al a1 hb1 hE hV.1.1) (cwV 1 htsL gL_law_X3_lose rfl rfl rfl (by decide +kernel) ⟨Nat.le_of_ble_eq_true rfl, Nat.le_of_ble_eq_true rfl⟩) ⟨gBl, gRecv hK hW (ci := 5) rfl hX1c, gPre _ hg hS hW⟩ rfl rfl hl.1 rfl (lv_room (Nat.le_of_ble_eq_true rfl)) dL_law_255 ⟨(show 100 + kC g + 3 * k + (0) ≤ 601024 by omega), (show 1200000 + kS g + 10200 * k + (0) ≤ 7293000 by omega)⟩) hS (fun _ _ h => h) (fun _ h => h) (fun r9 u9 t9 H locs ht9 hvm9 hw9 hB9 hz9 hk9 hS => ?_)
        obtain ⟨en1c, al1c⟩ := u9
        obtain ⟨hr9, hE1c, hF1c, hA1c⟩ := hw9
        have hW : Wd D (z 0) en1c H := by rw [← ht9]; exact hB9
        dsimp only at hE1c hF1c hA1c
        subst hr9
        rw [← hg1c] at hE1c hA1c
        have hM1c : EM dA bb mu en1c := em_e hM (fun k i h1 h2 => hF1c k i h1 (by omega))
        have hO1c : en1c 70 0 = some (ao, aJ dA (1) (F)) := (hF1c 70 0 (by decide) (by decide)).trans hO
        have hal1 : al1c 0 0 = al 0 0 := hA1c.2 0 0 (Or.inl rfl)
        refine lv_aload_n hx hb dL_law_258 rfl (lv_at hl 2 rfl) ?_
        refine lv_aload_n hx hb dL_law_259 rfl (lv_at hl 0 rfl) ?_
        refine lv_iload hx hb dL_law_260 (lv_at hl 4 rfl) ?_
        refine z_iconst hx hb dL_law_262 ?_
        refine z_iadd hx hb dL_law_263 ?_
        refine l_sld hx hb hX hbl hbA hS hL (by omega) (by omega) dL_law_264 ?_
        rw [← ha1]
        have hX2c := hM1c.1
        refine va_calli (va_runV (As := [.int (iZ (a1))]) (rest := [.int (iZ (aLose g a1))]) ⟨hx, hb, hml, hown, htsL⟩ (c_X4_lose l D dA z en1c bb mu g a1 hb1 hV.1.1 hR hM1c) (cwV 1 htsL gL_law_X4_lose rfl rfl rfl (by decide +kernel) ⟨Nat.le_of_ble_eq_true rfl, Nat.le_of_ble_eq_true rfl⟩) ⟨gBl, gRecv hK hW (ci := 6) rfl hX2c, gPre _ hg hS hW⟩ rfl rfl hl.1 rfl (lv_room (Nat.le_of_ble_eq_true rfl)) dL_law_265 ⟨(show 100 + kC g + 3 * k + (0) + (0) ≤ 601024 by omega), (show 1200000 + kS g + 10200 * k + (0) + (0) ≤ 7293000 by omega)⟩) hS (fun _ _ h => h) (fun _ h => h) (fun r9 u9 t9 H locs ht9 hvm9 hw9 hB9 hz9 hk9 hS => ?_)
        obtain ⟨en2c, mu2c⟩ := u9
        obtain ⟨hr9, hM2c, hF2c, hR2c⟩ := hw9
        have hW : Wd D (z 0) en2c H := by rw [← ht9]; exact hB9
        dsimp only at hM2c hF2c hR2c
        subst hr9
        have hE2c : EC dA z g1c al1c en2c := ec_e hE1c (fun k i h => hF2c k i (by omega))
        have hO2c : en2c 70 0 = some (ao, aJ dA (1) (F)) := (hF2c 70 0 (by omega)).trans hO1c
        rw [← hg1c] at hR2c
        refine lv_icmp_eq (tgt := 539) hx hb dL_law_268 (by decide) (fun _ => ?_) (fun c_9 => absurd rfl c_9)
        refine W.widen (k := 100 + kC g1c + 3 * (k + 1)) (n := 1200000 + kS g1c + 10200 * (k + 1)) (by omega) (by omega) ?_
        exact k539 g1c al1c mu2c en2c (F) _ _ _ hE2c hM2c hO2c hV1c hR2c (by omega) hW hS (by rw [hal1]; exact (lv_sub hl [0, 1, 2, 3, 4] rfl))
      by_cases h_5 : kx.toInt = 5
      · refine lv_tableIn (off := 224) (tgt := 273) hx hb dL_law_49 (by omega) (by omega) (by rw [h_5]; rfl) (by decide) ?_
        refine lv_aload_n hx hb dL_law_273 rfl (lv_at hl 1 rfl) ?_
        refine lv_aload_n hx hb dL_law_274 rfl (lv_at hl 0 rfl) ?_
        refine lv_iload hx hb dL_law_275 (lv_at hl 4 rfl) ?_
        refine z_iconst hx hb dL_law_277 ?_
        refine z_iadd hx hb dL_law_278 ?_
        refine l_sld hx hb hX hbl hbA hS hL (by omega) (by omega) dL_law_279 ?_
        rw [← ha1]
        refine lv_aload_n hx hb dL_law_280 rfl (lv_at hl 0 rfl) ?_
        refine lv_iload hx hb dL_law_281 (lv_at hl 4 rfl) ?_
        refine z_iconst hx hb dL_law_283 ?_
        refine z_iadd hx hb dL_law_284 ?_
        refine l_sld hx hb hX hbl hbA hS hL (by omega) (by omega) dL_law_285 ?_
        rw [← ha2]
        refine lv_aload_n hx hb dL_law_286 rfl (lv_at hl 0 rfl) ?_
        refine lv_iload hx hb dL_law_287 (lv_at hl 4 rfl) ?_
        refine z_iconst hx hb dL_law_289 ?_
        refine z_iadd hx hb dL_law_290 ?_
        refine l_sld hx hb hX hbl hbA hS hL (by omega) (by omega) dL_law_291 ?_
        rw [← ha3]
        have hV1c : VV (sFlw g a1 a2 a3) := vv_flw hV
        have hN1c := nk_flw (g := g) (b := a1) (s := a2) (k := a3)
        have hkb1 := kl_b hV1c.1.1.2.1
        have hKl1 : kC g ≤ kC (sFlw g a1 a2 a3) ∧ kS g ≤ kS (sFlw g a1 a2 a3) := hN1c.2
        obtain ⟨g1c, hg1c⟩ : ∃ x : St, x = sFlw g a1 a2 a3 := ⟨_, rfl⟩
        have hkc1 : kC g1c = kC (sFlw g a1 a2 a3) ∧ kS g1c = kS (sFlw g a1 a2 a3) := by rw [hg1c]; exact ⟨rfl, rfl⟩
        rw [← hg1c] at hV1c hN1c
        have hX1c := ec_X hE
        refine va_calli (va_runV (As := [.int (iZ (a1)), .int (iZ (a2)), .int (iZ (a3))]) (rest := []) ⟨hx, hb, hml, hown, htsL⟩ (c_X3_flow l D dA z en g al a1 a2 a3 hb1 hb2 hb3 hE hV.1.1) (cwV 3 htsL gL_law_X3_flow rfl rfl rfl (by decide +kernel) ⟨Nat.le_of_ble_eq_true rfl, Nat.le_of_ble_eq_true rfl⟩) ⟨gBl, gRecv hK hW (ci := 5) rfl hX1c, gPre _ hg hS hW⟩ rfl rfl hl.1 rfl (lv_room (Nat.le_of_ble_eq_true rfl)) dL_law_292 ⟨(show 100 + kC g + 3 * k + (0) ≤ 601024 by omega), (show 1200000 + kS g + 10200 * k + (0) ≤ 7293000 by omega)⟩) hS (fun _ _ h => h) (fun _ h => h) (fun r9 u9 t9 H locs ht9 hvm9 hw9 hB9 hz9 hk9 hS => ?_)
        obtain ⟨en1c, al1c⟩ := u9
        obtain ⟨hr9, hE1c, hF1c, hA1c⟩ := hw9
        have hW : Wd D (z 0) en1c H := by rw [← ht9]; exact hB9
        dsimp only at hE1c hF1c hA1c
        subst hr9
        rw [← hg1c] at hE1c hA1c
        have hM1c : EM dA bb mu en1c := em_e hM (fun k i h1 h2 => hF1c k i h1 (by omega))
        have hO1c : en1c 70 0 = some (ao, aJ dA (1) (F)) := (hF1c 70 0 (by decide) (by decide)).trans hO
        have hal1 : al1c 0 0 = al 0 0 := hA1c.2 0 0 (Or.inl rfl)
        refine lv_aload_n hx hb dL_law_295 rfl (lv_at hl 2 rfl) ?_
        refine lv_aload_n hx hb dL_law_296 rfl (lv_at hl 0 rfl) ?_
        refine lv_iload hx hb dL_law_297 (lv_at hl 4 rfl) ?_
        refine z_iconst hx hb dL_law_299 ?_
        refine z_iadd hx hb dL_law_300 ?_
        refine l_sld hx hb hX hbl hbA hS hL (by omega) (by omega) dL_law_301 ?_
        rw [← ha1]
        refine lv_aload_n hx hb dL_law_302 rfl (lv_at hl 0 rfl) ?_
        refine lv_iload hx hb dL_law_303 (lv_at hl 4 rfl) ?_
        refine z_iconst hx hb dL_law_305 ?_
        refine z_iadd hx hb dL_law_306 ?_
        refine l_sld hx hb hX hbl hbA hS hL (by omega) (by omega) dL_law_307 ?_
        rw [← ha2]
        refine lv_aload_n hx hb dL_law_308 rfl (lv_at hl 0 rfl) ?_
        refine lv_iload hx hb dL_law_309 (lv_at hl 4 rfl) ?_
        refine z_iconst hx hb dL_law_311 ?_
        refine z_iadd hx hb dL_law_312 ?_
        refine l_sld hx hb hX hbl hbA hS hL (by omega) (by omega) dL_law_313 ?_
        rw [← ha3]
        have hX2c := hM1c.1
        refine va_calli (va_runV (As := [.int (iZ (a1)), .int (iZ (a2)), .int (iZ (a3))]) (rest := [.int (iZ (aFlw a1 a2 a3))]) ⟨hx, hb, hml, hown, htsL⟩ (c_X4_flow l D dA z en1c bb mu g a1 a2 a3 hb1 hb2 hb3 hV.1.1 hR hM1c) (cwV 3 htsL gL_law_X4_flow rfl rfl rfl (by decide +kernel) ⟨Nat.le_of_ble_eq_true rfl, Nat.le_of_ble_eq_true rfl⟩) ⟨gBl, gRecv hK hW (ci := 6) rfl hX2c, gPre _ hg hS hW⟩ rfl rfl hl.1 rfl (lv_room (Nat.le_of_ble_eq_true rfl)) dL_law_314 ⟨(show 100 + kC g + 3 * k + (0) + (0) ≤ 601024 by omega), (show 1200000 + kS g + 10200 * k + (0) + (0) ≤ 7293000 by omega)⟩) hS (fun _ _ h => h) (fun _ h => h) (fun r9 u9 t9 H locs ht9 hvm9 hw9 hB9 hz9 hk9 hS => ?_)
        obtain ⟨en2c, mu2c⟩ := u9
        obtain ⟨hr9, hM2c, hF2c, hR2c⟩ := hw9
        have hW : Wd D (z 0) en2c H := by rw [← ht9]; exact hB9
        dsimp only at hM2c hF2c hR2c
        subst hr9
        have hE2c : EC dA z g1c al1c en2c := ec_e hE1c (fun k i h => hF2c k i (by omega))
        have hO2c : en2c 70 0 = some (ao, aJ dA (1) (F)) := (hF2c 70 0 (by omega)).trans hO1c
        rw [← hg1c] at hR2c
        refine lv_icmp_eq (tgt := 539) hx hb dL_law_317 (by decide) (fun _ => ?_) (fun c_9 => absurd rfl c_9)
        refine W.widen (k := 100 + kC g1c + 3 * (k + 1)) (n := 1200000 + kS g1c + 10200 * (k + 1)) (by omega) (by omega) ?_
        exact k539 g1c al1c mu2c en2c (F) _ _ _ hE2c hM2c hO2c hV1c hR2c (by omega) hW hS (by rw [hal1]; exact (lv_sub hl [0, 1, 2, 3, 4] rfl))
      by_cases h_6 : kx.toInt = 6
      · refine lv_tableIn (off := 273) (tgt := 322) hx hb dL_law_49 (by omega) (by omega) (by rw [h_6]; rfl) (by decide) ?_
        refine lv_aload_n hx hb dL_law_322 rfl (lv_at hl 1 rfl) ?_
        refine lv_aload_n hx hb dL_law_323 rfl (lv_at hl 0 rfl) ?_
        refine lv_iload hx hb dL_law_324 (lv_at hl 4 rfl) ?_
        refine z_iconst hx hb dL_law_326 ?_
        refine z_iadd hx hb dL_law_327 ?_
        refine l_sld hx hb hX hbl hbA hS hL (by omega) (by omega) dL_law_328 ?_
        rw [← ha1]
        refine lv_i2l hx hb dL_law_329 rfl ?_
        refine z_bipush hx hb dL_law_330 (by decide) ?_
        refine lv_lshl hx hb dL_law_332 rfl ?_
        refine lv_aload_n hx hb dL_law_333 rfl (lv_at hl 0 rfl) ?_
        refine lv_iload hx hb dL_law_334 (lv_at hl 4 rfl) ?_
        refine z_iconst hx hb dL_law_336 ?_
        refine z_iadd hx hb dL_law_337 ?_
        refine l_sld hx hb hX hbl hbA hS hL (by omega) (by omega) dL_law_338 ?_
        rw [← ha2]
        refine lv_i2l hx hb dL_law_339 rfl ?_
        refine lv_ldc2 hx hb hown (htsL (.constantLong RL 56 (4294967295)) (by decide +kernel)) dL_law_340 ?_
        refine lv_land hx hb dL_law_343 ?_
        refine lv_lor hx hb dL_law_344 ?_
        refine lv_topl (fun t1 et1 => ?_)
        obtain ⟨tt, htt, htl⟩ : ∃ x : Int, lZ x = t1 ∧ lB x := ⟨t1.toInt, lZ_of t1, lB_of t1⟩
        rw [← htt]
        have hV1c : VV (sTick fu fp g tt) := vv_tick (by omega) (by omega) hV hn3
        have hN1c := nk_tick (fu := fu) (fp := fp) hV.1 (t := tt) hn3
        have hkb1 := kl_b hV1c.1.1.2.1
        have hKl1 : kC g ≤ kC (sTick fu fp g tt) ∧ kS g ≤ kS (sTick fu fp g tt) := hN1c.2
        obtain ⟨g1c, hg1c⟩ : ∃ x : St, x = sTick fu fp g tt := ⟨_, rfl⟩
        have hkc1 : kC g1c = kC (sTick fu fp g tt) ∧ kS g1c = kS (sTick fu fp g tt) := by rw [hg1c]; exact ⟨rfl, rfl⟩
        rw [← hg1c] at hV1c hN1c
        have hX1c := ec_X hE
        refine va_calli (va_runV (As := [.long (lZ (tt))]) (rest := []) ⟨hx, hb, hml, hown, htsL⟩ (c_X3_tick l D dA z en g al tt htl hn3 fu fp hfu hfp hV.1.2 hE hV.1.1) (cwV 1 htsL gL_law_X3_tick rfl rfl rfl (by decide +kernel) ⟨Nat.le_of_ble_eq_true rfl, Nat.le_of_ble_eq_true rfl⟩) ⟨gBl, gRecv hK hW (ci := 5) rfl hX1c, gPre _ hg hS hW⟩ rfl rfl hl.1 rfl (lv_room (Nat.le_of_ble_eq_true rfl)) dL_law_345 ⟨(show 100 + kC g + 3 * k + (kC (sTick fu fp g tt) - kC g) ≤ 601024 by omega), (show 1200000 + kS g + 10200 * k + (kS (sTick fu fp g tt) - kS g) ≤ 7293000 by omega)⟩) hS (fun _ _ h => h) (fun _ h => h) (fun r9 u9 t9 H locs ht9 hvm9 hw9 hB9 hz9 hk9 hS => ?_)
        obtain ⟨en1c, al1c⟩ := u9
        obtain ⟨hr9, hE1c, hF1c, hA1c⟩ := hw9
        have hW : Wd D (z 0) en1c H := by rw [← ht9]; exact hB9
        dsimp only at hE1c hF1c hA1c
        subst hr9
        rw [← hg1c] at hE1c hA1c
        have hM1c : EM dA bb mu en1c := em_e hM (fun k i h1 h2 => hF1c k i h1 (by omega))
        have hO1c : en1c 70 0 = some (ao, aJ dA (1) (F)) := (hF1c 70 0 (by decide) (by decide)).trans hO
        have hal1 : al1c 0 0 = al 0 0 := hA1c.2 0 0 (Or.inl rfl)
        refine lv_aload_n hx hb dL_law_348 rfl (lv_at hl 2 rfl) ?_
        refine lv_aload_n hx hb dL_law_349 rfl (lv_at hl 0 rfl) ?_
        refine lv_iload hx hb dL_law_350 (lv_at hl 4 rfl) ?_
        refine z_iconst hx hb dL_law_352 ?_
        refine z_iadd hx hb dL_law_353 ?_
        refine l_sld hx hb hX hbl hbA hS hL (by omega) (by omega) dL_law_354 ?_
        rw [← ha1]
        refine lv_i2l hx hb dL_law_355 rfl ?_
        refine z_bipush hx hb dL_law_356 (by decide) ?_
        refine lv_lshl hx hb dL_law_358 rfl ?_
        refine lv_aload_n hx hb dL_law_359 rfl (lv_at hl 0 rfl) ?_
        refine lv_iload hx hb dL_law_360 (lv_at hl 4 rfl) ?_
        refine z_iconst hx hb dL_law_362 ?_
        refine z_iadd hx hb dL_law_363 ?_
        refine l_sld hx hb hX hbl hbA hS hL (by omega) (by omega) dL_law_364 ?_
        rw [← ha2]
        refine lv_i2l hx hb dL_law_365 rfl ?_
        refine lv_ldc2 hx hb hown (htsL (.constantLong RL 56 (4294967295)) (by decide +kernel)) dL_law_366 ?_
        refine lv_land hx hb dL_law_369 ?_
        refine lv_lor hx hb dL_law_370 ?_
        rw [← et1, ← htt]
        have hX2c := hM1c.1
        refine va_calli (va_runV (As := [.long (lZ (tt))]) (rest := [.int (iZ (if tt < g 0 7 0 ∨ 5000 < tt - g 0 7 0 then -2 else sTick fu fp g tt 0 5 0 - g 0 5 0))]) ⟨hx, hb, hml, hown, htsL⟩ (c_X4_tick l D dA z en1c bb mu g tt htl hn3 fu fp (by omega) (by omega) hV.1 hV.2.2 hR hM1c) (cwV 1 htsL gL_law_X4_tick rfl rfl rfl (by decide +kernel) ⟨Nat.le_of_ble_eq_true rfl, Nat.le_of_ble_eq_true rfl⟩) ⟨gBl, gRecv hK hW (ci := 6) rfl hX2c, gPre _ hg hS hW⟩ rfl rfl hl.1 rfl (lv_room (Nat.le_of_ble_eq_true rfl)) dL_law_371 ⟨(show 100 + kC g + 3 * k + (kC (sTick fu fp g tt) - kC g) + (0) ≤ 601024 by omega), (show 1200000 + kS g + 10200 * k + (kS (sTick fu fp g tt) - kS g) + (0) ≤ 7293000 by omega)⟩) hS (fun _ _ h => h) (fun _ h => h) (fun r9 u9 t9 H locs ht9 hvm9 hw9 hB9 hz9 hk9 hS => ?_)
        obtain ⟨en2c, mu2c⟩ := u9
        obtain ⟨hr9, hM2c, hF2c, hR2c⟩ := hw9
        have hW : Wd D (z 0) en2c H := by rw [← ht9]; exact hB9
        dsimp only at hM2c hF2c hR2c
        subst hr9
        have hE2c : EC dA z g1c al1c en2c := ec_e hE1c (fun k i h => hF2c k i (by omega))
        have hO2c : en2c 70 0 = some (ao, aJ dA (1) (F)) := (hF2c 70 0 (by omega)).trans hO1c
        rw [← hg1c] at hR2c
        refine lv_icmp_eq (tgt := 539) hx hb dL_law_374 (by decide) (fun _ => ?_) (fun c_9 => absurd rfl c_9)
        refine W.widen (k := 100 + kC g1c + 3 * (k + 1)) (n := 1200000 + kS g1c + 10200 * (k + 1)) (by omega) (by omega) ?_
        exact k539 g1c al1c mu2c en2c (F) _ _ _ hE2c hM2c hO2c hV1c hR2c (by omega) hW hS (by rw [hal1]; exact (lv_sub hl [0, 1, 2, 3, 4] rfl))
      by_cases h_7 : kx.toInt = 7
      · refine lv_tableIn (off := 330) (tgt := 379) hx hb dL_law_49 (by omega) (by omega) (by rw [h_7]; rfl) (by decide) ?_
        by_cases hin : 0 ≤ a1 ∧ a1 < g 1 2 0
        · refine lv_aload_n hx hb dL_law_379 rfl (lv_at hl 1 rfl) ?_
          refine lv_aload_n hx hb dL_law_380 rfl (lv_at hl 0 rfl) ?_
          refine lv_iload hx hb dL_law_381 (lv_at hl 4 rfl) ?_
          refine z_iconst hx hb dL_law_383 ?_
          refine z_iadd hx hb dL_law_384 ?_
          refine l_sld hx hb hX hbl hbA hS hL (by omega) (by omega) dL_law_385 ?_
          rw [← ha1]
          refine lv_aload_n hx hb dL_law_386 rfl (lv_at hl 3 rfl) ?_
          refine va_calli (l_runSW (As := [.ref (al 0 0), .int (iZ (a1)), .ref ao]) (rest := []) (n := 3) ⟨hx, hb, hml, hown, hts⟩ (c_L_got0 l hlt D dA z q9 en g al a1 ao F hin.1 hin.2 hO hE hV.1.1) g_lgT rfl rfl rfl ⟨Nat.le_of_ble_eq_true rfl, Nat.le_of_ble_eq_true rfl⟩ (htsL (.initialized RL) (by decide +kernel)) (htsL (.methodLink RL 63 yL_got) (gL_law_L_got _ (by simp [va_wsS])).1) (htsL (.static yL_got) (gL_law_L_got _ (by simp [va_wsS])).1) (by decide +kernel) ⟨gBlE, gPreE _ hg he9 hS hW⟩ rfl rfl hl.1 rfl (lv_room (Nat.le_of_ble_eq_true rfl)) dL_law_387 ⟨(show 100 + kC g + 3 * k + (0) ≤ 601024 by omega), (show 1200000 + kS g + 10200 * k + (0) ≤ 7293000 by omega)⟩) hS (fun _ _ h => h) (fun _ h => h) (fun r9 u9 t9 H locs ht9 hvm9 hw9 hB9 hz9 hk9 hS => ?_)
          obtain ⟨en0, hen0⟩ : ∃ x : en_T, x = e2 en 70 0 (some (ao, aJ dA (1) (uF (F) (0) (g 40 0 a1)))) := ⟨_, rfl⟩
          have hW : Wd D (z 0) en0 H := by rw [← ht9, hen0]; exact hB9
          have hE0 : EC dA z g al en0 := ec_e hE (fun k i h => by rw [hen0]; exact e2_k (by omega))
          have hM0 : EM dA bb mu en0 := em_e hM (fun k i h1 h2 => by rw [hen0]; exact e2_k (by omega))
          have hO0 : en0 70 0 = some (ao, aJ dA (1) (uF (F) (0) (g 40 0 a1))) := by rw [hen0]; exact e2_s _ _ _ _
          have hIj := hV.1.1.2.2.2.2.2.2 a1
          subst hw9
          refine lv_istore (lv' := [(5, .int (iZ (0))), (0, .ref b), (1, .ref (al 0 0)), (2, .ref (bb 0)), (3, .ref ao), (4, .int (iZ (4 * (k : Int) + 1)))]) hx hb dL_law_390 hl (by decide) rfl (fun ls hl => ?_)
          refine lv_aload_n hx hb dL_law_392 rfl (lv_at hl 3 rfl) ?_
          refine lv_aload_n hx hb dL_law_393 rfl (lv_at hl 1 rfl) ?_
          refine lv_iload hx hb dL_law_394 (lv_at hl 5 rfl) ?_
          refine z_iconst hx hb dL_law_396 ?_
          refine z_iadd hx hb dL_law_397 ?_
          refine l_sld hx hb hX hbl hbA hS hL (by omega) (by omega) dL_law_398 ?_
          rw [← ha1]
          have hX1c := hM0.1
          refine va_calli (va_runV (As := [.int (iZ (a1))]) (rest := []) ⟨hx, hb, hml, hown, htsL⟩ (c_X4_got l D dA z en0 bb mu g a1 hb1 hV.1.1 hR hM0) (cwV 1 htsL gL_law_X4_got rfl rfl rfl (by decide +kernel) ⟨Nat.le_of_ble_eq_true rfl, Nat.le_of_ble_eq_true rfl⟩) ⟨gBl, gRecv hK hW (ci := 6) rfl hX1c, gPre _ hg hS hW⟩ rfl rfl hl.1 rfl (lv_room (Nat.le_of_ble_eq_true rfl)) dL_law_399 ⟨(show 100 + kC g + 3 * k + (0) + (0) ≤ 601024 by omega), (show 1200000 + kS g + 10200 * k + (0) + (0) ≤ 7293000 by omega)⟩) hS (fun _ _ h => h) (fun _ h => h) (fun r9 u9 t9 H locs ht9 hvm9 hw9 hB9 hz9 hk9 hS => ?_)
          obtain ⟨en1c, mu1c⟩ := u9
          obtain ⟨hr9, hM1c, hF1c, hR1c⟩ := hw9
          have hW : Wd D (z 0) en1c H := by rw [← ht9]; exact hB9
          dsimp only at hM1c hF1c hR1c
          subst hr9
          have hE1c : EC dA z g al en1c := ec_e hE0 (fun k i h => hF1c k i (by omega))
          have hO1c : en1c 70 0 = some (ao, aJ dA (1) (uF (F) (0) (g 40 0 a1))) := (hF1c 70 0 (by omega)).trans hO0
          obtain ⟨hRg, hR0⟩ := hR1c
          rw [if_pos hin] at hR0
          rw [if_pos hin]
          refine lv_istore (lv' := [(6, .int (iZ (g 40 0 a1))), (5, .int (iZ (0))), (0, .ref b), (1, .ref (al 0 0)), (2, .ref (bb 0)), (3, .ref ao), (4, .int (iZ (4 * (k : Int) + 1)))]) hx hb dL_law_402 hl (by decide) rfl (fun ls hl => ?_)
          refine lv_aload_n hx hb dL_law_404 rfl (lv_at hl 4 rfl) ?_
          have hX2c := hM1c.1
          refine va_calli (va_runV (As := []) (rest := []) ⟨hx, hb, hml, hown, htsL⟩ (c_X4_thrown l D dA z en1c bb mu1c hM1c) (cwV 0 htsL gL_law_X4_thrown rfl rfl rfl (by decide +kernel) ⟨Nat.le_of_ble_eq_true rfl, Nat.le_of_ble_eq_true rfl⟩) ⟨gBl, gRecv hK hW (ci := 6) rfl hX2c, gPre _ hg hS hW⟩ rfl rfl hl.1 rfl (lv_room (Nat.le_of_ble_eq_true rfl)) dL_law_405 ⟨(show 100 + kC g + 3 * k + (0) + (0) + (0) ≤ 601024 by omega), (show 1200000 + kS g + 10200 * k + (0) + (0) + (0) ≤ 7293000 by omega)⟩) hS (fun _ _ h => h) (fun _ h => h) (fun r9 u9 t9 H locs ht9 hvm9 hw9 hB9 hz9 hk9 hS => ?_)
          have hW : Wd D (z 0) en1c H := by rw [← ht9]; exact hB9
          subst hw9
          rw [hR0]
          refine lv_iload hx hb dL_law_408 (lv_at hl 1 rfl) ?_
          refine lv_icmp_eq (tgt := 415) hx hb dL_law_410 (by decide) (fun _ => ?_) (fun c_9 => absurd rfl c_9)
          refine lv_iload hx hb dL_law_415 (lv_at hl 1 rfl) ?_
          refine z_if_ne (tgt := 432) hx hb dL_law_417 (by decide) (by omega) (fun c_9 => absurd rfl c_9) (fun _ => ?_)
          refine lv_aload_n hx hb dL_law_420 rfl (lv_at hl 5 rfl) ?_
          refine z_iconst hx hb dL_law_421 ?_
          refine g_lald hx hb hK hW hO1c (by omega) (by omega) (by omega) dL_law_422 ?_
          rw [show (uF (F) (0) (g 40 0 a1)) 0 = g 40 0 a1 from if_pos rfl]
          refine lv_iload hx hb dL_law_423 (lv_at hl 0 rfl) ?_
          refine z_i2l hx hb (by omega) dL_law_425 ?_
          refine z_lc_eq (tgt := 432) hx hb dL_law_426 dL_law_427 (by decide) (by omega) (by omega) (fun _ => ?_) (fun c_9 => absurd rfl c_9)
          refine lv_goto (tgt := 539) hx hb dL_law_432 (by decide) ?_
          refine W.widen (k := 100 + kC g + 3 * (k + 1)) (n := 1200000 + kS g + 10200 * (k + 1)) (by omega) (by omega) ?_
          exact k539 g al mu1c en1c (uF (F) (0) (g 40 0 a1)) _ _ _ hE1c hM1c hO1c hV hRg (by omega) hW hS (lv_sub hl [2, 3, 4, 5, 6] rfl)
        · refine lv_aload_n hx hb dL_law_379 rfl (lv_at hl 1 rfl) ?_
          refine lv_aload_n hx hb dL_law_380 rfl (lv_at hl 0 rfl) ?_
          refine lv_iload hx hb dL_law_381 (lv_at hl 4 rfl) ?_
          refine z_iconst hx hb dL_law_383 ?_
          refine z_iadd hx hb dL_law_384 ?_
          refine l_sld hx hb hX hbl hbA hS hL (by omega) (by omega) dL_law_385 ?_
          rw [← ha1]
          refine lv_aload_n hx hb dL_law_386 rfl (lv_at hl 3 rfl) ?_
          refine va_calli (l_runSW (As := [.ref (al 0 0), .int (iZ (a1)), .ref ao]) (rest := []) (n := 3) ⟨hx, hb, hml, hown, hts⟩ (c_L_got1 l hlt D dA z q9 en g al a1 ao F hb1 hin hO hE hV.1.1) g_lgT rfl rfl rfl ⟨Nat.le_of_ble_eq_true rfl, Nat.le_of_ble_eq_true rfl⟩ (htsL (.initialized RL) (by decide +kernel)) (htsL (.methodLink RL 63 yL_got) (gL_law_L_got _ (by simp [va_wsS])).1) (htsL (.static yL_got) (gL_law_L_got _ (by simp [va_wsS])).1) (by decide +kernel) ⟨gBlE, gPreE _ hg he9 hS hW⟩ rfl rfl hl.1 rfl (lv_room (Nat.le_of_ble_eq_true rfl)) dL_law_387 ⟨(show 100 + kC g + 3 * k + (1) ≤ 601024 by omega), (show 1200000 + kS g + 10200 * k + (6) ≤ 7293000 by omega)⟩) hS (fun _ _ h => h) (fun _ h => h) (fun r9 u9 t9 H locs ht9 hvm9 hw9 hB9 hz9 hk9 hS => ?_)
          have hW : Wd D (z 0) en H := by rw [← ht9]; exact hB9
          subst hw9
          refine lv_istore (lv' := [(5, .int (iZ (1))), (0, .ref b), (1, .ref (al 0 0)), (2, .ref (bb 0)), (3, .ref ao), (4, .int (iZ (4 * (k : Int) + 1)))]) hx hb dL_law_390 hl (by decide) rfl (fun ls hl => ?_)
          refine lv_aload_n hx hb dL_law_392 rfl (lv_at hl 3 rfl) ?_
          refine lv_aload_n hx hb dL_law_393 rfl (lv_at hl 1 rfl) ?_
          refine lv_iload hx hb dL_law_394 (lv_at hl 5 rfl) ?_
          refine z_iconst hx hb dL_law_396 ?_
          refine z_iadd hx hb dL_law_397 ?_
          refine l_sld hx hb hX hbl hbA hS hL (by omega) (by omega) dL_law_398 ?_
          rw [← ha1]
          have hX1c := hM.1
          refine va_calli (va_runV (As := [.int (iZ (a1))]) (rest := []) ⟨hx, hb, hml, hown, htsL⟩ (c_X4_got l D dA z en bb mu g a1 hb1 hV.1.1 hR hM) (cwV 1 htsL gL_law_X4_got rfl rfl rfl (by decide +kernel) ⟨Nat.le_of_ble_eq_true rfl, Nat.le_of_ble_eq_true rfl⟩) ⟨gBl, gRecv hK hW (ci := 6) rfl hX1c, gPre _ hg hS hW⟩ rfl rfl hl.1 rfl (lv_room (Nat.le_of_ble_eq_true rfl)) dL_law_399 ⟨(show 100 + kC g + 3 * k + (1) + (0) ≤ 601024 by omega), (show 1200000 + kS g + 10200 * k + (6) + (0) ≤ 7293000 by omega)⟩) hS (fun _ _ h => h) (fun _ h => h) (fun r9 u9 t9 H locs ht9 hvm9 hw9 hB9 hz9 hk9 hS => ?_)
          obtain ⟨en1c, mu1c⟩ := u9
          obtain ⟨hr9, hM1c, hF1c, hR1c⟩ := hw9
          have hW : Wd D (z 0) en1c H := by rw [← ht9]; exact hB9
          dsimp only at hM1c hF1c hR1c
          subst hr9
          have hE1c : EC dA z g al en1c := ec_e hE (fun k i h => hF1c k i (by omega))
          have hO1c : en1c 70 0 = some (ao, aJ dA (1) (F)) := (hF1c 70 0 (by omega)).trans hO
          obtain ⟨hRg, hR0⟩ := hR1c
          rw [if_neg hin] at hR0
          rw [if_neg hin]
          refine lv_istore (lv' := [(6, .int (iZ (0))), (5, .int (iZ (1))), (0, .ref b), (1, .ref (al 0 0)), (2, .ref (bb 0)), (3, .ref ao), (4, .int (iZ (4 * (k : Int) + 1)))]) hx hb dL_law_402 hl (by decide) rfl (fun ls hl => ?_)
          refine lv_aload_n hx hb dL_law_404 rfl (lv_at hl 4 rfl) ?_
          have hX2c := hM1c.1
          refine va_calli (va_runV (As := []) (rest := []) ⟨hx, hb, hml, hown, htsL⟩ (c_X4_thrown l D dA z en1c bb mu1c hM1c) (cwV 0 htsL gL_law_X4_thrown rfl rfl rfl (by decide +kernel) ⟨Nat.le_of_ble_eq_true rfl, Nat.le_of_ble_eq_true rfl⟩) ⟨gBl, gRecv hK hW (ci := 6) rfl hX2c, gPre _ hg hS hW⟩ rfl rfl hl.1 rfl (lv_room (Nat.le_of_ble_eq_true rfl)) dL_law_405 ⟨(show 100 + kC g + 3 * k + (1) + (0) + (0) ≤ 601024 by omega), (show 1200000 + kS g + 10200 * k + (6) + (0) + (0) ≤ 7293000 by omega)⟩) hS (fun _ _ h => h) (fun _ h => h) (fun r9 u9 t9 H locs ht9 hvm9 hw9 hB9 hz9 hk9 hS => ?_)
          have hW : Wd D (z 0) en1c H := by rw [← ht9]; exact hB9
          subst hw9
          rw [hR0]
          refine lv_iload hx hb dL_law_408 (lv_at hl 1 rfl) ?_
          refine lv_icmp_eq (tgt := 415) hx hb dL_law_410 (by decide) (fun _ => ?_) (fun c_9 => absurd rfl c_9)
          refine lv_iload hx hb dL_law_415 (lv_at hl 1 rfl) ?_
          refine z_if_ne (tgt := 432) hx hb dL_law_417 (by decide) (by omega) (fun _ => ?_) (fun c_9 => absurd c_9 (by decide))
          refine lv_goto (tgt := 539) hx hb dL_law_432 (by decide) ?_
          refine W.widen (k := 100 + kC g + 3 * (k + 1)) (n := 1200000 + kS g + 10200 * (k + 1)) (by omega) (by omega) ?_
          exact k539 g al mu1c en1c (F) _ _ _ hE1c hM1c hO1c hV hRg (by omega) hW hS (lv_sub hl [2, 3, 4, 5, 6] rfl)
      by_cases h_8 : kx.toInt = 8
      · refine lv_tableIn (off := 386) (tgt := 435) hx hb dL_law_49 (by omega) (by omega) (by rw [h_8]; rfl) (by decide) ?_
        refine lv_aload_n hx hb dL_law_435 rfl (lv_at hl 1 rfl) ?_
        have hX1c := ec_X hE
        refine va_calli (va_runV (As := []) (rest := []) ⟨hx, hb, hml, hown, htsL⟩ (c_X3_length l D dA z en g al hE hV.1.1) (cwV 0 htsL gL_law_X3_length rfl rfl rfl (by decide +kernel) ⟨Nat.le_of_ble_eq_true rfl, Nat.le_of_ble_eq_true rfl⟩) ⟨gBl, gRecv hK hW (ci := 5) rfl hX1c, gPre _ hg hS hW⟩ rfl rfl hl.1 rfl (lv_room (Nat.le_of_ble_eq_true rfl)) dL_law_436 ⟨(show 100 + kC g + 3 * k + (0) ≤ 601024 by omega), (show 1200000 + kS g + 10200 * k + (0) ≤ 7293000 by omega)⟩) hS (fun _ _ h => h) (fun _ h => h) (fun r9 u9 t9 H locs ht9 hvm9 hw9 hB9 hz9 hk9 hS => ?_)
        have hW : Wd D (z 0) en H := by rw [← ht9]; exact hB9
        subst hw9
        refine lv_aload_n hx hb dL_law_439 rfl (lv_at hl 2 rfl) ?_
        have hX2c := hM.1
        refine va_calli (va_runV (As := []) (rest := [.int (iZ (g 1 2 0))]) ⟨hx, hb, hml, hown, htsL⟩ (c_X4_length l D dA z en bb mu g hV.1.1 hR hM) (cwV 0 htsL gL_law_X4_length rfl rfl rfl (by decide +kernel) ⟨Nat.le_of_ble_eq_true rfl, Nat.le_of_ble_eq_true rfl⟩) ⟨gBl, gRecv hK hW (ci := 6) rfl hX2c, gPre _ hg hS hW⟩ rfl rfl hl.1 rfl (lv_room (Nat.le_of_ble_eq_true rfl)) dL_law_440 ⟨(show 100 + kC g + 3 * k + (0) + (0) ≤ 601024 by omega), (show 1200000 + kS g + 10200 * k + (0) + (0) ≤ 7293000 by omega)⟩) hS (fun _ _ h => h) (fun _ h => h) (fun r9 u9 t9 H locs ht9 hvm9 hw9 hB9 hz9 hk9 hS => ?_)
        obtain ⟨en2c, mu2c⟩ := u9
        obtain ⟨hr9, hM2c, hF2c, hR2c⟩ := hw9
        have hW : Wd D (z 0) en2c H := by rw [← ht9]; exact hB9
        dsimp only at hM2c hF2c hR2c
        subst hr9
        have hE2c : EC dA z g al en2c := ec_e hE (fun k i h => hF2c k i (by omega))
        have hO2c : en2c 70 0 = some (ao, aJ dA (1) (F)) := (hF2c 70 0 (by omega)).trans hO
        refine lv_icmp_eq (tgt := 539) hx hb dL_law_443 (by decide) (fun _ => ?_) (fun c_9 => absurd rfl c_9)
        refine W.widen (k := 100 + kC g + 3 * (k + 1)) (n := 1200000 + kS g + 10200 * (k + 1)) (by omega) (by omega) ?_
        exact k539 g al mu2c en2c (F) _ _ _ hE2c hM2c hO2c hV hR2c (by omega) hW hS (lv_sub hl [0, 1, 2, 3, 4] rfl)
      by_cases h_9 : kx.toInt = 9
      · refine lv_tableIn (off := 399) (tgt := 448) hx hb dL_law_49 (by omega) (by omega) (by rw [h_9]; rfl) (by decide) ?_
        refine lv_aload_n hx hb dL_law_448 rfl (lv_at hl 1 rfl) ?_
        refine lv_aload_n hx hb dL_law_449 rfl (lv_at hl 0 rfl) ?_
        refine lv_iload hx hb dL_law_450 (lv_at hl 4 rfl) ?_
        refine z_iconst hx hb dL_law_452 ?_
        refine z_iadd hx hb dL_law_453 ?_
        refine l_sld hx hb hX hbl hbA hS hL (by omega) (by omega) dL_law_454 ?_
        rw [← ha1]
        have hX1c := ec_X hE
        refine va_calli (va_runV (As := [.int (iZ (a1))]) (rest := []) ⟨hx, hb, hml, hown, htsL⟩ (c_X3_ended l D dA z en g al a1 hb1 hE hV.1.1) (cwV 1 htsL gL_law_X3_ended rfl rfl rfl (by decide +kernel) ⟨Nat.le_of_ble_eq_true rfl, Nat.le_of_ble_eq_true rfl⟩) ⟨gBl, gRecv hK hW (ci := 5) rfl hX1c, gPre _ hg hS hW⟩ rfl rfl hl.1 rfl (lv_room (Nat.le_of_ble_eq_true rfl)) dL_law_455 ⟨(show 100 + kC g + 3 * k + (0) ≤ 601024 by omega), (show 1200000 + kS g + 10200 * k + (0) ≤ 7293000 by omega)⟩) hS (fun _ _ h => h) (fun _ h => h) (fun r9 u9 t9 H locs ht9 hvm9 hw9 hB9 hz9 hk9 hS => ?_)
        have hW : Wd D (z 0) en H := by rw [← ht9]; exact hB9
        subst hw9
        refine lv_aload_n hx hb dL_law_458 rfl (lv_at hl 2 rfl) ?_
        refine lv_aload_n hx hb dL_law_459 rfl (lv_at hl 0 rfl) ?_
        refine lv_iload hx hb dL_law_460 (lv_at hl 4 rfl) ?_
        refine z_iconst hx hb dL_law_462 ?_
        refine z_iadd hx hb dL_law_463 ?_
        refine l_sld hx hb hX hbl hbA hS hL (by omega) (by omega) dL_law_464 ?_
        rw [← ha1]
        have hX2c := hM.1
        refine va_calli (va_runV (As := [.int (iZ (a1))]) (rest := [.int (iZ (aEnd g a1))]) ⟨hx, hb, hml, hown, htsL⟩ (c_X4_ended l D dA z en bb mu g a1 hb1 hV.1.1 hR hM) (cwV 1 htsL gL_law_X4_ended rfl rfl rfl (by decide +kernel) ⟨Nat.le_of_ble_eq_true rfl, Nat.le_of_ble_eq_true rfl⟩) ⟨gBl, gRecv hK hW (ci := 6) rfl hX2c, gPre _ hg hS hW⟩ rfl rfl hl.1 rfl (lv_room (Nat.le_of_ble_eq_true rfl)) dL_law_465 ⟨(show 100 + kC g + 3 * k + (0) + (0) ≤ 601024 by omega), (show 1200000 + kS g + 10200 * k + (0) + (0) ≤ 7293000 by omega)⟩) hS (fun _ _ h => h) (fun _ h => h) (fun r9 u9 t9 H locs ht9 hvm9 hw9 hB9 hz9 hk9 hS => ?_)
        obtain ⟨en2c, mu2c⟩ := u9
        obtain ⟨hr9, hM2c, hF2c, hR2c⟩ := hw9
        have hW : Wd D (z 0) en2c H := by rw [← ht9]; exact hB9
        dsimp only at hM2c hF2c hR2c
        subst hr9
        have hE2c : EC dA z g al en2c := ec_e hE (fun k i h => hF2c k i (by omega))
        have hO2c : en2c 70 0 = some (ao, aJ dA (1) (F)) := (hF2c 70 0 (by omega)).trans hO
        refine lv_icmp_eq (tgt := 539) hx hb dL_law_468 (by decide) (fun _ => ?_) (fun c_9 => absurd rfl c_9)
        refine W.widen (k := 100 + kC g + 3 * (k + 1)) (n := 1200000 + kS g + 10200 * (k + 1)) (by omega) (by omega) ?_
        exact k539 g al mu2c en2c (F) _ _ _ hE2c hM2c hO2c hV hR2c (by omega) hW hS (lv_sub hl [0, 1, 2, 3, 4] rfl)
      by_cases h_10 : kx.toInt = 10
      · refine lv_tableIn (off := 424) (tgt := 473) hx hb dL_law_49 (by omega) (by omega) (by rw [h_10]; rfl) (by decide) ?_
        refine lv_aload_n hx hb dL_law_473 rfl (lv_at hl 1 rfl) ?_
        refine lv_aload_n hx hb dL_law_474 rfl (lv_at hl 0 rfl) ?_
        refine lv_iload hx hb dL_law_475 (lv_at hl 4 rfl) ?_
        refine z_iconst hx hb dL_law_477 ?_
        refine z_iadd hx hb dL_law_478 ?_
        refine l_sld hx hb hX hbl hbA hS hL (by omega) (by omega) dL_law_479 ?_
        rw [← ha1]
        have hV1c : VV (sWai g a1) := vv_wai hV
        have hN1c := nk_wai (g := g) (n := a1)
        have hkb1 := kl_b hV1c.1.1.2.1
        have hKl1 : kC g ≤ kC (sWai g a1) ∧ kS g ≤ kS (sWai g a1) := hN1c.2
        obtain ⟨g1c, hg1c⟩ : ∃ x : St, x = sWai g a1 := ⟨_, rfl⟩
        have hkc1 : kC g1c = kC (sWai g a1) ∧ kS g1c = kS (sWai g a1) := by rw [hg1c]; exact ⟨rfl, rfl⟩
        rw [← hg1c] at hV1c hN1c
        have hX1c := ec_X hE
        refine va_calli (va_runV (As := [.int (iZ (a1))]) (rest := []) ⟨hx, hb, hml, hown, htsL⟩ (c_X3_wait2 l D dA z en g al a1 hb1 hE hV.1.1) (cwV 1 htsL gL_law_X3_wait2 rfl rfl rfl (by decide +kernel) ⟨Nat.le_of_ble_eq_true rfl, Nat.le_of_ble_eq_true rfl⟩) ⟨gBl, gRecv hK hW (ci := 5) rfl hX1c, gPre _ hg hS hW⟩ rfl rfl hl.1 rfl (lv_room (Nat.le_of_ble_eq_true rfl)) dL_law_480 ⟨(show 100 + kC g + 3 * k + (0) ≤ 601024 by omega), (show 1200000 + kS g + 10200 * k + (0) ≤ 7293000 by omega)⟩) hS (fun _ _ h => h) (fun _ h => h) (fun r9 u9 t9 H locs ht9 hvm9 hw9 hB9 hz9 hk9 hS => ?_)
        obtain ⟨en1c, al1c⟩ := u9
        obtain ⟨hr9, hE1c, hF1c, hA1c⟩ := hw9
        have hW : Wd D (z 0) en1c H := by rw [← ht9]; exact hB9
        dsimp only at hE1c hF1c hA1c
        subst hr9
        rw [← hg1c] at hE1c hA1c
        have hM1c : EM dA bb mu en1c := em_e hM (fun k i h1 h2 => hF1c k i h1 (by omega))
        have hO1c : en1c 70 0 = some (ao, aJ dA (1) (F)) := (hF1c 70 0 (by decide) (by decide)).trans hO
        have hal1 : al1c 0 0 = al 0 0 := hA1c.2 0 0 (Or.inl rfl)
        refine lv_aload_n hx hb dL_law_483 rfl (lv_at hl 2 rfl) ?_
        refine lv_aload_n hx hb dL_law_484 rfl (lv_at hl 0 rfl) ?_
        refine lv_iload hx hb dL_law_485 (lv_at hl 4 rfl) ?_
        refine z_iconst hx hb dL_law_487 ?_
        refine z_iadd hx hb dL_law_488 ?_
        refine l_sld hx hb hX hbl hbA hS hL (by omega) (by omega) dL_law_489 ?_
        rw [← ha1]
        have hX2c := hM1c.1
        refine va_calli (va_runV (As := [.int (iZ (a1))]) (rest := [.int (iZ (aWai g a1))]) ⟨hx, hb, hml, hown, htsL⟩ (c_X4_wait2 l D dA z en1c bb mu g a1 hb1 hV.1.1 hR hM1c) (cwV 1 htsL gL_law_X4_wait2 rfl rfl rfl (by decide +kernel) ⟨Nat.le_of_ble_eq_true rfl, Nat.le_of_ble_eq_true rfl⟩) ⟨gBl, gRecv hK hW (ci := 6) rfl hX2c, gPre _ hg hS hW⟩ rfl rfl hl.1 rfl (lv_room (Nat.le_of_ble_eq_true rfl)) dL_law_490 ⟨(show 100 + kC g + 3 * k + (0) + (0) ≤ 601024 by omega), (show 1200000 + kS g + 10200 * k + (0) + (0) ≤ 7293000 by omega)⟩) hS (fun _ _ h => h) (fun _ h => h) (fun r9 u9 t9 H locs ht9 hvm9 hw9 hB9 hz9 hk9 hS => ?_)
        obtain ⟨en2c, mu2c⟩ := u9
        obtain ⟨hr9, hM2c, hF2c, hR2c⟩ := hw9
        have hW : Wd D (z 0) en2c H := by rw [← ht9]; exact hB9
        dsimp only at hM2c hF2c hR2c
        subst hr9
        have hE2c : EC dA z g1c al1c en2c := ec_e hE1c (fun k i h => hF2c k i (by omega))
        have hO2c : en2c 70 0 = some (ao, aJ dA (1) (F)) := (hF2c 70 0 (by omega)).trans hO1c
        rw [← hg1c] at hR2c
        refine lv_icmp_eq (tgt := 539) hx hb dL_law_493 (by decide) (fun _ => ?_) (fun c_9 => absurd rfl c_9)
        refine W.widen (k := 100 + kC g1c + 3 * (k + 1)) (n := 1200000 + kS g1c + 10200 * (k + 1)) (by omega) (by omega) ?_
        exact k539 g1c al1c mu2c en2c (F) _ _ _ hE2c hM2c hO2c hV1c hR2c (by omega) hW hS (by rw [hal1]; exact (lv_sub hl [0, 1, 2, 3, 4] rfl))
      by_cases h_11 : kx.toInt = 11
      · refine lv_tableIn (off := 449) (tgt := 498) hx hb dL_law_49 (by omega) (by omega) (by rw [h_11]; rfl) (by decide) ?_
        by_cases hin : a1 = 0
        · refine lv_aload_n hx hb dL_law_498 rfl (lv_at hl 1 rfl) ?_
          refine lv_aload_n hx hb dL_law_499 rfl (lv_at hl 0 rfl) ?_
          refine lv_iload hx hb dL_law_500 (lv_at hl 4 rfl) ?_
          refine z_iconst hx hb dL_law_502 ?_
          refine z_iadd hx hb dL_law_503 ?_
          refine l_sld hx hb hX hbl hbA hS hL (by omega) (by omega) dL_law_504 ?_
          rw [← ha1]
          refine z_if_eq (tgt := 512) hx hb dL_law_505 (by decide) hb1 (fun _ => ?_) (fun c_9 => absurd hin c_9)
          refine z_iconst hx hb dL_law_512 ?_
          have hV1c : VV (wr g 0 13 0) := vv_fun hV (by omega)
          have hN1c := nk_fun (g := g) (b := 0)
          have hkb1 := kl_b hV1c.1.1.2.1
          have hKl1 : kC g ≤ kC (wr g 0 13 0) ∧ kS g ≤ kS (wr g 0 13 0) := hN1c.2
          obtain ⟨g1c, hg1c⟩ : ∃ x : St, x = wr g 0 13 0 := ⟨_, rfl⟩
          have hkc1 : kC g1c = kC (wr g 0 13 0) ∧ kS g1c = kS (wr g 0 13 0) := by rw [hg1c]; exact ⟨rfl, rfl⟩
          rw [← hg1c] at hV1c hN1c
          have hX1c := ec_X hE
          refine va_calli (va_runV (As := [.int (iZ (0))]) (rest := []) ⟨hx, hb, hml, hown, htsL⟩ (c_X3_functional l D dA z en g al 0 (by omega) hE hV.1.1) (cwV 1 htsL gL_law_X3_functional rfl rfl rfl (by decide +kernel) ⟨Nat.le_of_ble_eq_true rfl, Nat.le_of_ble_eq_true rfl⟩) ⟨gBl, gRecv hK hW (ci := 5) rfl hX1c, gPre _ hg hS hW⟩ rfl rfl hl.1 rfl (lv_room (Nat.le_of_ble_eq_true rfl)) dL_law_513 ⟨(show 100 + kC g + 3 * k + (0) ≤ 601024 by omega), (show 1200000 + kS g + 10200 * k + (0) ≤ 7293000 by omega)⟩) hS (fun _ _ h => h) (fun _ h => h) (fun r9 u9 t9 H locs ht9 hvm9 hw9 hB9 hz9 hk9 hS => ?_)
          obtain ⟨en1c, al1c⟩ := u9
          obtain ⟨hr9, hE1c, hF1c, hA1c⟩ := hw9
          have hW : Wd D (z 0) en1c H := by rw [← ht9]; exact hB9
          dsimp only at hE1c hF1c hA1c
          subst hr9
          rw [← hg1c] at hE1c hA1c
          have hM1c : EM dA bb mu en1c := em_e hM (fun k i h1 h2 => hF1c k i h1 (by omega))
          have hO1c : en1c 70 0 = some (ao, aJ dA (1) (F)) := (hF1c 70 0 (by decide) (by decide)).trans hO
          have hal1 : al1c 0 0 = al 0 0 := hA1c.2 0 0 (Or.inl rfl)
          refine lv_aload_n hx hb dL_law_516 rfl (lv_at hl 2 rfl) ?_
          refine lv_aload_n hx hb dL_law_517 rfl (lv_at hl 0 rfl) ?_
          refine lv_iload hx hb dL_law_518 (lv_at hl 4 rfl) ?_
          refine z_iconst hx hb dL_law_520 ?_
          refine z_iadd hx hb dL_law_521 ?_
          refine l_sld hx hb hX hbl hbA hS hL (by omega) (by omega) dL_law_522 ?_
          rw [← ha1]
          refine z_if_eq (tgt := 530) hx hb dL_law_523 (by decide) hb1 (fun _ => ?_) (fun c_9 => absurd hin c_9)
          refine z_iconst hx hb dL_law_530 ?_
          have hX2c := hM1c.1
          refine va_calli (va_runV (As := [.int (iZ (0))]) (rest := [.int (iZ (g 1 0 0))]) ⟨hx, hb, hml, hown, htsL⟩ (c_X4_functional l D dA z en1c bb mu g 0 (by omega) hV.1.1 hR hM1c) (cwV 1 htsL gL_law_X4_functional rfl rfl rfl (by decide +kernel) ⟨Nat.le_of_ble_eq_true rfl, Nat.le_of_ble_eq_true rfl⟩) ⟨gBl, gRecv hK hW (ci := 6) rfl hX2c, gPre _ hg hS hW⟩ rfl rfl hl.1 rfl (lv_room (Nat.le_of_ble_eq_true rfl)) dL_law_531 ⟨(show 100 + kC g + 3 * k + (0) + (0) ≤ 601024 by omega), (show 1200000 + kS g + 10200 * k + (0) + (0) ≤ 7293000 by omega)⟩) hS (fun _ _ h => h) (fun _ h => h) (fun r9 u9 t9 H locs ht9 hvm9 hw9 hB9 hz9 hk9 hS => ?_)
          obtain ⟨en2c, mu2c⟩ := u9
          obtain ⟨hr9, hM2c, hF2c, hR2c⟩ := hw9
          have hW : Wd D (z 0) en2c H := by rw [← ht9]; exact hB9
          dsimp only at hM2c hF2c hR2c
          subst hr9
          have hE2c : EC dA z g1c al1c en2c := ec_e hE1c (fun k i h => hF2c k i (by omega))
          have hO2c : en2c 70 0 = some (ao, aJ dA (1) (F)) := (hF2c 70 0 (by omega)).trans hO1c
          rw [← hg1c] at hR2c
          refine lv_icmp_eq (tgt := 539) hx hb dL_law_534 (by decide) (fun _ => ?_) (fun c_9 => absurd rfl c_9)
          refine W.widen (k := 100 + kC g1c + 3 * (k + 1)) (n := 1200000 + kS g1c + 10200 * (k + 1)) (by omega) (by omega) ?_
          exact k539 g1c al1c mu2c en2c (F) _ _ _ hE2c hM2c hO2c hV1c hR2c (by omega) hW hS (by rw [hal1]; exact (lv_sub hl [0, 1, 2, 3, 4] rfl))
        · refine lv_aload_n hx hb dL_law_498 rfl (lv_at hl 1 rfl) ?_
          refine lv_aload_n hx hb dL_law_499 rfl (lv_at hl 0 rfl) ?_
          refine lv_iload hx hb dL_law_500 (lv_at hl 4 rfl) ?_
          refine z_iconst hx hb dL_law_502 ?_
          refine z_iadd hx hb dL_law_503 ?_
          refine l_sld hx hb hX hbl hbA hS hL (by omega) (by omega) dL_law_504 ?_
          rw [← ha1]
          refine z_if_eq (tgt := 512) hx hb dL_law_505 (by decide) hb1 (fun c_9 => absurd c_9 hin) (fun _ => ?_)
          refine z_iconst hx hb dL_law_508 ?_
          refine lv_goto (tgt := 513) hx hb dL_law_509 (by decide) ?_
          have hV1c : VV (wr g 0 13 1) := vv_fun hV (by omega)
          have hN1c := nk_fun (g := g) (b := 1)
          have hkb1 := kl_b hV1c.1.1.2.1
          have hKl1 : kC g ≤ kC (wr g 0 13 1) ∧ kS g ≤ kS (wr g 0 13 1) := hN1c.2
          obtain ⟨g1c, hg1c⟩ : ∃ x : St, x = wr g 0 13 1 := ⟨_, rfl⟩
          have hkc1 : kC g1c = kC (wr g 0 13 1) ∧ kS g1c = kS (wr g 0 13 1) := by rw [hg1c]; exact ⟨rfl, rfl⟩
          rw [← hg1c] at hV1c hN1c
          have hX1c := ec_X hE
          refine va_calli (va_runV (As := [.int (iZ (1))]) (rest := []) ⟨hx, hb, hml, hown, htsL⟩ (c_X3_functional l D dA z en g al 1 (by omega) hE hV.1.1) (cwV 1 htsL gL_law_X3_functional rfl rfl rfl (by decide +kernel) ⟨Nat.le_of_ble_eq_true rfl, Nat.le_of_ble_eq_true rfl⟩) ⟨gBl, gRecv hK hW (ci := 5) rfl hX1c, gPre _ hg hS hW⟩ rfl rfl hl.1 rfl (lv_room (Nat.le_of_ble_eq_true rfl)) dL_law_513 ⟨(show 100 + kC g + 3 * k + (0) ≤ 601024 by omega), (show 1200000 + kS g + 10200 * k + (0) ≤ 7293000 by omega)⟩) hS (fun _ _ h => h) (fun _ h => h) (fun r9 u9 t9 H locs ht9 hvm9 hw9 hB9 hz9 hk9 hS => ?_)
          obtain ⟨en1c, al1c⟩ := u9
          obtain ⟨hr9, hE1c, hF1c, hA1c⟩ := hw9
          have hW : Wd D (z 0) en1c H := by rw [← ht9]; exact hB9
          dsimp only at hE1c hF1c hA1c
          subst hr9
          rw [← hg1c] at hE1c hA1c
          have hM1c : EM dA bb mu en1c := em_e hM (fun k i h1 h2 => hF1c k i h1 (by omega))
          have hO1c : en1c 70 0 = some (ao, aJ dA (1) (F)) := (hF1c 70 0 (by decide) (by decide)).trans hO
          have hal1 : al1c 0 0 = al 0 0 := hA1c.2 0 0 (Or.inl rfl)
          refine lv_aload_n hx hb dL_law_516 rfl (lv_at hl 2 rfl) ?_
          refine lv_aload_n hx hb dL_law_517 rfl (lv_at hl 0 rfl) ?_
          refine lv_iload hx hb dL_law_518 (lv_at hl 4 rfl) ?_
          refine z_iconst hx hb dL_law_520 ?_
          refine z_iadd hx hb dL_law_521 ?_
          refine l_sld hx hb hX hbl hbA hS hL (by omega) (by omega) dL_law_522 ?_
          rw [← ha1]
          refine z_if_eq (tgt := 530) hx hb dL_law_523 (by decide) hb1 (fun c_9 => absurd c_9 hin) (fun _ => ?_)
          refine z_iconst hx hb dL_law_526 ?_
          refine lv_goto (tgt := 531) hx hb dL_law_527 (by decide) ?_
          have hX2c := hM1c.1
          refine va_calli (va_runV (As := [.int (iZ (1))]) (rest := [.int (iZ (g 1 0 0))]) ⟨hx, hb, hml, hown, htsL⟩ (c_X4_functional l D dA z en1c bb mu g 1 (by omega) hV.1.1 hR hM1c) (cwV 1 htsL gL_law_X4_functional rfl rfl rfl (by decide +kernel) ⟨Nat.le_of_ble_eq_true rfl, Nat.le_of_ble_eq_true rfl⟩) ⟨gBl, gRecv hK hW (ci := 6) rfl hX2c, gPre _ hg hS hW⟩ rfl rfl hl.1 rfl (lv_room (Nat.le_of_ble_eq_true rfl)) dL_law_531 ⟨(show 100 + kC g + 3 * k + (0) + (0) ≤ 601024 by omega), (show 1200000 + kS g + 10200 * k + (0) + (0) ≤ 7293000 by omega)⟩) hS (fun _ _ h => h) (fun _ h => h) (fun r9 u9 t9 H locs ht9 hvm9 hw9 hB9 hz9 hk9 hS => ?_)
          obtain ⟨en2c, mu2c⟩ := u9
          obtain ⟨hr9, hM2c, hF2c, hR2c⟩ := hw9
          have hW : Wd D (z 0) en2c H := by rw [← ht9]; exact hB9
          dsimp only at hM2c hF2c hR2c
          subst hr9
          have hE2c : EC dA z g1c al1c en2c := ec_e hE1c (fun k i h => hF2c k i (by omega))
          have hO2c : en2c 70 0 = some (ao, aJ dA (1) (F)) := (hF2c 70 0 (by omega)).trans hO1c
          rw [← hg1c] at hR2c
          refine lv_icmp_eq (tgt := 539) hx hb dL_law_534 (by decide) (fun _ => ?_) (fun c_9 => absurd rfl c_9)
          refine W.widen (k := 100 + kC g1c + 3 * (k + 1)) (n := 1200000 + kS g1c + 10200 * (k + 1)) (by omega) (by omega) ?_
          exact k539 g1c al1c mu2c en2c (F) _ _ _ hE2c hM2c hO2c hV1c hR2c (by omega) hW hS (by rw [hal1]; exact (lv_sub hl [0, 1, 2, 3, 4] rfl))
      refine lv_tableOut (tgt := 539) hx hb dL_law_49 (by omega) (by decide) ?_
      refine W.widen (k := 100 + kC g + 3 * (k + 1)) (n := 1200000 + kS g + 10200 * (k + 1)) (by omega) (by omega) ?_
      exact k539 g al mu en (F) _ _ _ hE hM hO hV hR (by omega) hW hS (lv_sub hl [0, 1, 2, 3, 4] rfl)
