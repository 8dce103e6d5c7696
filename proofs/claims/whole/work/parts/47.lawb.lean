/-! the two side by side: what one leaves of the other -/
theorem ec_e {dA : Nat → ClassId} {z : Nat → Nat} {g : St} {al : Al} {en en' : en_T} (h : EC dA z g al en) (he : ∀ (k : Nat) (i : Int), k < 20 → en' k i = en k i) : EC dA z g al en' := by
  obtain ⟨h1, h2, h3, h4, h5, h6, h7, h8, h9, kg, ig, h10, h11⟩ := h
  refine ⟨by rw [he 0 0 (by decide)]; exact h1, by rw [he 1 0 (by decide)]; exact h2, by rw [he 1 1 (by decide)]; exact h3, fun li q => ?_, by rw [he 3 0 (by decide)]; exact h5, by rw [he 4 0 (by decide)]; exact h6, fun m a b => ⟨by rw [he 5 m (by decide)]; exact (h7 m a b).1, by rw [he 6 m (by decide)]; exact (h7 m a b).2⟩, fun f a b => ⟨by rw [he 7 f (by decide)]; exact (h8 f a b).1, bA_e (he 8 f (by decide)) (h8 f a b).2⟩, fun r a b => ⟨by rw [he 9 r (by decide)]; exact (h9 r a b).1, fun q9 => bA_e (he 10 r (by decide)) ((h9 r a b).2 q9)⟩, kg, ig, h10, bA_e (he kg ig (by omega)) h11⟩
  rcases h4 li q with w | ⟨w1, w2⟩
  · exact Or.inl w
  · exact Or.inr ⟨w1, by rw [he 2 li (by decide)]; exact w2⟩
theorem em_e {dA : Nat → ClassId} {b : Nat → Nat} {mu : Mu} {en en' : en_T} (h : EM dA b mu en) (he : ∀ (k : Nat) (i : Int), 20 ≤ k → k ≤ 62 → en' k i = en k i) : EM dA b mu en' := by
  refine ⟨by rw [he 20 0 (by decide) (by decide)]; exact h.1, fun k q => ?_⟩
  have hk : 4 ≤ k ∧ k ≤ 42 ∧ k ≠ 26 ∧ (k < 35 ∨ 40 < k) := by simpa [mArr] using q
  rw [he (20 + k) 0 (by omega) (by omega)]
  exact h.2 k q
/-! the hour, and the room, over each call -/
def Kl (g g' : St) : Prop := kC g ≤ kC g' ∧ kS g ≤ kS g'
theorem kl_e {g g' : St} (h1 : g' 1 1 0 = g 1 1 0) (h4 : g' 4 1 0 = g 4 1 0) : Kl g g' := by
  unfold Kl kC kS
  rw [h1, h4]
  exact ⟨Nat.le_refl _, Nat.le_refl _⟩
theorem Kl.rf (g : St) : Kl g g := ⟨Nat.le_refl _, Nat.le_refl _⟩
theorem kl_p {g g' : St} (h : Mp g g') : Kl g g' := ⟨mp_kC h, mp_kS h⟩
theorem kl_b {g : St} (h : IL g) : kC g ≤ 18000 ∧ kS g ≤ 170000 := by
  unfold IL at h
  unfold kC kS
  omega
theorem nk_lose {g : St} {f : Int} : sLose g f 0 7 0 = g 0 7 0 ∧ Kl g (sLose g f) := by
  unfold sLose
  split
  · exact ⟨wr_n (by omega), kl_e (wr_n (by omega)) (wr_n (by omega))⟩
  · exact ⟨rfl, Kl.rf g⟩
theorem nk_flw {g : St} {b s k : Int} : sFlw g b s k 0 7 0 = g 0 7 0 ∧ Kl g (sFlw g b s k) := by
  unfold sFlw
  split
  · exact ⟨by rw [wr_n (by omega), wr_n (by omega), wr_n (by omega)], kl_e (by rw [wr_n (by omega), wr_n (by omega), wr_n (by omega)]) (by rw [wr_n (by omega), wr_n (by omega), wr_n (by omega)])⟩
  · exact ⟨rfl, Kl.rf g⟩
theorem nk_wai {g : St} {n : Int} : sWai g n 0 7 0 = g 0 7 0 ∧ Kl g (sWai g n) := by
  unfold sWai
  split
  · exact ⟨wr_n (by omega), kl_e (wr_n (by omega)) (wr_n (by omega))⟩
  · exact ⟨rfl, Kl.rf g⟩
theorem nk_fun {g : St} {b : Int} : wr g 0 13 b 0 7 0 = g 0 7 0 ∧ Kl g (wr g 0 13 b) := ⟨wr_n (by omega), kl_e (wr_n (by omega)) (wr_n (by omega))⟩
theorem nk_oct {g : St} {m i b : Int} : sOct g m i b 0 7 0 = g 0 7 0 ∧ Kl g (sOct g m i b) := by
  unfold sOct
  split
  · exact ⟨wR_n (by omega), kl_e (wR_n (by omega)) (wR_n (by omega))⟩
  · exact ⟨rfl, Kl.rf g⟩
theorem nk_send {g : St} {n : Int} : sSend g n 0 7 0 = g 0 7 0 ∧ Kl g (sSend g n) := by
  unfold sSend
  split
  · exact ⟨rfl, Kl.rf g⟩
  · split
    · exact ⟨rfl, Kl.rf g⟩
    · split
      · exact ⟨rfl, Kl.rf g⟩
      · exact ⟨v_ps (by omega), kl_e (v_ps (by omega)) (v_ps (by omega))⟩
theorem nk_tick {fu fp : Nat} {g : St} (hI : IJ g) {t : Int} (hn : g 0 7 0 ≤ 3990000) : sTick fu fp g t 0 7 0 ≤ g 0 7 0 + 5000 ∧ Kl g (sTick fu fp g t) := by
  refine ⟨?_, kl_p (ij_tick hI hn).2⟩
  unfold sTick
  split
  · omega
  · rw [wr_s]; omega
theorem now_an {g : St} (hx : IX g) {r : Int} : sAns g r 0 7 0 = g 0 7 0 := (w_an hx).1 0 7 (by omega)
theorem now_rcs {g : St} {f : Int} : sRcS g f 0 7 0 = g 0 7 0 := by
  unfold sRcS
  split
  · unfold sTkF
    split
    · unfold sGo
      rw [wr_n (by omega), wr_n (by omega), wr_n (by omega), wr_n (by omega)]
    · split
      · unfold sTkW
        split
        · rw [v_aw (by omega)]; exact wr_n (by omega)
        · rw [v_es (by omega)]; exact wr_n (by omega)
      · exact v_es (by omega)
  · rfl
theorem ix_o {g g' : St} (h : ∀ i : Int, g' 0 i 0 = g 0 i 0) (h1 : g' 1 0 0 = g 1 0 0) (hx : IX g) : IX g' := by
  unfold IX at hx ⊢
  rw [h 0, h 7, h 8, h 9, h 10, h 11, h 12, h 13, h1]
  exact hx
theorem now_rr {g : St} (hI : IB g) {f : Int} : sRR g f 0 7 0 = g 0 7 0 := by
  obtain ⟨r, hr⟩ : ∃ x : Int, x = g 21 f 0 % 4 := ⟨_, rfl⟩
  unfold sRR
  rw [← hr]
  split
  · split
    · unfold sTC
      split
      · obtain ⟨-, -, xo⟩ := v_tc1 (g := g) (r := r) (f := f)
        split
        · rw [v_wh (by omega)]; exact xo 0 7 0 (by omega)
        · have yo : ∀ (t : Nat) (i j : Int), ¬ (t = 36 ∧ i = r) → sTC2 (sTC1 g r f) r t i j = sTC1 g r f t i j := fun t i j q => wr_n (by omega)
          have e7 : sTC2 (sTC1 g r f) r 0 7 0 = g 0 7 0 := by rw [yo 0 7 0 (by omega)]; exact xo 0 7 0 (by omega)
          unfold sTC3
          split
          · exact e7
          · split
            · rw [now_an (ix_o (g := g) (fun i => by rw [yo 0 i 0 (by omega)]; exact xo 0 i 0 (by omega)) (by rw [yo 1 0 0 (by omega)]; exact xo 1 0 0 (by omega)) hI.1)]; exact e7
            · exact e7
      · exact v_er (by omega)
    · rfl
  · have eE : ∀ (t : Nat) (i j : Int), ¬ ((t = 30 ∨ t = 32 ∨ t = 33 ∨ t = 37 ∨ t = 38) ∧ i = r) ∧ t ≠ 2 ∧ ¬ (t = 0 ∧ i = 5) → sE6 g r t i j = g t i j := fun t i j q => v_e6 q
    split
    · rw [v_wh (by omega)]; exact eE 0 7 0 (by omega)
    · unfold sTF
      split
      · obtain ⟨-, bg⟩ := v_sb (g := sE6 g r) (r := r) (mg := sE6 g r 21 f 0) (ln := sE6 g r 22 f 0)
        obtain ⟨-, -, cg⟩ := v_tk (g := sBeg (sE6 g r) r (sE6 g r 21 f 0) (sE6 g r 22 f 0)) (r := r) (f := f)
        have e7 : sTake (sBeg (sE6 g r) r (sE6 g r 21 f 0) (sE6 g r 22 f 0)) r f 0 7 0 = g 0 7 0 := by rw [cg 0 7 0 (by omega), bg 0 7 0 (by omega)]; exact eE 0 7 0 (by omega)
        rw [now_an]
        · exact e7
        · have hx := hI.1
          unfold IX at hx ⊢
          have ee : ∀ i : Int, i ≠ 5 → sTake (sBeg (sE6 g r) r (sE6 g r 21 f 0) (sE6 g r 22 f 0)) r f 0 i 0 = g 0 i 0 := fun i q => by rw [cg 0 i 0 (by omega), bg 0 i 0 (by omega)]; exact eE 0 i 0 (by omega)
          have e10 : sTake (sBeg (sE6 g r) r (sE6 g r 21 f 0) (sE6 g r 22 f 0)) r f 1 0 0 = g 1 0 0 := by rw [cg 1 0 0 (by omega), bg 1 0 0 (by omega)]; exact eE 1 0 0 (by omega)
          rw [ee 0 (by omega), ee 7 (by omega), ee 8 (by omega), ee 9 (by omega), ee 10 (by omega), ee 11 (by omega), ee 12 (by omega), ee 13 (by omega), e10]
          exact hx
      · split
        · rename_i q6
          have e : sMkF (sE6 g r) r (sE6 g r 21 f 0) 2 0 0 = sEndR (sE6 g r) r 7 := by unfold sMkF; rw [if_pos q6]
          rw [e, v_er (by omega)]
          exact eE 0 7 0 (by omega)
        · rename_i q6
          rw [v_er (by omega), v_mf q6 (by omega)]
          exact eE 0 7 0 (by omega)
theorem nk_recv {g : St} (hI : IB g) {f : Int} : sRecv g f 0 7 0 = g 0 7 0 ∧ Kl g (sRecv g f) := by
  unfold sRecv
  split
  · rename_i q
    have e7 : wr g 27 f 0 0 7 0 = g 0 7 0 := wr_n (by omega)
    have k0 : Kl g (wr g 27 f 0) := kl_e (wr_n (by omega)) (wr_n (by omega))
    split
    · exact ⟨rfl, Kl.rf g⟩
    · split
      · refine ⟨by rw [now_rcs]; exact e7, ?_⟩
        unfold Kl
        rw [kC_rcs, kS_rcs]
        exact k0
      · have hG := ib_ow hI q.1 q.2
        have k1 := kl_p (mo_rr hG (f := f))
        exact ⟨by rw [now_rr hG]; exact e7, Nat.le_trans k0.1 k1.1, Nat.le_trans k0.2 k1.2⟩
  · exact ⟨rfl, Kl.rf g⟩
/-! the script -/
section LW
variable {p : Program} {l : Launch} {e : Env} {R : Room} {s : State} {m : MethodId} {args : Array Value} {below : List Frame} {meth : Method} {c : Code} {H : Heap} {locs : List Loc} {cells slots : Nat} {Q : State → Prop}
variable {cc : ByteArray} {pc : Nat} {ls : Array Slot} {rest : List Value}
def fX (xs : Nat → Int32) (j : Int) : Int := (xs j.toNat).toInt
theorem fX_b (xs : Nat → Int32) (j : Int) : iB (fX xs j) := iB_of _
theorem l_sld (hx : p.tables.exec = Jvm.exec) (hb : c.code = cc) {b L : Nat} {xs : Nat → Int32} {A : Nat → Prop} (hX : va_X b L xs s s.heap) (hbl : b < s.heap.size) (hbA : ¬ A b) (hS : va_S A s.heap H locs) (hL : L ≤ 2049) {i : Int} (h0 : 0 ≤ i) (h1 : i < L) (hdg : decode cc pc = .ok (.iaload, 1))
    (kk : W p l e R s m args below meth c H locs cells slots Q (F0 m (pc + 1) ls (.int (iZ (fX xs i)) :: rest))) : W p l e R s m args below meth c H locs cells slots Q (F0 m pc ls (.int (iZ i) :: .ref b :: rest)) := by
  refine va_sld hx hb hX hbl hbA hS (iZ_in h0 h1 (by omega)) hdg ?_
  rw [iZ_cl ⟨by omega, by omega⟩]
  unfold fX at kk
  rw [iZ_of] at kk
  exact kk
theorem l_slen (hx : p.tables.exec = Jvm.exec) (hb : c.code = cc) {b L : Nat} {xs : Nat → Int32} {A : Nat → Prop} (hX : va_X b L xs s s.heap) (hbl : b < s.heap.size) (hbA : ¬ A b) (hS : va_S A s.heap H locs) (hdg : decode cc pc = .ok (.arraylength, 1))
    (kk : W p l e R s m args below meth c H locs cells slots Q (F0 m (pc + 1) ls (.int (iZ (L : Int)) :: rest))) : W p l e R s m args below meth c H locs cells slots Q (F0 m pc ls (.ref b :: rest)) := by
  refine va_slen hx hb hX hbl hbA hS hdg ?_
  rw [iZ_nat]
  exact kk
theorem l_i2b (hx : p.tables.exec = Jvm.exec) (hb : c.code = cc) {a : Int} (hdg : decode cc pc = .ok (.i2b, 1)) (kk : W p l e R s m args below meth c H locs cells slots Q (F0 m (pc + 1) ls (.int (iZ ((iZ a).toInt8.toInt)) :: rest))) : W p l e R s m args below meth c H locs cells slots Q (F0 m pc ls (.int (iZ a) :: rest)) := by
  refine lv_i2b hx hb hdg (v := iZ ((iZ a).toInt8.toInt)) ?_ kk
  apply Int32.toInt_inj.mp
  rw [Int8.toInt_toInt32, iZ_T ⟨by have := Int8.le_toInt (iZ a).toInt8; omega, by have := Int8.toInt_lt (iZ a).toInt8; omega⟩]
theorem i8_b (x : Int8) : -128 ≤ x.toInt ∧ x.toInt ≤ 127 := ⟨Int8.le_toInt x, by have := Int8.toInt_lt x; omega⟩
/-! the law's cell -/
theorem c_L_cell (l : Launch) {b L : Nat} {xs : Nat → Int32} (hL : L ≤ 2049) : Met l yL_cell wsL_cell ({ frames := 0, cells := 0, slots := 0, locals := 0 }) (va_Pc [.ref b, .int (iZ 0)] (fun U => va_X b L xs U U.heap)) (va_Qi (fun (r : Int32) (_ : Unit) => r = iZ (if 0 < L then fX xs 0 else 0)) (fun _ _ => True) (fun _ => False)) 0 0 (fun _ => False) := by
  refine Met.ofW (cc := cL_cell) (maxL := 2) (ret := (some .int)) (by decide) rfl ?_
  intro p e s m args below meth c s₁ B hml hv
  obtain ⟨rfl, hX⟩ := hv
  have hx := B.exec
  have hb := B.bytes
  have hr := B.returns
  have hlocks := B.notSynchronized
  have hbl : b < s.heap.size := by
    obtain ⟨scr, h1, -⟩ := hX
    exact (Array.getElem?_eq_some_iff.mp h1).1
  have hS : va_S (fun _ => False) s.heap s.heap [] := va_S.rf
  have hl := lv_entry ([.ref b, .int (iZ 0)]) (n := 2) (Nat.le_of_ble_eq_true rfl)
  rw [lg_entry_eq]
  generalize (lg_sl ([.ref b, .int (iZ 0)]) ++ List.replicate (2 - (lg_sl ([.ref b, .int (iZ 0)])).length) Slot.unset).toArray = ls at hl ⊢
  have hl : lv_has ls 2 [(0, .ref b), (1, .int (iZ 0))] := hl
  refine lv_iload_n hx hb dL_cell_0 rfl (lv_at hl 1 rfl) ?_
  refine lv_aload_n hx hb dL_cell_1 rfl (lv_at hl 0 rfl) ?_
  refine l_slen hx hb hX hbl (fun w => w) hS dL_cell_2 ?_
  refine z_icmp_ge (tgt := 12) hx hb dL_cell_3 (by decide) (by omega) (by omega) (fun c_3 => ?_) (fun c_3 => ?_)
  · refine z_iconst hx hb dL_cell_12 ?_
    exact W.iret hx hb hr (fun t ht hw => ⟨⟨_, (), rfl, congrArg iZ (if_neg (by omega)).symm, trivial⟩, hS.F ht⟩) hS.2.2 dL_cell_13
  · refine lv_aload_n hx hb dL_cell_6 rfl (lv_at hl 0 rfl) ?_
    refine lv_iload_n hx hb dL_cell_7 rfl (lv_at hl 1 rfl) ?_
    refine l_sld hx hb hX hbl (fun w => w) hS hL (by omega) (by omega) dL_cell_8 ?_
    refine lv_goto (tgt := 13) hx hb dL_cell_9 (by decide) ?_
    exact W.iret hx hb hr (fun t ht hw => ⟨⟨_, (), rfl, congrArg iZ (if_pos (by omega)).symm, trivial⟩, hS.F ht⟩) hS.2.2 dL_cell_13
/-! a static method with a handler -/
theorem l_runSW {y : MethodName} {bytes : ByteArray} {maxL nL mc ms n index : Nat} {ret : Option FieldType} {hh : List (Nat × Nat × Nat × Nat)} {ws ws' : List Cond} {rm : Room} {Pc : Array Value → State → Prop} {Qc : Array Value → State → Outcome → State → Prop} {free : Addr → Prop} {Ts : List Cond} {own : String} {As : List Value} {g : JFrame}
    (S : CallFix p m c cc nL s args Ts own) (hM : Met l y ws rm Pc Qc mc ms free) (hG : GoodIn Ts ws) (hw : ws = Cond.codeWith y bytes maxL ret hh :: ws') (hrc : rm.cells = mc) (hrs : rm.slots = ms) (hR : rm.frames + 1 ≤ R.frames ∧ 8 + (maxL + 11) + rm.locals ≤ R.locals)
    (hini : (Cond.initialized y.cls).before args s = true) (hl : (Cond.methodLink own index y).before args s = true) (hstt : (Cond.static y).before args s = true) (hd : y.cls ≠ "java/lang/invoke/MethodHandle" ∧ y.cls ≠ "java/lang/invoke/VarHandle" ∧ (parseMethodDescriptor y.desc).map (fun d => d.parameters.length) = some n) (hp : PreS s H Pc As)
    (hg : g.method = m) (hn : As.length = n) (hsize : g.locals.size = nL) (hstack : g.stack = As.reverse ++ rest) (hW : 2 * g.monitorRoom + (rest.map fun v => v.category).sum ≤ 8) (hdg : decode cc g.pc = .ok (.invokestatic index, 3)) (hf : cells + mc ≤ R.cells ∧ slots + ms ≤ R.slots) :
    va_Run p l e R s m args below meth c H locs cells slots mc ms g rest (Qc As.toArray) free := by
  obtain ⟨hx, hb, hml, ho, hts⟩ := S
  have hcm : Cond.codeWith y bytes maxL ret hh ∈ ws := by rw [hw]; exact List.mem_cons_self
  have hK : Back l R p e below s args y 3 8 (PreOf R mc ms Pc) (PostOf Qc mc ms free) := va_backW (hh := hh) (bytes := bytes) (maxL := maxL) (ret := ret) hM hp.1 hrc hrs hR.1 hR.2 (pay_in hts hG) hcm (fun a' U hW => word_at hW (Or.inl (by first | rfl | simp [Cond.onTables, Cond.keeps, Cond.steady])) hini)
  obtain ⟨mk, methM, cM, hnamed, hmethM, hcM, -, -, -, -, -, hsigM⟩ := Cond.codeWith_spec (hts _ (hG _ hcm).1)
  have hstatic : methM.isStatic = true := Cond.static_spec hnamed hmethM hstt
  obtain ⟨kP, hkP, -⟩ := className_of_methodNamed hnamed
  have hinitP : kP.init = .initialized := Cond.initialized_spec (findClass_of_methodNamed hnamed) hkP hini
  have hlen : As.length = methM.sig.parameters.length := by
    have h2 := hd.2.2
    rw [hsigM] at h2
    exact hn.trans (Option.some.inj h2).symm
  intro T hT X
  obtain ⟨vm₁, X₁, hstep₁⟩ := X.invokestatic hx ho hl hnamed hmethM hstatic hkP hinitP ⟨hd.1, hd.2.1⟩ (g := g) hg (argsL := As) (rest := rest) hlen hstack (by rw [hb]; exact hdg)
  obtain ⟨v, ⟨U', l2, c2, s2⟩, X', ⟨g', mk', t, L, e1, e2', hq, h1, hL, h2, h3⟩, hsteps⟩ := hK m meth c ⟨T.setVm vm₁, locs, cells, slots⟩ { g with stack := rest } (.invokestatic index) mk As.toArray X₁ hg (hsize.trans hml.symm) (by rw [hb]; exact hdg) hW (X₁.named hnamed) ⟨hf.1, hf.2, hp.2 (T.setVm vm₁) hT X₁.warmed⟩
  dsimp only [Pt.U, Pt.locs, Pt.cells, Pt.slots] at X' e1 e2' h1 h2 h3 hsteps
  subst h1; subst h2; subst h3
  exact ⟨v, (T.setVm vm₁).calling g' mk' As.toArray, t, U', L, hT, X', hL, e1, e2', hq, fun target h => hstep₁ _ fun acts => by rw [doInvoke_state]; exact hsteps.trans h⟩
end LW

