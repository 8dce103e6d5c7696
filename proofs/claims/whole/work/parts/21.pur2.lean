def tkO (s : Int) : Int := if 0 ≤ s ∧ s ≤ 127 then s else if 241 ≤ s ∧ s ≤ 249 then 1 else 127
def sWt (g : St) (m : Int) : St := wr g 15 m (g 15 m 0 + 1)
def sTkW (g : St) (m : Int) : St := if sWt g m 15 m 0 ≤ sWt g m 0 12 0 then sAwait (sWt g m) m else sEndS (sWt g m) m 5
def sGo (g : St) (m b s : Int) : St := wr (wr (wr (wr g 12 m 2) 16 m b) 17 m s) 18 m (g 0 7 0)
def sTkF (g : St) (m f : Int) : St := if g 22 f 0 = 0 then sGo g m (g 23 f 0) (tkO (g 24 f 0)) else if g 22 f 0 = 1 then sTkW g m else sEndS g m 4
def sRcS (g : St) (f : Int) : St := if g 12 (g 21 f 0) 0 = 1 then sTkF g (g 21 f 0) f else g
def sGt (g : St) (ln : Int) (F : Int → Int) : St := wR (wr g 1 2 ln) 40 0 F
def sWh (g : St) (r ln : Int) (F : Int → Int) : St := rRest (sCnt (sGt g ln F) 0) r 2
def sTake (g : St) (r f : Int) : St := wR (wr (wr (wr g 33 r (g 33 r 0 + g 26 f 0)) 37 r 9223372036854775807) 38 r (g 0 7 0 + 1000)) 39 r (cpF (g 28 f) (g 39 r) 0 (g 33 r 0) (g 26 f 0))
def sBeg (g : St) (r mg ln : Int) : St := wR (wr (wr (wr (wr (wr (wr (wr g 30 r 1) 31 r mg) 32 r ln) 33 r 0) 34 r 1) 35 r 0) 36 r 0) 39 r (fun _ => 0)
def sTF (g : St) (r f : Int) : St := if g 22 f 0 ≤ g 0 0 0 then sAns (sTake (sBeg g r (g 21 f 0) (g 22 f 0)) r f) r else if 6000 ≤ g 1 1 0 then sMkF g r (g 21 f 0) 2 0 0 else sEndR (sMkF g r (g 21 f 0) 2 0 0) r 4
def sSq (g : St) (r : Int) : St := wr g 34 r ((g 34 r 0 + 1) % 16)
def sTC1 (g : St) (r f : Int) : St := sTake (sSq g r) r f
def sTC2 (g : St) (r : Int) : St := wr g 36 r (g 36 r 0 + 1)
def sTC3 (g : St) (r : Int) : St := if g 35 r 0 = 0 then g else if g 36 r 0 = g 35 r 0 then sAns g r else g
def sTC (g : St) (r f : Int) : St := if g 22 f 0 = g 34 r 0 then (if sTC1 g r f 32 r 0 ≤ sTC1 g r f 33 r 0 then sWh (sTC1 g r f) r (sTC1 g r f 32 r 0) (sTC1 g r f 39 r) else sTC3 (sTC2 (sTC1 g r f) r) r) else sEndR g r 3
def sE6 (g : St) (r : Int) : St := if g 30 r 0 = 1 then sEndR g r 6 else g
def sRR (g : St) (f : Int) : St := if g 20 f 0 = 2 then (if g 30 (g 21 f 0 % 4) 0 = 1 ∧ g 31 (g 21 f 0 % 4) 0 = g 21 f 0 then sTC g (g 21 f 0 % 4) f else g) else if g 20 f 0 = 0 then sWh (sE6 g (g 21 f 0 % 4)) (g 21 f 0 % 4) (sE6 g (g 21 f 0 % 4) 26 f 0) (sE6 g (g 21 f 0 % 4) 28 f) else sTF (sE6 g (g 21 f 0 % 4)) (g 21 f 0 % 4) f
theorem cp_b {F G : Int → Int} {i j n : Int} (hF : ∀ j : Int, -128 ≤ F j ∧ F j ≤ 127) (hG : ∀ j : Int, -128 ≤ G j ∧ G j ≤ 127) (x : Int) : -128 ≤ cpF F G i j n x ∧ cpF F G i j n x ≤ 127 := by
  unfold cpF
  split
  · exact hF _
  · exact hG _
theorem tk_b (s : Int) : 0 ≤ tkO s ∧ tkO s ≤ 127 := by
  unfold tkO
  split
  · omega
  · split <;> omega
theorem ib_wt {g : St} (h : IB g) {m : Int} (h1 : 1 ≤ m) (h2 : m ≤ g 1 0 0) (h3 : g 15 m 0 ≤ 100) : IB (sWt g m) := by
  have q := h.2.2.1 m h1 h2
  unfold IS at q
  refine ib_sw h h1 h2 (fun t i j w => by unfold sWt; rw [wr_n (by omega)]) ?_
  simp [sWt, wr]
  omega
theorem ib_go {g : St} (h : IB g) {m b s : Int} (h1 : 1 ≤ m) (h2 : m ≤ g 1 0 0) (hb : 0 ≤ b ∧ b ≤ 255) (hs : 0 ≤ s ∧ s ≤ 127) : IB (sGo g m b s) := by
  have q := h.2.2.1 m h1 h2
  have q0 := h.1
  unfold IS at q
  unfold IX at q0
  refine ib_sw h h1 h2 (fun t i j w => by unfold sGo; rw [wr_n (by omega), wr_n (by omega), wr_n (by omega), wr_n (by omega)]) ?_
  simp [sGo, wr]
  omega
theorem ib_tkw {g : St} (h : IB g) {m : Int} (h1 : 1 ≤ m) (h2 : m ≤ g 1 0 0) (h3 : g 15 m 0 ≤ 100) : IB (sTkW g m) := by
  have q := ib_wt h h1 h2 h3
  unfold sTkW
  split
  · exact ib_aw q h1 h2
  · exact ib_es q 5 h1 h2
theorem ib_tkf {g : St} (h : IB g) {m f : Int} (h1 : 1 ≤ m) (h2 : m ≤ g 1 0 0) (h3 : g 15 m 0 ≤ 100) (hf1 : 1 ≤ f) (hf2 : f ≤ g 1 1 0) : IB (sTkF g m f) := by
  have q := h.2.2.2.1 f hf1 hf2
  unfold IF at q
  unfold sTkF
  split
  · exact ib_go h h1 h2 (by omega) (tk_b _)
  · split
    · exact ib_tkw h h1 h2 h3
    · exact ib_es h 4 h1 h2
theorem ib_sq {g : St} (h : IB g) {r : Int} (h1 : 0 ≤ r) (h2 : r < 4) : IB (sSq g r) := by
  have q := h.2.2.2.2.1 r h1 h2
  unfold IR at q
  refine ib_rw h h1 h2 (fun t i j w => by unfold sSq; rw [wr_n (by omega)]) ?_
  simp [sSq, wr]
  omega
theorem ib_tc2 {g : St} (h : IB g) {r : Int} (h1 : 0 ≤ r) (h2 : r < 4) (h3 : g 36 r 0 ≤ 20000) : IB (sTC2 g r) := by
  have q := h.2.2.2.2.1 r h1 h2
  unfold IR at q
  refine ib_rw h h1 h2 (fun t i j w => by unfold sTC2; rw [wr_n (by omega)]) ?_
  simp [sTC2, wr]
  omega
theorem ib_beg {g : St} (h : IB g) {r mg ln : Int} (h1 : 0 ≤ r) (h2 : r < 4) (h3 : 1 ≤ mg ∧ mg ≤ g 1 0 0) (h4 : 0 ≤ ln ∧ ln ≤ 10000) : IB (sBeg g r mg ln) := by
  have q := h.2.2.2.2.1 r h1 h2
  refine ib_r (r := r) h (fun t i j w => by unfold sBeg; rw [wR_n (by omega)]; repeat rw [wr_n (by omega)]) ?_
  unfold IR at q ⊢
  have e39 : ∀ j : Int, sBeg g r mg ln 39 r j = 0 := fun j => by simp [sBeg, wR]
  refine ⟨?_, ?_, ?_, ?_, ?_, ?_, ?_, ?_, ?_, fun j => by rw [e39]; omega⟩ <;> simp [sBeg, wr, wR] <;> omega
theorem ib_take {g : St} (h : IB g) {r f : Int} (h1 : 0 ≤ r) (h2 : r < 4) (hf1 : 1 ≤ f) (hf2 : f ≤ g 1 1 0) (h3 : 0 ≤ g 26 f 0) (h4 : g 33 r 0 + g 26 f 0 ≤ g 32 r 0) : IB (sTake g r f) := by
  have q := h.2.2.2.2.1 r h1 h2
  have qf := h.2.2.2.1 f hf1 hf2
  have q0 := h.1
  unfold IX at q0
  unfold IF at qf
  refine ib_r (r := r) h (fun t i j w => by unfold sTake; rw [wR_n (by omega)]; repeat rw [wr_n (by omega)]) ?_
  unfold IR at q ⊢
  have e39 : ∀ j : Int, sTake g r f 39 r j = cpF (g 28 f) (g 39 r) 0 (g 33 r 0) (g 26 f 0) j := fun j => by simp [sTake, wR]
  refine ⟨?_, ?_, ?_, ?_, ?_, ?_, ?_, ?_, ?_, fun j => by rw [e39]; exact cp_b qf.2.2.2.2.2.2.2.2.2 q.2.2.2.2.2.2.2.2.2 j⟩ <;> simp [sTake, wr, wR] <;> omega
theorem ib_gt {g : St} (h : IB g) {ln : Int} {F : Int → Int} (h1 : 0 ≤ ln ∧ ln ≤ 10000) (hF : ∀ j : Int, -128 ≤ F j ∧ F j ≤ 127) : IB (sGt g ln F) := by
  refine ib_g h (fun t i j w => by unfold sGt; rw [wR_n (by omega), wr_n (by omega)]) ?_
  unfold IG
  have e : ∀ j : Int, sGt g ln F 40 0 j = F j := fun j => by simp [sGt, wR]
  exact ⟨by simp [sGt, wr, wR]; omega, fun j => by rw [e]; exact hF j⟩
theorem ib_wh {g : St} (h : IB g) {r ln : Int} {F : Int → Int} (h1 : 0 ≤ r) (h2 : r < 4) (h3 : 0 ≤ ln ∧ ln ≤ 10000) (hF : ∀ j : Int, -128 ≤ F j ∧ F j ≤ 127) : IB (sWh g r ln F) := ib_rr (ib_ct (ib_gt h h3 hF) 0) h1 h2 (by omega) (by omega)
theorem mo_tf {g : St} (h : IB g) {r f : Int} : Mp g (sTF g r f) := by
  unfold sTF
  split
  · have e : ∀ (t : Nat) (i j : Int), t < 5 → sTake (sBeg g r (g 21 f 0) (g 22 f 0)) r f t i j = g t i j := fun t i j ht => by
      unfold sTake sBeg
      rw [wR_n (by omega), wr_n (by omega), wr_n (by omega), wr_n (by omega), wR_n (by omega), wr_n (by omega), wr_n (by omega), wr_n (by omega), wr_n (by omega), wr_n (by omega), wr_n (by omega), wr_n (by omega)]
    generalize sTake (sBeg g r (g 21 f 0) (g 22 f 0)) r f = g2 at e ⊢
    have hL : IL g2 := by
      have hl := h.2.1
      unfold IL at hl ⊢
      rw [e 1 0 0 (by decide), e 1 1 0 (by decide), e 4 0 0 (by decide), e 4 1 0 (by decide)]
      exact hl
    have q := (mo_an hL (r := r)).p
    unfold Mp at q ⊢
    rw [e 1 0 0 (by decide), e 1 1 0 (by decide), e 4 1 0 (by decide)] at q
    exact q
  · split
    · have e : sMkF g r (g 21 f 0) 2 0 0 = sEndR g r 7 := by unfold sMkF; rw [if_pos (by assumption)]
      rw [e]
      exact mo_er.p
    · have e : sMkF g r (g 21 f 0) 2 0 0 = sFlow g (g 21 f 0) 2 0 0 := by unfold sMkF; rw [if_neg (by assumption)]
      rw [e]
      exact ((mo_fr h.2.1).tr mo_er).p
theorem ec_wh {dA : Nat → ClassId} {z : Nat → Nat} {g : St} {al : Al} {en en' : en_T} (h : EC dA z g al en) {r ln : Int} {F : Int → Int} {ob : Nat} (hr : 0 ≤ r ∧ r < 4)
    (hX : en' 0 0 = some (al 0 0, .inr (5, eX g (wa al 11 0 ob)))) (hC : en' 4 0 = some (al 4 0, aI dA 8 (fun j => sCnt g 0 2 j 0)))
    (hR : en' 9 r = some (al 9 r, .inr (3, eR (rRest g r 2) al r)))
    (hG : ∃ (kg : Nat) (ig : Int), (kg = 11 ∧ ig = 0 ∨ kg = 8 ∧ 1 ≤ ig ∧ ig ≤ g 1 1 0) ∧ bA dA z en' kg ig ob ln F)
    (he : ∀ (k : Nat) (i : Int), ¬ ((k = 0 ∧ i = 0) ∨ (k = 4 ∧ i = 0) ∨ (k = 9 ∧ i = r) ∨ (k = 10 ∧ i = r) ∨ (k = 11 ∧ i = 0)) → en' k i = en k i) : EC dA z (sWh g r ln F) (wa al 11 0 ob) en' := by
  have h1 : EC dA z (sGt g ln F) (wa al 11 0 ob) (e2 (e2 en 0 0 (en' 0 0)) 11 0 (en' 11 0)) := by
    refine ec_g h (fun t i j w => by unfold sGt; rw [wR_n (by omega), wr_n (by omega)]) (fun k i w => wa_n (by omega)) (fun k i w => by rw [e2_n (by omega), e2_n (by omega)]) ?_ ?_
    · rw [e2_k (by decide), e2_s, hX]
      simp [sGt, wr, wR]
    · obtain ⟨kg, ig, hk, hb⟩ := hG
      refine ⟨kg, ig, hk, ?_⟩
      have e1 : sGt g ln F 1 2 0 = ln := by simp [sGt, wr, wR]
      have e2' : sGt g ln F 40 0 = F := by funext j; simp [sGt, wR]
      rw [e1, e2', wa_s]
      refine bA_e ?_ hb
      rcases hk with ⟨rfl, rfl⟩ | ⟨rfl, hi1, hi2⟩
      · exact e2_s _ _ _ _
      · rw [e2_k (by decide), e2_k (by decide)]
        exact (he 8 ig (by omega)).symm
  have h2 : EC dA z (sCnt (sGt g ln F) 0) (wa al 11 0 ob) (e2 (e2 (e2 en 0 0 (en' 0 0)) 11 0 (en' 11 0)) 4 0 (en' 4 0)) := by
    refine ec_c h1 (fun t i j w => by unfold sCnt; rw [wr_n (by omega)]) (fun _ _ _ => rfl) (fun k i w => e2_n (by omega)) ?_
    rw [e2_s, hC]
    have e4 : wa al 11 0 ob 4 0 = al 4 0 := wa_n (by omega)
    have e5 : (fun j => sCnt (sGt g ln F) 0 2 j 0) = fun j => sCnt g 0 2 j 0 := by
      funext j
      simp [sCnt, sGt, wr, wR]
    rw [e4, e5]
  refine ec_r h2 (r0 := r) hr (fun t i j w => by unfold sWh rRest; repeat rw [wr_n (by omega)]) (fun _ _ _ => rfl) (fun k i w => ?_) ?_ (fun q9 => absurd q9 (by simp [sWh, rRest, wr]))
  · by_cases q4 : k = 4 ∧ i = 0
    · obtain ⟨rfl, rfl⟩ := q4
      exact (e2_s _ _ _ _).symm
    · rw [e2_n q4]
      by_cases q11 : k = 11 ∧ i = 0
      · obtain ⟨rfl, rfl⟩ := q11
        exact (e2_s _ _ _ _).symm
      · rw [e2_n q11]
        by_cases q0 : k = 0 ∧ i = 0
        · obtain ⟨rfl, rfl⟩ := q0
          exact (e2_s _ _ _ _).symm
        · rw [e2_n q0]
          exact he k i (by omega)
  · have e9 : wa al 11 0 ob 9 r = al 9 r := wa_n (by omega)
    rw [hR, e9]
    simp [sWh, rRest, sCnt, sGt, wr, wR, wa]

