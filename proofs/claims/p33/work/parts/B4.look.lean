/-! LOOKING UP: cells, loops, bodies -/
theorem vV_ne {z : Zt} {x : Int32} (hf : z 0 4 ≤ 610) (hg : z 0 5 ≤ 610) (h : vV z x) : ¬ x = 49999 ∧ ¬ x = -100000 := by
  rcases h with ⟨a, b⟩ | ⟨j, hj, e⟩ | ⟨j, hj, e⟩
  · constructor
    · intro e; subst e; revert b; decide
    · intro e; subst e; revert a; decide
  · subst e
    refine ⟨fun q => ?_, fun q => ?_⟩
    · have := (nI_eqL (w := 20000 + j) (a := 49999) (b := 49999) rfl (by omega) (by decide)).mp q; omega
    · have := nI_pos' (show 20000 + j < 2 ^ 31 by omega)
      rw [q] at this; revert this; decide
  · subst e
    refine ⟨fun q => ?_, fun q => ?_⟩
    · have := (nI_eqL (w := 30000 + j) (a := 49999) (b := 49999) rfl (by omega) (by decide)).mp q; omega
    · have := nI_pos' (show 30000 + j < 2 ^ 31 by omega)
      rw [q] at this; revert this; decide
theorem lookV {z : Zt} {G Gc Gr : Gt} {j : Nat} (hN : qN z G) (hR : z 0 2 ≤ 620) (hC : z 0 3 ≤ 1210) (hf : z 0 4 ≤ 610) (hg : z 0 5 ≤ 610) (hj : j < 8) (e131 : Gc 131 = G 131) (e133 : Gc 133 = G 133) (e71 : Gr 71 = G 71) (e72 : Gr 72 = G 72) : ∀ b s, s ≤ b → s < z 0 2 →
    (∃ s', s' < z 0 2 ∧ G 72 (8 * s' + j) = G 133 (8 * z 13 s' + j) ∧ vV z (G 72 (8 * s' + j)) ∧
      (∀ (R : Gt) (K : Int32 → Gt → Prop) (fuel m : Nat), s + 2 ≤ fuel → m + s < 1209 → K (nI (z 13 s')) (mxw Gc R) → w_X7_holderOf_h5 K fuel (nI j) (nI (z 13 s)) (nI m) (mxw Gc R)) ∧
      (∀ (C : Gt) (K : Int32 → Gt → Prop) (fuel : Nat), s + 2 ≤ fuel → K (nI (8 * s' + j)) (mxw C Gr) → w_X11_cellOf_h2 K fuel (nI j) (nI s) (mxw C Gr))) ∨
    ((∀ (R : Gt) (K : Int32 → Gt → Prop) (fuel m : Nat), s + 2 ≤ fuel → m + s < 1209 → K (-1) (mxw Gc R) → w_X7_holderOf_h5 K fuel (nI j) (nI (z 13 s)) (nI m) (mxw Gc R)) ∧
      (∀ (C : Gt) (K : Int32 → Gt → Prop) (fuel : Nat), s + 2 ≤ fuel → K (-1) (mxw C Gr) → w_X11_cellOf_h2 K fuel (nI j) (nI s) (mxw C Gr))) := by
  obtain ⟨q1, q2⟩ := hN
  have h8 : ∀ a, nI a * 8 + nI j = nI (8 * a + j) := by intro a; rw [show (8 : Int32) = nI 8 from rfl, nI_mulx, nI_add, Nat.mul_comm]
  have h8' : ∀ a, 8 * nI a + nI j = nI (8 * a + j) := by intro a; rw [show (8 : Int32) = nI 8 from rfl, nI_mulx, nI_add]
  intro b
  induction b with
  | zero =>
    intro s hs hs2
    have e0 : s = 0 := by omega
    subst e0
    obtain ⟨w1, w2, w3, w4⟩ := q2 0 hs2
    rcases w4 j hj with ⟨c1, c2⟩ | ⟨c1, c2⟩
    · right
      rcases w3 with ⟨o1, o2⟩ | ⟨o, o1, _⟩
      · constructor
        · intro R K fuel m hfu hm hk
          obtain ⟨fuel, rfl⟩ : ∃ f, fuel = f + 2 := ⟨fuel - 2, by omega⟩
          rw [w_X7_holderOf_h5]
          refine pif_n (nI_ge (b := 1210) (by omega) (by decide)) (pif_n (nI_neg (by omega)) ?_)
          rw [h8, rat_n (by omega) (by decide), show (mxw Gc R) 133 (8 * z 13 0 + j) = 49999 from by show Gc 133 _ = _; rw [e133]; exact c2]
          refine pif_p rfl ?_
          rw [rat_n (by omega) (by decide), show (mxw Gc R) 131 (z 13 0) = -1 from by show Gc 131 _ = _; rw [e131]; exact o2, nI_1, w_X7_holderOf_h5]
          exact pif_n (nI_ge (b := 1210) (by omega) (by decide)) (pif_p rfl hk)
        · intro C K fuel hfu hk
          obtain ⟨fuel, rfl⟩ : ∃ f, fuel = f + 2 := ⟨fuel - 2, by omega⟩
          rw [w_X11_cellOf_h2]
          refine pif_n (nI_neg (by omega)) ⟨vp_e (h8' 0) (by omega) (by decide), ?_⟩
          rw [h8', nI_clamp (by omega), show (mxw C Gr) 72 (8 * 0 + j) = -100000 from by show Gr 72 _ = _; rw [e72]; exact c1]
          refine pif_p rfl ⟨vp_n (i := 0) (by omega) (by decide), ?_⟩
          rw [nI_clamp (by omega), show (mxw C Gr) 71 0 = -1 from by show Gr 71 _ = _; rw [e71]; exact o1, w_X11_cellOf_h2]
          exact pif_p rfl (pif_p rfl hk)
      · omega
    · left
      have hv := vV_ne hf hg c2
      refine ⟨0, hs2, c1, c2, ?_, ?_⟩
      · intro R K fuel m hfu hm hk
        obtain ⟨fuel, rfl⟩ : ∃ f, fuel = f + 2 := ⟨fuel - 2, by omega⟩
        rw [w_X7_holderOf_h5]
        refine pif_n (nI_ge (b := 1210) (by omega) (by decide)) (pif_n (nI_neg (by omega)) ?_)
        rw [h8, rat_n (by omega) (by decide), show (mxw Gc R) 133 (8 * z 13 0 + j) = G 133 (8 * z 13 0 + j) from by show Gc 133 _ = _; rw [e133]]
        exact pif_n (by rw [← c1]; exact hv.1) hk
      · intro C K fuel hfu hk
        obtain ⟨fuel, rfl⟩ : ∃ f, fuel = f + 2 := ⟨fuel - 2, by omega⟩
        rw [w_X11_cellOf_h2]
        refine pif_n (nI_neg (by omega)) ⟨vp_e (h8' 0) (by omega) (by decide), ?_⟩
        rw [h8', nI_clamp (by omega), show (mxw C Gr) 72 (8 * 0 + j) = G 72 (8 * 0 + j) from by show Gr 72 _ = _; rw [e72]]
        refine pif_n hv.2 (pif_n (nI_neg (by omega)) ?_)
        show K (8 * nI 0 + nI j) _
        rw [h8']; exact hk
  | succ b ih =>
    intro s hs hs2
    obtain ⟨w1, w2, w3, w4⟩ := q2 s hs2
    rcases w4 j hj with ⟨c1, c2⟩ | ⟨c1, c2⟩
    · have stepC : ∀ (x : Int32) (R : Gt) (K : Int32 → Gt → Prop) (fuel m : Nat), G 131 (z 13 s) = x → m + s < 1209 → w_X7_holderOf_h5 K fuel (nI j) x (nI (m + 1)) (mxw Gc R) → w_X7_holderOf_h5 K (fuel + 1) (nI j) (nI (z 13 s)) (nI m) (mxw Gc R) := by
        intro x R K fuel m hx hm hk
        rw [w_X7_holderOf_h5]
        refine pif_n (nI_ge (b := 1210) (by omega) (by decide)) (pif_n (nI_neg (by omega)) ?_)
        rw [h8, rat_n (by omega) (by decide), show (mxw Gc R) 133 (8 * z 13 s + j) = 49999 from by show Gc 133 _ = _; rw [e133]; exact c2]
        refine pif_p rfl ?_
        rw [rat_n (by omega) (by decide), show (mxw Gc R) 131 (z 13 s) = x from by show Gc 131 _ = _; rw [e131]; exact hx, nI_1]
        exact hk
      have stepR : ∀ (x : Int32) (C : Gt) (K : Int32 → Gt → Prop) (fuel : Nat), G 71 s = x → w_X11_cellOf_h2 K fuel (nI j) x (mxw C Gr) → w_X11_cellOf_h2 K (fuel + 1) (nI j) (nI s) (mxw C Gr) := by
        intro x C K fuel hx hk
        rw [w_X11_cellOf_h2]
        refine pif_n (nI_neg (by omega)) ⟨vp_e (h8' s) (by omega) (by decide), ?_⟩
        rw [h8', nI_clamp (by omega), show (mxw C Gr) 72 (8 * s + j) = -100000 from by show Gr 72 _ = _; rw [e72]; exact c1]
        refine pif_p rfl ⟨vp_n (i := s) (by omega) (by decide), ?_⟩
        rw [nI_clamp (by omega), show (mxw C Gr) 71 s = x from by show Gr 71 _ = _; rw [e71]; exact hx]
        exact hk
      rcases w3 with ⟨o1, o2⟩ | ⟨o, o1, o2, o3⟩
      · right
        constructor
        · intro R K fuel m hfu hm hk
          obtain ⟨fuel, rfl⟩ : ∃ f, fuel = f + 2 := ⟨fuel - 2, by omega⟩
          refine stepC (-1) R K (fuel + 1) m o2 hm ?_
          rw [w_X7_holderOf_h5]
          exact pif_n (nI_ge (b := 1210) (by omega) (by decide)) (pif_p rfl hk)
        · intro C K fuel hfu hk
          obtain ⟨fuel, rfl⟩ : ∃ f, fuel = f + 2 := ⟨fuel - 2, by omega⟩
          refine stepR (-1) C K (fuel + 1) o1 ?_
          rw [w_X11_cellOf_h2]
          exact pif_p rfl (pif_p rfl hk)
      · rcases ih o (by omega) (by omega) with ⟨s', a1, a2, a3, a4, a5⟩ | ⟨a4, a5⟩
        · left
          refine ⟨s', a1, a2, a3, ?_, ?_⟩
          · intro R K fuel m hfu hm hk
            obtain ⟨fuel, rfl⟩ : ∃ f, fuel = f + 1 := ⟨fuel - 1, by omega⟩
            exact stepC _ R K fuel m o3 hm (a4 R K fuel (m + 1) (by omega) (by omega) hk)
          · intro C K fuel hfu hk
            obtain ⟨fuel, rfl⟩ : ∃ f, fuel = f + 1 := ⟨fuel - 1, by omega⟩
            exact stepR _ C K fuel o2 (a5 C K fuel (by omega) hk)
        · right
          refine ⟨?_, ?_⟩
          · intro R K fuel m hfu hm hk
            obtain ⟨fuel, rfl⟩ : ∃ f, fuel = f + 1 := ⟨fuel - 1, by omega⟩
            exact stepC _ R K fuel m o3 hm (a4 R K fuel (m + 1) (by omega) (by omega) hk)
          · intro C K fuel hfu hk
            obtain ⟨fuel, rfl⟩ : ∃ f, fuel = f + 1 := ⟨fuel - 1, by omega⟩
            exact stepR _ C K fuel o2 (a5 C K fuel (by omega) hk)
    · left
      have hv := vV_ne hf hg c2
      refine ⟨s, hs2, c1, c2, ?_, ?_⟩
      · intro R K fuel m hfu hm hk
        obtain ⟨fuel, rfl⟩ : ∃ f, fuel = f + 2 := ⟨fuel - 2, by omega⟩
        rw [w_X7_holderOf_h5]
        refine pif_n (nI_ge (b := 1210) (by omega) (by decide)) (pif_n (nI_neg (by omega)) ?_)
        rw [h8, rat_n (by omega) (by decide), show (mxw Gc R) 133 (8 * z 13 s + j) = G 133 (8 * z 13 s + j) from by show Gc 133 _ = _; rw [e133]]
        exact pif_n (by rw [← c1]; exact hv.1) hk
      · intro C K fuel hfu hk
        obtain ⟨fuel, rfl⟩ : ∃ f, fuel = f + 2 := ⟨fuel - 2, by omega⟩
        rw [w_X11_cellOf_h2]
        refine pif_n (nI_neg (by omega)) ⟨vp_e (h8' s) (by omega) (by decide), ?_⟩
        rw [h8', nI_clamp (by omega), show (mxw C Gr) 72 (8 * s + j) = G 72 (8 * s + j) from by show Gr 72 _ = _; rw [e72]]
        refine pif_n hv.2 (pif_n (nI_neg (by omega)) ?_)
        show K (8 * nI s + nI j) _
        rw [h8']; exact hk
/-- frames, as both look at them -/
def frmz (N : Nat) (z : Zt) (G : Gt) : Prop := z 0 0 ≤ 600 ∧ N ≤ 120 ∧ ∀ v, v < z 0 0 → z 1 v < N ∧ (∃ k, k < 40 ∧ G 47 (z 1 v) = nI k) ∧ G 3 (z 1 v) = G 47 (z 1 v) ∧ G 5 (z 1 v) = G 48 (z 1 v) ∧ G 108 v = nI (z 1 v) ∧ G 114 v = nI (z 2 v) ∧ z 2 v ≤ 603 ∧ z 6 v < 1220 ∧ G 64 (z 6 v) = nI (z 1 v) ∧ (z 2 v = 0 → z 3 v < v ∧ G 110 v = nI (z 3 v) ∧ G 65 (z 6 v) = nI (z 6 (z 3 v)) ∧ z 8 v = z 8 (z 3 v)) ∧ (¬ z 2 v = 0 → z 8 v = v ∧ 1 ≤ z 6 v ∧ G 65 (z 6 v) = nI (z 6 v - 1) ∧ G 64 (z 6 v - 1) = -1)
theorem st_frm {N B : Nat} {z : Zt} {G : Gt} {x : Nat → Int32} {sp fp u k e : Nat} (h : st N B z G x sp fp u k e) : frmz N z G := by
  obtain ⟨f1, f5, f6, f7, f8, f9, f10, f11, f12, f13, f14, f15, f16, f17⟩ := st_f h
  obtain ⟨⟨⟨hP, hA, hB, hC, hD, hE, hF, hG, hH, hI, hJ, hK, hL, hM, hN, hO, hPg, hQ, hR, hS, hT, hU⟩, hm, h6, h12, hFr⟩, hu, hn, hd, hk, he, h47, h13⟩ := h
  refine ⟨f7, f6, fun v hv => ?_⟩
  have a1 := hA v (by omega)
  have a2 := hE v hv
  have a3 := hC v (by omega)
  have a4 := hG.2.2 v hv
  have a5 := hD v (by omega)
  have a6 := hF v (by omega)
  obtain ⟨p1, p2, p3, p4, p5, U, p6, p7, p8, p9⟩ := hP
  obtain ⟨k', e', s, b1, b2, b3, b4, b5, b6, b7, b8, b9, b10, b11, b12, b13, b14⟩ := p9 _ a1.2
  refine ⟨a1.2, ⟨k', b1, b6⟩, by rw [b5, b6], b7, a1.1, a3.1, a3.2.2.2.1, by omega, a2.1, fun q => ?_, fun q => ?_⟩
  · exact ⟨(a3.2.1 q).1, a5.1 q, a2.2.2.1 q, (a3.2.1 q).2⟩
  · exact ⟨(a3.2.2.1 q).1, (a6 q).1, a2.2.2.2 q, (a6 q).2.1⟩
/-- .. the same cells -/
def frc (G G' : Gt) : Prop := G' 3 = G 3 ∧ G' 5 = G 5 ∧ G' 108 = G 108 ∧ G' 110 = G 110 ∧ G' 114 = G 114
def frr (G G' : Gt) : Prop := G' 47 = G 47 ∧ G' 48 = G 48 ∧ G' 64 = G 64 ∧ G' 65 = G 65
theorem lookC {N : Nat} {z : Zt} {G Gc : Gt} {l v : Nat} (hF : frmz N z G) (hc : frc G Gc) (hv2 : v < z 0 0) (hn : ¬ isL z G l v) (y : Int32) (R : Gt) (K : Int32 → Gt → Prop) (fuel m : Nat) (h1 : z 2 v = 0 → G 110 v = y) (h2 : ¬ z 2 v = 0 → y = -1) (hm : m + v < 600) (hk : w_X2_loopWith_h7 K fuel (nI l) y (nI (m + 1)) (mxw Gc R)) : w_X2_loopWith_h7 K (fuel + 1) (nI l) (nI v) (nI m) (mxw Gc R) := by
  obtain ⟨h600, hN, hF⟩ := hF
  obtain ⟨c3, c5, c108, c110, c114⟩ := hc
  obtain ⟨a1, ⟨k, ak, a2⟩, a3, a4, a5, a6, a6', a7, a8, a9, a10⟩ := hF v hv2
  have m108 : (mxw Gc R) 108 v = nI (z 1 v) := by show Gc 108 v = _; rw [c108]; exact a5
  have m3 : (mxw Gc R) 3 (z 1 v) = nI k := by show Gc 3 _ = _; rw [c3, a3]; exact a2
  have m5 : (mxw Gc R) 5 (z 1 v) = G 48 (z 1 v) := by show Gc 5 _ = _; rw [c5]; exact a4
  have m114 : (mxw Gc R) 114 v = nI (z 2 v) := by show Gc 114 v = _; rw [c114]; exact a6
  have m110 : (mxw Gc R) 110 v = G 110 v := by show Gc 110 v = _; rw [c110]
  have k13 : nI k = 13 ↔ k = 13 := nI_eqL rfl (by omega) (by decide)
  have bz0 : nI (z 2 v) = 0 ↔ z 2 v = 0 := nI_eqL (b := 0) rfl (by omega) (by decide)
  rw [w_X2_loopWith_h7]
  refine pif_n (nI_ge (b := 601) (by omega) (by decide)) (pif_n (nI_neg (by omega)) ?_)
  rw [rat_n (i := v) (by omega) (by decide), m108, rat_n (i := z 1 v) (by omega) (by decide), m3, rat_n (i := z 1 v) (by omega) (by decide), m5]
  have go : w_X2_loopWith_j67 K (fun z0 z1 z2 z3 => w_X2_loopWith_h7 K fuel z0 z1 z2 z3) (nI l) (nI v) (nI m) (mxw Gc R) := by
    unfold w_X2_loopWith_j67 w_X2_loopWith_j96
    rw [rat_n (i := v) (by omega) (by decide), m114, rat_n (i := v) (by omega) (by decide), m110, nI_1]
    by_cases c : z 2 v = 0
    · refine pif_p (bz0.mpr c) ?_
      rw [h1 c]; exact hk
    · refine pif_n (fun q => c (bz0.mp q)) ?_
      rw [← h2 c]; exact hk
  by_cases c : k = 13
  · refine pif_p (k13.mpr c) (pif_n (fun q => hn ⟨by rw [a2, c]; rfl, q⟩) go)
  · exact pif_n (fun q => c (k13.mp q)) go
theorem lookL {N : Nat} {z : Zt} {G Gc Gr : Gt} {l : Nat} (hl : l < 4) (hF : frmz N z G) (hc : frc G Gc) (hr : frr G Gr) : ∀ b v, v < b → v < z 0 0 →
    (∃ t, t < z 0 0 ∧ lW z G l v t ∧
      (∀ (R : Gt) (K : Int32 → Gt → Prop) (fuel m : Nat), v + 2 ≤ fuel → m + v < 600 → K (nI t) (mxw Gc R) → w_X2_loopWith_h7 K fuel (nI l) (nI v) (nI m) (mxw Gc R)) ∧
      (∀ (C : Gt) (K : Int32 → Gt → Prop) (fuel : Nat), v + 2 ≤ fuel → K 1 (mxw C Gr) → w_X11_hasLoop_h10 K fuel (nI l) (nI (z 6 v)) 0 (mxw C Gr))) ∨
    ((∀ (R : Gt) (K : Int32 → Gt → Prop) (fuel m : Nat), v + 2 ≤ fuel → m + v < 600 → K (-1) (mxw Gc R) → w_X2_loopWith_h7 K fuel (nI l) (nI v) (nI m) (mxw Gc R)) ∧
      (∀ (C : Gt) (K : Int32 → Gt → Prop) (fuel : Nat), v + 2 ≤ fuel → K 0 (mxw C Gr) → w_X11_hasLoop_h10 K fuel (nI l) (nI (z 6 v)) 0 (mxw C Gr))) := by
  obtain ⟨h600, hN, hF⟩ := hF
  obtain ⟨c3, c5, c108, c110, c114⟩ := hc
  obtain ⟨r47, r48, r64, r65⟩ := hr
  intro b
  induction b with
  | zero => intro v hv; omega
  | succ b ih =>
    intro v hv hv2
    obtain ⟨a1, ⟨k, ak, a2⟩, a3, a4, a5, a6, a6', a7, a8, a9, a10⟩ := hF v hv2
    have m108 : ∀ R, (mxw Gc R) 108 v = nI (z 1 v) := by intro R; show Gc 108 v = _; rw [c108]; exact a5
    have m3 : ∀ R, (mxw Gc R) 3 (z 1 v) = nI k := by intro R; show Gc 3 _ = _; rw [c3, a3]; exact a2
    have m5 : ∀ R, (mxw Gc R) 5 (z 1 v) = G 48 (z 1 v) := by intro R; show Gc 5 _ = _; rw [c5]; exact a4
    have m114 : ∀ R, (mxw Gc R) 114 v = nI (z 2 v) := by intro R; show Gc 114 v = _; rw [c114]; exact a6
    have m110 : ∀ R, (mxw Gc R) 110 v = G 110 v := by intro R; show Gc 110 v = _; rw [c110]
    have n64 : ∀ C, (mxw C Gr) 64 (z 6 v) = nI (z 1 v) := by intro C; show Gr 64 _ = _; rw [r64]; exact a8
    have n47 : ∀ C, (mxw C Gr) 47 (z 1 v) = nI k := by intro C; show Gr 47 _ = _; rw [r47]; exact a2
    have n48 : ∀ C, (mxw C Gr) 48 (z 1 v) = G 48 (z 1 v) := by intro C; show Gr 48 _ = _; rw [r48]
    have n65 : ∀ C, (mxw C Gr) 65 (z 6 v) = G 65 (z 6 v) := by intro C; show Gr 65 _ = _; rw [r65]
    have k13 : nI k = 13 ↔ k = 13 := nI_eqL rfl (by omega) (by decide)
    have bz0 : nI (z 2 v) = 0 ↔ z 2 v = 0 := nI_eqL (b := 0) rfl (by omega) (by decide)
    have stC : ¬ isL z G l v → ∀ (y : Int32) (R : Gt) (K : Int32 → Gt → Prop) (fuel m : Nat), (z 2 v = 0 → G 110 v = y) → (¬ z 2 v = 0 → y = -1) → m + v < 600 → w_X2_loopWith_h7 K fuel (nI l) y (nI (m + 1)) (mxw Gc R) → w_X2_loopWith_h7 K (fuel + 1) (nI l) (nI v) (nI m) (mxw Gc R) := fun hn => lookC ⟨h600, hN, hF⟩ ⟨c3, c5, c108, c110, c114⟩ hv2 hn
    have stR : ¬ isL z G l v → ∀ (C : Gt) (K : Int32 → Gt → Prop) (fuel : Nat), w_X11_hasLoop_h10 K fuel (nI l) (G 65 (z 6 v)) 0 (mxw C Gr) → w_X11_hasLoop_h10 K (fuel + 1) (nI l) (nI (z 6 v)) 0 (mxw C Gr) := by
      intro hn C K fuel hk
      rw [w_X11_hasLoop_h10, nI_clamp (by omega), n64]
      have go : w_X11_hasLoop_j60 K (fun z0 z1 z2 z3 => w_X11_hasLoop_h10 K fuel z0 z1 z2 z3) (nI l) (nI (z 6 v)) (mxw C Gr) := by
        unfold w_X11_hasLoop_j60 w_X11_hasLoop_j61
        refine ⟨vp_n a7 (by decide), ?_⟩
        rw [nI_clamp (by omega), n65]
        exact hk
      refine ⟨vp_n a7 (by decide), pif_n (nI_neg (by omega)) (pif_p rfl ⟨vp_n a7 (by decide), vp_n (by omega) (by decide), ?_⟩)⟩
      rw [nI_clamp (by omega), n47]
      by_cases c : k = 13
      · refine pif_p (k13.mpr c) ⟨vp_n a7 (by decide), vp_n (by omega) (by decide), ?_⟩
        rw [n48]
        exact pif_n (fun q => hn ⟨by rw [a2, c]; rfl, q⟩) go
      · exact pif_n (fun q => c (k13.mp q)) go
    -- what stands above it, in the reference
    have hup : ∃ F f64, G 65 (z 6 v) = nI F ∧ F < 1220 ∧ ∀ C, (mxw C Gr) 64 F = f64 := by
      by_cases c : z 2 v = 0
      · exact ⟨z 6 (z 3 v), G 64 (z 6 (z 3 v)), (a9 c).2.2.1, by have := hF (z 3 v) (by have := (a9 c).1; omega); exact this.2.2.2.2.2.2.2.1, fun C => by show Gr 64 _ = _; rw [r64]⟩
      · exact ⟨z 6 v - 1, G 64 (z 6 v - 1), (a10 c).2.2.1, by omega, fun C => by show Gr 64 _ = _; rw [r64]⟩
    by_cases c : isL z G l v
    · left
      refine ⟨v, hv2, ⟨0, fun j hj => by omega, c, rfl⟩, ?_, ?_⟩
      · intro R K fuel m hfu hm hk
        obtain ⟨fuel, rfl⟩ : ∃ f, fuel = f + 1 := ⟨fuel - 1, by omega⟩
        rw [w_X2_loopWith_h7]
        refine pif_n (nI_ge (b := 601) (by omega) (by decide)) (pif_n (nI_neg (by omega)) ?_)
        rw [rat_n (i := v) (by omega) (by decide), m108, rat_n (i := z 1 v) (by omega) (by decide), m3, rat_n (i := z 1 v) (by omega) (by decide), m5]
        exact pif_p (by rw [← a2]; exact c.1) (pif_p c.2 hk)
      · intro C K fuel hfu hk
        obtain ⟨fuel, rfl⟩ : ∃ f, fuel = f + 2 := ⟨fuel - 2, by omega⟩
        obtain ⟨F, f64, u1, u2, u3⟩ := hup
        rw [w_X11_hasLoop_h10, nI_clamp (by omega), n64]
        refine ⟨vp_n a7 (by decide), pif_n (nI_neg (by omega)) (pif_p rfl ⟨vp_n a7 (by decide), vp_n (by omega) (by decide), ?_⟩)⟩
        rw [nI_clamp (by omega), n47]
        refine pif_p (by rw [← a2]; exact c.1) ⟨vp_n a7 (by decide), vp_n (by omega) (by decide), ?_⟩
        rw [n48]
        refine pif_p c.2 ?_
        unfold w_X11_hasLoop_j61
        refine ⟨vp_n a7 (by decide), ?_⟩
        rw [nI_clamp (by omega), n65, u1]
        show w_X11_hasLoop_h10 K (fuel + 1) (nI l) (nI F) 1 (mxw C Gr)
        rw [w_X11_hasLoop_h10, nI_clamp (by omega), u3]
        refine ⟨vp_n u2 (by decide), ⟨fun _ => ⟨bz_1, hk⟩, fun _ => pif_n (by decide) ⟨bz_1, hk⟩⟩⟩
    · by_cases cb : z 2 v = 0
      · obtain ⟨d1, d2, d3, d4⟩ := a9 cb
        rcases ih (z 3 v) (by omega) (by omega) with ⟨t, t1, t2, t3, t4⟩ | ⟨t3, t4⟩
        · left
          refine ⟨t, t1, ?_, ?_, ?_⟩
          · obtain ⟨n, w1, w2, w3⟩ := t2
            refine ⟨n + 1, fun j hj => ?_, w2, w3⟩
            cases j with
            | zero => exact ⟨c, cb⟩
            | succ j => exact w1 j (by omega)
          · intro R K fuel m hfu hm hk
            obtain ⟨fuel, rfl⟩ : ∃ f, fuel = f + 1 := ⟨fuel - 1, by omega⟩
            exact stC c _ R K fuel m (fun _ => d2) (fun q => absurd cb q) hm (t3 R K fuel (m + 1) (by omega) (by omega) hk)
          · intro C K fuel hfu hk
            obtain ⟨fuel, rfl⟩ : ∃ f, fuel = f + 1 := ⟨fuel - 1, by omega⟩
            exact stR c C K fuel (by rw [d3]; exact t4 C K fuel (by omega) hk)
        · right
          refine ⟨?_, ?_⟩
          · intro R K fuel m hfu hm hk
            obtain ⟨fuel, rfl⟩ : ∃ f, fuel = f + 1 := ⟨fuel - 1, by omega⟩
            exact stC c _ R K fuel m (fun _ => d2) (fun q => absurd cb q) hm (t3 R K fuel (m + 1) (by omega) (by omega) hk)
          · intro C K fuel hfu hk
            obtain ⟨fuel, rfl⟩ : ∃ f, fuel = f + 1 := ⟨fuel - 1, by omega⟩
            exact stR c C K fuel (by rw [d3]; exact t4 C K fuel (by omega) hk)
      · obtain ⟨d1, d2, d3, d4⟩ := a10 cb
        right
        refine ⟨?_, ?_⟩
        · intro R K fuel m hfu hm hk
          obtain ⟨fuel, rfl⟩ : ∃ f, fuel = f + 2 := ⟨fuel - 2, by omega⟩
          refine stC c (-1) R K (fuel + 1) m (fun q => absurd q cb) (fun _ => rfl) hm ?_
          rw [w_X2_loopWith_h7]
          exact pif_n (nI_ge (b := 601) (by omega) (by decide)) (pif_p rfl hk)
        · intro C K fuel hfu hk
          obtain ⟨fuel, rfl⟩ : ∃ f, fuel = f + 2 := ⟨fuel - 2, by omega⟩
          refine stR c C K (fuel + 1) ?_
          rw [d3, w_X11_hasLoop_h10, nI_clamp (by omega), show (mxw C Gr) 64 (z 6 v - 1) = -1 from by show Gr 64 _ = _; rw [r64]; exact d4]
          exact ⟨vp_n (by omega) (by decide), pif_p rfl ⟨bz_0, hk⟩⟩
/-- BREAK, NEXT at a frame -/
theorem lookT {N : Nat} {z : Zt} {G Gc Gr : Gt} {l u k : Nat} (hl : l < 4) (hF : frmz N z G) (hc : frc G Gc) (hr : frr G Gr) (hu : u < z 0 0) (hk : G 47 (z 1 u) = nI k) (hk40 : k < 40) (hk13 : ¬ k = 13) :
    (∃ t, t < z 0 0 ∧ z 2 u = 0 ∧ lW z G l (z 3 u) t ∧
      (∀ (R : Gt) (K : Int32 → Gt → Prop), K (nI t) (mxw Gc R) → (mxw Gc R) 84 11 = nI u → w_X2_loopWith K (nI l) (mxw Gc R)) ∧
      (∀ (C : Gt) (K : Int32 → Gt → Prop), K 1 (mxw C Gr) → w_X11_hasLoop K (nI (z 6 u)) (nI l) (mxw C Gr))) ∨
    ((∀ (R : Gt) (K : Int32 → Gt → Prop), K (-1) (mxw Gc R) → (mxw Gc R) 84 11 = nI u → w_X2_loopWith K (nI l) (mxw Gc R)) ∧
      (∀ (C : Gt) (K : Int32 → Gt → Prop), K 0 (mxw C Gr) → w_X11_hasLoop K (nI (z 6 u)) (nI l) (mxw C Gr))) := by
  have hF0 := hF
  obtain ⟨h600, hN, hF1⟩ := hF
  obtain ⟨a1, ⟨k', ak, a2⟩, a3, a4, a5, a6, a6', a7, a8, a9, a10⟩ := hF1 u hu
  have hnL : ¬ isL z G l u := by
    intro q
    have := (nI_eqL (w := k) (a := 13) (b := 13) rfl (by omega) (by decide)).mp (hk.symm.trans q.1)
    exact hk13 this
  have e65 : ∀ C, (mxw C Gr) 65 (z 6 u) = G 65 (z 6 u) := by intro C; show Gr 65 _ = _; rw [hr.2.2.2]
  by_cases cb : z 2 u = 0
  · obtain ⟨d1, d2, d3, d4⟩ := a9 cb
    rcases lookL hl hF0 hc hr (u + 1) (z 3 u) (by omega) (by omega) with ⟨t, t1, t2, t3, t4⟩ | ⟨t3, t4⟩
    · left
      refine ⟨t, t1, cb, t2, fun R K hk h11 => ⟨u + 3, ?_⟩, fun C K hk => ⟨vp_n a7 (by decide), u + 2, ?_⟩⟩
      · rw [h11]
        exact lookC hF0 hc hu hnL _ R K (u + 2) 0 (fun _ => d2) (fun q => absurd cb q) (by omega) (t3 R K (u + 2) 1 (by omega) (by omega) hk)
      · rw [nI_clamp (by omega), e65, d3]; exact t4 C K (u + 2) (by omega) hk
    · right
      refine ⟨fun R K hk h11 => ⟨u + 3, ?_⟩, fun C K hk => ⟨vp_n a7 (by decide), u + 2, ?_⟩⟩
      · rw [h11]
        exact lookC hF0 hc hu hnL _ R K (u + 2) 0 (fun _ => d2) (fun q => absurd cb q) (by omega) (t3 R K (u + 2) 1 (by omega) (by omega) hk)
      · rw [nI_clamp (by omega), e65, d3]; exact t4 C K (u + 2) (by omega) hk
  · obtain ⟨d1, d2, d3, d4⟩ := a10 cb
    right
    refine ⟨fun R K hk h11 => ⟨2, ?_⟩, fun C K hk => ⟨vp_n a7 (by decide), 1, ?_⟩⟩
    · rw [h11]
      refine lookC hF0 hc hu hnL (-1) R K 1 0 (fun q => absurd q cb) (fun _ => rfl) (by omega) ?_
      rw [w_X2_loopWith_h7]
      exact pif_n (nI_ge (b := 601) (by omega) (by decide)) (pif_p rfl hk)
    · rw [nI_clamp (by omega), e65, d3, w_X11_hasLoop_h10, nI_clamp (by omega), show (mxw C Gr) 64 (z 6 u - 1) = -1 from by show Gr 64 _ = _; rw [hr.2.2.1]; exact d4]
      exact ⟨vp_n (by omega) (by decide), pif_p rfl ⟨bz_0, hk⟩⟩
/-- the body of a frame -/
theorem lookB {N : Nat} {z : Zt} {G Gc Gr : Gt} (hF : frmz N z G) (hc : frc G Gc) (hr : frr G Gr) : ∀ b v, v < b → v < z 0 0 →
    z 8 v < z 0 0 ∧ ¬ z 2 (z 8 v) = 0 ∧
      (∀ (R : Gt) (K : Int32 → Gt → Prop) (fuel m : Nat), v + 2 ≤ fuel → m + v < 600 → K (nI (z 8 v)) (mxw Gc R) → w_X1_rootOf_h4 K fuel (nI v) (nI m) (mxw Gc R)) ∧
      (∀ (C : Gt) (K : Int32 → Gt → Prop) (fuel : Nat), v + 2 ≤ fuel → K (nI (z 6 (z 8 v) - 1)) (mxw C Gr) → w_X11_bodyOf_h2 K fuel (nI (z 6 v)) (mxw C Gr)) := by
  obtain ⟨h600, hN, hF⟩ := hF
  obtain ⟨c3, c5, c108, c110, c114⟩ := hc
  obtain ⟨r47, r48, r64, r65⟩ := hr
  intro b
  induction b with
  | zero => intro v hv; omega
  | succ b ih =>
    intro v hv hv2
    obtain ⟨a1, ⟨k, ak, a2⟩, a3, a4, a5, a6, a6', a7, a8, a9, a10⟩ := hF v hv2
    have m114 : ∀ R, (mxw Gc R) 114 v = nI (z 2 v) := by intro R; show Gc 114 v = _; rw [c114]; exact a6
    have m110 : ∀ R, (mxw Gc R) 110 v = G 110 v := by intro R; show Gc 110 v = _; rw [c110]
    have n64 : ∀ C, (mxw C Gr) 64 (z 6 v) = nI (z 1 v) := by intro C; show Gr 64 _ = _; rw [r64]; exact a8
    have n65 : ∀ C, (mxw C Gr) 65 (z 6 v) = G 65 (z 6 v) := by intro C; show Gr 65 _ = _; rw [r65]
    have bz0 : nI (z 2 v) = 0 ↔ z 2 v = 0 := nI_eqL (b := 0) rfl (by omega) (by decide)
    by_cases cb : z 2 v = 0
    · obtain ⟨d1, d2, d3, d4⟩ := a9 cb
      obtain ⟨i1, i2, i3, i4⟩ := ih (z 3 v) (by omega) (by omega)
      rw [d4]
      refine ⟨i1, i2, ?_, ?_⟩
      · intro R K fuel m hfu hm hk
        obtain ⟨fuel, rfl⟩ : ∃ f, fuel = f + 1 := ⟨fuel - 1, by omega⟩
        rw [w_X1_rootOf_h4]
        refine pif_n (nI_ge (b := 601) (by omega) (by decide)) ?_
        rw [rat_n (i := v) (by omega) (by decide), m114, rat_n (i := v) (by omega) (by decide), m110, d2, nI_1]
        exact pif_p (bz0.mpr cb) (i3 R K fuel (m + 1) (by omega) (by omega) hk)
      · intro C K fuel hfu hk
        obtain ⟨fuel, rfl⟩ : ∃ f, fuel = f + 1 := ⟨fuel - 1, by omega⟩
        rw [w_X11_bodyOf_h2, nI_clamp (by omega), n64, n65, d3]
        exact ⟨vp_n a7 (by decide), pif_n (nI_neg (by omega)) ⟨vp_n a7 (by decide), i4 C K fuel (by omega) hk⟩⟩
    · obtain ⟨d1, d2, d3, d4⟩ := a10 cb
      rw [d1]
      refine ⟨hv2, cb, ?_, ?_⟩
      · intro R K fuel m hfu hm hk
        obtain ⟨fuel, rfl⟩ : ∃ f, fuel = f + 1 := ⟨fuel - 1, by omega⟩
        rw [w_X1_rootOf_h4]
        refine pif_n (nI_ge (b := 601) (by omega) (by decide)) ?_
        rw [rat_n (i := v) (by omega) (by decide), m114]
        exact pif_n (fun q => cb (bz0.mp q)) hk
      · intro C K fuel hfu hk
        obtain ⟨fuel, rfl⟩ : ∃ f, fuel = f + 2 := ⟨fuel - 2, by omega⟩
        rw [w_X11_bodyOf_h2, nI_clamp (by omega), n64, n65, d3]
        refine ⟨vp_n a7 (by decide), pif_n (nI_neg (by omega)) ⟨vp_n a7 (by decide), ?_⟩⟩
        rw [w_X11_bodyOf_h2, nI_clamp (by omega), show (mxw C Gr) 64 (z 6 v - 1) = -1 from by show Gr 64 _ = _; rw [r64]; exact d4]
        exact ⟨vp_n (by omega) (by decide), pif_p rfl hk⟩
/-- whether a body can rest -/
theorem lookY1 {N : Nat} {z : Zt} {G Gr : Gt} (hF : frmz N z G) (hr : frr G Gr) : ∀ b v, v < b → v < z 0 0 → ∀ (C : Gt) (K : Int32 → Gt → Prop) (fuel : Nat), v + 2 ≤ fuel → K 1 (mxw C Gr) → w_X11_isBound_h9 K fuel (nI (z 6 v)) 1 (mxw C Gr) := by
  obtain ⟨h600, hN, hF⟩ := hF
  obtain ⟨r47, r48, r64, r65⟩ := hr
  intro b
  induction b with
  | zero => intro v hv; omega
  | succ b ih =>
    intro v hv hv2 C K fuel hfu hk
    obtain ⟨a1, ⟨k, ak, a2⟩, a3, a4, a5, a6, a6', a7, a8, a9, a10⟩ := hF v hv2
    have n64 : (mxw C Gr) 64 (z 6 v) = nI (z 1 v) := by show Gr 64 _ = _; rw [r64]; exact a8
    have n65 : (mxw C Gr) 65 (z 6 v) = G 65 (z 6 v) := by show Gr 65 _ = _; rw [r65]
    obtain ⟨fuel, rfl⟩ : ∃ f, fuel = f + 2 := ⟨fuel - 2, by omega⟩
    rw [w_X11_isBound_h9, nI_clamp (by omega), n64]
    refine ⟨vp_n a7 (by decide), pif_n (nI_neg (by omega)) (pif_n (by decide) ?_)⟩
    unfold w_X11_isBound_j65 w_X11_isBound_j70
    refine ⟨vp_n a7 (by decide), ?_⟩
    rw [nI_clamp (by omega), n65]
    by_cases cb : z 2 v = 0
    · obtain ⟨d1, d2, d3, d4⟩ := a9 cb
      rw [d3]
      exact ih (z 3 v) (by omega) (by omega) C K (fuel + 1) (by omega) hk
    · obtain ⟨d1, d2, d3, d4⟩ := a10 cb
      rw [d3, w_X11_isBound_h9, nI_clamp (by omega), show (mxw C Gr) 64 (z 6 v - 1) = -1 from by show Gr 64 _ = _; rw [r64]; exact d4]
      exact ⟨vp_n (by omega) (by decide), pif_p rfl ⟨bz_1, hk⟩⟩
theorem lookY {N : Nat} {z : Zt} {G Gc Gr : Gt} (hF : frmz N z G) (hc : frc G Gc) (hr : frr G Gr) (e124 : Gc 124 = G 124) (e67 : Gr 67 = G 67) (hH : qH z G) (hI : qI z) (hT : qT z G) (hm : z 0 0 ≤ z 0 8) : ∀ b v, v < b → v < z 0 0 → (z 9 v = 1 ∨ z 9 v = 2) →
    ((∀ (R : Gt) (K : Int32 → Gt → Prop) (fuel m : Nat), v + 2 ≤ fuel → m + v < 600 → K 1 (mxw Gc R) → w_X2_isBarred_h7 K fuel (nI v) (nI m) (mxw Gc R)) ∧
      (∀ (C : Gt) (K : Int32 → Gt → Prop) (fuel : Nat), v + 2 ≤ fuel → K 1 (mxw C Gr) → w_X11_isBound_h9 K fuel (nI (z 6 v)) 0 (mxw C Gr))) ∨
    ((if G 47 (z 1 v) = 26 ∧ z 9 v = 2 then v + 1 else z 22 v) = 0 ∧
      (∀ (R : Gt) (K : Int32 → Gt → Prop) (fuel m : Nat), v + 2 ≤ fuel → m + v < 600 → K 0 (mxw Gc R) → w_X2_isBarred_h7 K fuel (nI v) (nI m) (mxw Gc R)) ∧
      (∀ (C : Gt) (K : Int32 → Gt → Prop) (fuel : Nat), v + 2 ≤ fuel → K 0 (mxw C Gr) → w_X11_isBound_h9 K fuel (nI (z 6 v)) 0 (mxw C Gr))) := by
  have hF0 := hF
  obtain ⟨h600, hN, hF⟩ := hF
  have hr0 := hr
  obtain ⟨c3, c5, c108, c110, c114⟩ := hc
  obtain ⟨r47, r48, r64, r65⟩ := hr
  intro b
  induction b with
  | zero => intro v hv; omega
  | succ b ih =>
    intro v hv hv2 hph
    obtain ⟨a1, ⟨k, ak, a2⟩, a3, a4, a5, a6, a6', a7, a8, a9, a10⟩ := hF v hv2
    have m108 : ∀ R, (mxw Gc R) 108 v = nI (z 1 v) := by intro R; show Gc 108 v = _; rw [c108]; exact a5
    have m3 : ∀ R, (mxw Gc R) 3 (z 1 v) = nI k := by intro R; show Gc 3 _ = _; rw [c3, a3]; exact a2
    have m114 : ∀ R, (mxw Gc R) 114 v = nI (z 2 v) := by intro R; show Gc 114 v = _; rw [c114]; exact a6
    have m110 : ∀ R, (mxw Gc R) 110 v = G 110 v := by intro R; show Gc 110 v = _; rw [c110]
    have m124 : ∀ R, (mxw Gc R) 124 v = G 124 v := by intro R; show Gc 124 v = _; rw [e124]
    have n64 : ∀ C, (mxw C Gr) 64 (z 6 v) = nI (z 1 v) := by intro C; show Gr 64 _ = _; rw [r64]; exact a8
    have n47 : ∀ C, (mxw C Gr) 47 (z 1 v) = nI k := by intro C; show Gr 47 _ = _; rw [r47]; exact a2
    have n65 : ∀ C, (mxw C Gr) 65 (z 6 v) = G 65 (z 6 v) := by intro C; show Gr 65 _ = _; rw [r65]
    have n67 : ∀ C, (mxw C Gr) 67 (z 6 v) = G 67 (z 6 v) := by intro C; show Gr 67 _ = _; rw [e67]
    have k36 : nI k = 36 ↔ k = 36 := nI_eqL rfl (by omega) (by decide)
    have k26 : nI k = 26 ↔ k = 26 := nI_eqL rfl (by omega) (by decide)
    have bz0 : nI (z 2 v) = 0 ↔ z 2 v = 0 := nI_eqL (b := 0) rfl (by omega) (by decide)
    obtain ⟨k', e', w1, w2, w3, w4, w5, w6, w7, x1, -, -, x4, -⟩ := hH v hv2 (by omega) (by omega)
    have ek : k' = k := (nI_eq (by omega) (by omega)).mp (w3.symm.trans a2)
    subst ek
    have upR : ∀ (C : Gt) (K : Int32 → Gt → Prop) (fuel : Nat), v + 1 ≤ fuel → K 1 (mxw C Gr) → w_X11_isBound_h9 K fuel (G 65 (z 6 v)) 1 (mxw C Gr) := by
      intro C K fuel hfu hk
      by_cases cb : z 2 v = 0
      · obtain ⟨d1, d2, d3, d4⟩ := a9 cb
        rw [d3]
        exact lookY1 hF0 hr0 v (z 3 v) d1 (by omega) C K fuel (by omega) hk
      · obtain ⟨d1, d2, d3, d4⟩ := a10 cb
        obtain ⟨fuel, rfl⟩ : ∃ f, fuel = f + 1 := ⟨fuel - 1, by omega⟩
        rw [d3, w_X11_isBound_h9, nI_clamp (by omega), show (mxw C Gr) 64 (z 6 v - 1) = -1 from by show Gr 64 _ = _; rw [r64]; exact d4]
        exact ⟨vp_n (by omega) (by decide), pif_p rfl ⟨bz_1, hk⟩⟩
    by_cases c36 : k' = 36
    · left
      constructor
      · intro R K fuel m hfu hm' hk
        obtain ⟨fuel, rfl⟩ : ∃ f, fuel = f + 1 := ⟨fuel - 1, by omega⟩
        rw [w_X2_isBarred_h7, rat_n (i := v) (by omega) (by decide), m108, rat_n (i := z 1 v) (by omega) (by decide), m3]
        exact pif_n (nI_ge (b := 601) (by omega) (by decide)) (pif_n (nI_neg (by omega)) (pif_p (k36.mpr c36) hk))
      · intro C K fuel hfu hk
        obtain ⟨fuel, rfl⟩ : ∃ f, fuel = f + 1 := ⟨fuel - 1, by omega⟩
        rw [w_X11_isBound_h9, nI_clamp (by omega), n64, nI_clamp (by omega), n47]
        refine ⟨vp_n a7 (by decide), pif_n (nI_neg (by omega)) (pif_p rfl ⟨vp_n a7 (by decide), vp_n (by omega) (by decide), pif_p (k36.mpr c36) ?_⟩)⟩
        unfold w_X11_isBound_j65 w_X11_isBound_j70
        rw [nI_clamp (by omega), n65]
        exact ⟨vp_n a7 (by decide), upR C K fuel (by omega) hk⟩
    · by_cases c26 : k' = 26 ∧ z 9 v = 2
      · left
        obtain ⟨d1, d2⟩ := c26
        have h124 : G 124 v = 1 := (x4 d1).2 d2
        have h67 : G 67 (z 6 v) = 1 := x1.2 d2
        constructor
        · intro R K fuel m hfu hm' hk
          obtain ⟨fuel, rfl⟩ : ∃ f, fuel = f + 1 := ⟨fuel - 1, by omega⟩
          rw [w_X2_isBarred_h7, rat_n (i := v) (by omega) (by decide), m108, rat_n (i := z 1 v) (by omega) (by decide), m3, rat_n (i := v) (by omega) (by decide), m124]
          exact pif_n (nI_ge (b := 601) (by omega) (by decide)) (pif_n (nI_neg (by omega)) (pif_n (fun q => c36 (k36.mp q)) (pif_p (k26.mpr d1) (pif_p h124 hk))))
        · intro C K fuel hfu hk
          obtain ⟨fuel, rfl⟩ : ∃ f, fuel = f + 1 := ⟨fuel - 1, by omega⟩
          rw [w_X11_isBound_h9, nI_clamp (by omega), n64, nI_clamp (by omega), n47, n67]
          refine ⟨vp_n a7 (by decide), pif_n (nI_neg (by omega)) (pif_p rfl ⟨vp_n a7 (by decide), vp_n (by omega) (by decide), pif_n (fun q => c36 (k36.mp q)) ⟨vp_n a7 (by decide), vp_n (by omega) (by decide), pif_p (k26.mpr d1) ⟨vp_n a7 (by decide), pif_p h67 ?_⟩⟩⟩)⟩
          unfold w_X11_isBound_j65 w_X11_isBound_j70
          rw [nI_clamp (by omega), n65]
          exact ⟨vp_n a7 (by decide), upR C K fuel (by omega) hk⟩
      · have hcO : ¬ (G 47 (z 1 v) = 26 ∧ z 9 v = 2) := fun q => c26 ⟨k26.mp (by rw [← a2]; exact q.1), q.2⟩
        have h1 : k' = 26 → ¬ G 124 v = 1 ∧ ¬ G 67 (z 6 v) = 1 := by
          intro q
          have p1 : z 9 v = 1 := by
            rcases hph with p | p
            · exact p
            · exact absurd ⟨q, p⟩ c26
          rw [(x4 q).1 p1, x1.1 p1 (by omega)]
          decide
        have stC : ∀ (y : Int32) (R : Gt) (K : Int32 → Gt → Prop) (fuel m : Nat), (z 2 v = 0 → G 110 v = y) → (¬ z 2 v = 0 → y = -1) → m + v < 600 → w_X2_isBarred_h7 K fuel y (nI (m + 1)) (mxw Gc R) → w_X2_isBarred_h7 K (fuel + 1) (nI v) (nI m) (mxw Gc R) := by
          intro y R K fuel m h1' h2 hm' hk
          rw [w_X2_isBarred_h7, rat_n (i := v) (by omega) (by decide), m108, rat_n (i := z 1 v) (by omega) (by decide), m3, rat_n (i := v) (by omega) (by decide), m124]
          have go : w_X2_isBarred_j70 K (fun z0 z1 z2 => w_X2_isBarred_h7 K fuel z0 z1 z2) (nI v) (nI m) (mxw Gc R) := by
            unfold w_X2_isBarred_j70 w_X2_isBarred_j99
            rw [rat_n (i := v) (by omega) (by decide), m114, rat_n (i := v) (by omega) (by decide), m110, nI_1]
            by_cases c : z 2 v = 0
            · refine pif_p (bz0.mpr c) ?_
              rw [h1' c]; exact hk
            · refine pif_n (fun q => c (bz0.mp q)) ?_
              rw [← h2 c]; exact hk
          refine pif_n (nI_ge (b := 601) (by omega) (by decide)) (pif_n (nI_neg (by omega)) (pif_n (fun q => c36 (k36.mp q)) ?_))
          by_cases c : k' = 26
          · exact pif_p (k26.mpr c) (pif_n (h1 c).1 go)
          · exact pif_n (fun q => c (k26.mp q)) go
        have stR : ∀ (C : Gt) (K : Int32 → Gt → Prop) (fuel : Nat), w_X11_isBound_h9 K fuel (G 65 (z 6 v)) 0 (mxw C Gr) → w_X11_isBound_h9 K (fuel + 1) (nI (z 6 v)) 0 (mxw C Gr) := by
          intro C K fuel hk
          rw [w_X11_isBound_h9, nI_clamp (by omega), n64, nI_clamp (by omega), n47, n67]
          have go : w_X11_isBound_j69 K (fun z0 z1 z2 => w_X11_isBound_h9 K fuel z0 z1 z2) (nI (z 6 v)) (mxw C Gr) := by
            unfold w_X11_isBound_j69 w_X11_isBound_j70
            rw [nI_clamp (by omega), n65]
            exact ⟨vp_n a7 (by decide), hk⟩
          refine ⟨vp_n a7 (by decide), pif_n (nI_neg (by omega)) (pif_p rfl ⟨vp_n a7 (by decide), vp_n (by omega) (by decide), pif_n (fun q => c36 (k36.mp q)) ⟨vp_n a7 (by decide), vp_n (by omega) (by decide), ?_⟩⟩)⟩
          by_cases c : k' = 26
          · exact pif_p (k26.mpr c) ⟨vp_n a7 (by decide), pif_n (h1 c).2 go⟩
          · exact pif_n (fun q => c (k26.mp q)) go
        have hT1 := hT.1 v (by omega) (by omega)
        by_cases cb : z 2 v = 0
        · obtain ⟨d1, d2, d3, d4⟩ := a9 cb
          have hI1 := ((hI v (by omega) (by omega)).1 cb).1
          rcases ih (z 3 v) (by omega) (by omega) hI1 with ⟨t3, t4⟩ | ⟨t0, t3, t4⟩
          · left
            constructor
            · intro R K fuel m hfu hm' hk
              obtain ⟨fuel, rfl⟩ : ∃ f, fuel = f + 1 := ⟨fuel - 1, by omega⟩
              exact stC _ R K fuel m (fun _ => d2) (fun q => absurd cb q) hm' (t3 R K fuel (m + 1) (by omega) (by omega) hk)
            · intro C K fuel hfu hk
              obtain ⟨fuel, rfl⟩ : ∃ f, fuel = f + 1 := ⟨fuel - 1, by omega⟩
              exact stR C K fuel (by rw [d3]; exact t4 C K fuel (by omega) hk)
          · right
            refine ⟨?_, ?_, ?_⟩
            · rw [if_neg hcO, hT1.1 cb]; exact t0
            · intro R K fuel m hfu hm' hk
              obtain ⟨fuel, rfl⟩ : ∃ f, fuel = f + 1 := ⟨fuel - 1, by omega⟩
              exact stC _ R K fuel m (fun _ => d2) (fun q => absurd cb q) hm' (t3 R K fuel (m + 1) (by omega) (by omega) hk)
            · intro C K fuel hfu hk
              obtain ⟨fuel, rfl⟩ : ∃ f, fuel = f + 1 := ⟨fuel - 1, by omega⟩
              exact stR C K fuel (by rw [d3]; exact t4 C K fuel (by omega) hk)
        · obtain ⟨d1, d2, d3, d4⟩ := a10 cb
          right
          refine ⟨?_, ?_, ?_⟩
          · rw [if_neg hcO]; exact (hT1.2 cb).1
          · intro R K fuel m hfu hm' hk
            obtain ⟨fuel, rfl⟩ : ∃ f, fuel = f + 2 := ⟨fuel - 2, by omega⟩
            refine stC (-1) R K (fuel + 1) m (fun q => absurd q cb) (fun _ => rfl) hm' ?_
            rw [w_X2_isBarred_h7]
            exact pif_n (nI_ge (b := 601) (by omega) (by decide)) (pif_p rfl hk)
          · intro C K fuel hfu hk
            obtain ⟨fuel, rfl⟩ : ∃ f, fuel = f + 2 := ⟨fuel - 2, by omega⟩
            refine stR C K (fuel + 1) ?_
            rw [d3, w_X11_isBound_h9, nI_clamp (by omega), show (mxw C Gr) 64 (z 6 v - 1) = -1 from by show Gr 64 _ = _; rw [r64]; exact d4]
            exact ⟨vp_n (by omega) (by decide), pif_p rfl ⟨bz_0, hk⟩⟩
theorem lookZ {N : Nat} {z : Zt} {G Gc Gr : Gt} {u : Nat} (hF : frmz N z G) (hc : frc G Gc) (hr : frr G Gr) (e124 : Gc 124 = G 124) (e67 : Gr 67 = G 67) (hH : qH z G) (hI : qI z) (hT : qT z G) (hm : z 0 0 ≤ z 0 8) (hu : u < z 0 0) (hl : ¬ z 9 u = 0) (hk : G 47 (z 1 u) = nI 24) :
    ((∀ (R : Gt) (K : Int32 → Gt → Prop), K 1 (mxw Gc R) → (mxw Gc R) 84 11 = nI u → w_X2_isBarred K (mxw Gc R)) ∧
      (∀ (C : Gt) (K : Int32 → Gt → Prop), K 1 (mxw C Gr) → w_X11_isBound K (nI (z 6 u)) (mxw C Gr))) ∨
    (z 22 u = 0 ∧ (∀ (R : Gt) (K : Int32 → Gt → Prop), K 0 (mxw Gc R) → (mxw Gc R) 84 11 = nI u → w_X2_isBarred K (mxw Gc R)) ∧
      (∀ (C : Gt) (K : Int32 → Gt → Prop), K 0 (mxw C Gr) → w_X11_isBound K (nI (z 6 u)) (mxw C Gr))) := by
  have hF0 := hF
  obtain ⟨h600, hN, hF1⟩ := hF
  obtain ⟨a1, ⟨k, ak, a2⟩, a3, a4, a5, a6, a6', a7, a8, a9, a10⟩ := hF1 u hu
  have m108 : ∀ R, (mxw Gc R) 108 u = nI (z 1 u) := by intro R; show Gc 108 u = _; rw [hc.2.2.1]; exact a5
  have m3 : ∀ R, (mxw Gc R) 3 (z 1 u) = nI 24 := by intro R; show Gc 3 _ = _; rw [hc.1, a3]; exact hk
  have m114 : ∀ R, (mxw Gc R) 114 u = nI (z 2 u) := by intro R; show Gc 114 u = _; rw [hc.2.2.2.2]; exact a6
  have m110 : ∀ R, (mxw Gc R) 110 u = G 110 u := by intro R; show Gc 110 u = _; rw [hc.2.2.2.1]
  have e65 : ∀ C, (mxw C Gr) 65 (z 6 u) = G 65 (z 6 u) := by intro C; show Gr 65 _ = _; rw [hr.2.2.2]
  have bz0 : nI (z 2 u) = 0 ↔ z 2 u = 0 := nI_eqL (b := 0) rfl (by omega) (by decide)
  have stC : ∀ (y : Int32) (R : Gt) (K : Int32 → Gt → Prop) (fuel : Nat), (z 2 u = 0 → G 110 u = y) → (¬ z 2 u = 0 → y = -1) → (mxw Gc R) 84 11 = nI u → w_X2_isBarred_h7 K fuel y (nI 1) (mxw Gc R) → w_X2_isBarred K (mxw Gc R) := by
    intro y R K fuel h1 h2 h11 hk'
    refine ⟨fuel + 1, ?_⟩
    rw [h11, w_X2_isBarred_h7, rat_n (i := u) (by omega) (by decide), m108, rat_n (i := z 1 u) (by omega) (by decide), m3]
    refine pif_n (by decide) (pif_n (nI_neg (by omega)) (pif_n (by decide) (pif_n (by decide) ?_)))
    unfold w_X2_isBarred_j70 w_X2_isBarred_j99
    rw [rat_n (i := u) (by omega) (by decide), m114, rat_n (i := u) (by omega) (by decide), m110]
    by_cases c : z 2 u = 0
    · refine pif_p (bz0.mpr c) ?_
      rw [h1 c]; exact hk'
    · refine pif_n (fun q => c (bz0.mp q)) ?_
      rw [← h2 c]; exact hk'
  have hT1 := hT.1 u (by omega) hl
  by_cases cb : z 2 u = 0
  · obtain ⟨d1, d2, d3, d4⟩ := a9 cb
    have hI1 := ((hI u (by omega) hl).1 cb).1
    rcases lookY hF0 hc hr e124 e67 hH hI hT hm (u + 1) (z 3 u) (by omega) (by omega) hI1 with ⟨t3, t4⟩ | ⟨t0, t3, t4⟩
    · left
      refine ⟨fun R K hk h11 => stC _ R K (u + 2) (fun _ => d2) (fun q => absurd cb q) h11 (t3 R K (u + 2) 1 (by omega) (by omega) hk), fun C K hk => ⟨vp_n a7 (by decide), u + 2, ?_⟩⟩
      rw [nI_clamp (by omega), e65, d3]; exact t4 C K (u + 2) (by omega) hk
    · right
      refine ⟨by rw [hT1.1 cb]; exact t0, fun R K hk h11 => stC _ R K (u + 2) (fun _ => d2) (fun q => absurd cb q) h11 (t3 R K (u + 2) 1 (by omega) (by omega) hk), fun C K hk => ⟨vp_n a7 (by decide), u + 2, ?_⟩⟩
      rw [nI_clamp (by omega), e65, d3]; exact t4 C K (u + 2) (by omega) hk
  · obtain ⟨d1, d2, d3, d4⟩ := a10 cb
    right
    refine ⟨(hT1.2 cb).1, fun R K hk h11 => stC (-1) R K 1 (fun q => absurd q cb) (fun _ => rfl) h11 ?_, fun C K hk => ⟨vp_n a7 (by decide), 1, ?_⟩⟩
    · rw [w_X2_isBarred_h7]
      exact pif_n (by decide) (pif_p rfl hk)
    · rw [nI_clamp (by omega), e65, d3, w_X11_isBound_h9, nI_clamp (by omega), show (mxw C Gr) 64 (z 6 u - 1) = -1 from by show Gr 64 _ = _; rw [hr.2.2.1]; exact d4]
      exact ⟨vp_n (by omega) (by decide), pif_p rfl ⟨bz_0, hk⟩⟩
