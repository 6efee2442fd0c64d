/-! A SLOT IS CALLED -/
def oIv (u pr a : Nat) (G : Gt) : Gt := if 2 ≤ pr then gu G 84 16 (if a = 2 then G 84 16 else 0) else gu (gu G 84 16 (if a = 2 then G 84 16 else 0)) 116 u (G 116 u + 1)
def cqc (S u l : Nat) (f1 : Int32) (pr : Nat) (G : Gt) : Gt := if pr = 0 then gu (gu (oOp S (-1) G) 124 u (nI S)) 126 u (nI l) else gu (gu (gu (oOp S (-1) G) 124 u (nI S)) 126 u (nI l)) 133 (8 * S) f1
def cqr (s f : Nat) (f1 : Int32) (pr : Nat) (G : Gt) : Gt := if pr = 0 then gu (oOr s (-1) G) 69 f (nI s) else gu (gu (oOr s (-1) G) 69 f (nI s)) 72 (8 * s) f1
theorem nI_leL {w a : Nat} {b : Int32} (e : b = nI a) (hw : w < 2 ^ 31) (ha : a < 2 ^ 31) : nI w ≤ b ↔ w ≤ a := by rw [e]; exact nI_leI hw ha
theorem nI_leR {w a : Nat} {b : Int32} (e : b = nI a) (hw : w < 2 ^ 31) (ha : a < 2 ^ 31) : b ≤ nI w ↔ a ≤ w := by rw [e]; exact nI_leI ha hw
theorem k_178 {K : Gt → Prop} {G R : Gt} {u pr a : Nat} (hu : G 84 11 = nI u) (hu6 : u < 601) (ha : a ≤ 2) (hpr : pr ≤ 2) (h : K (mxw (oIv u pr a G) R)) : w_X2_invoke_j178 K (nI a) (nI pr) (mxw G R) := by
  have hv : ∀ y : Int32, y = (if a = 2 then G 84 16 else 0) → w_X2_invoke_j192 K (nI pr) y (mxw G R) := by
    intro y hy
    unfold w_X2_invoke_j192 w_X2_invoke_j220
    refine ptc rfl ?_
    have q := nI_leR (w := pr) (a := 2) (b := 2) rfl (by omega) (by decide)
    unfold oIv at h
    rw [← hy] at h
    by_cases c : 2 ≤ pr
    · rw [if_pos c] at h
      exact pif_p (q.mpr c) h
    · rw [if_neg c] at h
      refine pif_n (fun z => c (q.mp z)) ?_
      rw [rat_u (G := gu G 84 16 y) hu hu6]
      exact k_jump (G := gu G 84 16 y) hu hu6 h
  unfold w_X2_invoke_j178
  have q := nI_eqL (w := a) (a := 2) (b := 2) rfl (by omega) (by decide)
  by_cases c : a = 2
  · exact pif_p (q.mpr c) (hv _ (by rw [if_pos c]; rfl))
  · exact pif_n (fun z => c (q.mp z)) (hv _ (by rw [if_neg c]))
theorem k_139 {K : Gt → Prop} {G R : Gt} {u pr a l S n : Nat} (hu : G 84 11 = nI u) (hu6 : u < 601) (ha : a ≤ 2) (hpr : pr ≤ 2) (hl : l < 6) (hn : G 84 10 = nI n) (hn6 : n < 601) (hstd : ∀ y, pr = 2 → a < 2 → G 39 l = nI y → y < 120 → K (mxw (oBg n (nI u) (nI y) (nI S) 2 (G 13 y) G) R)) (h39 : G 39 l = -1 ∨ ∃ y, y < 120 ∧ G 39 l = nI y) (hgo : ¬ (pr = 2 ∧ a < 2 ∧ ¬ G 39 l = -1) → K (mxw (oIv u pr a G) R)) : w_X2_invoke_j139 K (nI l) (nI a) (nI pr) (nI S) (mxw G R) := by
  unfold w_X2_invoke_j139
  rw [rat_n hl (by decide), show (mxw G R) 39 l = G 39 l from rfl]
  have q := nI_eqL (w := pr) (a := 2) (b := 2) rfl (by omega) (by decide)
  have q2 := nI_leR (w := a) (a := 2) (b := 2) rfl (by omega) (by decide)
  by_cases c : pr = 2
  · refine pif_p (q.mpr c) ?_
    by_cases c2 : 2 ≤ a
    · exact pif_p (q2.mpr c2) (k_178 hu hu6 ha hpr (hgo (fun z => by omega)))
    · refine pif_n (fun z => c2 (q2.mp z)) ?_
      by_cases c3 : G 39 l = -1
      · exact pif_p c3 (k_178 hu hu6 ha hpr (hgo (fun z => z.2.2 c3)))
      · refine pif_n c3 ?_
        rcases h39 with e | ⟨y, hy, e⟩
        · exact absurd e c3
        · rw [e]
          exact k_begin (u := nI u) hn hn6 hy hu (hstd y c (by omega) e hy)
  · exact pif_n (fun z => c (q.mp z)) (k_178 hu hu6 ha hpr (hgo (fun z => c z.1)))
theorem k_inv {K : Gt → Prop} {G R : Gt} {u l a pr S n : Nat} {f1 : Int32} (hu : G 84 11 = nI u) (hu6 : u < 601) (hl : l < 6) (ha : a ≤ 2) (h35 : ¬ G 35 l = -1) (h37 : G 37 l = nI pr) (hpr : pr ≤ 2) (hap : a ≤ pr) (h129 : G 129 2 = nI S) (hS : S < 1210) (hn : G 84 10 = nI n) (hn6 : n < 601) (hf1 : f1 = if a = 2 then G 122 u else if a = 1 then G 84 16 else 0)
    (hstd : ∀ y, pr = 2 → a < 2 → G 39 l = nI y → y < 120 → K (mxw (oBg n (nI u) (nI y) (nI S) 2 (G 13 y) (cqc S u l f1 pr G)) R)) (h39 : G 39 l = -1 ∨ ∃ y, y < 120 ∧ G 39 l = nI y) (hgo : ¬ (pr = 2 ∧ a < 2 ∧ ¬ G 39 l = -1) → K (mxw (oIv u pr a (cqc S u l f1 pr G)) R)) : w_X2_invoke K (nI l) (nI a) (mxw G R) := by
  unfold w_X2_invoke
  rw [rat_n hl (by decide), show (mxw G R) 35 l = G 35 l from rfl, rat_n hl (by decide), show (mxw G R) 37 l = nI pr from h37]
  refine pif_n h35 (pif_p (nI_le hap (by omega)) (k_open h129 hS ?_))
  refine pcp (i := u) hu hu6 (by decide) rfl ?_
  refine pcp (i := u) hu hu6 (by decide) rfl ?_
  have qz := nI_leL (w := pr) (a := 0) (b := 0) rfl (by omega) (by decide)
  by_cases c : pr = 0
  · subst c
    refine pif_p (qz.mpr (Nat.le_refl _)) ?_
    exact k_139 (G := cqc S u l f1 0 G) hu hu6 ha hpr hl hn hn6 hstd h39 hgo
  · refine pif_n (fun z => c (by have := qz.mp z; omega)) ?_
    have hv : ∀ y : Int32, (¬ a = 2 → y = f1) → w_X2_invoke_j103 K (nI l) (nI a) (nI pr) (nI S) y (mxw (gu (gu (oOp S (-1) G) 124 u (nI S)) 126 u (nI l)) R) := by
      intro y hy
      have hb : w_X2_invoke_j136 K (nI l) (nI a) (nI pr) (nI S) (nI S) 0 f1 (mxw (gu (gu (oOp S (-1) G) 124 u (nI S)) 126 u (nI l)) R) := by
        refine k_bind (G := gu (gu (oOp S (-1) G) 124 u (nI S)) 126 u (nI l)) (k := 0) hS (by decide) ?_
        have ec : cqc S u l f1 pr G = gu (gu (gu (oOp S (-1) G) 124 u (nI S)) 126 u (nI l)) 133 (8 * S + 0) f1 := by
          unfold cqc; rw [if_neg c]; rfl
        rw [← ec]
        refine k_139 (G := cqc S u l f1 pr G) ?_ hu6 ha hpr hl ?_ hn6 ?_ ?_ ?_
        · rw [ec]; exact hu
        · rw [ec]; exact hn
        · intro y' h1 h2 h3 h4
          have h3' : G 39 l = nI y' := by rw [ec] at h3; exact h3
          have := hstd y' h1 h2 h3' h4
          have e13 : (cqc S u l f1 pr G) 13 y' = G 13 y' := by rw [ec]; rfl
          rw [e13]; exact this
        · rw [ec]; exact h39
        · intro h1
          exact hgo (by rw [ec] at h1; exact h1)
      have q := nI_eqL (w := a) (a := 2) (b := 2) rfl (by omega) (by decide)
      by_cases c2 : a = 2
      · refine pif_p (q.mpr c2) ?_
        rw [rat_u (G := gu (gu (oOp S (-1) G) 124 u (nI S)) 126 u (nI l)) hu hu6]
        have e2 : (mxw (gu (gu (oOp S (-1) G) 124 u (nI S)) 126 u (nI l)) R) 122 u = f1 := by rw [hf1, if_pos c2]; rfl
        rw [e2]; exact hb
      · refine pif_n (fun z => c2 (q.mp z)) ?_
        rw [hy c2]; exact hb
    have q1 := nI_eqL (w := a) (a := 1) (b := 1) rfl (by omega) (by decide)
    by_cases c1 : a = 1
    · refine pif_p (q1.mpr c1) (hv _ (fun c2 => ?_))
      rw [hf1, if_neg c2, if_pos c1]; rfl
    · refine pif_n (fun z => c1 (q1.mp z)) (hv _ (fun c2 => ?_))
      rw [hf1, if_neg c2, if_neg c1]
theorem k_inv_n {K : Gt → Prop} {G R : Gt} {u l a pr : Nat} {er : Int32} (hu : G 84 11 = nI u) (hu6 : u < 601) (hl : l < 6) (ha : a ≤ 2) (h37 : G 37 l = nI pr) (hpr : pr ≤ 2) (her : (G 35 l = -1 ∧ er = -1) ∨ (¬ G 35 l = -1 ∧ pr < a ∧ er = -3)) (h : K (mxw (oFl u er G) R)) : w_X2_invoke K (nI l) (nI a) (mxw G R) := by
  unfold w_X2_invoke
  rw [rat_n hl (by decide), show (mxw G R) 35 l = G 35 l from rfl, rat_n hl (by decide), show (mxw G R) 37 l = nI pr from h37]
  rcases her with ⟨e1, rfl⟩ | ⟨e1, e2, rfl⟩
  · exact pif_p e1 (k_fail hu hu6 h)
  · refine pif_n e1 (pif_n (fun z => ?_) (k_fail hu hu6 h))
    have := (nI_leI (by omega) (by omega)).mp z
    omega
/-- the reference -/
theorem r_cs_n {K : Gt → Prop} {C G : Gt} {f l a pr m k : Nat} {er fst snd : Int32} (hf : f < 1220) (hl : l < 6) (ha : a ≤ 2) (h53 : G 53 l = nI pr) (hpr : pr ≤ 2) (h64 : G 64 f = nI m) (hm : m < 120) (h47 : G 47 m = nI k) (hk : k < 40) (hb : bz (G 46 51)) (her : (G 54 l = -1 ∧ er = -1) ∨ (¬ G 54 l = -1 ∧ pr < a ∧ er = -3)) (h : K (mxw C (oFr f er (gu G 46 51 (if k = 29 then 0 else G 46 51))))) : w_X11_callsSlot K (nI f) (nI l) (nI a) fst snd (mxw C G) := by
  have e : (nI f).toNatClampNeg = f := nI_clamp (by omega)
  have el : (nI l).toNatClampNeg = l := nI_clamp (by omega)
  have em : (nI m).toNatClampNeg = m := nI_clamp (by omega)
  have key : w_X11_callsSlot_j20 K (nI f) (nI l) (mxw C G) := by
    have h49 : ∀ y, bz y → y = (if k = 29 then 0 else G 46 51) → w_X11_callsSlot_j49 K (nI f) (nI l) y (mxw C G) := by
      intro y by' hy
      unfold w_X11_callsSlot_j49 w_X11_callsSlot_j70
      rw [el]
      refine ⟨by', ptr rfl ⟨vp_n hl (by decide), ?_⟩⟩
      rw [← hy] at h
      rcases her with ⟨e1, rfl⟩ | ⟨e1, e2, rfl⟩
      · exact pif_p e1 (r_fails hf h)
      · exact pif_n e1 (r_fails hf h)
    unfold w_X11_callsSlot_j20 w_X11_callsSlot_j48
    rw [e, show (mxw C G) 64 f = nI m from h64, em, show (mxw C G) 47 m = nI k from h47, show (mxw C G) 46 51 = G 46 51 from rfl]
    have q := nI_eqL (w := k) (a := 29) (b := 29) rfl (by omega) (by decide)
    by_cases c : G 46 51 = 0
    · refine pif_p c (h49 0 bz_0 ?_)
      by_cases c2 : k = 29
      · rw [if_pos c2]
      · rw [if_neg c2, c]
    · refine pif_n c ⟨vp_n hf (by decide), vp_n hm (by decide), ?_⟩
      by_cases c2 : k = 29
      · exact pif_p (q.mpr c2) (h49 0 bz_0 (by rw [if_pos c2]))
      · refine pif_n (fun z => c2 (q.mp z)) (h49 1 bz_1 ?_)
        rw [if_neg c2]
        rcases hb with z | z
        · exact absurd z c
        · exact z.symm
  unfold w_X11_callsSlot
  rw [el, show (mxw C G) 54 l = G 54 l from rfl, show (mxw C G) 53 l = nI pr from h53]
  refine ⟨vp_n hl (by decide), ?_⟩
  rcases her with ⟨e1, e0⟩ | ⟨e1, e2, e0⟩
  · exact pif_p e1 key
  · refine pif_n e1 ⟨vp_n hl (by decide), pif_n (fun z => ?_) key⟩
    have := (nI_leI (by omega) (by omega)).mp z
    omega
theorem r_cs_y {K : Gt → Prop} {C G : Gt} {f l a pr s F : Nat} {fst snd f1 s1 : Int32} (hf : f < 1220) (hl : l < 6) (ha : a ≤ 2) (h54 : ¬ G 54 l = -1) (h53 : G 53 l = nI pr) (hpr : pr ≤ 2) (hap : a ≤ pr) (h29 : G 46 29 = nI s) (hs : s < 620) (h21 : G 46 21 = nI F) (hF : F < 1220) (hf1 : f1 = if a = 0 then 0 else fst) (hs1 : s1 = if a = 2 then snd else 0)
    (hstd : pr = 2 → a < 2 → ¬ G 55 l = -1 → K (mxw C (oAk (G 55 l) (nI F) (nI s) (oLa F (-1) (nI f) (nI s) 3 (gu (gu (cqr s f f1 2 G) 72 (8 * s + 1) s1) 72 (8 * s + 1) (-100000)))))) (hgo : ¬ (pr = 2 ∧ a < 2 ∧ ¬ G 55 l = -1) → w_X11_enters K (nI f) (nI l) (mxw C (if pr = 2 then gu (cqr s f f1 pr G) 72 (8 * s + 1) s1 else cqr s f f1 pr G))) : w_X11_callsSlot K (nI f) (nI l) (nI a) fst snd (mxw C G) := by
  have e : (nI f).toNatClampNeg = f := nI_clamp (by omega)
  have el : (nI l).toNatClampNeg = l := nI_clamp (by omega)
  have qz := nI_leL (w := pr) (a := 0) (b := 0) rfl (by omega) (by decide)
  have q2 := nI_eqL (w := pr) (a := 2) (b := 2) rfl (by omega) (by decide)
  have a0 := nI_leL (w := a) (a := 0) (b := 0) rfl (by omega) (by decide)
  have a1 := nI_leL (w := a) (a := 1) (b := 1) rfl (by omega) (by decide)
  have a2 := nI_leR (w := a) (a := 2) (b := 2) rfl (by omega) (by decide)
  have e8 : (8 : Int32) * nI s = nI (8 * s) := by rw [show (8 : Int32) = nI 8 from rfl, nI_mulx]
  have e81 : (8 : Int32) * nI s + 1 = nI (8 * s + 1) := by rw [e8, nI_1]
  unfold w_X11_callsSlot
  rw [el, show (mxw C G) 54 l = G 54 l from rfl, show (mxw C G) 53 l = nI pr from h53, e]
  refine ⟨vp_n hl (by decide), pif_n h54 ⟨vp_n hl (by decide), pif_p (nI_le hap (by omega)) (r_opens h29 hs ⟨vp_n hf (by decide), ptr rfl ⟨vp_n hl (by decide), ?_⟩⟩)⟩⟩
  rw [show (mxw C (gu (oOr s (-1) G) 69 f (nI s))) 53 l = nI pr from h53]
  -- behind the first cell
  have k151 : ∀ X : Gt, X 53 l = nI pr → X 55 l = G 55 l → X 46 21 = nI F → (pr = 2 → a < 2 → ¬ G 55 l = -1 → K (mxw C (oAk (G 55 l) (nI F) (nI s) (oLa F (-1) (nI f) (nI s) 3 (gu X 72 (8 * s + 1) (-100000)))))) → (¬ (pr = 2 ∧ a < 2 ∧ ¬ G 55 l = -1) → w_X11_enters K (nI f) (nI l) (mxw C X)) → w_X11_callsSlot_j151 K (nI f) (nI l) (nI a) (nI s) (mxw C X) := by
    intro X x53 x55 x21 hA hB
    unfold w_X11_callsSlot_j151 w_X11_callsSlot_j209 w_X11_callsSlot_j215
    rw [el, show (mxw C X) 53 l = nI pr from x53, show (mxw C X) 55 l = G 55 l from x55, e81]
    refine ⟨vp_n hl (by decide), ?_⟩
    by_cases c : pr = 2
    · refine pif_p (q2.mpr c) ?_
      by_cases c2 : 2 ≤ a
      · exact pif_p (a2.mpr c2) (hB (fun z => by omega))
      · refine pif_n (fun z => c2 (a2.mp z)) ⟨vp_n hl (by decide), ?_⟩
        by_cases c3 : G 55 l = -1
        · exact pif_p c3 (hB (fun z => z.2.2 c3))
        · refine pif_n c3 (ptri rfl (by omega) (by decide) rfl ⟨vp_n hl (by decide), ?_⟩)
          rw [show (mxw C (gu X 72 (8 * s + 1) (-100000))) 55 l = G 55 l from x55]
          exact r_begins (F := F) x21 hF (hA c (by omega) c3)
    · exact pif_n (fun z => c (q2.mp z)) (hB (fun z => c z.1))
  by_cases c0 : pr = 0
  · subst c0
    refine pif_p (qz.mpr (Nat.le_refl _)) ?_
    unfold w_X11_callsSlot_j118
    rw [el, show (mxw C (gu (oOr s (-1) G) 69 f (nI s))) 53 l = nI 0 from h53]
    refine ⟨vp_n hl (by decide), pif_n (by decide) (k151 (gu (oOr s (-1) G) 69 f (nI s)) h53 rfl h21 (fun z => by omega) (fun z => ?_))⟩
    have := hgo z
    rw [if_neg (by decide)] at this
    exact this
  · refine pif_n (fun z => c0 (by have := qz.mp z; omega)) ?_
    have k117 : w_X11_callsSlot_j117 K (nI f) (nI l) (nI a) snd (nI s) (8 * nI s) f1 (mxw C (gu (oOr s (-1) G) 69 f (nI s))) := by
      unfold w_X11_callsSlot_j117
      rw [e8]
      refine ptri rfl (by omega) (by decide) rfl ?_
      have ec : gu (gu (oOr s (-1) G) 69 f (nI s)) 72 (8 * s) f1 = cqr s f f1 pr G := by unfold cqr; rw [if_neg c0]
      rw [ec]
      have x53 : (cqr s f f1 pr G) 53 l = nI pr := by rw [← ec]; exact h53
      have x55 : (cqr s f f1 pr G) 55 l = G 55 l := by rw [← ec]; rfl
      have x21 : (cqr s f f1 pr G) 46 21 = nI F := by rw [← ec]; exact h21
      unfold w_X11_callsSlot_j118
      rw [el, show (mxw C (cqr s f f1 pr G)) 53 l = nI pr from x53, e81]
      refine ⟨vp_n hl (by decide), ?_⟩
      by_cases c : pr = 2
      · refine pif_p (q2.mpr c) ?_
        have k150 : w_X11_callsSlot_j150 K (nI f) (nI l) (nI a) (nI s) (nI (8 * s + 1)) s1 (mxw C (cqr s f f1 pr G)) := by
          unfold w_X11_callsSlot_j150
          refine ptri rfl (by omega) (by decide) rfl ?_
          refine k151 (gu (cqr s f f1 pr G) 72 (8 * s + 1) s1) x53 x55 x21 (fun z1 z2 z3 => ?_) (fun z => ?_)
          · have := hstd z1 z2 z3
            rw [c]; exact this
          · have := hgo z
            rw [if_pos c] at this
            exact this
        by_cases c1 : a = 2
        · refine pif_n (fun z => by have := a1.mp z; omega) ?_
          have es : s1 = snd := by rw [hs1, if_pos c1]
          rw [← es]; exact k150
        · refine pif_p (a1.mpr (by omega)) ?_
          have es : s1 = 0 := by rw [hs1, if_neg c1]
          rw [← es]; exact k150
      · refine pif_n (fun z => c (q2.mp z)) (k151 _ x53 x55 x21 (fun z => absurd z c) (fun z => ?_))
        have := hgo z
        rw [if_neg c] at this
        exact this
    by_cases c1 : a = 0
    · refine pif_p (a0.mpr (by omega)) ?_
      have es : f1 = 0 := by rw [hf1, if_pos c1]
      rw [← es]; exact k117
    · refine pif_n (fun z => c1 (by have := a0.mp z; omega)) ?_
      have es : f1 = fst := by rw [hf1, if_neg c1]
      rw [← es]; exact k117
theorem r_enters {K : Gt → Prop} {C G H : Gt} {f l m k d F y s : Nat} (hf : f < 1220) (hl : l < 6) (h64 : G 64 f = nI m) (hm : m < 120) (h47 : G 47 m = nI k) (hk : k < 40) (hb : bz (G 46 51)) (h54 : G 54 l = nI y) (h69 : G 69 f = nI s) (hd : G 46 50 = nI d) (hd12 : d ≤ 12) (h21 : G 46 21 = nI F) (hF : F < 1220) (hH : H = if d = 12 then gu (oFr f (-5) G) 46 51 (if k = 29 then 0 else G 46 51) else oAk (nI y) (nI F) (nI s) (oLa F (-1) (nI f) (nI s) 1 (oCl f d G))) (h : K (mxw C H)) : w_X11_enters K (nI f) (nI l) (mxw C G) := by
  have e : (nI f).toNatClampNeg = f := nI_clamp (by omega)
  have el : (nI l).toNatClampNeg = l := nI_clamp (by omega)
  have em : (nI m).toNatClampNeg = m := nI_clamp (by omega)
  unfold w_X11_enters
  refine r_calls hf hd hd12 (fun c => pif_n (by decide) ?_) (fun c => pif_p rfl ?_)
  · rw [hH, if_neg (by omega)] at h
    rw [el, e, show (mxw C (oCl f d G)) 54 l = nI y from h54, show (mxw C (oCl f d G)) 69 f = nI s from h69]
    exact ⟨vp_n hl (by decide), vp_n hf (by decide), r_begins (F := F) h21 hF h⟩
  · rw [hH, if_pos c] at h
    unfold w_X11_enters_j58 w_X11_enters_j59 w_X11_enters_j62
    rw [e, show (mxw C (oFr f (-5) G)) 64 f = nI m from h64, em, show (mxw C (oFr f (-5) G)) 47 m = nI k from h47, show (mxw C (oFr f (-5) G)) 46 51 = G 46 51 from rfl]
    have q := nI_eqL (w := k) (a := 29) (b := 29) rfl (by omega) (by decide)
    by_cases c1 : G 46 51 = 0
    · refine pif_p c1 ⟨bz_0, ptr rfl ?_⟩
      have : (if k = 29 then 0 else G 46 51) = 0 := by
        by_cases c2 : k = 29
        · rw [if_pos c2]
        · rw [if_neg c2, c1]
      rw [this] at h; exact h
    · refine pif_n c1 ⟨vp_n hf (by decide), vp_n hm (by decide), ?_⟩
      by_cases c2 : k = 29
      · rw [if_pos c2] at h
        exact pif_p (q.mpr c2) ⟨bz_0, ptr rfl h⟩
      · rw [if_neg c2] at h
        refine pif_n (fun z => c2 (q.mp z)) ⟨bz_1, ptr rfl ?_⟩
        rcases hb with z | z
        · exact absurd z c1
        · rw [z] at h; exact h
theorem i_par {G : Gt} {u p S : Nat} (h : cAt G u p 57) (h124 : G 124 u = nI S) (hS : S < 1210) : cS G (gu (gu G 116 u (nI (p + 1))) 133 (8 * S + 1) (G 84 16)) := by
  refine cS_b h (by decide) (fun R K hk => ?_)
  obtain ⟨h7, h12, h11, hu6, hp, hp2, hw0⟩ := h
  refine pif_n (by decide) (pif_n (by decide) (pif_n (by decide) (pif_n (by decide) (pif_n (by decide) (pif_n (by decide) (pif_n (by decide) (pif_n (by decide) (pif_n (by decide) (pif_p (by decide) ?_)))))))))
  rw [rat_u (G := gu G 116 u (nI (p + 1))) h11 hu6, show (mxw (gu G 116 u (nI (p + 1))) R) 124 u = nI S from h124]
  exact k_bind (G := gu G 116 u (nI (p + 1))) (k := 1) hS (by decide) hk
theorem i_ent {G H : Gt} {u p l y S d n : Nat} (h : cAt G u p 58) (h126 : G 126 u = nI l) (hl : l < 6) (h35 : G 35 l = nI y) (hy : y < 120) (h124 : G 124 u = nI S) (hd : G 84 8 = nI d) (hd12 : d ≤ 12) (hn : G 84 10 = nI n) (hn6 : n < 601) (hH : H = if d = 12 then oFl u (-5) (gu G 116 u (nI (p + 1))) else oBg n (nI u) (nI y) (nI S) 3 (G 13 y) (oNc u d (gu G 116 u (nI (p + 1))))) : cS G H := by
  refine cS_b h (by decide) (fun R K hk => ?_)
  obtain ⟨h7, h12, h11, hu6, hp, hp2, hw0⟩ := h
  refine pif_n (by decide) (pif_n (by decide) (pif_n (by decide) (pif_n (by decide) (pif_n (by decide) (pif_n (by decide) (pif_n (by decide) (pif_n (by decide) (pif_n (by decide) (pif_n (by decide) (pif_p (by decide) ?_))))))))))
  rw [rat_u (G := gu G 116 u (nI (p + 1))) h11 hu6, show (mxw (gu G 116 u (nI (p + 1))) R) 126 u = nI l from h126, rat_n hl (by decide), show (mxw (gu G 116 u (nI (p + 1))) R) 35 l = nI y from h35]
  refine k_enter (G := gu G 116 u (nI (p + 1))) (n := n) (S := S) (d := d) h11 hu6 hd hd12 hn hn6 h124 hy (fun c => ?_) (fun c => ?_)
  · rw [hH, if_neg (by omega)] at hk; exact hk
  · rw [hH, if_pos c] at hk; exact hk
