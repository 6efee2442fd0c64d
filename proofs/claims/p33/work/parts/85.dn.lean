/-- a node waits to begin -/
def wST (N B : Nat) (z : Zt) (G : Gt) : Prop := sIM N B z G (G 31) 0 0 ∧ z 0 8 = z 0 0 + 1 ∧ z 0 7 = z 0 0 ∧ z 9 (z 0 0) = 7 ∧ G 84 12 = 1 ∧ G 116 (z 0 0) = G 13 (z 1 (z 0 0)) ∧ G 118 (z 0 0) = 0 ∧ G 124 (z 0 0) = 0 ∧ G 46 54 = nI (z 1 (z 0 0)) ∧
  (z 2 (z 0 0) = 0 → G 46 56 = nI (z 6 (z 3 (z 0 0)))) ∧ (¬ z 2 (z 0 0) = 0 → G 46 56 = nI (z 6 (z 0 0) - 1)) ∧ G 46 55 = nI (z 5 (z 0 0)) ∧ G 46 41 = 0 ∧ z 6 (z 0 0) = z 0 1 ∧ z 0 1 ≤ 2 * z 0 0 + 1 ∧ z 11 (z 0 0) = 0 ∧ G 84 15 = 0
/-- a frame goes on -/
def aST (N B : Nat) (z : Zt) (G : Gt) (x : Nat → Int32) (sp fp : Nat) : Prop := sIM N B z G x sp fp ∧ z 0 8 = z 0 0 ∧ z 9 (z 0 7) = 6 ∧ G 84 12 = 0 ∧ z 0 1 ≤ 2 * z 0 0
/-- a frame has ended, in some way -/
def eST (N B : Nat) (z : Zt) (G : Gt) : Prop := ∃ sp, aST N B z G (G 31) sp 0 ∧ (∃ p, p < 1081 ∧ G 116 (z 0 7) = nI p ∧ G 16 p = 40) ∧
  oU z G (z 0 7) (z 0 7) (G 84 15) (G 84 16) (G 84 18) (G 84 17) (G 46 41) (G 46 42) (G 46 43) (G 46 44) (G 46 45) (G 46 46) ∧ G 46 57 = G 65 (z 6 (z 0 7)) ∧ (sp = 1 ∨ G 84 15 = 1)
theorem live_root {z : Zt} {G : Gt} (hC : qC z G) (hI : qI z) : ∀ (k j : Nat), j ≤ k → j < z 0 8 → ¬ z 9 j = 0 → ¬ z 9 (z 8 j) = 0 := by
  intro k
  induction k with
  | zero =>
    intro j hj hm hl
    have hc := hC j hm
    have e : z 2 j = 0 ∨ ¬ z 2 j = 0 := by omega
    rcases e with e | e
    · have := (hc.2.1 e).1; omega
    · rw [(hc.2.2.1 e).1]; exact hl
  | succ k ih =>
    intro j hj hm hl
    have hc := hC j hm
    have e : z 2 j = 0 ∨ ¬ z 2 j = 0 := by omega
    rcases e with e | e
    · obtain ⟨c1, c2⟩ := hc.2.1 e
      rw [c2]
      have hp := ((hI j hm hl).1 e).1
      exact ih _ (by omega) (by omega) (by omega)
    · rw [(hc.2.2.1 e).1]; exact hl
/-- who goes on is not in a body that rests -/
theorem cur_nrst {N : Nat} {z : Zt} {G : Gt} (hC : qC z G) (hI : qI z) (hK : qK z) (hP : qP z G) (hnm : z 0 0 ≤ z 0 8) : ¬ rst z (z 8 (z 0 7)) := by
  rintro ⟨r1, r2⟩
  obtain ⟨k1, k2, k3, k4, k5⟩ := hK
  have hl := live_root hC hI _ (z 0 7) (Nat.le_refl _) k4 (by omega)
  have hc := hC _ k4
  have hr : z 8 (z 0 7) < z 0 8 := by have := hc.2.2.2.2.1; omega
  obtain ⟨_, _, _, _, i5⟩ := hI _ hr hl
  obtain ⟨i5a, i5b, _⟩ := i5 r1
  obtain ⟨p1, p2, p3, _⟩ := (hP _ i5a).2.2.2.2.2.2.2.2.2 r2
  have := k1 _ _ (by omega) k4 (by omega) (by omega) (p3.trans i5b)
  rw [this] at p2
  omega
def zDn (z : Zt) (x s p oi : Nat) : Zt :=
  zu (zu (zu (zu (zu (zu (zu (zu (zu (zu (zu (zu (zu z 0 8 (z 0 0 + 1)) 0 7 (z 0 0)) 1 (z 0 0) x) 2 (z 0 0) 0) 3 (z 0 0) (z 0 7)) 5 (z 0 0) s) 6 (z 0 0) (z 0 1)) 8 (z 0 0) (z 8 (z 0 7))) 9 (z 0 7) p) 9 (z 0 0) 7) 10 (z 0 7) (z 0 0)) 11 (z 0 0) 0) 22 (z 0 0) oi
/-- class: begin; reference: asks -/
def oBg (n : Nat) (u x s b e : Int32) (G : Gt) : Gt := gu (gu (gu (gu (gu (gu (gu (gu (gu (gu G 108 n x) 110 n u) 112 n s) 114 n b) 116 n e) 118 n 0) 120 n (-1)) 124 n 0) 84 11 (nI n)) 84 12 1
def oAk (x o s : Int32) (G : Gt) : Gt := gu (gu (gu (gu G 46 54 x) 46 56 o) 46 55 s) 46 41 0
theorem t_dn {N B : Nat} {z : Zt} {G : Gt} {xv : Nat → Int32} {sp x s p oi : Nat} (h : aST N B z G xv sp 0) (hx : x < N) (hs : s < z 0 2) (hp : p = 1 ∨ p = 2) (hdp : z 11 (z 0 7) = 0)
    (hoi : oi = if G 47 (z 1 (z 0 7)) = 26 ∧ p = 2 then z 0 7 + 1 else z 22 (z 0 7))
    (hd : dV (zDn z x s p oi) (oAk (nI x) (nI (z 6 (z 0 7))) (nI s) (oBg (z 0 0) (nI (z 0 7)) (nI x) (nI (z 13 s)) 0 (G 13 x) G)) (z 0 7))
    (hq : ∃ f, ∀ o, o < 4 → oK (zDn z x s p oi) (oAk (nI x) (nI (z 6 (z 0 7))) (nI s) (oBg (z 0 0) (nI (z 0 7)) (nI x) (nI (z 13 s)) 0 (G 13 x) G)) o f (G 31 o) (if oi = 0 then z 23 (z 8 (z 0 7)) else oi)) (h15 : G 84 15 = 0) :
    wST N B (zDn z x s p oi) (oAk (nI x) (nI (z 6 (z 0 7))) (nI s) (oBg (z 0 0) (nI (z 0 7)) (nI x) (nI (z 13 s)) 0 (G 13 x) G)) ∧ eX N z G (zDn z x s p oi) (oAk (nI x) (nI (z 6 (z 0 7))) (nI s) (oBg (z 0 0) (nI (z 0 7)) (nI x) (nI (z 13 s)) 0 (G 13 x) G)) := by
  obtain ⟨⟨hP, hA, hB, hC, hD, hE, hF, hG, hH, hI, hJ, hK, hL, hM, hN, hO, hPg, hQ, hR, hS, hT, hU⟩, hm, h6, h12, hFr⟩ := h
  obtain ⟨k1, k2, k3, k4, k5⟩ := id hK
  have hnr := cur_nrst (N := N) hC hI hK hPg (by omega)
  have hf := fX_of hA hC (by omega)
  generalize hG' : oAk (nI x) (nI (z 6 (z 0 7))) (nI s) (oBg (z 0 0) (nI (z 0 7)) (nI x) (nI (z 13 s)) 0 (G 13 x) G) = G' at *
  generalize hz' : zDn z x s p oi = z' at *
  generalize hu : z 0 7 = u at *
  generalize hn : z 0 0 = n at *
  have hun : u < n := by omega
  have zl : ∀ k i, ¬ i = n → ¬ k = 9 → ¬ k = 10 → ¬ k = 0 → z' k i = z k i := by
    intro k i h1 h2 h3 h4
    rw [← hz']
    simp only [zDn, zu, hn, hu]
    simp [h1, h2, h3, h4]
  have z0 : ∀ i, ¬ i = 7 → ¬ i = 8 → z' 0 i = z 0 i := by
    intro i h1 h2
    rw [← hz']; simp only [zDn, zu, hn, hu]; simp [h1, h2]
  have zm : z' 0 8 = n + 1 := by rw [← hz']; simp [zDn, zu, hn]
  have zc : z' 0 7 = n := by rw [← hz']; simp [zDn, zu, hn]
  have zn : z' 0 0 = n := (z0 0 (by omega) (by omega)).trans hn
  have z9 : ∀ j, z' 9 j = if j = n then 7 else if j = u then p else z 9 j := by
    intro j; rw [← hz']; simp only [zDn, zu, hn, hu]; simp
  have z10 : ∀ j, z' 10 j = if j = u then n else z 10 j := by
    intro j; rw [← hz']; simp only [zDn, zu, hn, hu]; simp
  have e1 : z' 1 n = x := by rw [← hz']; simp [zDn, zu, hn]
  have e2 : z' 2 n = 0 := by rw [← hz']; simp [zDn, zu, hn]
  have e3 : z' 3 n = u := by rw [← hz']; simp [zDn, zu, hn, hu]
  have e5 : z' 5 n = s := by rw [← hz']; simp [zDn, zu, hn]
  have e6 : z' 6 n = z 0 1 := by rw [← hz']; simp [zDn, zu, hn]
  have e8 : z' 8 n = z 8 u := by rw [← hz']; simp [zDn, zu, hn, hu]
  have e11 : z' 11 n = 0 := by rw [← hz']; simp [zDn, zu, hn]
  have e22 : z' 22 n = oi := by rw [← hz']; simp [zDn, zu, hn]
  have gl : ∀ k j, ¬ k = 46 → ¬ k = 84 → ¬ j = n → G' k j = G k j := by
    intro k j h1 h2 h3
    rw [← hG']; simp only [oAk, oBg, gu]; simp [h1, h2, h3]
  have gk : ∀ k j, ¬ k = 46 → ¬ k = 84 → ¬ k = 108 → ¬ k = 110 → ¬ k = 112 → ¬ k = 114 → ¬ k = 116 → ¬ k = 118 → ¬ k = 120 → ¬ k = 124 → G' k j = G k j := by
    intro k j h1 h2 h3 h4 h5 h6 h7 h8 h9 h10
    rw [← hG']; simp only [oAk, oBg, gu]; simp [h1, h2, h3, h4, h5, h6, h7, h8, h9, h10]
  have gK : ∀ k, ¬ k = 46 → ¬ k = 84 → ¬ k = 108 → ¬ k = 110 → ¬ k = 112 → ¬ k = 114 → ¬ k = 116 → ¬ k = 118 → ¬ k = 120 → ¬ k = 124 → G' k = G k := by
    intro k h1 h2 h3 h4 h5 h6 h7 h8 h9 h10
    funext j; exact gk k j h1 h2 h3 h4 h5 h6 h7 h8 h9 h10
  have g84 : ∀ j, ¬ j = 11 → ¬ j = 12 → G' 84 j = G 84 j := by
    intro j h1 h2; rw [← hG']; simp only [oAk, oBg, gu]; simp [h1, h2]
  have g46 : ∀ j, ¬ j = 54 → ¬ j = 55 → ¬ j = 56 → ¬ j = 41 → G' 46 j = G 46 j := by
    intro j h1 h2 h3 h4; rw [← hG']; simp only [oAk, oBg, gu]; simp [h1, h2, h3, h4]
  have hX : eX N z G z' G' := by
    refine ⟨⟨by omega, ?_, ?_, ?_, ?_⟩, fun i hi => ?_, fun i hi _ => ?_, fun i hi h0 => ?_, fun i hi => ?_, fun i hi => ?_, fun i hi => ?_, fun l hl hh => ?_⟩
    · rw [z0 4 (by decide) (by decide)]; exact Nat.le_refl _
    · rw [z0 5 (by decide) (by decide)]; exact Nat.le_refl _
    · rw [z0 2 (by decide) (by decide)]; exact Nat.le_refl _
    · rw [z0 6 (by decide) (by decide)]; exact Nat.le_refl _
    · have : ¬ i = n := by omega
      exact ⟨zl _ _ this (by decide) (by decide) (by decide), zl _ _ this (by decide) (by decide) (by decide), zl _ _ this (by decide) (by decide) (by decide), zl _ _ this (by decide) (by decide) (by decide), zl _ _ this (by decide) (by decide) (by decide)⟩
    · exact zl _ _ (by omega) (by decide) (by decide) (by decide)
    · refine ⟨?_, gl _ _ (by decide) (by decide) (by omega)⟩
      rw [z9, if_neg (by omega), if_neg (by intro e; subst e; omega)]; exact h0
    · rw [← hz']; simp [zDn, zu]
    · exact ⟨gk _ _ (by decide) (by decide) (by decide) (by decide) (by decide) (by decide) (by decide) (by decide) (by decide) (by decide), gk _ _ (by decide) (by decide) (by decide) (by decide) (by decide) (by decide) (by decide) (by decide) (by decide) (by decide), gk _ _ (by decide) (by decide) (by decide) (by decide) (by decide) (by decide) (by decide) (by decide) (by decide) (by decide), gk _ _ (by decide) (by decide) (by decide) (by decide) (by decide) (by decide) (by decide) (by decide) (by decide) (by decide), gk _ _ (by decide) (by decide) (by decide) (by decide) (by decide) (by decide) (by decide) (by decide) (by decide) (by decide)⟩
    · exact gk _ _ (by decide) (by decide) (by decide) (by decide) (by decide) (by decide) (by decide) (by decide) (by decide) (by decide)
    · rw [gk 54 l (by decide) (by decide) (by decide) (by decide) (by decide) (by decide) (by decide) (by decide) (by decide) (by decide)]; exact hh
  have hxu : ∀ j, 1 ≤ z 9 j → z 9 j ≤ 5 → ¬ j = u := by intro j h1 h2 e; subst e; omega
  have zz : ∀ k, ¬ k = 0 → ¬ k = 1 → ¬ k = 2 → ¬ k = 3 → ¬ k = 5 → ¬ k = 6 → ¬ k = 8 → ¬ k = 9 → ¬ k = 10 → ¬ k = 11 → ¬ k = 22 → z' k = z k := by
    intro k h0 h1 h2 h3 h5 h6 h8 h9 h10 h11 h22
    funext j
    by_cases e : j = n
    · rw [← hz']; simp only [zDn, zu, hn, hu]; simp [h0, h1, h2, h3, h5, h6, h8, h9, h10, h11, h22]
    · exact zl k j e h9 h10 h0
  have hio : ∀ q, q < n → io z' q = io z q := by
    intro q hq
    have hc := hC q (by omega)
    unfold io
    rw [zl 22 q (by omega) (by decide) (by decide) (by decide), zl 8 q (by omega) (by decide) (by decide) (by decide), zz 23 (by decide) (by decide) (by decide) (by decide) (by decide) (by decide) (by decide) (by decide) (by decide) (by decide) (by decide)]
  have hvv : ∀ y, vV z y → vV z' y := fun y hy => vV_ext hX hy
  refine ⟨⟨⟨?_, ?_, ?_, ?_, ?_, ?_, ?_, ?_, ?_, ?_, ?_, ?_, ?_, ?_, ?_, ?_, ?_, ?_, ?_, ?_, ?_, ?_⟩, ?_⟩, hX⟩
  · subst hG'; exact hP
  · -- qA
    intro i hi
    rw [zm] at hi
    by_cases e : i = n
    · subst e; rw [e1]; exact ⟨by rw [← hG']; simp [oAk, oBg, gu], hx⟩
    · rw [gl _ _ (by decide) (by decide) e, zl _ _ e (by decide) (by decide) (by decide)]; exact hA i (by omega)
  · intro i hi
    rw [zm] at hi
    rw [zz 13 (by decide) (by decide) (by decide) (by decide) (by decide) (by decide) (by decide) (by decide) (by decide) (by decide) (by decide), z0 2 (by decide) (by decide)]
    by_cases e : i = n
    · subst e; rw [e5]; exact ⟨by rw [← hG']; simp [oAk, oBg, gu], hs⟩
    · rw [gl _ _ (by decide) (by decide) e, zl _ _ e (by decide) (by decide) (by decide)]; exact hB i (by omega)
  · -- qC
    intro i hi
    rw [zm] at hi
    by_cases e : i = n
    · subst e
      have hc := hC u (by omega)
      rw [e2, e3, e8, zl 8 u (by omega) (by decide) (by decide) (by decide), zn]
      refine ⟨by rw [← hG']; simp [oAk, oBg, gu, nI_0], fun _ => ⟨hun, rfl⟩, fun q => absurd rfl q, by omega, by have := hc.2.2.2.2.1; omega, ?_⟩
      rw [zl 2 _ (by have := hc.2.2.2.2.1; omega) (by decide) (by decide) (by decide)]
      exact hc.2.2.2.2.2
    · have hc := hC i (by omega)
      rw [hn] at hc
      rw [gl _ _ (by decide) (by decide) e, zl _ _ e (by decide) (by decide) (by decide), zl 3 _ e (by decide) (by decide) (by decide), zl 8 _ e (by decide) (by decide) (by decide), zl 4 _ e (by decide) (by decide) (by decide), zn, zl 2 (z 8 i) (by have := hc.2.2.2.2.1; omega) (by decide) (by decide) (by decide)]
      refine ⟨hc.1, fun q => ?_, hc.2.2⟩
      have := hc.2.1 q
      rw [zl 8 _ (by omega) (by decide) (by decide) (by decide)]
      exact this
  · -- qD
    intro i hi
    rw [zm] at hi
    by_cases e : i = n
    · subst e
      rw [e2, e3]
      exact ⟨fun _ => by rw [← hG']; simp [oAk, oBg, gu], fun q => absurd rfl q⟩
    · rw [gl _ _ (by decide) (by decide) e, zl _ _ e (by decide) (by decide) (by decide), zl 3 _ e (by decide) (by decide) (by decide), zl 4 _ e (by decide) (by decide) (by decide)]
      exact hD i (by omega)
  · -- qE
    intro i hi
    rw [zn] at hi
    have e : ¬ i = n := by omega
    have hc := hC i (by omega)
    have hh := hE i (by omega)
    rw [gK 64 (by decide) (by decide) (by decide) (by decide) (by decide) (by decide) (by decide) (by decide) (by decide) (by decide), gK 65 (by decide) (by decide) (by decide) (by decide) (by decide) (by decide) (by decide) (by decide) (by decide) (by decide), gK 66 (by decide) (by decide) (by decide) (by decide) (by decide) (by decide) (by decide) (by decide) (by decide) (by decide), zl 1 _ e (by decide) (by decide) (by decide), zl 2 _ e (by decide) (by decide) (by decide), zl 3 _ e (by decide) (by decide) (by decide), zl 5 _ e (by decide) (by decide) (by decide), zl 6 _ e (by decide) (by decide) (by decide)]
    refine ⟨hh.1, hh.2.1, fun q => ?_, hh.2.2.2⟩
    rw [zl 6 _ (by have := (hc.2.1 q).1; omega) (by decide) (by decide) (by decide)]
    exact hh.2.2.1 q
  · -- qF
    intro i hi hb
    rw [zm] at hi
    have e : ¬ i = n := by intro e; subst e; exact hb e2
    have hc := hC i (by omega)
    rw [hn] at hc
    rw [zl 2 _ e (by decide) (by decide) (by decide)] at hb
    have := (hc.2.2.1 hb).2
    rw [gK 64 (by decide) (by decide) (by decide) (by decide) (by decide) (by decide) (by decide) (by decide) (by decide) (by decide), gK 65 (by decide) (by decide) (by decide) (by decide) (by decide) (by decide) (by decide) (by decide) (by decide) (by decide), gK 67 (by decide) (by decide) (by decide) (by decide) (by decide) (by decide) (by decide) (by decide) (by decide) (by decide), gK 68 (by decide) (by decide) (by decide) (by decide) (by decide) (by decide) (by decide) (by decide) (by decide) (by decide), zl 2 _ e (by decide) (by decide) (by decide), zl 4 _ e (by decide) (by decide) (by decide), zl 6 _ e (by decide) (by decide) (by decide), zl 6 _ (show ¬ z 4 i - 1 = n by omega) (by decide) (by decide) (by decide)]
    exact hF i (by omega) hb
  · -- qG
    obtain ⟨q1, q2, q3⟩ := hG
    rw [hn] at q3
    refine ⟨fun i j hij hj => ?_, fun i hi => ?_, fun i hi => ?_⟩
    · rw [zm] at hj
      have ei : ¬ i = n := by omega
      by_cases ej : j = n
      · subst ej
        rw [e6, e2, zl 6 _ ei (by decide) (by decide) (by decide)]
        exact ⟨q3 i hij, fun q => absurd rfl q⟩
      · rw [zl 6 _ ei (by decide) (by decide) (by decide), zl 6 _ ej (by decide) (by decide) (by decide), zl 2 _ ej (by decide) (by decide) (by decide)]
        exact q1 i j hij (by omega)
    · rw [zm] at hi
      rw [z0 1 (by decide) (by decide)]
      by_cases e : i = n
      · subst e; rw [e6]; exact Nat.le_refl _
      · rw [zl 6 _ e (by decide) (by decide) (by decide)]; exact q2 i (by omega)
    · rw [zn] at hi
      rw [z0 1 (by decide) (by decide), zl 6 _ (by omega) (by decide) (by decide) (by decide)]; exact q3 i hi
  · -- qH
    intro j hj h1 h2
    rw [zn] at hj
    by_cases e : j = u
    · subst e; exact hd
    · rw [z9, if_neg (by omega), if_neg e] at h1 h2
      have e' : ¬ j = n := by omega
      refine dV_ext hX hf (by omega) (by have := hQ.1; have := hQ.2.2.2.1; omega) (by rw [z9, if_neg e', if_neg e]) (congrFun (zz 19 (by decide) (by decide) (by decide) (by decide) (by decide) (by decide) (by decide) (by decide) (by decide) (by decide) (by decide)) j) (congrFun (zz 20 (by decide) (by decide) (by decide) (by decide) (by decide) (by decide) (by decide) (by decide) (by decide) (by decide) (by decide)) j) (gl _ _ (by decide) (by decide) e') (gl _ _ (by decide) (by decide) e') (gl _ _ (by decide) (by decide) e') (gl _ _ (by decide) (by decide) e') (gl _ _ (by decide) (by decide) e') (gl _ _ (by decide) (by decide) e') ?_ ?_ ?_ (hH j (by omega) h1 h2)
      · rw [gK 67 (by decide) (by decide) (by decide) (by decide) (by decide) (by decide) (by decide) (by decide) (by decide) (by decide)]
      · rw [gK 68 (by decide) (by decide) (by decide) (by decide) (by decide) (by decide) (by decide) (by decide) (by decide) (by decide)]
      · rw [gK 69 (by decide) (by decide) (by decide) (by decide) (by decide) (by decide) (by decide) (by decide) (by decide) (by decide)]
  · -- qI
    intro j hj hl
    rw [zm] at hj
    by_cases e : j = n
    · subst e
      rw [e2, e3, z9, if_neg (by omega), if_pos rfl, z10, if_pos rfl]
      exact ⟨fun _ => ⟨hp, rfl⟩, fun q => absurd rfl q, fun q => by omega, fun q => by omega, fun q => by omega⟩
    · have hl0 : ¬ z 9 j = 0 := by
        rw [z9, if_neg e] at hl
        by_cases e2 : j = u
        · subst e2; omega
        · rw [if_neg e2] at hl; exact hl
      obtain ⟨q1, q2, q3⟩ := hI j (by omega) hl0
      have hc := hC j (by omega)
      rw [hn] at hc
      rw [zl 2 _ e (by decide) (by decide) (by decide), zl 3 _ e (by decide) (by decide) (by decide), zl 4 _ e (by decide) (by decide) (by decide), zz 16 (by decide) (by decide) (by decide) (by decide) (by decide) (by decide) (by decide) (by decide) (by decide) (by decide) (by decide), zz 17 (by decide) (by decide) (by decide) (by decide) (by decide) (by decide) (by decide) (by decide) (by decide) (by decide) (by decide), z0 5 (by decide) (by decide)]
      refine ⟨fun r1 => ?_, fun r1 r2 r3 => ?_, q3⟩
      · have n1 : ¬ z 3 j = n := by have := (hc.2.1 r1).1; omega
        have n2 : ¬ z 3 j = u := hxu _ (by have := (q1 r1).1; omega) (by have := (q1 r1).1; omega)
        rw [z9, if_neg n1, if_neg n2, z10, if_neg n2]
        exact q1 r1
      · have r3' : ¬ rst z j := by
          unfold rst at r3 ⊢
          rw [zl 2 _ e (by decide) (by decide) (by decide), zz 16 (by decide) (by decide) (by decide) (by decide) (by decide) (by decide) (by decide) (by decide) (by decide) (by decide) (by decide)] at r3
          exact r3
        have q := q2 r1 r2 r3'
        have n1 : ¬ z 4 j - 1 = n := by have := (hc.2.2.1 r1).2; omega
        have n2 : ¬ z 4 j - 1 = u := by
          refine hxu _ ?_ ?_
          · have := q.1; split at this <;> omega
          · have := q.1; split at this <;> omega
        rw [z9, if_neg n1, if_neg n2, z10, if_neg n2]
        exact q
  · -- qJ
    intro v hv h12
    rw [zm] at hv
    rw [z9] at h12
    have n1 : ¬ v = n := by intro e; rw [if_pos e] at h12; omega
    rw [if_neg n1] at h12
    by_cases e : v = u
    · subst e
      rw [z10, if_pos rfl, z9, if_pos rfl, e2, e3, zm]
      exact ⟨hun, by omega, by omega, rfl, rfl⟩
    · rw [if_neg e] at h12
      obtain ⟨q1, q2, q3, q4, q5⟩ := hJ v (by omega) h12
      have n2 : ¬ z 10 v = n := by omega
      rw [z10, if_neg e, z9, if_neg n2, zl 2 _ n2 (by decide) (by decide) (by decide), zl 3 _ n2 (by decide) (by decide) (by decide), zm]
      refine ⟨q1, by omega, ?_, q4, q5⟩
      split
      · omega
      · exact q3
  · -- qK
    have tips : ∀ a, a < n → ¬ a = n → 3 ≤ z' 9 a → 3 ≤ z 9 a ∧ ¬ a = u := by
      intro a _ ha h1
      rw [z9, if_neg ha] at h1
      by_cases e : a = u
      · rw [if_pos e] at h1; omega
      · rw [if_neg e] at h1; exact ⟨h1, e⟩
    refine ⟨?_, ?_, ?_, ?_, ?_⟩
    · intro a b ha hb h1 h2 hr
      rw [zm] at ha hb
      by_cases ea : a = n
      · by_cases eb : b = n
        · omega
        · obtain ⟨t1, t2⟩ := tips b (by omega) eb h2
          rw [ea, e8, zl 8 b eb (by decide) (by decide) (by decide)] at hr
          exact absurd (k1 b u (by omega) (by omega) t1 (by omega) hr.symm) t2
      · obtain ⟨t1, t2⟩ := tips a (by omega) ea h1
        by_cases eb : b = n
        · rw [eb, e8, zl 8 a ea (by decide) (by decide) (by decide)] at hr
          exact absurd (k1 a u (by omega) (by omega) t1 (by omega) hr) t2
        · obtain ⟨t3, t4⟩ := tips b (by omega) eb h2
          rw [zl 8 a ea (by decide) (by decide) (by decide), zl 8 b eb (by decide) (by decide) (by decide)] at hr
          exact k1 a b (by omega) (by omega) t1 t3 hr
    · intro a ha
      rw [zm] at ha
      rw [z9]
      split
      · omega
      · split
        · omega
        · exact k2 a (by omega)
    · intro a ha h1
      rw [zm] at ha
      rw [zc]
      by_cases ea : a = n
      · exact ea
      · rw [z9, if_neg ea] at h1
        by_cases eb : a = u
        · rw [if_pos eb] at h1; omega
        · rw [if_neg eb] at h1; exact absurd (k3 a (by omega) h1) eb
    · rw [zc, zm]; omega
    · rw [zc, z9, if_pos rfl]; omega
  · -- qL
    refine ⟨?_, ?_⟩
    · intro j hj hl hb hr
      rw [zm] at hj
      have e : ¬ j = n := by intro e; subst e; exact hb e2
      have hc := hC j (by omega)
      rw [hn] at hc
      have hl0 : ¬ z 9 j = 0 := by
        rw [z9, if_neg e] at hl
        by_cases e2 : j = u
        · subst e2; omega
        · rw [if_neg e2] at hl; exact hl
      unfold rst at hr
      rw [zl 2 _ e (by decide) (by decide) (by decide), zz 16 (by decide) (by decide) (by decide) (by decide) (by decide) (by decide) (by decide) (by decide) (by decide) (by decide) (by decide)] at hr
      rw [zl 2 _ e (by decide) (by decide) (by decide)] at hb
      have := (hc.2.2.1 hb).2
      rw [zl 2 _ e (by decide) (by decide) (by decide), zl 4 _ e (by decide) (by decide) (by decide), zz 12 (by decide) (by decide) (by decide) (by decide) (by decide) (by decide) (by decide) (by decide) (by decide) (by decide) (by decide), zl 8 _ (show ¬ z 4 j - 1 = n by omega) (by decide) (by decide) (by decide), zl 11 _ (show ¬ z 4 j - 1 = n by omega) (by decide) (by decide) (by decide)]
      exact hL.1 j (by omega) hl0 hb hr
    · obtain ⟨d, d1, d2, d3, d4, d5⟩ := hL.2
      rw [hu] at d2
      refine ⟨d, d1, ?_, by rw [g84 8 (by decide) (by decide)]; exact d3, by rw [g46 50 (by decide) (by decide) (by decide) (by decide)]; exact d4, by rw [g84 13 (by decide) (by decide), g46 49 (by decide) (by decide) (by decide) (by decide)]; exact cH_ext hX d5⟩
      rw [zc, e8, zz 12 (by decide) (by decide) (by decide) (by decide) (by decide) (by decide) (by decide) (by decide) (by decide) (by decide) (by decide)]
      exact d2
  · -- qM
    refine ⟨?_, ?_⟩
    · intro i hi hdp'
      rw [zn] at hi
      have e : ¬ i = n := by omega
      rw [zl 11 _ e (by decide) (by decide) (by decide)] at hdp' ⊢
      rw [gl 120 _ (by decide) (by decide) e, gK 70 (by decide) (by decide) (by decide) (by decide) (by decide) (by decide) (by decide) (by decide) (by decide) (by decide), zl 6 _ e (by decide) (by decide) (by decide)]
      obtain ⟨q1, q2⟩ := hM.1 i (by omega) hdp'
      exact ⟨q1, cH_ext hX q2⟩
    · intro i hi h1 h2
      rw [zn] at hi
      have e : ¬ i = n := by omega
      rw [zl 11 _ e (by decide) (by decide) (by decide)]
      rw [z9, if_neg e] at h1 h2
      by_cases e2 : i = u
      · subst e2; exact hdp
      · rw [if_neg e2] at h1 h2
        exact hM.2 i (by omega) h1 h2
  · -- qN
    obtain ⟨q1, q2⟩ := hN
    have z2 := z0 2 (by decide) (by decide)
    have z3 := z0 3 (by decide) (by decide)
    have z13 := zz 13 (by decide) (by decide) (by decide) (by decide) (by decide) (by decide) (by decide) (by decide) (by decide) (by decide) (by decide)
    have g71 := gK 71 (by decide) (by decide) (by decide) (by decide) (by decide) (by decide) (by decide) (by decide) (by decide) (by decide)
    have g72 := gK 72 (by decide) (by decide) (by decide) (by decide) (by decide) (by decide) (by decide) (by decide) (by decide) (by decide)
    have g131 := gK 131 (by decide) (by decide) (by decide) (by decide) (by decide) (by decide) (by decide) (by decide) (by decide) (by decide)
    have g133 := gK 133 (by decide) (by decide) (by decide) (by decide) (by decide) (by decide) (by decide) (by decide) (by decide) (by decide)
    refine ⟨by rw [z2, z13]; exact q1, ?_⟩
    rw [z2, z3, z13, g71, g72, g131, g133]
    intro s' hs'
    obtain ⟨w1, w2, w3, w4⟩ := q2 s' hs'
    refine ⟨w1, w2, w3, fun k hk => ?_⟩
    rcases w4 k hk with w | ⟨w, w'⟩
    · exact Or.inl w
    · exact Or.inr ⟨w, hvv _ w'⟩
  · -- qO
    have g136 := gK 136 (by decide) (by decide) (by decide) (by decide) (by decide) (by decide) (by decide) (by decide) (by decide) (by decide)
    have g73 := gK 73 (by decide) (by decide) (by decide) (by decide) (by decide) (by decide) (by decide) (by decide) (by decide) (by decide)
    have g74 := gK 74 (by decide) (by decide) (by decide) (by decide) (by decide) (by decide) (by decide) (by decide) (by decide) (by decide)
    have g47 := gK 47 (by decide) (by decide) (by decide) (by decide) (by decide) (by decide) (by decide) (by decide) (by decide) (by decide)
    intro j hj
    rw [z0 4 (by decide) (by decide)] at hj
    obtain ⟨w1, w2, w3, w4, w5⟩ := hO j hj
    rw [hn] at w1
    rw [zz 14 (by decide) (by decide) (by decide) (by decide) (by decide) (by decide) (by decide) (by decide) (by decide) (by decide) (by decide), zl 1 _ (show ¬ z 14 j = n by omega) (by decide) (by decide) (by decide), zl 5 _ (show ¬ z 14 j = n by omega) (by decide) (by decide) (by decide), zn, g136, g73, g74, g47]
    exact ⟨w1, w2, w3, w4, w5⟩
  · -- qP
    have g138 := gK 138 (by decide) (by decide) (by decide) (by decide) (by decide) (by decide) (by decide) (by decide) (by decide) (by decide)
    have g75 := gK 75 (by decide) (by decide) (by decide) (by decide) (by decide) (by decide) (by decide) (by decide) (by decide) (by decide)
    have g76 := gK 76 (by decide) (by decide) (by decide) (by decide) (by decide) (by decide) (by decide) (by decide) (by decide) (by decide)
    have g77 := gK 77 (by decide) (by decide) (by decide) (by decide) (by decide) (by decide) (by decide) (by decide) (by decide) (by decide)
    have g78 := gK 78 (by decide) (by decide) (by decide) (by decide) (by decide) (by decide) (by decide) (by decide) (by decide) (by decide)
    have g79 := gK 79 (by decide) (by decide) (by decide) (by decide) (by decide) (by decide) (by decide) (by decide) (by decide) (by decide)
    have g140 := gK 140 (by decide) (by decide) (by decide) (by decide) (by decide) (by decide) (by decide) (by decide) (by decide) (by decide)
    have g142 := gK 142 (by decide) (by decide) (by decide) (by decide) (by decide) (by decide) (by decide) (by decide) (by decide) (by decide)
    have g144 := gK 144 (by decide) (by decide) (by decide) (by decide) (by decide) (by decide) (by decide) (by decide) (by decide) (by decide)
    have g47 := gK 47 (by decide) (by decide) (by decide) (by decide) (by decide) (by decide) (by decide) (by decide) (by decide) (by decide)
    intro j hj
    rw [z0 5 (by decide) (by decide)] at hj
    obtain ⟨w1, w2, w3, w4, w5, w6, w7, w8, w9, w10⟩ := hPg j hj
    rw [hn] at w1
    rw [zz 15 (by decide) (by decide) (by decide) (by decide) (by decide) (by decide) (by decide) (by decide) (by decide) (by decide) (by decide), zz 16 (by decide) (by decide) (by decide) (by decide) (by decide) (by decide) (by decide) (by decide) (by decide) (by decide) (by decide), zz 17 (by decide) (by decide) (by decide) (by decide) (by decide) (by decide) (by decide) (by decide) (by decide) (by decide) (by decide), zz 18 (by decide) (by decide) (by decide) (by decide) (by decide) (by decide) (by decide) (by decide) (by decide) (by decide) (by decide), zl 1 _ (show ¬ z 15 j = n by omega) (by decide) (by decide) (by decide), zl 5 _ (show ¬ z 15 j = n by omega) (by decide) (by decide) (by decide), zn, zm, g138, g75, g76, g77, g78, g79, g140, g142, g144, g47]
    refine ⟨w1, w2, w3, w4, w5, w6, w7, w8, fun e => ?_, fun e => ?_⟩
    · obtain ⟨v1, v2, v3, v4, v5, v6⟩ := w9 e
      have ne : ¬ z 17 j = n := by omega
      rw [zl 2 _ ne (by decide) (by decide) (by decide), zl 6 _ ne (by decide) (by decide) (by decide), z9, if_neg ne]
      refine ⟨by omega, v2, ?_, v4, v5, fun q => ?_⟩
      · split
        · omega
        · exact v3
      · obtain ⟨b1, b2⟩ := v6 q
        rw [zl 4 _ ne (by decide) (by decide) (by decide), zl 1 _ (show ¬ z 4 (z 17 j) - 1 = n by omega) (by decide) (by decide) (by decide)]
        exact ⟨by omega, b2⟩
    · obtain ⟨v1, v2, v3, v4, v5⟩ := w10 e
      rw [hn] at v1
      have ne : ¬ z 18 j = n := by omega
      rw [zl 8 _ ne (by decide) (by decide) (by decide), zl 6 _ ne (by decide) (by decide) (by decide), z9, if_neg ne, if_neg (by intro e; subst e; omega)]
      exact ⟨v1, v2, v3, v4, v5⟩
  · -- qQ
    obtain ⟨b1, b2, b3, b4, b5, b6, b7, b8, b9, b10, b11, b12, b13, b14, b15, b16, b17, b18, b19, b20, b21, b22, b23, b24, b25⟩ := hQ
    have g129 := gK 129 (by decide) (by decide) (by decide) (by decide) (by decide) (by decide) (by decide) (by decide) (by decide) (by decide)
    have g134 := gK 134 (by decide) (by decide) (by decide) (by decide) (by decide) (by decide) (by decide) (by decide) (by decide) (by decide)
    rw [hn] at b4 b7 b8
    refine ⟨b1, by rw [g84 9 (by decide) (by decide)]; exact b2, by rw [g46 59 (by decide) (by decide) (by decide) (by decide)]; exact b3, by rw [zn]; exact b4, by rw [zn, zm]; omega, by rw [zn, zm]; omega, by rw [g84 10 (by decide) (by decide), zn]; exact b7, by rw [g46 58 (by decide) (by decide) (by decide) (by decide), zn]; exact b8, by rw [zc, ← hG']; simp [oAk, oBg, gu], by rw [g84 7 (by decide) (by decide)]; exact b10, by rw [g46 53 (by decide) (by decide) (by decide) (by decide)]; exact b11, ?_, ?_, ?_, ?_, ?_, ?_, ?_, ?_, ?_, ?_, ?_, ?_, ?_, ?_⟩
    · rw [g84 14 (by decide) (by decide), g46 51 (by decide) (by decide) (by decide) (by decide)]; exact b12
    · rw [g46 51 (by decide) (by decide) (by decide) (by decide)]; exact b13
    · rw [g84 19 (by decide) (by decide), g46 62 (by decide) (by decide) (by decide) (by decide)]; exact b14
    · rw [g46 63 (by decide) (by decide) (by decide) (by decide)]; exact b15
    · rw [g46 64 (by decide) (by decide) (by decide) (by decide)]; exact b16
    · rw [g46 21 (by decide) (by decide) (by decide) (by decide), z0 1 (by decide) (by decide)]; exact b17
    · rw [g46 29 (by decide) (by decide) (by decide) (by decide), z0 2 (by decide) (by decide)]; exact b18
    · rw [g129, z0 3 (by decide) (by decide)]; exact b19
    · rw [g134, z0 4 (by decide) (by decide)]; exact b20
    · rw [g46 32 (by decide) (by decide) (by decide) (by decide), z0 4 (by decide) (by decide)]; exact b21
    · rw [g134, z0 5 (by decide) (by decide)]; exact b22
    · rw [g46 35 (by decide) (by decide) (by decide) (by decide), z0 5 (by decide) (by decide)]; exact b23
    · rw [g46 47 (by decide) (by decide) (by decide) (by decide), z0 6 (by decide) (by decide)]; exact b24
    · rw [z0 2 (by decide) (by decide), z0 3 (by decide) (by decide)]; exact b25
  · -- qR
    obtain ⟨r1, r2, r3, r4⟩ := hR
    rw [hn] at r1 r2 r3 r4
    refine ⟨by rw [z0 3 (by decide) (by decide), zz 19 (by decide) (by decide) (by decide) (by decide) (by decide) (by decide) (by decide) (by decide) (by decide) (by decide) (by decide), zn]; omega, by rw [z0 6 (by decide) (by decide), zz 20 (by decide) (by decide) (by decide) (by decide) (by decide) (by decide) (by decide) (by decide) (by decide) (by decide) (by decide), zn]; exact r2, by rw [z0 4 (by decide) (by decide), z0 5 (by decide) (by decide), zn]; exact r3, ?_⟩
    intro i hi
    rw [zn] at hi
    rw [zz 21 (by decide) (by decide) (by decide) (by decide) (by decide) (by decide) (by decide) (by decide) (by decide) (by decide) (by decide), z9, if_neg (by omega)]
    refine ⟨fun q => (r4 i hi).1 ?_, (r4 i hi).2⟩
    intro e0
    by_cases e : i = u
    · subst e; omega
    · rw [if_neg e] at q; exact q e0
  · -- qS
    obtain ⟨f, hf'⟩ := hq
    refine ⟨f, fun o ho => ?_⟩
    have hio' : io z' n = if oi = 0 then z 23 (z 8 u) else oi := by
      unfold io
      rw [e22, e8, zz 23 (by decide) (by decide) (by decide) (by decide) (by decide) (by decide) (by decide) (by decide) (by decide) (by decide) (by decide)]
    rw [zc, hio', gK 31 (by decide) (by decide) (by decide) (by decide) (by decide) (by decide) (by decide) (by decide) (by decide) (by decide)]
    exact hf' o ho
  · -- qT
    have g47 := gK 47 (by decide) (by decide) (by decide) (by decide) (by decide) (by decide) (by decide) (by decide) (by decide) (by decide)
    refine ⟨?_, ?_⟩
    · intro j hj hl
      rw [zm] at hj
      by_cases e : j = n
      · subst e
        rw [e2, e3, e22, g47, zl 1 u (by omega) (by decide) (by decide) (by decide), zl 22 u (by omega) (by decide) (by decide) (by decide), show z' 9 u = p by rw [z9, if_neg (by omega), if_pos rfl]]
        exact ⟨fun _ => hoi, fun q => absurd rfl q⟩
      · have hl0 : ¬ z 9 j = 0 := by
          rw [z9, if_neg e] at hl
          by_cases e2 : j = u
          · subst e2; omega
          · rw [if_neg e2] at hl; exact hl
        have hc := hC j (by omega)
        rw [hn] at hc
        obtain ⟨t1, t2⟩ := hT.1 j (by omega) hl0
        have hi1 := (hI j (by omega) hl0).1
        rw [zl 2 _ e (by decide) (by decide) (by decide), zl 22 _ e (by decide) (by decide) (by decide), zl 3 _ e (by decide) (by decide) (by decide), zl 4 _ e (by decide) (by decide) (by decide), zz 23 (by decide) (by decide) (by decide) (by decide) (by decide) (by decide) (by decide) (by decide) (by decide) (by decide) (by decide)]
        refine ⟨fun r1 => ?_, fun r1 => ⟨(t2 r1).1, fun r3 => ?_⟩⟩
        · have n1 : ¬ z 3 j = n := by have := (hc.2.1 r1).1; omega
          have n2 : ¬ z 3 j = u := hxu _ (by have := (hi1 r1).1; omega) (by have := (hi1 r1).1; omega)
          rw [g47, zl 1 _ n1 (by decide) (by decide) (by decide), zl 22 _ n1 (by decide) (by decide) (by decide), z9, if_neg n1, if_neg n2]
          exact t1 r1
        · unfold rst at r3
          rw [zl 2 _ e (by decide) (by decide) (by decide), zz 16 (by decide) (by decide) (by decide) (by decide) (by decide) (by decide) (by decide) (by decide) (by decide) (by decide) (by decide)] at r3
          have := (t2 r1).2 r3
          refine ⟨this.1, fun q => ?_⟩
          rw [hio _ (by have := (hc.2.2.1 r1).2; omega)]
          exact this.2 q
    · intro j hj h1 h2
      rw [zn] at hj
      have e : ¬ j = n := by omega
      have hc := hC j (by omega)
      rw [g47, zl 1 _ e (by decide) (by decide) (by decide)] at h2
      unfold rst
      rw [zl 8 _ e (by decide) (by decide) (by decide), zl 2 _ (by have := hc.2.2.2.2.1; omega) (by decide) (by decide) (by decide), zz 16 (by decide) (by decide) (by decide) (by decide) (by decide) (by decide) (by decide) (by decide) (by decide) (by decide) (by decide)]
      by_cases e2 : j = u
      · subst e2; exact hnr
      · rw [z9, if_neg e, if_neg e2] at h1
        exact hT.2 j (by omega) h1 h2
  · -- qU
    obtain ⟨u1, u2, u3, u4, u5, u6⟩ := hU
    refine ⟨by subst hG'; exact u1, by subst hG'; exact u2, by subst hG'; exact u3, by subst hG'; exact u4, by subst hG'; exact u5, fun k hk => ?_⟩
    rw [gK 31 (by decide) (by decide) (by decide) (by decide) (by decide) (by decide) (by decide) (by decide) (by decide) (by decide), gK 56 (by decide) (by decide) (by decide) (by decide) (by decide) (by decide) (by decide) (by decide) (by decide) (by decide)]
    exact ⟨(u6 k hk).1, hvv _ (u6 k hk).2⟩
  · -- waits
    rw [zn, zm, zc, e1, e2, e3, e5, e6, e11, z9, if_pos rfl, z0 1 (by decide) (by decide), zl 6 u (by omega) (by decide) (by decide) (by decide)]
    refine ⟨rfl, rfl, rfl, ?_, ?_, ?_, ?_, ?_, ?_, ?_, ?_, ?_, rfl, by omega, rfl, ?_⟩
    all_goals first | (rw [← hG']; exact h15) | (rw [← hG']; simp [oAk, oBg, gu]; done) | (intro q; exact absurd rfl q) | (intro _; rw [← hG']; simp [oAk, oBg, gu]; done)
