/-- a node begins -/
def zBg (z : Zt) (pc pw : Nat) : Zt := zu (zu (zu (zu (zu (zu z 0 0 (z 0 0 + 1)) 0 1 (z 0 1 + 1)) 9 (z 0 0) 6) 21 (z 0 0) 1) 19 (z 0 0) pc) 20 (z 0 0) pw
def oLb (n : Nat) (G : Gt) : Gt := gu (gu G 84 10 (nI (n + 1))) 84 12 0
def oLy (n f : Nat) (x o s : Int32) (G : Gt) : Gt := gu (gu (gu (gu (gu (gu G 46 58 (nI (n + 1))) 64 f x) 65 f o) 66 f s) 67 f 0) 46 21 (nI (f + 1))
theorem t_bg {N B : Nat} {z : Zt} {G : Gt} {pc pw : Nat} (h : wST N B z G) (hB0 : z 0 0 < B) (hpc : pc ≤ 1) (hpw : pw ≤ 1) :
    aST N B (zBg z pc pw) (oLy (z 0 0) (z 0 1) (G 46 54) (G 46 56) (G 46 55) (oLb (z 0 0) G)) (G 31) (1 - pc) 1 ∧ eX N z G (zBg z pc pw) (oLy (z 0 0) (z 0 1) (G 46 54) (G 46 56) (G 46 55) (oLb (z 0 0) G)) := by
  obtain ⟨⟨hP, hA, hB, hC, hD, hE, hF, hG, hH, hI, hJ, hK, hL, hM, hN, hO, hPg, hQ, hR, hS, hT, hU⟩, hm, hcur, h7, h12, h116, h118, h124, hnx, hna1, hna2, hns, hend, hRH, hFr, hDP, _⟩ := h
  obtain ⟨k1, k2, k3, k4, k5⟩ := id hK
  have hf := fX_of hA hC (by omega)
  generalize hG' : oLy (z 0 0) (z 0 1) (G 46 54) (G 46 56) (G 46 55) (oLb (z 0 0) G) = G' at *
  generalize hz' : zBg z pc pw = z' at *
  generalize hn : z 0 0 = n at *
  generalize hfr : z 0 1 = f at *
  have g3 : G' 3 = G 3 := by rw [← hG']; rfl
  have g5 : G' 5 = G 5 := by rw [← hG']; rfl
  have g7 : G' 7 = G 7 := by rw [← hG']; rfl
  have g9 : G' 9 = G 9 := by rw [← hG']; rfl
  have g11 : G' 11 = G 11 := by rw [← hG']; rfl
  have g13 : G' 13 = G 13 := by rw [← hG']; rfl
  have g14 : G' 14 = G 14 := by rw [← hG']; rfl
  have g16 : G' 16 = G 16 := by rw [← hG']; rfl
  have g18 : G' 18 = G 18 := by rw [← hG']; rfl
  have g19 : G' 19 = G 19 := by rw [← hG']; rfl
  have g20 : G' 20 = G 20 := by rw [← hG']; rfl
  have g22 : G' 22 = G 22 := by rw [← hG']; rfl
  have g24 : G' 24 = G 24 := by rw [← hG']; rfl
  have g25 : G' 25 = G 25 := by rw [← hG']; rfl
  have g27 : G' 27 = G 27 := by rw [← hG']; rfl
  have g29 : G' 29 = G 29 := by rw [← hG']; rfl
  have g31 : G' 31 = G 31 := by rw [← hG']; rfl
  have g33 : G' 33 = G 33 := by rw [← hG']; rfl
  have g35 : G' 35 = G 35 := by rw [← hG']; rfl
  have g37 : G' 37 = G 37 := by rw [← hG']; rfl
  have g39 : G' 39 = G 39 := by rw [← hG']; rfl
  have g47 : G' 47 = G 47 := by rw [← hG']; rfl
  have g48 : G' 48 = G 48 := by rw [← hG']; rfl
  have g49 : G' 49 = G 49 := by rw [← hG']; rfl
  have g50 : G' 50 = G 50 := by rw [← hG']; rfl
  have g51 : G' 51 = G 51 := by rw [← hG']; rfl
  have g52 : G' 52 = G 52 := by rw [← hG']; rfl
  have g53 : G' 53 = G 53 := by rw [← hG']; rfl
  have g54 : G' 54 = G 54 := by rw [← hG']; rfl
  have g55 : G' 55 = G 55 := by rw [← hG']; rfl
  have g56 : G' 56 = G 56 := by rw [← hG']; rfl
  have g57 : G' 57 = G 57 := by rw [← hG']; rfl
  have g58 : G' 58 = G 58 := by rw [← hG']; rfl
  have g59 : G' 59 = G 59 := by rw [← hG']; rfl
  have g60 : G' 60 = G 60 := by rw [← hG']; rfl
  have g61 : G' 61 = G 61 := by rw [← hG']; rfl
  have g68 : G' 68 = G 68 := by rw [← hG']; rfl
  have g69 : G' 69 = G 69 := by rw [← hG']; rfl
  have g70 : G' 70 = G 70 := by rw [← hG']; rfl
  have g71 : G' 71 = G 71 := by rw [← hG']; rfl
  have g72 : G' 72 = G 72 := by rw [← hG']; rfl
  have g73 : G' 73 = G 73 := by rw [← hG']; rfl
  have g74 : G' 74 = G 74 := by rw [← hG']; rfl
  have g75 : G' 75 = G 75 := by rw [← hG']; rfl
  have g76 : G' 76 = G 76 := by rw [← hG']; rfl
  have g77 : G' 77 = G 77 := by rw [← hG']; rfl
  have g78 : G' 78 = G 78 := by rw [← hG']; rfl
  have g79 : G' 79 = G 79 := by rw [← hG']; rfl
  have g80 : G' 80 = G 80 := by rw [← hG']; rfl
  have g108 : G' 108 = G 108 := by rw [← hG']; rfl
  have g110 : G' 110 = G 110 := by rw [← hG']; rfl
  have g112 : G' 112 = G 112 := by rw [← hG']; rfl
  have g114 : G' 114 = G 114 := by rw [← hG']; rfl
  have g116 : G' 116 = G 116 := by rw [← hG']; rfl
  have g118 : G' 118 = G 118 := by rw [← hG']; rfl
  have g120 : G' 120 = G 120 := by rw [← hG']; rfl
  have g122 : G' 122 = G 122 := by rw [← hG']; rfl
  have g124 : G' 124 = G 124 := by rw [← hG']; rfl
  have g126 : G' 126 = G 126 := by rw [← hG']; rfl
  have g128 : G' 128 = G 128 := by rw [← hG']; rfl
  have g129 : G' 129 = G 129 := by rw [← hG']; rfl
  have g131 : G' 131 = G 131 := by rw [← hG']; rfl
  have g133 : G' 133 = G 133 := by rw [← hG']; rfl
  have g134 : G' 134 = G 134 := by rw [← hG']; rfl
  have g136 : G' 136 = G 136 := by rw [← hG']; rfl
  have g138 : G' 138 = G 138 := by rw [← hG']; rfl
  have g140 : G' 140 = G 140 := by rw [← hG']; rfl
  have g142 : G' 142 = G 142 := by rw [← hG']; rfl
  have g144 : G' 144 = G 144 := by rw [← hG']; rfl
  have y1 : z' 1 = z 1 := by rw [← hz']; rfl
  have y2 : z' 2 = z 2 := by rw [← hz']; rfl
  have y3 : z' 3 = z 3 := by rw [← hz']; rfl
  have y4 : z' 4 = z 4 := by rw [← hz']; rfl
  have y5 : z' 5 = z 5 := by rw [← hz']; rfl
  have y6 : z' 6 = z 6 := by rw [← hz']; rfl
  have y8 : z' 8 = z 8 := by rw [← hz']; rfl
  have y10 : z' 10 = z 10 := by rw [← hz']; rfl
  have y11 : z' 11 = z 11 := by rw [← hz']; rfl
  have y12 : z' 12 = z 12 := by rw [← hz']; rfl
  have y13 : z' 13 = z 13 := by rw [← hz']; rfl
  have y14 : z' 14 = z 14 := by rw [← hz']; rfl
  have y15 : z' 15 = z 15 := by rw [← hz']; rfl
  have y16 : z' 16 = z 16 := by rw [← hz']; rfl
  have y17 : z' 17 = z 17 := by rw [← hz']; rfl
  have y18 : z' 18 = z 18 := by rw [← hz']; rfl
  have y22 : z' 22 = z 22 := by rw [← hz']; rfl
  have y23 : z' 23 = z 23 := by rw [← hz']; rfl
  have y24 : z' 24 = z 24 := by rw [← hz']; rfl
  have s2 : z' 0 2 = z 0 2 := by rw [← hz']; rfl
  have s3 : z' 0 3 = z 0 3 := by rw [← hz']; rfl
  have s4 : z' 0 4 = z 0 4 := by rw [← hz']; rfl
  have s5 : z' 0 5 = z 0 5 := by rw [← hz']; rfl
  have s6 : z' 0 6 = z 0 6 := by rw [← hz']; rfl
  have s7 : z' 0 7 = z 0 7 := by rw [← hz']; rfl
  have s8 : z' 0 8 = z 0 8 := by rw [← hz']; rfl
  have zn : z' 0 0 = n + 1 := by rw [← hz']; simp [zBg, zu, hn]
  have zf : z' 0 1 = f + 1 := by rw [← hz']; simp [zBg, zu, hfr]
  have z9 : ∀ j, z' 9 j = if j = n then 6 else z 9 j := by intro j; rw [← hz']; simp only [zBg, zu, hn]; simp
  have z21 : ∀ j, z' 21 j = if j = n then 1 else z 21 j := by intro j; rw [← hz']; simp only [zBg, zu, hn]; simp
  have z19 : ∀ j, z' 19 j = if j = n then pc else z 19 j := by intro j; rw [← hz']; simp only [zBg, zu, hn]; simp
  have z20 : ∀ j, z' 20 j = if j = n then pw else z 20 j := by intro j; rw [← hz']; simp only [zBg, zu, hn]; simp
  have g84 : ∀ j, ¬ j = 10 → ¬ j = 12 → G' 84 j = G 84 j := by
    intro j h1 h2; rw [← hG']; simp only [oLy, oLb, gu]; simp [h1, h2]
  have g46 : ∀ j, ¬ j = 58 → ¬ j = 21 → G' 46 j = G 46 j := by
    intro j h1 h2; rw [← hG']; simp only [oLy, oLb, gu]; simp [h1, h2]
  have g64 : ∀ j, G' 64 j = if j = f then G 46 54 else G 64 j := by intro j; rw [← hG']; simp only [oLy, oLb, gu]; simp
  have g65 : ∀ j, G' 65 j = if j = f then G 46 56 else G 65 j := by intro j; rw [← hG']; simp only [oLy, oLb, gu]; simp
  have g66 : ∀ j, G' 66 j = if j = f then G 46 55 else G 66 j := by intro j; rw [← hG']; simp only [oLy, oLb, gu]; simp
  have g67 : ∀ j, G' 67 j = if j = f then 0 else G 67 j := by intro j; rw [← hG']; simp only [oLy, oLb, gu]; simp
  obtain ⟨gg1, gg2, gg3⟩ := id hG
  rw [hfr] at gg2
  rw [hn, hfr] at gg3
  have hX : eX N z G z' G' := by
    refine ⟨⟨by omega, by omega, by omega, by omega, by omega⟩, fun i hi => ⟨by rw [y1], by rw [y2], by rw [y3], by rw [y8], by rw [y6]⟩, fun i hi _ => by rw [y11], fun i hi h0 => ⟨?_, by rw [g120]⟩, fun i hi => by rw [y13], fun i hi => ⟨by rw [g13], by rw [g47], by rw [g48], by rw [g49], by rw [g50]⟩, fun i hi => by rw [g80], fun l hl hh => by rw [g54]; exact hh⟩
    rw [z9, if_neg (by omega)]; exact h0
  have hvv : ∀ y, vV z y → vV z' y := fun y hy => vV_ext hX hy
  have hio : ∀ q, io z' q = io z q := by intro q; unfold io; rw [y22, y8, y23]
  have hrst : ∀ q, rst z' q ↔ rst z q := by intro q; unfold rst; rw [y2, y16]
  refine ⟨⟨⟨?_, ?_, ?_, ?_, ?_, ?_, ?_, ?_, ?_, ?_, ?_, ?_, ?_, ?_, ?_, ?_, ?_, ?_, ?_, ?_, ?_, ?_⟩, ?_⟩, hX⟩
  · subst hG'; exact hP
  · intro i hi; rw [s8] at hi; rw [g108, y1]; exact hA i hi
  · intro i hi; rw [s8] at hi; rw [g112, y13, y5, s2]; exact hB i hi
  · intro i hi; rw [s8] at hi
    have hc := hC i hi
    rw [g114, y2, y3, y8, y4, zn]
    rw [hn] at hc
    exact ⟨hc.1, hc.2.1, fun q => ⟨(hc.2.2.1 q).1, by have := (hc.2.2.1 q).2; omega⟩, hc.2.2.2⟩
  · intro i hi; rw [s8] at hi; rw [g110, y2, y3, y4]; exact hD i hi
  · intro i hi
    rw [zn] at hi
    rw [y1, y2, y3, y5, y6, g64, g65, g66]
    by_cases e : i = n
    · subst e
      rw [hRH, if_pos rfl, if_pos rfl, if_pos rfl]
      refine ⟨hnx, hns, fun q => hna1 q, fun q => ?_⟩
      have := hna2 q
      rw [hRH] at this
      exact this
    · have h1 := gg3 i (by omega)
      rw [if_neg (by omega), if_neg (by omega), if_neg (by omega)]
      exact hE i (by omega)
  · intro i hi hb
    rw [s8] at hi
    rw [y2] at hb
    obtain ⟨f1, f2, f3, f4, f5⟩ := hF i hi hb
    have h1 := gg2 i hi
    rw [y6, y2, y4, g64, g65, g67, g68, if_neg (by omega), if_neg (by omega), if_neg (by omega)]
    exact ⟨f1, f2, f3, f4, f5⟩
  · refine ⟨fun i j hij hj => ?_, fun i hi => ?_, fun i hi => ?_⟩
    · rw [s8] at hj; rw [y6, y2]; exact gg1 i j hij hj
    · rw [s8] at hi; rw [y6, zf]; have := gg2 i hi; omega
    · rw [zn] at hi; rw [y6, zf]; have := gg2 i (by omega); omega
  · intro j hj h1 h2
    rw [zn] at hj
    rw [z9] at h1 h2
    have e : ¬ j = n := by intro e; rw [if_pos e] at h2; omega
    rw [if_neg e] at h1 h2
    have hr := gg3 j (by omega)
    refine dV_ext hX hf (by omega) (by have := hQ.1; have := hQ.2.2.2.1; omega) (by rw [z9, if_neg e]) (by rw [z19, if_neg e]) (by rw [z20, if_neg e]) (by rw [g116]) (by rw [g118]) (by rw [g122]) (by rw [g124]) (by rw [g126]) (by rw [g128]) (by rw [g67, if_neg (by omega)]) (by rw [g68]) (by rw [g69]) (hH j (by omega) h1 h2)
  · have key : ∀ j, ¬ j = n → z' 9 j = z 9 j := fun j hj => by rw [z9, if_neg hj]
    intro j hj hl
    rw [s8] at hj
    have hl0 : ¬ z 9 j = 0 := by
      by_cases e : j = n
      · subst e; omega
      · rw [key j e] at hl; exact hl
    obtain ⟨q1, q2, q3⟩ := hI j hj hl0
    rw [y2, y3, y4, y10, y16, y17, s5, hrst]
    refine ⟨fun r1 => ?_, fun r1 r2 r3 => ?_, q3⟩
    · have := q1 r1
      rw [key _ (by intro e; rw [e] at this; omega)]; exact this
    · have := q2 r1 r2 r3
      rw [key _ (by intro e; rw [e] at this; have := this.1; split at this <;> omega)]; exact this
  · intro v hv h12'
    rw [s8] at hv
    have e : ¬ v = n := by intro e; rw [z9, if_pos e] at h12'; omega
    rw [z9, if_neg e] at h12'
    obtain ⟨q1, q2, q3, q4, q5⟩ := hJ v hv h12'
    rw [y10, y2, y3, s8]
    refine ⟨q1, q2, ?_, q4, q5⟩
    rw [z9]; split
    · omega
    · exact q3
  · have big : ∀ a, 3 ≤ z' 9 a → 3 ≤ z 9 a := by
      intro a h1
      rw [z9] at h1
      by_cases e : a = n
      · subst e; omega
      · rw [if_neg e] at h1; exact h1
    refine ⟨?_, ?_, ?_, ?_, ?_⟩
    · intro a b ha hb h1 h2 hr
      rw [s8] at ha hb
      rw [y8] at hr
      exact k1 a b ha hb (big a h1) (big b h2) hr
    · intro a ha
      rw [s8] at ha
      rw [z9]; split
      · omega
      · exact k2 a ha
    · intro a ha h1
      rw [s8] at ha
      rw [s7]
      by_cases e : a = n
      · rw [e, hcur]
      · rw [z9, if_neg e] at h1; exact k3 a ha h1
    · rw [s7, s8]; exact k4
    · rw [s7, z9, hcur, if_pos rfl]; omega
  · refine ⟨?_, ?_⟩
    · intro j hj hl hb hr
      rw [s8] at hj
      rw [hrst] at hr
      rw [y2] at hb
      have hl0 : ¬ z 9 j = 0 := by
        by_cases e : j = n
        · subst e; omega
        · rw [z9, if_neg e] at hl; exact hl
      rw [y4, y12, y2, y8, y11]
      exact hL.1 j hj hl0 hb hr
    · obtain ⟨d, d1, d2, d3, d4, d5⟩ := hL.2
      refine ⟨d, d1, by rw [y12, y8, s7]; exact d2, by rw [g84 8 (by decide) (by decide)]; exact d3, by rw [g46 50 (by decide) (by decide)]; exact d4, by rw [g84 13 (by decide) (by decide), g46 49 (by decide) (by decide)]; exact cH_ext hX d5⟩
  · refine ⟨?_, ?_⟩
    · intro i hi hdp
      rw [zn] at hi
      rw [y11] at hdp ⊢
      have e : ¬ i = n := by intro e; subst e; exact hdp hDP
      rw [g120, g70, y6]
      obtain ⟨q1, q2⟩ := hM.1 i (by omega) hdp
      exact ⟨q1, cH_ext hX q2⟩
    · intro i hi h1 h2
      rw [zn] at hi
      rw [y11]
      by_cases e : i = n
      · subst e; exact hDP
      · rw [z9, if_neg e] at h1 h2
        exact hM.2 i (by omega) h1 h2
  · obtain ⟨q1, q2⟩ := hN
    refine ⟨by rw [s2, y13]; exact q1, ?_⟩
    rw [s2, s3, y13, g71, g72, g131, g133]
    intro s' hs'
    obtain ⟨w1, w2, w3, w4⟩ := q2 s' hs'
    refine ⟨w1, w2, w3, fun k hk => ?_⟩
    rcases w4 k hk with w | ⟨w, w'⟩
    · exact Or.inl w
    · exact Or.inr ⟨w, hvv _ w'⟩
  · intro j hj
    rw [s4] at hj
    obtain ⟨w1, w2, w3, w4, w5⟩ := hO j hj
    rw [y14, y1, y5, zn, g136, g73, g74, g47]
    exact ⟨by omega, w2, w3, w4, w5⟩
  · intro j hj
    rw [s5] at hj
    obtain ⟨w1, w2, w3, w4, w5, w6, w7, w8, w9, w10⟩ := hPg j hj
    rw [y15, y1, y5, y16, y17, y18, y2, y6, y8, zn, s8, g138, g75, g76, g77, g78, g79, g140, g142, g144, g47]
    refine ⟨by omega, w2, w3, w4, w5, w6, w7, w8, fun e => ?_, fun e => ?_⟩
    · obtain ⟨v1, v2, v3, v4, v5, v6⟩ := w9 e
      refine ⟨v1, v2, ?_, v4, v5, fun q => ?_⟩
      · rw [z9]; split
        · omega
        · exact v3
      · rw [y4]
        have := v6 q
        exact ⟨by omega, this.2⟩
    · obtain ⟨v1, v2, v3, v4, v5⟩ := w10 e
      refine ⟨by omega, ?_, v3, v4, v5⟩
      rw [z9, if_neg (by omega)]; exact v2
  · obtain ⟨b1, b2, b3, b4, b5, b6, b7, b8, b9, b10, b11, b12, b13, b14, b15, b16, b17, b18, b19, b20, b21, b22, b23, b24, b25⟩ := hQ
    refine ⟨b1, by rw [g84 9 (by decide) (by decide)]; exact b2, by rw [g46 59 (by decide) (by decide)]; exact b3, by rw [zn]; omega, by rw [zn, s8]; omega, by rw [zn, s8]; omega, by rw [zn, ← hG']; simp [oLy, oLb, gu], by rw [zn, ← hG']; simp [oLy, oLb, gu], by rw [s7, g84 11 (by decide) (by decide)]; exact b9, by rw [g84 7 (by decide) (by decide)]; exact b10, by rw [g46 53 (by decide) (by decide)]; exact b11, ?_, ?_, ?_, ?_, ?_, ?_, ?_, ?_, ?_, ?_, ?_, ?_, ?_, ?_⟩
    · rw [g84 14 (by decide) (by decide), g46 51 (by decide) (by decide)]; exact b12
    · rw [g46 51 (by decide) (by decide)]; exact b13
    · rw [g84 19 (by decide) (by decide), g46 62 (by decide) (by decide)]; exact b14
    · rw [g46 63 (by decide) (by decide)]; exact b15
    · rw [g46 64 (by decide) (by decide)]; exact b16
    · rw [zf, ← hG']; simp [oLy, oLb, gu]
    · rw [g46 29 (by decide) (by decide), s2]; exact b18
    · rw [g129, s3]; exact b19
    · rw [g134, s4]; exact b20
    · rw [g46 32 (by decide) (by decide), s4]; exact b21
    · rw [g134, s5]; exact b22
    · rw [g46 35 (by decide) (by decide), s5]; exact b23
    · rw [g46 47 (by decide) (by decide), s6]; exact b24
    · rw [s2, s3]; exact b25
  · obtain ⟨r1, r2, r3, r4⟩ := hR
    rw [hn] at r1 r2 r3
    have t19 : sm (z' 19) n = sm (z 19) n := sm_eq (fun i hi => by rw [z19, if_neg (by omega)])
    have t20 : sm (z' 20) n = sm (z 20) n := sm_eq (fun i hi => by rw [z20, if_neg (by omega)])
    have u19 : z' 19 n = pc := by rw [z19, if_pos rfl]
    have u20 : z' 20 n = pw := by rw [z20, if_pos rfl]
    refine ⟨?_, ?_, ?_, ?_⟩
    · rw [s3, zn]
      show z 0 3 + (sm (z' 19) n + z' 19 n) + (1 - pc) ≤ 1 + (n + 1)
      rw [t19, u19]; omega
    · rw [s6, zn]
      show z 0 6 + (sm (z' 20) n + z' 20 n) ≤ n + 1
      rw [t20, u20]; omega
    · rw [s4, s5, zn]; omega
    · intro i hi
      rw [zn] at hi
      rw [z9, z21]
      by_cases e : i = n
      · rw [if_pos e, if_pos e]; exact ⟨fun _ => rfl, Nat.le_refl _⟩
      · rw [if_neg e, if_neg e]; exact r4 i (by omega)
  · obtain ⟨f', hf'⟩ := hS
    refine ⟨f', fun o ho => ?_⟩
    rw [s7, hio]
    refine oK_ext (N := N) (z := z) (G := G) (z' := z') (G' := G') (by omega) hf.1 (fun _ _ => by rw [y1]) (fun _ _ => ⟨by rw [g47], by rw [g48]⟩) f' ?_ _ _ (hf' o ho)
    intro q q1 q2 q3 q4
    exact ⟨by rw [z9, if_neg (by omega)]; exact q2, by rw [g122], hio q, by rw [y24]⟩
  · refine ⟨?_, ?_⟩
    · intro j hj hl
      rw [s8] at hj
      have hl0 : ¬ z 9 j = 0 := by
        by_cases e : j = n
        · subst e; omega
        · rw [z9, if_neg e] at hl; exact hl
      obtain ⟨t1, t2⟩ := hT.1 j hj hl0
      have hi1 := (hI j hj hl0).1
      rw [y2, y22, y3, y4, y23, hrst, g47, y1]
      refine ⟨fun r1 => ?_, fun r1 => ⟨(t2 r1).1, fun r3 => ⟨(((t2 r1).2) r3).1, fun q => by rw [hio]; exact (((t2 r1).2) r3).2 q⟩⟩⟩
      have nn : ¬ z 3 j = n := by intro e; have := hi1 r1; rw [e] at this; omega
      rw [show z' 9 (z 3 j) = z 9 (z 3 j) by rw [z9, if_neg nn]]
      exact t1 r1
    · intro j hj h1 h2
      rw [zn] at hj
      rw [g47, y1] at h2
      rw [hrst, y8]
      have e : ¬ j = n := by intro e; rw [z9, if_pos e] at h1; omega
      rw [z9, if_neg e] at h1
      exact hT.2 j (by omega) h1 h2
  · obtain ⟨u1, u2, u3, u4, u5, u6⟩ := hU
    refine ⟨by subst hG'; exact u1, by subst hG'; exact u2, by subst hG'; exact u3, by subst hG'; exact u4, by subst hG'; exact u5, fun k hk => ?_⟩
    rw [g31, g56]
    exact ⟨(u6 k hk).1, hvv _ (u6 k hk).2⟩
  · rw [zn, zf, s7, s8, z9, hcur, if_pos rfl]
    refine ⟨hm, rfl, ?_, by omega⟩
    rw [← hG']; simp [oLy, oLb, gu]
