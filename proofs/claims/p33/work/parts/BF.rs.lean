/-! A GENERATOR THAT RESTS GOES ON: asked, or to be closed -/
def zRs (z : Zt) (go g : Nat) : Zt := fun k j =>
  if k = 0 then (if j = 7 then z 18 g else z 0 j)
  else if k = 9 then (if j = z 18 g then 6 else if j = z 0 7 then (if go = 1 then 4 else 0) else z 9 j)
  else if k = 21 then (if go = 0 ∧ j = z 0 7 then 0 else z 21 j)
  else if k = 16 then (if j = g then (if go = 1 then 2 else 3) else if go = 0 ∧ 4 ≤ z 2 (z 0 7) ∧ j = z 2 (z 0 7) - 4 then 4 else z 16 j)
  else if k = 4 then (if j = z 17 g then (if go = 1 then z 0 7 + 1 else 0) else z 4 j)
  else if k = 10 then (if go = 1 ∧ j = z 0 7 then z 17 g else z 10 j)
  else if k = 11 then (if go = 1 ∧ j = z 0 7 then z 12 (z 8 (z 0 7)) + 1 else z 11 j)
  else if k = 12 then (if j = z 17 g then (if go = 1 then z 12 (z 8 (z 0 7)) + 1 else 0) else z 12 j)
  else if k = 23 then (if j = z 17 g then (if go = 1 then io z (z 0 7) else 0) else z 23 j)
  else z k j
def rsf (z : Zt) (go g k j : Nat) : Prop := (k = 84 ∧ (j = 8 ∨ j = 11 ∨ j = 13)) ∨ (k = 46 ∧ (j = 49 ∨ j = 50)) ∨ ((k = 140 ∨ k = 77) ∧ (j = g ∨ (go = 0 ∧ 4 ≤ z 2 (z 0 7) ∧ j = z 2 (z 0 7) - 4))) ∨ (k = 110 ∧ j = z 17 g) ∨ (k = 65 ∧ j = z 6 (z 17 g) - 1) ∨ (go = 1 ∧ k = 120 ∧ j = z 0 7) ∨ (go = 1 ∧ k = 70 ∧ j = z 6 (z 0 7))
theorem zRs_l {z : Zt} {go g k j : Nat} (h0 : ¬ k = 0) (h9 : ¬ k = 9) (h21 : ¬ k = 21) (h16 : ¬ k = 16) (h4 : ¬ k = 4) (h10 : ¬ k = 10) (h11 : ¬ k = 11) (h12 : ¬ k = 12) (h23 : ¬ k = 23) : (zRs z go g) k j = z k j := by
  simp [zRs, h0, h9, h21, h16, h4, h10, h11, h12, h23]
/-- no OPTION is around who rests -/
theorem rest_oi {z : Zt} {G : Gt} {r : Nat} (hC : qC z G) (hI : qI z) (hT : qT z G) (hm : z 0 8 = z 0 0) (hr : rst z r) : ∀ k j, j ≤ k → j < z 0 0 → ¬ z 9 j = 0 → z 8 j = r → z 22 j = 0 := by
  intro k
  induction k with
  | zero =>
    intro j hj hn hl h8
    have e : z 2 j = 0 ∨ ¬ z 2 j = 0 := by omega
    rcases e with e | e
    · have := ((hC j (by omega)).2.1 e).1; omega
    · exact ((hT.1 j (by omega) hl).2 e).1
  | succ k ih =>
    intro j hj hn hl h8
    have e : z 2 j = 0 ∨ ¬ z 2 j = 0 := by omega
    rcases e with e | e
    · obtain ⟨c1, c2⟩ := (hC j (by omega)).2.1 e
      have i1 := ((hI j (by omega) hl).1 e).1
      rw [(hT.1 j (by omega) hl).1 e]
      by_cases c : G 47 (z 1 (z 3 j)) = 26 ∧ z 9 (z 3 j) = 2
      · have := hT.2 (z 3 j) (by omega) c.2 c.1
        rw [← c2, h8] at this
        exact absurd hr this
      · rw [if_neg c]
        exact ih _ (by omega) (by omega) (by omega) (by omega)
    · exact ((hT.1 j (by omega) hl).2 e).1
theorem t_rs {N B : Nat} {z : Zt} {G G' : Gt} {x : Nat → Int32} {sp fp i r w g go : Nat} (h : sIM N B z G x sp fp) (hm : z 0 8 = z 0 0) (h6 : z 9 (z 0 7) = 6) (hi : z 0 7 = i) (hg : g < z 0 5) (hs1 : z 16 g = 1) (hw : z 18 g = w) (hr : z 17 g = r) (hgo : (go = 1 ∧ z 11 i = 0 ∧ z 12 (z 8 i) < 12) ∨ (go = 0 ∧ ¬ z 2 i = 0 ∧ z 4 i = 0)) (ga : agp (rsf z go g) G G') (g11 : G' 84 11 = nI w) (g140 : G' 140 g = nI (if go = 1 then 2 else 3) ∧ G' 77 g = nI (if go = 1 then 2 else 3)) (g110 : G' 110 r = (if go = 1 then nI i else -1) ∧ G' 65 (z 6 r - 1) = (if go = 1 then nI (z 6 i) else -1))
    (g1 : go = 1 → G' 84 8 = nI (z 12 (z 8 i) + 1) ∧ G' 46 50 = nI (z 12 (z 8 i) + 1) ∧ G' 84 13 = nI i ∧ G' 46 49 = nI (z 6 i) ∧ G' 120 i = G 84 13 ∧ G' 70 (z 6 i) = G 46 49) (g0 : go = 0 → G' 84 8 = G 84 8 ∧ G' 84 13 = G 84 13 ∧ G' 46 49 = G 46 49 ∧ G' 46 50 = G 46 50 ∧ (4 ≤ z 2 i → G' 140 (z 2 i - 4) = 4 ∧ G' 77 (z 2 i - 4) = 4)) (hd4 : go = 1 → dV (zRs z go g) G' i) (h25 : go = 1 → G 47 (z 1 i) = 25) :
    sIM N B (zRs z go g) G' x sp fp ∧ eX N z G (zRs z go g) G' ∧ w < z 0 0 ∧ ¬ w = i ∧ z 9 w = 5 ∧ dV z G w ∧ z 8 w = r ∧ 4 ≤ z 2 r ∧ mu (zRs z go g) + (if go = 1 then 0 else 10) ≤ mu z := by
  obtain ⟨hP, hA, hB, hC, hD, hE, hF, hG, hH, hI, hJ, hK, hL, hM, hN, hO, hPg, hQ, hR, hS, hT, hU⟩ := h
  obtain ⟨k1, k2, k3, k4, k5⟩ := id hK
  have hnr := cur_nrst (N := N) hC hI hK hPg (by omega)
  have hf := fX_of hA hC (by omega)
  have hgo2 : go = 1 ∨ go = 0 := by rcases hgo with q | q <;> omega
  have z9 : ∀ j, (zRs z go g) 9 j = if j = w then 6 else if j = i then (if go = 1 then 4 else 0) else z 9 j := by
    intro j; simp only [zRs, hi, hw]; simp
  have z21 : ∀ j, (zRs z go g) 21 j = if go = 0 ∧ j = i then 0 else z 21 j := by
    intro j; simp only [zRs, hi]; simp
  have z16 : ∀ j, (zRs z go g) 16 j = if j = g then (if go = 1 then 2 else 3) else if go = 0 ∧ 4 ≤ z 2 i ∧ j = z 2 i - 4 then 4 else z 16 j := by
    intro j; simp only [zRs, hi]; simp
  have z4 : ∀ j, (zRs z go g) 4 j = if j = r then (if go = 1 then i + 1 else 0) else z 4 j := by
    intro j; simp only [zRs, hi, hr]; simp
  have z10 : ∀ j, (zRs z go g) 10 j = if go = 1 ∧ j = i then r else z 10 j := by
    intro j; simp only [zRs, hi, hr]; simp
  have z11 : ∀ j, (zRs z go g) 11 j = if go = 1 ∧ j = i then z 12 (z 8 i) + 1 else z 11 j := by
    intro j; simp only [zRs, hi]; simp
  have z12 : ∀ j, (zRs z go g) 12 j = if j = r then (if go = 1 then z 12 (z 8 i) + 1 else 0) else z 12 j := by
    intro j; simp only [zRs, hi, hr]; simp
  have z23 : ∀ j, (zRs z go g) 23 j = if j = r then (if go = 1 then io z i else 0) else z 23 j := by
    intro j; simp only [zRs, hi, hr]; simp
  have z0 : ∀ j, ¬ j = 7 → (zRs z go g) 0 j = z 0 j := by intro j h1; simp [zRs, h1]
  have zc : (zRs z go g) 0 7 = w := by simp [zRs, hw]
  have zl : ∀ k, (k = 1 ∨ k = 2 ∨ k = 3 ∨ k = 5 ∨ k = 6 ∨ k = 8 ∨ k = 13 ∨ k = 14 ∨ k = 15 ∨ k = 17 ∨ k = 18 ∨ k = 19 ∨ k = 20 ∨ k = 22 ∨ k = 24) → (zRs z go g) k = z k := fun k a => funext (fun j => zRs_l (by omega) (by omega) (by omega) (by omega) (by omega) (by omega) (by omega) (by omega) (by omega))
  generalize hz' : zRs z go g = z' at *
  have hn' : ∃ n, z 0 0 = n := ⟨_, rfl⟩
  obtain ⟨n, hn⟩ := hn'
  obtain ⟨p1, p2, p3, p4, p5, p6, p7, p8, p9, p10⟩ := hPg g hg
  obtain ⟨r1, r2, r3, r4, r5, r6⟩ := p9 (by omega)
  obtain ⟨v1, v2, v3, v4, v5⟩ := p10 hs1
  rw [hw] at v1 v2 v3 v4 v5
  rw [hr] at r1 r2 r3 r4 r5 v3
  clear r6
  rw [hi] at h6 k3 k4 k5 hnr
  rw [hm] at k4 r1
  rw [hn] at v1 k4 r1
  have hin : i < n := by omega
  have hrst0 : rst z r := ⟨by omega, by rw [r2, Nat.add_sub_cancel_left]; exact hs1⟩
  have h8r : ¬ z 8 i = r := by intro e; rw [e] at hnr; exact hnr hrst0
  have hwi : ¬ w = i := by intro e; rw [e] at v2; omega
  have hCi := hC i (by omega)
  have h8i : z 8 i < n := by have := hCi.2.2.2.2.1; omega
  have hn6 : n ≤ 600 := by have := hQ.1; have := hQ.2.2.2.1; omega
  have hii0 : go = 0 → z 8 i = i := fun e => by
    rcases hgo with q | q
    · omega
    · exact (hCi.2.2.1 q.2.1).1
  have hri : ¬ r = i := by
    intro e
    rcases hgo with q | q
    · have e8 := (hC r (by omega)).2.2.1 (by omega)
      rw [e] at e8
      rw [e] at h8r
      exact h8r e8.1
    · have := hii0 q.1
      rw [e] at h8r
      exact h8r this
  -- who calls is not in a body that rests
  have hcc : ∀ q, q < n → 3 ≤ z 9 q → ¬ z 9 q = 5 → ¬ z 8 q = r := by
    intro q hq h3 h5 e
    have := k1 q w (by omega) (by omega) h3 (by omega) (e.trans v3.symm)
    rw [this] at h5
    exact h5 v2
  have z22w : z 22 w = 0 := rest_oi hC hI hT hm hrst0 w w (Nat.le_refl _) (by omega) (by omega) v3
  have y1 := zl 1 (by omega)
  have y2 := zl 2 (by omega)
  have y3 := zl 3 (by omega)
  have y5 := zl 5 (by omega)
  have y6 := zl 6 (by omega)
  have y8 := zl 8 (by omega)
  have y13 := zl 13 (by omega)
  have y14 := zl 14 (by omega)
  have y15 := zl 15 (by omega)
  have y17 := zl 17 (by omega)
  have y18 := zl 18 (by omega)
  have y19 := zl 19 (by omega)
  have y20 := zl 20 (by omega)
  have y22 := zl 22 (by omega)
  have y24 := zl 24 (by omega)
  have s0 := z0 0 (by decide)
  have s1 := z0 1 (by decide)
  have s2 := z0 2 (by decide)
  have s3 := z0 3 (by decide)
  have s4 := z0 4 (by decide)
  have s5 := z0 5 (by decide)
  have s6 := z0 6 (by decide)
  have s8 := z0 8 (by decide)
  have hio : ∀ q, ¬ z 8 q = r → io z' q = io z q := by
    intro q hq; unfold io
    rw [y22, y8, z23, if_neg hq]
  have hiow : io z' w = io z i := by
    have e1 : io z' w = (if go = 1 then io z i else 0) := by
      unfold io
      rw [y22, z22w, if_pos rfl, y8, v3, z23, if_pos rfl]
      rfl
    rw [e1]
    rcases hgo with q | q
    · rw [if_pos q.1]
    · rw [if_neg (by omega)]
      have t := (hT.1 i (by omega) (by omega)).2 q.2.1
      have h8 := hii0 q.1
      rw [h8] at hnr
      have t2 := (t.2 hnr).1 q.2.2
      unfold io
      rw [t.1, if_pos rfl, h8, t2]
  have gl : ∀ c', (c' = 31 ∨ c' = 47 ∨ c' = 48 ∨ c' = 54 ∨ c' = 64 ∨ (66 ≤ c' ∧ c' ≤ 69) ∨ (71 ≤ c' ∧ c' ≤ 76) ∨ (78 ≤ c' ∧ c' ≤ 80) ∨ c' = 108 ∨ (111 ≤ c' ∧ c' ≤ 119) ∨ (121 ≤ c' ∧ c' ≤ 139) ∨ (141 ≤ c' ∧ c' ≤ 145)) → G' c' = G c' := fun c' q => funext (fun j => ga c' j (by unfold rsf; omega))
  have g84 : ∀ j, ¬ j = 8 → ¬ j = 11 → ¬ j = 13 → G' 84 j = G 84 j := fun j a1 a2 a3 => ga _ _ (by unfold rsf; omega)
  have g46 : ∀ j, ¬ j = 49 → ¬ j = 50 → G' 46 j = G 46 j := fun j a1 a2 => ga _ _ (by unfold rsf; omega)
  have gg1 := hG.1
  have gg3 := hG.2.2
  have n65 : ∀ j, j < n → ¬ z 6 j = z 6 r - 1 := by
    intro j hj e
    have h6r := (hF r (by omega) (by omega)).1
    rcases Nat.lt_trichotomy j r with q | q | q
    · have := (gg1 j r q (by omega)).2 (by omega); omega
    · rw [q] at e; omega
    · have := (gg1 r j q (by omega)).1; omega
  have n6 : ∀ q, q < n → ¬ q = i → ¬ z 6 q = z 6 i := by
    intro q hq hne e
    rcases Nat.lt_trichotomy q i with c | c | c
    · have := (gg1 q i c (by omega)).1; omega
    · exact hne c
    · have := (gg1 i q c (by omega)).1; omega
  have g120 : ∀ q, (go = 1 → ¬ q = i) → G' 120 q = G 120 q := fun q hq => ga _ _ (by unfold rsf; rw [hi]; omega)
  have g70 : ∀ q, q < n → (go = 1 → ¬ q = i) → G' 70 (z 6 q) = G 70 (z 6 q) := by
    intro q hq hne
    refine ga _ _ ?_
    unfold rsf
    rw [hi]
    have h1 : go = 1 → ¬ z 6 q = z 6 i := fun e => n6 q hq (hne e)
    omega
  have hl9 : ∀ j, ¬ z' 9 j = 0 → ¬ z 9 j = 0 := by
    intro j hl
    rw [z9] at hl
    by_cases e : j = w
    · rw [e]; omega
    · rw [if_neg e] at hl
      by_cases e2 : j = i
      · rw [e2]; omega
      · rw [if_neg e2] at hl; exact hl
  have hd0 : go = 0 → z' 9 i = 0 := fun e => by rw [z9, if_neg (fun y => hwi y.symm), if_pos rfl, if_neg (by omega)]
  have hX : eX N z G z' G' := by
    refine ⟨⟨by rw [s0]; exact Nat.le_refl _, by rw [s4]; exact Nat.le_refl _, by rw [s5]; exact Nat.le_refl _, by rw [s2]; exact Nat.le_refl _, by rw [s6]; exact Nat.le_refl _⟩, fun q _ => ?_, fun q _ h0 => ?_, fun q hq h0 => ⟨?_, ?_⟩, fun q _ => by rw [y13], fun m _ => ?_, fun q _ => by rw [gl 80 (by omega)], fun l _ hh => by rw [gl 54 (by omega)]; exact hh⟩
    · rw [y1, y2, y3, y8, y6]; exact ⟨rfl, rfl, rfl, rfl, rfl⟩
    · rw [z11, if_neg]
      rintro ⟨e1, e2⟩
      rcases hgo with q' | q'
      · rw [e2] at h0; exact h0 q'.2.1
      · omega
    · rw [z9, if_neg (by intro e; rw [e] at h0; omega), if_neg (by intro e; rw [e] at h0; omega)]; exact h0
    · exact g120 q (fun _ e => by rw [e] at h0; omega)
    · rw [gl 47 (by omega), gl 48 (by omega)]
      exact ⟨ga _ _ (by unfold rsf; omega), rfl, rfl, ga _ _ (by unfold rsf; omega), ga _ _ (by unfold rsf; omega)⟩
  have hvv : ∀ y, vV z y → vV z' y := fun y hy => vV_ext hX hy
  have hgj : ∀ j, j < n → ¬ z 9 j = 0 → 4 ≤ z 2 j → z 2 j - 4 = g → j = r := by
    intro j hj hl h4 e
    have a := ((hI j (by omega) hl).2.2.2.2 h4).2.1
    rw [e, hr] at a
    exact a.symm
  have hgi : ∀ j, j < n → ¬ z 9 j = 0 → 4 ≤ z 2 j → 4 ≤ z 2 i → z 2 j - 4 = z 2 i - 4 → j = i := by
    intro j hj hl h4 h4' e
    have a := ((hI j (by omega) hl).2.2.2.2 h4).2.1
    have b' := ((hI i (by omega) (by omega)).2.2.2.2 h4').2.1
    rw [e] at a
    exact a.symm.trans b'
  have z16j : ∀ j, j < n → ¬ z 9 j = 0 → 4 ≤ z 2 j → ¬ j = r → (go = 0 → ¬ j = i) → z' 16 (z 2 j - 4) = z 16 (z 2 j - 4) := by
    intro j hj hl h4 h1 h2
    rw [z16, if_neg (fun e => h1 (hgj j hj hl h4 e)), if_neg (fun q => h2 q.1 (hgi j hj hl h4 q.2.1 q.2.2))]
  have hnrr : ¬ rst z' r := by
    rintro ⟨q1, q2⟩
    rw [y2, r2, Nat.add_sub_cancel_left, z16, if_pos rfl] at q2
    split at q2 <;> omega
  obtain ⟨Q1, Q2, Q3, Q4, Q5, Q6, Q7, Q8, Q9, Q10, Q11, Q12, Q13, Q14, Q15, Q16, Q17, Q18, Q19, Q20, Q21, Q22, Q23, Q24, Q25⟩ := id hQ
  obtain ⟨R1, R2, R3, R4⟩ := id hR
  have hL1 : z 21 i = 1 := (R4 i (by omega)).1 (by omega)
  refine ⟨⟨?_, ?_, ?_, ?_, ?_, ?_, ?_, ?_, ?_, ?_, ?_, ?_, ?_, ?_, ?_, ?_, ?_, ?_, ?_, ?_, ?_, ?_⟩, hX, by rw [hn]; exact v1, hwi, v2, hH w (by omega) (by omega) (by omega), v3, by omega, ?_⟩
  · exact gP_eq hP (fun c' j q => ga c' j (by unfold rsf; omega))
  · intro q hq; rw [s8] at hq; rw [gl 108 (by omega), y1]; exact hA q hq
  · intro q hq; rw [s8] at hq; rw [gl 112 (by omega), y13, y5, s2]; exact hB q hq
  · intro q hq
    rw [s8] at hq
    have w' := hC q hq
    rw [gl 114 (by omega), y2, y3, y8, z4, s0]
    refine ⟨w'.1, w'.2.1, fun e => ⟨(w'.2.2.1 e).1, ?_⟩, w'.2.2.2⟩
    split
    · split <;> omega
    · exact (w'.2.2.1 e).2
  · intro q hq
    rw [s8] at hq
    have w' := hD q hq
    rw [y2, y3, z4]
    by_cases e : q = r
    · rw [if_pos e]
      refine ⟨fun e2 => by rw [e] at e2; omega, fun _ => ?_⟩
      rw [e, g110.1]
      rcases hgo2 with p | p
      · rw [if_pos p, if_pos p, Nat.add_sub_cancel]
        unfold oM; rw [if_neg (by omega)]
      · rw [if_neg (by omega), if_neg (by omega)]
        unfold oM; rw [if_pos rfl]
    · rw [if_neg e, ga 110 q (by unfold rsf; rw [hr]; omega)]; exact w'
  · intro q hq
    rw [s0, hn] at hq
    rw [gl 64 (by omega), gl 66 (by omega), y1, y2, y3, y5, y6, ga 65 (z 6 q) (by unfold rsf; rw [hr]; have := n65 q hq; omega)]
    exact hE q (by omega)
  · intro q hq e2
    rw [s8] at hq
    rw [y2] at e2
    have w' := hF q hq e2
    rw [gl 64 (by omega), gl 67 (by omega), gl 68 (by omega), y2, z4, y6]
    refine ⟨w'.1, w'.2.1, w'.2.2.1, ?_, w'.2.2.2.2⟩
    by_cases e : q = r
    · rw [if_pos e, e, g110.2]
      rcases hgo2 with p | p
      · rw [if_pos p, if_pos p, Nat.add_sub_cancel]
        unfold oM; rw [if_neg (by omega)]
      · rw [if_neg (by omega), if_neg (by omega)]
        unfold oM; rw [if_pos rfl]
    · have hne : ¬ z 6 q - 1 = z 6 r - 1 := by
        have hr1 := (hF r (by omega) (by omega)).1
        intro e3
        rcases Nat.lt_trichotomy q r with c | c | c
        · have := (gg1 q r c (by omega)).1; omega
        · exact e c
        · have := (gg1 r q c (by omega)).1; omega
      rw [if_neg e, ga 65 (z 6 q - 1) (by unfold rsf; rw [hr]; omega)]; exact w'.2.2.2.1
  · unfold qG; rw [y6, y2, s8, s0, s1]; exact hG
  · -- qH
    intro j hj h1 h2
    rw [s0, hn] at hj
    rw [z9] at h1 h2
    by_cases e : j = w
    · rw [if_pos e] at h2; omega
    · rw [if_neg e] at h1 h2
      by_cases e2 : j = i
      · rw [if_pos e2] at h1
        have p : go = 1 := by
          rcases hgo2 with p | p
          · exact p
          · rw [if_neg (by omega)] at h1; omega
        rw [e2]; exact hd4 p
      · rw [if_neg e2] at h1 h2
        exact dV_ext hX hf (by omega) (by omega) (by rw [z9, if_neg e, if_neg e2]) (by rw [y19]) (by rw [y20]) (by rw [gl 116 (by omega)]) (by rw [gl 118 (by omega)]) (by rw [gl 122 (by omega)]) (by rw [gl 124 (by omega)]) (by rw [gl 126 (by omega)]) (by rw [gl 128 (by omega)]) (by rw [gl 67 (by omega)]) (by rw [gl 68 (by omega)]) (by rw [gl 69 (by omega)]) (hH j (by omega) h1 h2)
  · -- qI
    intro j hj hl
    rw [s8, hm, hn] at hj
    have hl0 := hl9 j hl
    have hji : go = 0 → ¬ j = i := by intro e e2; rw [e2] at hl; exact hl (hd0 e)
    obtain ⟨q1, q2, q3, q4, q5⟩ := hI j (by omega) hl0
    rw [y2, y3, y17, s5]
    refine ⟨fun e => ?_, fun e1 e2 e3 => ?_, fun e => ?_, fun e => ?_, fun e => ?_⟩
    · have w' := q1 e
      have n1 : ¬ z 3 j = w := by intro y; rw [y] at w'; omega
      have n2 : ¬ z 3 j = i := by intro y; rw [y] at w'; omega
      rw [z9, if_neg n1, if_neg n2, z10, if_neg (fun y => n2 y.2)]; exact w'
    · by_cases ej : j = r
      · rw [z4, if_pos ej] at e2 ⊢
        rcases hgo2 with p | p
        · rw [if_pos p, Nat.add_sub_cancel, z9, if_neg (fun y => hwi y.symm), if_pos rfl, if_pos p, if_neg (show ¬ z 2 j = 2 by rw [ej]; omega), z10, if_pos ⟨p, rfl⟩, ej]
          exact ⟨rfl, rfl⟩
        · rw [if_neg (by omega)] at e2; exact absurd rfl e2
      · have e3' : ¬ rst z j := by
          rintro ⟨a1, a2⟩
          refine e3 ⟨by rw [y2]; exact a1, ?_⟩
          rw [y2, z16j j hj hl0 a1 ej hji]; exact a2
        rw [z4, if_neg ej] at e2 ⊢
        have w' := q2 e1 e2 e3'
        have n1 : ¬ z 4 j - 1 = w := by
          intro y; rw [y] at w'
          have := w'.1
          split at this <;> omega
        have n2 : ¬ z 4 j - 1 = i := by
          intro y; rw [y] at w'
          have := w'.1
          split at this <;> omega
        have z10c : z' 10 (z 4 j - 1) = z 10 (z 4 j - 1) := by rw [z10, if_neg (fun y => n2 y.2)]
        rw [z9, if_neg n1, if_neg n2, z10c]; exact w'
    · rw [z4, if_neg (by intro y; rw [y] at e; omega)]; exact q3 e
    · rw [z4, if_neg (by intro y; rw [y] at e; omega)]; exact q4 e
    · obtain ⟨w1, w2, w3⟩ := q5 e
      refine ⟨w1, w2, ?_⟩
      by_cases ej : j = r
      · rw [ej, r2, Nat.add_sub_cancel_left, z16, if_pos rfl, z4, if_pos rfl]
        rcases hgo2 with p | p
        · rw [if_pos p, if_pos p]; exact Or.inr (Or.inl ⟨rfl, by omega⟩)
        · rw [if_neg (by omega), if_neg (by omega)]; exact Or.inr (Or.inr ⟨rfl, rfl⟩)
      · rw [z16j j hj hl0 e ej hji, z4, if_neg ej]; exact w3
  · -- qJ
    intro v hv h12
    rw [s8, hm, hn] at hv
    have n1 : ¬ v = w := by intro e; rw [z9, if_pos e] at h12; omega
    have n2 : ¬ v = i := by
      intro e; rw [z9, if_neg n1, if_pos e] at h12
      split at h12 <;> omega
    rw [z9, if_neg n1, if_neg n2] at h12
    obtain ⟨q1, q2, q3, q4, q5⟩ := hJ v (by omega) h12
    rw [z10, if_neg (fun y => n2 y.2), y2, y3, s8]
    refine ⟨q1, q2, ?_, q4, q5⟩
    rw [z9]
    split
    · omega
    · split
      · rename_i e1 e2
        rcases hgo with p | p
        · rw [if_pos p.1]; omega
        · rw [e2] at q4; exact absurd q4 p.2.1
      · exact q3
  · -- qK
    have big : ∀ a, a < n → 3 ≤ z' 9 a → 3 ≤ z 9 a := by
      intro a ha h1
      rw [z9] at h1
      by_cases e : a = w
      · rw [e]; omega
      · rw [if_neg e] at h1
        by_cases e2 : a = i
        · rw [e2]; omega
        · rw [if_neg e2] at h1; exact h1
    refine ⟨?_, ?_, ?_, ?_, ?_⟩
    · intro a b' ha hb' h1 h2 hh
      rw [s8, hm, hn] at ha hb'
      rw [y8] at hh
      exact k1 a b' (by omega) (by omega) (big a ha h1) (big b' hb' h2) hh
    · intro a ha
      rw [s8] at ha
      rw [z9]; split
      · omega
      · split
        · split <;> omega
        · exact k2 a ha
    · intro a ha h1
      rw [s8] at ha
      rw [zc]
      rw [z9] at h1
      by_cases e : a = w
      · exact e
      · rw [if_neg e] at h1
        by_cases e2 : a = i
        · rw [if_pos e2] at h1; split at h1 <;> omega
        · rw [if_neg e2] at h1; exact absurd (k3 a ha h1) e2
    · rw [zc, s8]; omega
    · rw [zc, z9, if_pos rfl]; omega
  · -- qL
    refine ⟨?_, ?_⟩
    · intro j hj hl hbj hrj
      rw [s8, hm, hn] at hj
      have hl0 := hl9 j hl
      have hji : go = 0 → ¬ j = i := by intro e e2; rw [e2] at hl; exact hl (hd0 e)
      rw [y2] at hbj ⊢
      rw [y8]
      by_cases ej : j = r
      · rw [z4, if_pos ej, z12, if_pos ej]
        rcases hgo2 with p | p
        · rw [if_pos p, if_pos p, Nat.add_sub_cancel, z11, if_pos ⟨p, rfl⟩, z12, if_neg h8r]
          exact ⟨fun q => by omega, fun _ => ⟨fun q => by rw [ej] at q; omega, fun _ => ⟨rfl, rfl⟩⟩⟩
        · rw [if_neg (by omega), if_neg (by omega)]
          exact ⟨fun _ => rfl, fun q => absurd rfl q⟩
      · have e3' : ¬ rst z j := by
          rintro ⟨a1, a2⟩
          refine hrj ⟨by rw [y2]; exact a1, ?_⟩
          rw [y2, z16j j hj hl0 a1 ej hji]; exact a2
        obtain ⟨l1, l2⟩ := hL.1 j (by omega) hl0 hbj e3'
        rw [z4, if_neg ej, z12, if_neg ej]
        refine ⟨l1, fun q => ?_⟩
        have w' := (hI j (by omega) hl0).2.1 hbj q e3'
        have hc1 := (hC j (by omega)).2.2.1 hbj
        have n2 : ¬ z 4 j - 1 = i := by
          intro y; rw [y] at w'
          have := w'.1
          split at this <;> omega
        have h8c := hcc (z 4 j - 1) (by omega) (by rw [w'.1]; split <;> omega) (by rw [w'.1]; split <;> omega)
        rw [z11, if_neg (fun y => n2 y.2), z12, if_neg h8c]
        exact l2 q
    · obtain ⟨d, d1, d2, d3, d4, d5⟩ := hL.2
      rw [hi] at d2
      rw [zc, y8, v3, z12, if_pos rfl]
      rcases hgo with p | p
      · obtain ⟨a1, a2, a3, a4, a5, a6⟩ := g1 p.1
        rw [if_pos p.1]
        refine ⟨z 12 (z 8 i) + 1, by omega, rfl, a1, a2, ?_⟩
        rw [a3, a4]
        refine Or.inr ⟨i, by rw [s0, hn]; exact hin, rfl, by rw [y6], ?_, by omega⟩
        rw [z11, if_pos ⟨p.1, rfl⟩]
      · obtain ⟨a1, a2, a3, a4, a5⟩ := g0 p.1
        have h8 := hii0 p.1
        rw [h8] at hnr d2
        have l1 := (hL.1 i (by omega) (by omega) p.2.1 hnr).1 p.2.2
        rw [if_neg (by omega)]
        refine ⟨d, d1, by omega, by rw [a1]; exact d3, by rw [a4]; exact d4, by rw [a2, a3]; exact cH_ext hX d5⟩
  · -- qM
    refine ⟨?_, ?_⟩
    · intro q hq hdp
      rw [s0, hn] at hq
      rw [y6]
      by_cases e : go = 1 ∧ q = i
      · obtain ⟨a1, a2, a3, a4, a5, a6⟩ := g1 e.1
        obtain ⟨d, d1, d2, d3, d4, d5⟩ := hL.2
        rw [hi] at d2
        rw [z11, if_pos e, e.2, a5, a6, Nat.add_sub_cancel, d2]
        refine ⟨?_, cH_ext hX d5⟩
        rcases hgo with p | p
        · omega
        · omega
      · rw [z11, if_neg e] at hdp ⊢
        have hne : go = 1 → ¬ q = i := fun a b' => e ⟨a, b'⟩
        rw [g120 q hne, g70 q hq hne]
        obtain ⟨m1, m2⟩ := hM.1 q (by omega) hdp
        exact ⟨m1, cH_ext hX m2⟩
    · intro q hq h1 h2
      rw [s0] at hq
      rw [z9] at h1 h2
      by_cases e : q = w
      · rw [if_pos e] at h2; omega
      · rw [if_neg e] at h1 h2
        by_cases e2 : q = i
        · rw [if_pos e2] at h1 h2
          rcases hgo2 with p | p
          · rw [if_pos p] at h2; omega
          · rw [if_neg (by omega)] at h1; omega
        · rw [if_neg e2] at h1 h2
          rw [z11, if_neg (fun y => e2 y.2)]; exact hM.2 q hq h1 h2
  · -- qN
    obtain ⟨q1, q2⟩ := hN
    refine ⟨by rw [s2, y13]; exact q1, ?_⟩
    rw [s2, s3, y13, gl 71 (by omega), gl 72 (by omega), gl 131 (by omega), gl 133 (by omega)]
    intro s' hs'
    obtain ⟨w1, w2, w3, w4⟩ := q2 s' hs'
    exact ⟨w1, w2, w3, fun k hk => (w4 k hk).imp id (fun w => ⟨w.1, hvv _ w.2⟩)⟩
  · unfold qO; rw [s4, y14, y1, y5, s0, gl 136 (by omega), gl 73 (by omega), gl 74 (by omega), gl 47 (by omega)]; exact hO
  · -- qP
    intro j hj
    rw [s5] at hj
    obtain ⟨w1, w2, w3, w4, w5, w6, w7, w8, w9, w10⟩ := hPg j hj
    rw [y15, y1, y5, s0, s8, y17, y2, y6, y8, y18, z16, gl 138 (by omega), gl 75 (by omega), gl 76 (by omega), gl 79 (by omega), gl 142 (by omega), gl 144 (by omega), gl 78 (by omega), gl 47 (by omega)]
    refine ⟨w1, w2, w3, w4, w5, ?_⟩
    have hlr : ¬ z' 9 r = 0 := by
      rw [z9]
      by_cases e : r = w
      · rw [if_pos e]; omega
      · rw [if_neg e, if_neg hri]; exact r3
    by_cases ej : j = g
    · rw [if_pos ej, ej, hr]
      refine ⟨by split <;> omega, g140.1, g140.2, fun _ => ⟨by rw [hm, hn]; exact r1, r2, hlr, r4, r5, fun y => ?_⟩, fun q => by split at q <;> omega⟩
      have p : go = 1 := by
        rcases hgo2 with p | p
        · exact p
        · rw [if_neg (by omega)] at y; omega
      rw [z4, if_pos rfl, if_pos p, Nat.add_sub_cancel]
      exact ⟨by rw [hn]; exact hin, h25 p⟩
    · rw [if_neg ej]
      by_cases eg : go = 0 ∧ 4 ≤ z 2 i ∧ j = z 2 i - 4
      · obtain ⟨a1, a2, a3, a4, a5⟩ := g0 eg.1
        obtain ⟨b1, b2⟩ := a5 eg.2.1
        rw [if_pos eg, eg.2.2, b1, b2]
        exact ⟨Nat.le_refl _, rfl, rfl, fun q => by omega, fun q => by omega⟩
      · rw [if_neg eg, ga 140 j (by unfold rsf; rw [hi]; omega), ga 77 j (by unfold rsf; rw [hi]; omega)]
        refine ⟨w6, w7, w8, fun q => ?_, fun q => ?_⟩
        · obtain ⟨u1, u2, u3, u4, u5, u6⟩ := w9 q
          refine ⟨u1, u2, ?_, u4, u5, fun y => by rw [z4, if_neg (fun e => ej (by rw [e, r2] at u2; omega))]; exact u6 y⟩
          rw [z9]
          split
          · omega
          · split
            · rename_i e1 e2
              rcases hgo with p | p
              · rw [if_pos p.1]; omega
              · rw [e2] at u2
                exact absurd ⟨p.1, by omega, by omega⟩ eg
            · exact u3
        · obtain ⟨u1, u2, u3, u4, u5⟩ := w10 q
          obtain ⟨x1, x2, x3, x4, x5⟩ := w9 (by omega)
          have n1 : ¬ z 18 j = w := by
            intro e; rw [e, v3] at u3
            rw [← u3, r2] at x2; omega
          have n2 : ¬ z 18 j = i := by intro e; rw [e] at u2; omega
          refine ⟨u1, ?_, u3, u4, u5⟩
          rw [z9, if_neg n1, if_neg n2]; exact u2
  · -- qQ
    refine ⟨Q1, by rw [g84 9 (by decide) (by decide) (by decide)]; exact Q2, by rw [g46 59 (by decide) (by decide)]; exact Q3, by rw [s0]; exact Q4, by rw [s0, s8]; exact Q5, by rw [s0, s8]; exact Q6, by rw [g84 10 (by decide) (by decide) (by decide), s0]; exact Q7, by rw [g46 58 (by decide) (by decide), s0]; exact Q8, by rw [zc]; exact g11, by rw [g84 7 (by decide) (by decide) (by decide)]; exact Q10, by rw [g46 53 (by decide) (by decide)]; exact Q11, by rw [g84 14 (by decide) (by decide) (by decide), g46 51 (by decide) (by decide)]; exact Q12, by rw [g46 51 (by decide) (by decide)]; exact Q13, by rw [g84 19 (by decide) (by decide) (by decide), g46 62 (by decide) (by decide)]; exact Q14, by rw [g46 63 (by decide) (by decide)]; exact Q15, by rw [g46 64 (by decide) (by decide)]; exact Q16, by rw [g46 21 (by decide) (by decide), s1]; exact Q17, by rw [g46 29 (by decide) (by decide), s2]; exact Q18, by rw [gl 129 (by omega), s3]; exact Q19, by rw [gl 134 (by omega), s4]; exact Q20, by rw [g46 32 (by decide) (by decide), s4]; exact Q21, by rw [gl 134 (by omega), s5]; exact Q22, by rw [g46 35 (by decide) (by decide), s5]; exact Q23, by rw [g46 47 (by decide) (by decide), s6]; exact Q24, by rw [s2, s3]; exact Q25⟩
  · -- qR
    refine ⟨by rw [s3, y19, s0]; exact R1, by rw [s6, y20, s0]; exact R2, by rw [s4, s5, s0]; exact R3, ?_⟩
    intro q hq
    rw [s0] at hq
    rw [z21]
    refine ⟨fun hl => ?_, ?_⟩
    · by_cases e : go = 0 ∧ q = i
      · rw [e.2] at hl; exact absurd (hd0 e.1) hl
      · rw [if_neg e]; exact (R4 q hq).1 (hl9 q hl)
    · split
      · omega
      · exact (R4 q hq).2
  · -- qS
    obtain ⟨f, hf'⟩ := hS
    refine ⟨f, fun o ho => ?_⟩
    have h0 := hf' o ho
    rw [hi] at h0
    rw [zc, hiow]
    refine oK_ext (N := N) (z := z) (z' := z') (G := G) (G' := G') (by rw [s0]; exact Nat.le_refl _) hf.1 (fun q _ => by rw [y1]) (fun m _ => ⟨by rw [gl 47 (by omega)], by rw [gl 48 (by omega)]⟩) f (fun q q1 q2 q3 q4 => ?_) _ _ h0
    have n8 : ¬ z 8 q = r := by
      intro e
      have := hT.2 q q1 q2 q3
      rw [e] at this; exact this hrst0
    refine ⟨?_, by rw [gl 122 (by omega)], hio q n8, by rw [y24]⟩
    rw [z9, if_neg (by intro e; rw [e] at q2; omega), if_neg (by intro e; rw [e] at q2; omega)]; exact q2
  · -- qT
    refine ⟨?_, ?_⟩
    · intro j hj hl
      rw [s8, hm, hn] at hj
      have hl0 := hl9 j hl
      have hji : go = 0 → ¬ j = i := by intro e e2; rw [e2] at hl; exact hl (hd0 e)
      obtain ⟨t1, t2⟩ := hT.1 j (by omega) hl0
      have i1 := (hI j (by omega) hl0).1
      rw [y2, y3, y1, y22, gl 47 (by omega)]
      refine ⟨fun q => ?_, fun q => ⟨(t2 q).1, fun q3 => ?_⟩⟩
      · have w' := i1 q
        have z93 : z' 9 (z 3 j) = z 9 (z 3 j) := by rw [z9, if_neg (by intro e; rw [e] at w'; omega), if_neg (by intro e; rw [e] at w'; omega)]
        rw [z93]; exact t1 q
      · by_cases ej : j = r
        · rw [z4, if_pos ej, z23, if_pos ej]
          rcases hgo2 with p | p
          · rw [if_pos p, if_pos p, Nat.add_sub_cancel]
            exact ⟨fun a => by omega, fun _ => (hio i h8r).symm⟩
          · rw [if_neg (by omega), if_neg (by omega)]
            exact ⟨fun _ => rfl, fun a => absurd rfl a⟩
        · have e3' : ¬ rst z j := by
            rintro ⟨a1, a2⟩
            refine q3 ⟨by rw [y2]; exact a1, ?_⟩
            rw [y2, z16j j hj hl0 a1 ej hji]; exact a2
          have w := (t2 q).2 e3'
          rw [z4, if_neg ej, z23, if_neg ej]
          refine ⟨w.1, fun q4 => ?_⟩
          have w' := (hI j (by omega) hl0).2.1 q q4 e3'
          have hc1 := (hC j (by omega)).2.2.1 q
          have h8c := hcc (z 4 j - 1) (by omega) (by rw [w'.1]; split <;> omega) (by rw [w'.1]; split <;> omega)
          rw [hio _ h8c]; exact w.2 q4
    · intro j hj h1 h2
      rw [s0, hn] at hj
      have n1 : ¬ j = w := by intro e; rw [z9, if_pos e] at h1; omega
      have n2 : ¬ j = i := by
        intro e; rw [z9, if_neg n1, if_pos e] at h1
        split at h1 <;> omega
      rw [z9, if_neg n1, if_neg n2] at h1
      rw [y1, gl 47 (by omega)] at h2
      rw [y8]
      have w' := hT.2 j (by omega) h1 h2
      have hr8 : z 8 j < n := by have := (hC j (by omega)).2.2.2.2.1; omega
      have hlj := live_root hC hI j j (Nat.le_refl _) (by omega) (by omega)
      by_cases e : z 8 j = r
      · rw [e]; exact hnrr
      · rintro ⟨a1, a2⟩
        rw [y2] at a1 a2
        by_cases e0 : go = 0 ∧ z 8 j = i
        · rw [z16, if_neg (fun y => e (hgj _ hr8 hlj a1 y)), if_pos ⟨e0.1, by rw [← e0.2]; exact a1, by rw [e0.2]⟩] at a2
          omega
        · rw [z16j _ hr8 hlj a1 e (fun y y2 => e0 ⟨y, y2⟩)] at a2
          exact w' ⟨a1, a2⟩
  · -- qU
    obtain ⟨u1, u2, u3, u4, u5, u6⟩ := hU
    have hq := qU_eq (G' := G') ⟨u1, u2, u3, u4, u5, u6⟩ (fun c' j q => ga c' j (by unfold rsf; omega))
    exact ⟨hq.1, hq.2.1, hq.2.2.1, hq.2.2.2.1, hq.2.2.2.2.1, fun k hk => ⟨(hq.2.2.2.2.2 k hk).1, hvv _ (hq.2.2.2.2.2 k hk).2⟩⟩
  · unfold mu
    rw [s0, hn]
    rcases hgo2 with p | p
    · rw [if_pos p]
      have : sm (z' 21) n = sm (z 21) n := sm_eq (fun q _ => by rw [z21, if_neg (fun y => by omega)])
      omega
    · rw [if_neg (by omega)]
      have := sm_up (f := z' 21) (g := z 21) (j := i) (n := n) hin (fun q _ hne => by rw [z21, if_neg (fun y => hne y.2)])
      have e : z' 21 i = 0 := by rw [z21, if_pos ⟨p, rfl⟩]
      rw [e, hL1] at this
      omega
