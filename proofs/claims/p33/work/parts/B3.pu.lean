/-! A BODY IS CALLED -/
def zPu (z : Zt) (x s b : Nat) : Zt := fun k i =>
  if k = 0 then (if i = 8 then z 0 0 + 1 else if i = 7 then z 0 0 else if i = 1 then z 0 1 + 1 else z 0 i)
  else if k = 9 then (if i = z 0 0 then 7 else if i = z 0 7 then (if b = 2 then 3 else 4) else z 9 i)
  else if k = 10 then (if i = z 0 7 then z 0 0 else z 10 i)
  else if k = 11 then (if i = z 0 0 then 0 else if i = z 0 7 ∧ ¬ b = 2 then z 12 (z 8 (z 0 7)) + 1 else z 11 i)
  else if k = 16 then (if 4 ≤ b ∧ i = b - 4 then 2 else z 16 i)
  else if k = 17 then (if 4 ≤ b ∧ i = b - 4 then z 0 0 else z 17 i)
  else if i = z 0 0 then (if k = 1 then x else if k = 2 then b else if k = 4 then z 0 7 + 1 else if k = 5 then s else if k = 6 then z 0 1 + 1 else if k = 8 then z 0 0 else if k = 12 then z 12 (z 8 (z 0 7)) + (if b = 2 then 0 else 1) else if k = 22 then 0 else if k = 23 then io z (z 0 7) else z k i)
  else z k i
/-- what it touches -/
def puf (z : Zt) (b k j : Nat) : Prop :=
  ((k = 108 ∨ k = 110 ∨ k = 112 ∨ k = 114 ∨ k = 116 ∨ k = 118 ∨ k = 120 ∨ k = 124) ∧ j = z 0 0) ∨ (k = 120 ∧ j = z 0 7 ∧ ¬ b = 2) ∨ (k = 84 ∧ (j = 8 ∨ j = 11 ∨ j = 12 ∨ j = 13)) ∨
  (k = 46 ∧ (j = 21 ∨ j = 41 ∨ j = 49 ∨ j = 50 ∨ j = 54 ∨ j = 55 ∨ j = 56)) ∨ ((64 ≤ k ∧ k ≤ 68) ∧ j = z 0 1) ∨ (k = 70 ∧ j = z 6 (z 0 7)) ∨ ((k = 140 ∨ k = 142 ∨ k = 77 ∨ k = 79) ∧ 4 ≤ b ∧ j = b - 4)
def pu (z : Zt) (G G' : Gt) (x s b : Nat) : Prop :=
  (∀ k j, ¬ puf z b k j → G' k j = G k j) ∧
  (G' 108 (z 0 0) = nI x ∧ G' 110 (z 0 0) = nI (z 0 7) ∧ G' 112 (z 0 0) = nI (z 13 s) ∧ G' 114 (z 0 0) = nI b ∧ G' 116 (z 0 0) = G 13 x ∧ G' 118 (z 0 0) = 0 ∧ G' 124 (z 0 0) = 0 ∧ G' 84 11 = nI (z 0 0) ∧ G' 84 12 = 1) ∧
  (G' 46 54 = nI x ∧ G' 46 55 = nI s ∧ G' 46 56 = nI (z 0 1) ∧ G' 46 41 = 0 ∧ G' 46 21 = nI (z 0 1 + 1) ∧ G' 64 (z 0 1) = -1 ∧ G' 65 (z 0 1) = nI (z 6 (z 0 7)) ∧ G' 67 (z 0 1) = nI (wH b)) ∧
  (4 ≤ b → G' 68 (z 0 1) = nI (b - 4) ∧ G' 140 (b - 4) = 2 ∧ G' 77 (b - 4) = 2 ∧ G' 142 (b - 4) = nI (z 0 0) ∧ G' 79 (b - 4) = nI (z 0 1) ∧ b - 4 < z 0 5 ∧ z 16 (b - 4) = 0 ∧ G 47 (z 1 (z 0 7)) = 25) ∧
  (b = 2 → G' 84 8 = G 84 8 ∧ G' 84 13 = G 84 13 ∧ G' 46 49 = G 46 49 ∧ G' 46 50 = G 46 50 ∧ G' 70 (z 6 (z 0 7)) = G 70 (z 6 (z 0 7))) ∧
  (¬ b = 2 → z 12 (z 8 (z 0 7)) < 12 ∧ G' 120 (z 0 7) = G 84 13 ∧ G' 70 (z 6 (z 0 7)) = G 46 49 ∧ G' 84 13 = nI (z 0 7) ∧ G' 46 49 = nI (z 6 (z 0 7)) ∧ G' 84 8 = nI (z 12 (z 8 (z 0 7)) + 1) ∧ G' 46 50 = nI (z 12 (z 8 (z 0 7)) + 1))
theorem zPu_9 {z : Zt} {x s b i : Nat} : (zPu z x s b) 9 i = if i = z 0 0 then 7 else if i = z 0 7 then (if b = 2 then 3 else 4) else z 9 i := rfl
theorem zPu_l {z : Zt} {x s b k i : Nat} (hi : ¬ i = z 0 0) (h0 : ¬ k = 0) (h9 : ¬ k = 9) (h10 : ¬ k = 10) (h11 : ¬ k = 11) (h16 : ¬ k = 16) (h17 : ¬ k = 17) : (zPu z x s b) k i = z k i := by
  simp [zPu, hi, h0, h9, h10, h11, h16, h17]
theorem eX_pu {N : Nat} {z : Zt} {G G' : Gt} {x s b : Nat} (hp : pu z G G' x s b) (h6 : z 9 (z 0 7) = 6) (hcn : z 0 7 < z 0 0) (h11 : z 11 (z 0 7) = 0) : eX N z G (zPu z x s b) G' := by
  obtain ⟨pf, _⟩ := hp
  have hl : ∀ i, i < z 0 0 → ¬ i = z 0 0 := fun i hi => by omega
  refine ⟨⟨Nat.le_refl _, Nat.le_refl _, Nat.le_refl _, Nat.le_refl _, Nat.le_refl _⟩, fun i hi => ?_, fun i hi h0 => ?_, fun i hi h0 => ?_, fun i hi => ?_, fun i hi => ⟨pf _ _ ?_, pf _ _ ?_, pf _ _ ?_, pf _ _ ?_, pf _ _ ?_⟩, fun i hi => pf _ _ ?_, fun l hl hh => ?_⟩
  · have := hl i hi
    exact ⟨zPu_l this (by decide) (by decide) (by decide) (by decide) (by decide) (by decide), zPu_l this (by decide) (by decide) (by decide) (by decide) (by decide) (by decide), zPu_l this (by decide) (by decide) (by decide) (by decide) (by decide) (by decide), zPu_l this (by decide) (by decide) (by decide) (by decide) (by decide) (by decide), zPu_l this (by decide) (by decide) (by decide) (by decide) (by decide) (by decide)⟩
  · have h1 := hl i hi
    have h2 : ¬ i = z 0 7 := by intro e; subst e; exact h0 h11
    simp [zPu, h1, h2]
  · have h1 := hl i hi
    have h2 : ¬ i = z 0 7 := by intro e; subst e; omega
    refine ⟨?_, pf _ _ (by unfold puf; omega)⟩
    rw [zPu_9, if_neg h1, if_neg h2]; exact h0
  · by_cases e : i = z 0 0
    · subst e; simp [zPu]
    · exact zPu_l e (by decide) (by decide) (by decide) (by decide) (by decide) (by decide)
  all_goals first | (unfold puf; omega) | (rw [pf _ _ (by unfold puf; omega)]; exact hh)
theorem t_pu {N B : Nat} {z : Zt} {G G' : Gt} {xv : Nat → Int32} {sp x s b : Nat} (h : aST N B z G xv sp 0) (hx : x < N) (hs : s < z 0 2) (hb : 2 ≤ b) (h11 : z 11 (z 0 7) = 0) (hp : pu z G G' x s b)
    (hd : dV (zPu z x s b) G' (z 0 7)) (hxv : ∀ o, o < 4 → xv o = G 31 o) (h15 : G 84 15 = 0) : wST N B (zPu z x s b) G' := by
  obtain ⟨⟨hP, hA, hB, hC, hD, hE, hF, hG, hH, hI, hJ, hK, hL, hM, hN, hO, hPg, hQ, hR, hS, hT, hU⟩, hm, h6, h12, hFr⟩ := h
  obtain ⟨k1, k2, k3, k4, k5⟩ := id hK
  have hnr := cur_nrst (N := N) hC hI hK hPg (by omega)
  have hf := fX_of hA hC (by omega)
  have hX := eX_pu (N := N) hp h6 (by omega) h11
  obtain ⟨pf, ⟨p1, p2, p3, p4, p5, p6, p7, p8, p9⟩, ⟨r1, r2, r3, r4, r5, r6, r7, r8⟩, pg, pb2, pbn⟩ := hp
  obtain ⟨gg1, gg2, gg3⟩ := id hG
  generalize hz' : zPu z x s b = z' at *
  have hu' : ∃ u, z 0 7 = u := ⟨_, rfl⟩
  have hn' : ∃ n, z 0 0 = n := ⟨_, rfl⟩
  obtain ⟨u, hu⟩ := hu'
  obtain ⟨n, hn⟩ := hn'
  have hun : u < n := by omega
  have zl : ∀ k i, ¬ i = n → ¬ k = 0 → ¬ k = 9 → ¬ k = 10 → ¬ k = 11 → ¬ k = 16 → ¬ k = 17 → z' k i = z k i := by
    intro k i h1 h2 h3 h4 h5 h6 h7
    rw [← hz']; exact zPu_l (by rw [hn]; exact h1) h2 h3 h4 h5 h6 h7
  have zm : z' 0 8 = n + 1 := by rw [← hz']; simp [zPu, hn]
  have zc : z' 0 7 = n := by rw [← hz']; simp [zPu, hn]
  have zf : z' 0 1 = z 0 1 + 1 := by rw [← hz']; simp [zPu]
  have z0 : ∀ i, ¬ i = 1 → ¬ i = 7 → ¬ i = 8 → z' 0 i = z 0 i := by
    intro i h1 h2 h3; rw [← hz']; simp [zPu, h1, h2, h3]
  have zn : z' 0 0 = n := by rw [z0 0 (by decide) (by decide) (by decide), hn]
  have z9 : ∀ j, z' 9 j = if j = n then 7 else if j = u then (if b = 2 then 3 else 4) else z 9 j := by
    intro j; rw [← hz', zPu_9, hn, hu]
  have z10 : ∀ j, z' 10 j = if j = u then n else z 10 j := by intro j; rw [← hz']; simp [zPu, hn, hu]
  have z11 : ∀ j, z' 11 j = if j = n then 0 else if j = u ∧ ¬ b = 2 then z 12 (z 8 u) + 1 else z 11 j := by intro j; rw [← hz']; simp [zPu, hn, hu]
  have z16 : ∀ j, z' 16 j = if 4 ≤ b ∧ j = b - 4 then 2 else z 16 j := by intro j; rw [← hz']; simp [zPu]
  have z17 : ∀ j, z' 17 j = if 4 ≤ b ∧ j = b - 4 then n else z 17 j := by intro j; rw [← hz']; simp [zPu, hn]
  have zz : ∀ k, k = 3 ∨ k = 13 ∨ k = 14 ∨ k = 15 ∨ k = 18 ∨ k = 19 ∨ k = 20 ∨ k = 21 ∨ k = 24 → z' k = z k := by
    intro k hk; funext j
    rw [← hz']
    by_cases e : j = z 0 0
    · subst e; rcases hk with rfl | rfl | rfl | rfl | rfl | rfl | rfl | rfl | rfl <;> simp [zPu]
    · exact zPu_l e (by omega) (by omega) (by omega) (by omega) (by omega) (by omega)
  have e1 : z' 1 n = x := by rw [← hz']; simp [zPu, hn]
  have e2 : z' 2 n = b := by rw [← hz']; simp [zPu, hn]
  have e4 : z' 4 n = u + 1 := by rw [← hz']; simp [zPu, hn, hu]
  have e5 : z' 5 n = s := by rw [← hz']; simp [zPu, hn]
  have e6 : z' 6 n = z 0 1 + 1 := by rw [← hz']; simp [zPu, hn]
  have e8 : z' 8 n = n := by rw [← hz']; simp [zPu, hn]
  have e12 : z' 12 n = z 12 (z 8 u) + (if b = 2 then 0 else 1) := by rw [← hz']; simp [zPu, hn, hu]
  have e22 : z' 22 n = 0 := by rw [← hz']; simp [zPu, hn]
  have e23 : z' 23 n = io z u := by rw [← hz']; simp [zPu, hn, hu]
  rw [hn] at p1 p2 p3 p4 p5 p6 p7 p8
  rw [hu] at p2 r7 pb2 pbn h11 h6 k3 k4 k5
  rw [hn] at gg3
  have pgs := fun q => And.intro (pg q).2.2.2.2.2.1 (pg q).2.2.2.2.2.2.1
  have hxs : ∀ q, z' 1 q = if q = n then x else z 1 q := by
    intro q; by_cases e : q = n
    · rw [if_pos e, e, e1]
    · rw [if_neg e]; exact zl 1 q e (by decide) (by decide) (by decide) (by decide) (by decide) (by decide)
  have z2 : ∀ q, ¬ q = n → z' 2 q = z 2 q := fun q e => zl 2 q e (by decide) (by decide) (by decide) (by decide) (by decide) (by decide)
  have z4 : ∀ q, ¬ q = n → z' 4 q = z 4 q := fun q e => zl 4 q e (by decide) (by decide) (by decide) (by decide) (by decide) (by decide)
  have z5 : ∀ q, ¬ q = n → z' 5 q = z 5 q := fun q e => zl 5 q e (by decide) (by decide) (by decide) (by decide) (by decide) (by decide)
  have z6 : ∀ q, ¬ q = n → z' 6 q = z 6 q := fun q e => zl 6 q e (by decide) (by decide) (by decide) (by decide) (by decide) (by decide)
  have z8 : ∀ q, ¬ q = n → z' 8 q = z 8 q := fun q e => zl 8 q e (by decide) (by decide) (by decide) (by decide) (by decide) (by decide)
  have z12 : ∀ q, ¬ q = n → z' 12 q = z 12 q := fun q e => zl 12 q e (by decide) (by decide) (by decide) (by decide) (by decide) (by decide)
  have z22 : ∀ q, ¬ q = n → z' 22 q = z 22 q := fun q e => zl 22 q e (by decide) (by decide) (by decide) (by decide) (by decide) (by decide)
  have z23 : ∀ q, ¬ q = n → z' 23 q = z 23 q := fun q e => zl 23 q e (by decide) (by decide) (by decide) (by decide) (by decide) (by decide)
  have gk : ∀ c, (∀ j, ¬ puf z b c j) → G' c = G c := fun c hc => funext (fun j => pf c j (hc j))
  have hr8 : ∀ q, q < n → z 8 q < n := fun q hq => by have := (hC q (by omega)).2.2.2.2.1; omega
  have hvv : ∀ y, vV z y → vV z' y := fun y hy => vV_ext hX hy
  have hio : ∀ q, q < n → io z' q = io z q := by
    intro q hq
    unfold io
    rw [z22 q (by omega), z8 q (by omega), z23 _ (by have := hr8 q hq; omega)]
  have hrst : ∀ j, j < n → ¬ z 9 j = 0 → (rst z' j ↔ rst z j) := by
    intro j hj hl
    unfold rst
    rw [z2 j (by omega)]
    by_cases c : 4 ≤ z 2 j
    · have i5 := (hI j (by omega) hl).2.2.2.2 c
      have : ¬ (4 ≤ b ∧ z 2 j - 4 = b - 4) := by
        rintro ⟨c1, c2⟩
        have := (pgs c1).2
        rw [← c2] at this
        omega
      rw [z16, if_neg this]
    · exact ⟨fun q => absurd q.1 c, fun q => absurd q.1 c⟩
  have hl9 : ∀ j, j < n → ¬ z' 9 j = 0 → ¬ z 9 j = 0 := by
    intro j hj hl
    rw [z9, if_neg (by omega)] at hl
    by_cases e : j = u
    · subst e; omega
    · rw [if_neg e] at hl; exact hl
  have c64 : ∀ j, j < z 0 1 → G' 64 j = G 64 j ∧ G' 65 j = G 65 j ∧ G' 66 j = G 66 j ∧ G' 67 j = G 67 j ∧ G' 68 j = G 68 j := fun j hj => ⟨pf _ _ (by unfold puf; omega), pf _ _ (by unfold puf; omega), pf _ _ (by unfold puf; omega), pf _ _ (by unfold puf; omega), pf _ _ (by unfold puf; omega)⟩
  have cd : ∀ c j, (c = 108 ∨ c = 110 ∨ c = 112 ∨ c = 114 ∨ c = 116 ∨ c = 118 ∨ c = 124) → ¬ j = n → G' c j = G c j := fun c j h1 h2 => pf _ _ (by unfold puf; omega)
  have g122 : G' 122 = G 122 := gk 122 (by intro j; unfold puf; omega)
  have g126 : G' 126 = G 126 := gk 126 (by intro j; unfold puf; omega)
  have g128 : G' 128 = G 128 := gk 128 (by intro j; unfold puf; omega)
  have g69 : G' 69 = G 69 := gk 69 (by intro j; unfold puf; omega)
  have g47 : G' 47 = G 47 := gk 47 (by intro j; unfold puf; omega)
  have g84 : ∀ j, ¬ j = 8 → ¬ j = 11 → ¬ j = 12 → ¬ j = 13 → G' 84 j = G 84 j := fun j h1 h2 h3 h4 => pf _ _ (by unfold puf; omega)
  have g46 : ∀ j, ¬ (j = 21 ∨ j = 41 ∨ j = 49 ∨ j = 50 ∨ j = 54 ∨ j = 55 ∨ j = 56) → G' 46 j = G 46 j := fun j h1 => pf _ _ (by unfold puf; omega)
  obtain ⟨Q1, Q2, Q3, Q4, Q5, Q6, Q7, Q8, Q9, Q10, Q11, Q12, Q13, Q14, Q15, Q16, Q17, Q18, Q19, Q20, Q21, Q22, Q23, Q24, Q25⟩ := id hQ
  obtain ⟨R1, R2, R3, R4⟩ := id hR
  refine ⟨⟨?_, ?_, ?_, ?_, ?_, ?_, ?_, ?_, ?_, ?_, ?_, ?_, ?_, ?_, ?_, ?_, ?_, ?_, ?_, ?_, ?_, ?_⟩, ?_⟩
  · -- gP
    obtain ⟨a1, a2, a3, a4, a5, U, a6, a7, a8, a9⟩ := hP
    have t : ∀ c, (c = 1 ∨ c = 3 ∨ c = 5 ∨ c = 7 ∨ c = 9 ∨ c = 11 ∨ c = 13 ∨ c = 14 ∨ c = 16 ∨ c = 18 ∨ (47 ≤ c ∧ c ≤ 52)) → G' c = G c := fun c hc => gk c (by intro j; unfold puf; omega)
    refine ⟨a1, by rw [t 1 (by omega)]; exact a2, by rw [g46 0 (by omega)]; exact a3, by rw [t 16 (by omega)]; exact a4, by rw [t 52 (by omega), t 11 (by omega)]; exact a5, U, by rw [t 14 (by omega)]; exact a6, a7, a8, fun m hm' => ?_⟩
    exact nodeR_keep (a9 m hm') (Nat.le_refl _) (by rw [t 3 (by omega)]) (by rw [t 5 (by omega)]) (by rw [t 7 (by omega)]) (by rw [t 9 (by omega)]) (by rw [t 11 (by omega)]) (by rw [t 13 (by omega)]) (by rw [t 47 (by omega)]) (by rw [t 48 (by omega)]) (by rw [t 49 (by omega)]) (by rw [t 50 (by omega)]) (by rw [t 51 (by omega)]) (by rw [t 52 (by omega)]) (fun j hj => ⟨by rw [t 16 (by omega)], by rw [t 18 (by omega)]⟩) (Nat.le_refl _)
  · intro i hi
    rw [zm] at hi
    rw [hxs]
    by_cases e : i = n
    · subst e; rw [if_pos rfl]; exact ⟨p1, hx⟩
    · rw [if_neg e, cd 108 i (by omega) e]; exact hA i (by omega)
  · intro i hi
    rw [zm] at hi
    rw [zz 13 (by omega), z0 2 (by decide) (by decide) (by decide)]
    by_cases e : i = n
    · subst e; rw [e5]; exact ⟨p3, hs⟩
    · rw [z5 i e, cd 112 i (by omega) e]; exact hB i (by omega)
  · intro i hi
    rw [zm] at hi
    rw [zn]
    by_cases e : i = n
    · subst e
      rw [e2, e8, e4, e2]
      refine ⟨p4, fun q => by omega, fun _ => ⟨rfl, by omega⟩, ?_, Nat.le_refl _, by omega⟩
      by_cases c : 4 ≤ b
      · have := (pgs c).1; omega
      · omega
    · have hc := hC i (by omega)
      rw [hn] at hc
      have := hc.2.2.2.2.1
      rw [cd 114 i (by omega) e, z2 i e, z8 i e, z4 i e, zz 3 (by omega), z2 (z 8 i) (by omega)]
      refine ⟨hc.1, fun q => ?_, hc.2.2⟩
      have h3 := hc.2.1 q
      rw [z8 (z 3 i) (by omega)]
      exact h3
  · intro i hi
    rw [zm] at hi
    by_cases e : i = n
    · subst e
      rw [e2, e4]
      refine ⟨fun q => by omega, fun _ => ?_⟩
      rw [p2]
      simp [oM]
    · rw [z2 i e, z4 i e, zz 3 (by omega), cd 110 i (by omega) e]; exact hD i (by omega)
  · intro i hi
    rw [zn] at hi
    have e : ¬ i = n := by omega
    have hc := hC i (by omega)
    have hh := hE i (by omega)
    have c := c64 (z 6 i) (gg3 i hi)
    rw [z6 i e, hxs, if_neg e, z2 i e, z5 i e, zz 3 (by omega), c.1, c.2.1, c.2.2.1]
    refine ⟨hh.1, hh.2.1, fun q => ?_, hh.2.2.2⟩
    rw [z6 _ (by have := (hc.2.1 q).1; omega)]
    exact hh.2.2.1 q
  · intro i hi hbi
    rw [zm] at hi
    by_cases e : i = n
    · subst e
      rw [e6, e2, e4]
      simp only [Nat.add_sub_cancel]
      rw [z6 u (by omega)]
      refine ⟨by omega, r6, r8, by rw [r7]; simp [oM], fun q => (pg q).1⟩
    · have hc := hC i (by omega)
      rw [hn] at hc
      rw [z2 i e] at hbi
      have q1 := (hc.2.2.1 hbi).2
      obtain ⟨w1, w2, w3, w4, w5⟩ := hF i (by omega) hbi
      have c := c64 (z 6 i - 1) (by have := gg3 i (by omega); omega)
      rw [z6 i e, z2 i e, z4 i e, c.1, c.2.1, c.2.2.2.1, c.2.2.2.2, z6 (z 4 i - 1) (by omega)]
      exact ⟨w1, w2, w3, w4, w5⟩
  · refine ⟨fun i j hij hj => ?_, fun i hi => ?_, fun i hi => ?_⟩
    · rw [zm] at hj
      have ei : ¬ i = n := by omega
      have g3 := gg3 i (by omega)
      by_cases ej : j = n
      · subst ej
        rw [e6, z6 i ei]; omega
      · rw [z6 i ei, z6 j ej, z2 j ej]; exact gg1 i j hij (by omega)
    · rw [zm] at hi
      rw [zf]
      by_cases e : i = n
      · subst e; rw [e6]; omega
      · rw [z6 i e]; have := gg3 i (by omega); omega
    · rw [zn] at hi
      rw [zf, z6 i (by omega)]; have := gg3 i hi; omega
  · intro j hj h1 h2
    rw [zn] at hj
    by_cases e : j = u
    · rw [e, ← hu]; exact hd
    · have e' : ¬ j = n := by omega
      rw [z9, if_neg e', if_neg e] at h1 h2
      have c := c64 (z 6 j) (gg3 j hj)
      exact dV_ext hX hf (by omega) (by omega) (by rw [z9, if_neg e', if_neg e]) (by rw [zz 19 (by omega)]) (by rw [zz 20 (by omega)]) (cd _ _ (by omega) e') (cd _ _ (by omega) e') (by rw [g122]) (cd _ _ (by omega) e') (by rw [g126]) (by rw [g128]) c.2.2.2.1 c.2.2.2.2 (by rw [g69]) (hH j (by omega) h1 h2)
  · -- qI
    intro j hj hl
    rw [zm] at hj
    by_cases e : j = n
    · subst e
      rw [e2, e4]
      refine ⟨fun q => by omega, fun _ _ _ => ?_, fun q => by omega, fun _ => by omega, fun q => ?_⟩
      · simp only [Nat.add_sub_cancel]
        rw [z9, z10, if_neg (by omega), if_pos rfl, if_pos rfl]
        exact ⟨rfl, rfl⟩
      · rw [z16, z17, if_pos ⟨q, rfl⟩, if_pos ⟨q, rfl⟩, z0 5 (by decide) (by decide) (by decide)]
        exact ⟨(pgs q).1, rfl, Or.inr (Or.inl ⟨rfl, by omega⟩)⟩
    · have hj' : j < n := by omega
      have hl0 := hl9 j hj' hl
      obtain ⟨i1, i2, i3, i4, i5⟩ := hI j (by omega) hl0
      have hc := hC j (by omega)
      rw [hn] at hc
      rw [z2 j e, z4 j e, zz 3 (by omega), hrst j hj' hl0]
      refine ⟨fun q => ?_, fun q1 q2 q3 => ?_, i3, i4, fun q => ?_⟩
      · have := i1 q
        have n1 : ¬ z 3 j = n := by have := (hc.2.1 q).1; omega
        have n2 : ¬ z 3 j = u := by intro e; rw [e] at this; omega
        rw [z9, if_neg n1, if_neg n2, z10, if_neg n2]
        exact this
      · have := i2 q1 q2 q3
        have n1 : ¬ z 4 j - 1 = n := by have := (hc.2.2.1 q1).2; omega
        have n2 : ¬ z 4 j - 1 = u := by
          intro e; rw [e] at this
          have := this.1
          split at this <;> omega
        rw [z9, if_neg n1, if_neg n2, z10, if_neg n2]
        exact this
      · obtain ⟨j1, j2, j3⟩ := i5 q
        have : ¬ (4 ≤ b ∧ z 2 j - 4 = b - 4) := by
          rintro ⟨c1, c2⟩
          have := (pgs c1).2
          rw [← c2] at this
          omega
        rw [z16, z17, if_neg this, if_neg this, z0 5 (by decide) (by decide) (by decide)]
        exact ⟨j1, j2, j3⟩
  · -- qJ
    intro v hv h12'
    rw [zm] at hv
    rw [z9] at h12'
    have n1 : ¬ v = n := by intro e; rw [if_pos e] at h12'; omega
    rw [if_neg n1] at h12'
    have n2 : ¬ v = u := by
      intro e; rw [if_pos e] at h12'
      split at h12' <;> omega
    rw [if_neg n2] at h12'
    obtain ⟨q1, q2, q3, q4, q5⟩ := hJ v (by omega) h12'
    rw [z10, if_neg n2, zm, z2 _ (by omega), zz 3 (by omega), z9]
    refine ⟨q1, by omega, ?_, q4, q5⟩
    split
    · omega
    · split
      · split <;> omega
      · exact q3
  · -- qK
    have big : ∀ a, a < n → 3 ≤ z' 9 a → 3 ≤ z 9 a := by
      intro a ha h1
      rw [z9, if_neg (by omega)] at h1
      by_cases e : a = u
      · subst e; omega
      · rw [if_neg e] at h1; exact h1
    refine ⟨?_, ?_, ?_, ?_, ?_⟩
    · intro a b' ha hb' h1 h2 hr
      rw [zm] at ha hb'
      by_cases ea : a = n
      · by_cases eb : b' = n
        · omega
        · subst ea
          rw [e8, z8 b' eb] at hr
          have := hr8 b' (by omega); omega
      · by_cases eb : b' = n
        · subst eb
          rw [e8, z8 a ea] at hr
          have := hr8 a (by omega); omega
        · rw [z8 a ea, z8 b' eb] at hr
          exact k1 a b' (by omega) (by omega) (big a (by omega) h1) (big b' (by omega) h2) hr
    · intro a ha
      rw [zm] at ha
      rw [z9]
      split
      · omega
      · split
        · split <;> omega
        · exact k2 a (by omega)
    · intro a ha h1
      rw [zm] at ha
      rw [zc]
      by_cases ea : a = n
      · exact ea
      · rw [z9, if_neg ea] at h1
        by_cases eb : a = u
        · rw [if_pos eb] at h1
          split at h1 <;> omega
        · rw [if_neg eb] at h1; exact absurd (k3 a (by omega) h1) eb
    · rw [zc, zm]; omega
    · rw [zc, z9, if_pos rfl]; omega
  · -- qL
    refine ⟨?_, ?_⟩
    · intro j hj hl hb' hr
      rw [zm] at hj
      by_cases e : j = n
      · subst e
        rw [e4, e2, e12]
        refine ⟨fun q => by omega, fun _ => ?_⟩
        simp only [Nat.add_sub_cancel]
        have := hr8 u hun
        rw [z8 u (by omega), z12 _ (by omega), z11, if_neg (show ¬ u = j by omega)]
        refine ⟨fun q => by rw [if_pos q, Nat.add_zero], fun q => ?_⟩
        rw [if_pos ⟨rfl, q⟩, if_neg q]
        exact ⟨rfl, rfl⟩
      · have hj' : j < n := by omega
        have hl0 := hl9 j hj' hl
        rw [hrst j hj' hl0] at hr
        rw [z2 j e] at hb'
        have hc := hC j (by omega)
        rw [hn] at hc
        have := (hc.2.2.1 hb').2
        obtain ⟨w1, w2⟩ := hL.1 j (by omega) hl0 hb' hr
        rw [z4 j e, z2 j e, z12 j e]
        refine ⟨w1, fun q => ?_⟩
        obtain ⟨w3, w4⟩ := w2 q
        have i2 := (hI j (by omega) hl0).2.1 hb' q hr
        have n1 : ¬ z 4 j - 1 = n := by omega
        have n2 : ¬ z 4 j - 1 = u := by
          intro e; rw [e] at i2
          have := i2.1
          split at this <;> omega
        have := hr8 (z 4 j - 1) (by omega)
        rw [z8 _ n1, z12 _ (by omega), z11, if_neg n1, if_neg (fun q => n2 q.1)]
        exact ⟨w3, w4⟩
    · obtain ⟨d, d1, d2, d3, d4, d5⟩ := hL.2
      rw [hu] at d2
      by_cases c : b = 2
      · obtain ⟨b1, b2, b3, b4, b5⟩ := pb2 c
        refine ⟨d, d1, ?_, by rw [b1]; exact d3, by rw [b4]; exact d4, by rw [b2, b3]; exact cH_ext hX d5⟩
        rw [zc, e8, e12, if_pos c, Nat.add_zero]; exact d2
      · obtain ⟨b1, b2, b3, b4, b5, b6, b7⟩ := pbn c
        refine ⟨d + 1, by omega, ?_, by rw [b6, d2], by rw [b7, d2], ?_⟩
        · rw [zc, e8, e12, if_neg c, d2]
        · right
          refine ⟨u, by rw [zn]; exact hun, b4, by rw [b5, z6 u (by omega)], ?_, by omega⟩
          rw [z11, if_neg (by omega), if_pos ⟨rfl, c⟩, d2]
  · -- qM
    refine ⟨?_, ?_⟩
    · intro i hi hdp
      rw [zn] at hi
      have e : ¬ i = n := by omega
      by_cases c : i = u ∧ ¬ b = 2
      · obtain ⟨rfl, c⟩ := c
        obtain ⟨b1, b2, b3, b4, b5, b6, b7⟩ := pbn c
        obtain ⟨d, d1, d2, d3, d4, d5⟩ := hL.2
        rw [hu] at d2
        rw [z11, if_neg e, if_pos ⟨rfl, c⟩, z6 i e, b2, b3]
        refine ⟨by omega, ?_⟩
        rw [Nat.add_sub_cancel, d2]
        exact cH_ext hX d5
      · rw [z11, if_neg e, if_neg c] at hdp ⊢
        obtain ⟨q1, q2⟩ := hM.1 i (by omega) hdp
        have nu : ¬ i = u := by intro e; subst e; exact hdp h11
        have n6 : ¬ z 6 i = z 6 u := by
          rcases Nat.lt_trichotomy i u with q | q | q
          · have := (gg1 i u q (by omega)).1; omega
          · exact absurd q nu
          · have := (gg1 u i q (by omega)).1; omega
        rw [z6 i e, pf 120 i (by unfold puf; omega), pf 70 (z 6 i) (by unfold puf; simp only [hu]; omega)]
        exact ⟨q1, cH_ext hX q2⟩
    · intro i hi h1 h2
      rw [zn] at hi
      have e : ¬ i = n := by omega
      rw [z9, if_neg e] at h1 h2
      rw [z11, if_neg e]
      by_cases c : i = u
      · rw [if_pos c] at h2
        have cb : b = 2 := by
          by_cases c2 : b = 2
          · exact c2
          · rw [if_neg c2] at h2; omega
        rw [if_neg (fun q => q.2 cb), c]
        exact h11
      · rw [if_neg c] at h1 h2
        rw [if_neg (fun q => c q.1)]
        exact hM.2 i (by omega) h1 h2
  · -- qN
    obtain ⟨q1, q2⟩ := hN
    have g71 := gk 71 (by intro j; unfold puf; omega)
    have g72 := gk 72 (by intro j; unfold puf; omega)
    have g131 := gk 131 (by intro j; unfold puf; omega)
    have g133 := gk 133 (by intro j; unfold puf; omega)
    refine ⟨by rw [z0 2 (by decide) (by decide) (by decide), zz 13 (by omega)]; exact q1, ?_⟩
    rw [z0 2 (by decide) (by decide) (by decide), z0 3 (by decide) (by decide) (by decide), zz 13 (by omega), g71, g72, g131, g133]
    intro s' hs'
    obtain ⟨w1, w2, w3, w4⟩ := q2 s' hs'
    exact ⟨w1, w2, w3, fun k hk => (w4 k hk).imp id (fun w => ⟨w.1, hvv _ w.2⟩)⟩
  · -- qO
    intro j hj
    rw [z0 4 (by decide) (by decide) (by decide)] at hj
    obtain ⟨w1, w2, w3, w4, w5⟩ := hO j hj
    rw [zz 14 (by omega), zn, hxs, if_neg (by omega), z5 _ (by omega), gk 136 (by intro j; unfold puf; omega), gk 73 (by intro j; unfold puf; omega), gk 74 (by intro j; unfold puf; omega), g47]
    exact ⟨by omega, w2, w3, w4, w5⟩
  · -- qP
    intro j hj
    rw [z0 5 (by decide) (by decide) (by decide)] at hj
    obtain ⟨w1, w2, w3, w4, w5, w6, w7, w8, w9, w10⟩ := hPg j hj
    rw [zz 15 (by omega), zn, hxs, if_neg (by omega), z5 _ (by omega), zz 18 (by omega), gk 138 (by intro j; unfold puf; omega), gk 75 (by intro j; unfold puf; omega), gk 76 (by intro j; unfold puf; omega), gk 78 (by intro j; unfold puf; omega), gk 144 (by intro j; unfold puf; omega), g47, z16, z17, zm]
    refine ⟨by omega, w2, w3, w4, w5, ?_⟩
    by_cases c : 4 ≤ b ∧ j = b - 4
    · rw [if_pos c, if_pos c, e2, e6]
      obtain ⟨c1, rfl⟩ := c
      obtain ⟨a1, a2, a3, a4, a5, a6, a7, a8⟩ := pg c1
      refine ⟨by omega, a2, a3, fun _ => ⟨by omega, by omega, ?_, by rw [a4, hn], ?_, fun _ => ?_⟩, fun q => by omega⟩
      · rw [z9, if_pos rfl]; omega
      · rw [a5, Nat.add_sub_cancel]
      · rw [e4, Nat.add_sub_cancel, hxs, if_neg (by omega), ← hu]
        exact ⟨by omega, a8⟩
    · rw [if_neg c, if_neg c, pf 140 j (by unfold puf; omega), pf 77 j (by unfold puf; omega), pf 142 j (by unfold puf; omega), pf 79 j (by unfold puf; omega)]
      refine ⟨w6, w7, w8, fun q => ?_, fun q => ?_⟩
      · obtain ⟨v1, v2, v3, v4, v5, v6⟩ := w9 q
        have ne : ¬ z 17 j = n := by omega
        rw [z2 _ ne, z6 _ ne, z9, if_neg ne]
        refine ⟨by omega, v2, ?_, v4, v5, fun y => ?_⟩
        · split
          · split <;> omega
          · exact v3
        · obtain ⟨b1, b2⟩ := v6 y
          rw [z4 _ ne, hxs, if_neg (by omega)]
          exact ⟨by omega, b2⟩
      · obtain ⟨v1, v2, v3, v4, v5⟩ := w10 q
        have ne : ¬ z 18 j = n := by omega
        have nu : ¬ z 18 j = u := by intro e; rw [e] at v2; omega
        rw [z8 _ ne, z6 _ ne, z9, if_neg ne, if_neg nu]
        exact ⟨by omega, v2, v3, v4, v5⟩
  · -- qQ
    refine ⟨Q1, by rw [g84 9 (by decide) (by decide) (by decide) (by decide)]; exact Q2, by rw [g46 59 (by omega)]; exact Q3, by rw [zn]; omega, by rw [zn, zm]; omega, by rw [zn, zm]; omega, by rw [g84 10 (by decide) (by decide) (by decide) (by decide), zn, ← hn]; exact Q7, by rw [g46 58 (by omega), zn, ← hn]; exact Q8, by rw [zc]; exact p8, by rw [g84 7 (by decide) (by decide) (by decide) (by decide)]; exact Q10, by rw [g46 53 (by omega)]; exact Q11, by rw [g84 14 (by decide) (by decide) (by decide) (by decide), g46 51 (by omega)]; exact Q12, by rw [g46 51 (by omega)]; exact Q13, by rw [g84 19 (by decide) (by decide) (by decide) (by decide), g46 62 (by omega)]; exact Q14, by rw [g46 63 (by omega)]; exact Q15, by rw [g46 64 (by omega)]; exact Q16, by rw [zf]; exact r5, by rw [g46 29 (by omega), z0 2 (by decide) (by decide) (by decide)]; exact Q18, by rw [gk 129 (by intro j; unfold puf; omega), z0 3 (by decide) (by decide) (by decide)]; exact Q19, by rw [gk 134 (by intro j; unfold puf; omega), z0 4 (by decide) (by decide) (by decide)]; exact Q20, by rw [g46 32 (by omega), z0 4 (by decide) (by decide) (by decide)]; exact Q21, by rw [gk 134 (by intro j; unfold puf; omega), z0 5 (by decide) (by decide) (by decide)]; exact Q22, by rw [g46 35 (by omega), z0 5 (by decide) (by decide) (by decide)]; exact Q23, by rw [g46 47 (by omega), z0 6 (by decide) (by decide) (by decide)]; exact Q24, by rw [z0 2 (by decide) (by decide) (by decide), z0 3 (by decide) (by decide) (by decide)]; exact Q25⟩
  · -- qR
    rw [hn] at R1 R2 R3 R4
    refine ⟨by rw [z0 3 (by decide) (by decide) (by decide), zz 19 (by omega), zn]; omega, by rw [z0 6 (by decide) (by decide) (by decide), zz 20 (by omega), zn]; exact R2, by rw [z0 4 (by decide) (by decide) (by decide), z0 5 (by decide) (by decide) (by decide), zn]; exact R3, ?_⟩
    intro i hi
    rw [zn] at hi
    rw [zz 21 (by omega)]
    exact ⟨fun q => (R4 i hi).1 (hl9 i hi q), (R4 i hi).2⟩
  · -- qS
    obtain ⟨f, hf'⟩ := hS
    refine ⟨f, fun o ho => ?_⟩
    have hio' : io z' n = io z u := by
      unfold io
      rw [e22, if_pos rfl, e8, e23]
      rfl
    rw [zc, hio', gk 31 (by intro j; unfold puf; omega)]
    have h0 := hf' o ho
    rw [hxv o ho, hu] at h0
    refine oK_ext (N := N) (z := z) (z' := z') (G := G) (G' := G') (by omega) hf.1 (fun i hi => by rw [hxs, if_neg (by omega)]) (fun m _ => ⟨by rw [g47], by rw [gk 48 (by intro j; unfold puf; omega)]⟩) f ?_ _ _ h0
    intro q q1 q2 q3 q4
    have n1 : ¬ q = n := by omega
    have n2 : ¬ q = u := by intro e; subst e; omega
    exact ⟨by rw [z9, if_neg n1, if_neg n2]; exact q2, by rw [g122], hio q (by omega), by rw [zz 24 (by omega)]⟩
  · -- qT
    refine ⟨?_, ?_⟩
    · intro j hj hl
      rw [zm] at hj
      by_cases e : j = n
      · subst e
        rw [e2, e22, e4, e23]
        refine ⟨fun q => by omega, fun _ => ⟨rfl, fun _ => ⟨fun q => by omega, fun _ => ?_⟩⟩⟩
        simp only [Nat.add_sub_cancel]
        rw [hio u hun]
      · have hj' : j < n := by omega
        have hl0 := hl9 j hj' hl
        obtain ⟨t1, t2⟩ := hT.1 j (by omega) hl0
        have i1 := (hI j (by omega) hl0).1
        have hc := hC j (by omega)
        rw [hn] at hc
        rw [z2 j e, z22 j e, zz 3 (by omega), z4 j e, z23 j e, hrst j hj' hl0, g47]
        refine ⟨fun q => ?_, fun q => ⟨(t2 q).1, fun q3 => ?_⟩⟩
        · have n1 : ¬ z 3 j = n := by have := (hc.2.1 q).1; omega
          have n2 : ¬ z 3 j = u := by intro e; have := i1 q; rw [e] at this; omega
          rw [hxs, if_neg n1, z22 _ n1, z9, if_neg n1, if_neg n2]
          exact t1 q
        · have w := (t2 q).2 q3
          refine ⟨w.1, fun q4 => ?_⟩
          rw [hio _ (by have := (hc.2.2.1 q).2; omega)]
          exact w.2 q4
    · intro j hj h1 h2
      rw [zn] at hj
      have e : ¬ j = n := by omega
      rw [z9, if_neg e] at h1
      have n2 : ¬ j = u := by
        intro e; rw [if_pos e] at h1
        split at h1 <;> omega
      rw [if_neg n2] at h1
      rw [g47, hxs, if_neg e] at h2
      rw [z8 j e, hrst _ (hr8 j hj) (live_root hC hI j j (Nat.le_refl _) (by omega) (by omega))]
      exact hT.2 j (by omega) h1 h2
  · -- qU
    obtain ⟨u1, u2, u3, u4, u5, u6⟩ := hU
    have hq := qU_eq (G' := G') ⟨u1, u2, u3, u4, u5, u6⟩ (fun c j hc => pf c j (by unfold puf; omega))
    exact ⟨hq.1, hq.2.1, hq.2.2.1, hq.2.2.2.1, hq.2.2.2.2.1, fun k hk => ⟨(hq.2.2.2.2.2 k hk).1, hvv _ (hq.2.2.2.2.2 k hk).2⟩⟩
  · rw [zn, zm, zc, hxs, if_pos rfl, e2, e5, e6, zf, z9, if_pos rfl, z11, if_pos rfl]
    refine ⟨rfl, rfl, rfl, p9, ?_, p6, p7, r1, fun q => by omega, fun _ => by rw [r3, Nat.add_sub_cancel], r2, r4, rfl, by omega, rfl, (g84 15 (by decide) (by decide) (by decide) (by decide)).trans h15⟩
    rw [p5, gk 13 (by intro j; unfold puf; omega)]
