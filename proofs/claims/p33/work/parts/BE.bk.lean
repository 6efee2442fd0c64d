/-! A BODY ENDS OR RESTS: who called it goes on -/
def zBk (z : Zt) (pi : Nat) : Zt := fun k j =>
  if k = 0 then (if j = 7 then z 4 (z 8 (z 0 7)) - 1 else z 0 j)
  else if k = 9 then (if j = z 4 (z 8 (z 0 7)) - 1 then 6 else if j = z 0 7 then pi else z 9 j)
  else if k = 21 then (if pi = 0 ∧ j = z 0 7 then 0 else z 21 j)
  else if k = 16 then (if 4 ≤ z 2 (z 8 (z 0 7)) ∧ j = z 2 (z 8 (z 0 7)) - 4 then (if pi = 0 then 4 else 1) else z 16 j)
  else if k = 18 then (if 4 ≤ z 2 (z 8 (z 0 7)) ∧ j = z 2 (z 8 (z 0 7)) - 4 ∧ pi = 5 then z 0 7 else z 18 j)
  else z k j
def bkf (b k j : Nat) : Prop := (k = 84 ∧ (j = 8 ∨ j = 11 ∨ j = 13)) ∨ (k = 46 ∧ (j = 49 ∨ j = 50)) ∨ ((k = 140 ∨ k = 144 ∨ k = 77 ∨ k = 78) ∧ 4 ≤ b ∧ j = b - 4)
theorem zBk_l {z : Zt} {pi k j : Nat} (h0 : ¬ k = 0) (h9 : ¬ k = 9) (h21 : ¬ k = 21) (h16 : ¬ k = 16) (h18 : ¬ k = 18) : (zBk z pi) k j = z k j := by
  simp [zBk, h0, h9, h21, h16, h18]
/-- all of a text, of the slots and so on, where cells are the same -/
theorem gP_eq {N : Nat} {G G' : Gt} (hP : gP N G G) (t : ∀ c j, (c = 1 ∨ c = 3 ∨ c = 5 ∨ c = 7 ∨ c = 9 ∨ c = 11 ∨ c = 13 ∨ c = 14 ∨ c = 16 ∨ c = 18 ∨ (47 ≤ c ∧ c ≤ 52) ∨ (c = 46 ∧ j = 0)) → G' c j = G c j) : gP N G' G' := by
  obtain ⟨a1, a2, a3, a4, a5, U, a6, a7, a8, a9⟩ := hP
  have tk : ∀ c, (c = 1 ∨ c = 3 ∨ c = 5 ∨ c = 7 ∨ c = 9 ∨ c = 11 ∨ c = 13 ∨ c = 14 ∨ c = 16 ∨ c = 18 ∨ (47 ≤ c ∧ c ≤ 52)) → G' c = G c := fun c hc => funext (fun j => t c j (by omega))
  refine ⟨a1, by rw [tk 1 (by omega)]; exact a2, by rw [t 46 0 (by omega)]; exact a3, by rw [tk 16 (by omega)]; exact a4, by rw [tk 52 (by omega), tk 11 (by omega)]; exact a5, U, by rw [tk 14 (by omega)]; exact a6, a7, a8, fun m hm' => ?_⟩
  have := a9 m hm'
  unfold nodeR at this ⊢
  rw [tk 3 (by omega), tk 5 (by omega), tk 7 (by omega), tk 9 (by omega), tk 11 (by omega), tk 13 (by omega), tk 16 (by omega), tk 18 (by omega), tk 47 (by omega), tk 48 (by omega), tk 49 (by omega), tk 50 (by omega), tk 51 (by omega), tk 52 (by omega)]
  exact this
theorem t_bk {N B : Nat} {z : Zt} {G G' : Gt} {x : Nat → Int32} {sp fp i r c b pi : Nat} (h : sIM N B z G x sp fp) (hm : z 0 8 = z 0 0) (h6 : z 9 (z 0 7) = 6) (hi : z 0 7 = i) (hr : z 8 i = r) (hc : z 4 r = c + 1) (hb : z 2 r = b) (hpi : (pi = 0 ∧ i = r) ∨ (pi = 5 ∧ 4 ≤ b ∧ z 22 i = 0)) (ga : agp (bkf b) G G') (g11 : G' 84 11 = nI c)
    (g2 : b = 2 → G' 84 8 = G 84 8 ∧ G' 84 13 = G 84 13 ∧ G' 46 49 = G 46 49 ∧ G' 46 50 = G 46 50) (gn : ¬ b = 2 → ∃ d, z 12 r = d + 1 ∧ G' 84 8 = nI d ∧ G' 46 50 = nI d ∧ G' 84 13 = G 120 c ∧ G' 46 49 = G 70 (z 6 c))
    (gg : 4 ≤ b → G' 140 (b - 4) = nI (if pi = 0 then 4 else 1) ∧ G' 77 (b - 4) = nI (if pi = 0 then 4 else 1) ∧ (pi = 5 → G' 144 (b - 4) = nI i ∧ G' 78 (b - 4) = nI (z 6 i))) (hd5 : pi = 5 → dV (zBk z pi) G' i) (hno : pi = 5 → ∀ j, j < z 0 0 → z 9 j = 2 → G 47 (z 1 j) = 26 → ¬ z 8 j = r) :
    sIM N B (zBk z pi) G' x sp fp ∧ eX N z G (zBk z pi) G' ∧ c < z 0 0 ∧ ¬ c = i ∧ z 9 c = (if b = 2 then 3 else 4) ∧ dV z G c ∧ mu (zBk z pi) + (if pi = 0 then 10 else 0) ≤ mu z := by
  obtain ⟨hP, hA, hB, hC, hD, hE, hF, hG, hH, hI, hJ, hK, hL, hM, hN, hO, hPg, hQ, hR, hS, hT, hU⟩ := h
  obtain ⟨k1, k2, k3, k4, k5⟩ := id hK
  have hnr := cur_nrst (N := N) hC hI hK hPg (by omega)
  have hf := fX_of hA hC (by omega)
  have z9 : ∀ j, (zBk z pi) 9 j = if j = c then 6 else if j = i then pi else z 9 j := by
    intro j; simp only [zBk, hi, hr, hc]; simp
  have z21 : ∀ j, (zBk z pi) 21 j = if pi = 0 ∧ j = i then 0 else z 21 j := by
    intro j; simp only [zBk, hi]; simp
  have z16 : ∀ j, (zBk z pi) 16 j = if 4 ≤ b ∧ j = b - 4 then (if pi = 0 then 4 else 1) else z 16 j := by
    intro j; simp only [zBk, hi, hr, hb]; simp
  have z18 : ∀ j, (zBk z pi) 18 j = if 4 ≤ b ∧ j = b - 4 ∧ pi = 5 then i else z 18 j := by
    intro j; simp only [zBk, hi, hr, hb]; simp
  have z0 : ∀ j, ¬ j = 7 → (zBk z pi) 0 j = z 0 j := by intro j h1; simp [zBk, h1]
  have zc : (zBk z pi) 0 7 = c := by simp [zBk, hi, hr, hc]
  have zl : ∀ k, ¬ k = 0 → ¬ k = 9 → ¬ k = 21 → ¬ k = 16 → ¬ k = 18 → (zBk z pi) k = z k := fun k a1 a2 a3 a4 a5 => funext (fun j => zBk_l a1 a2 a3 a4 a5)
  generalize hz' : zBk z pi = z' at *
  have hn' : ∃ n, z 0 0 = n := ⟨_, rfl⟩
  obtain ⟨n, hn⟩ := hn'
  rw [hi] at h6 k3 k4 k5 hnr
  rw [hm] at k4
  rw [hr] at hnr
  have hin : i < n := by omega
  have hCi := hC i (by omega)
  rw [hr, hb] at hCi
  have hrn : r < n := by have := hCi.2.2.2.2.1; omega
  have hCr := hC r (by omega)
  rw [hb] at hCr
  have hb0 : ¬ b = 0 := hCi.2.2.2.2.2
  have hlr : ¬ z 9 r = 0 := by have := live_root hC hI i i (Nat.le_refl _) (by omega) (by omega); rw [hr] at this; exact this
  have hIr := hI r (by omega) hlr
  rw [hb] at hIr
  obtain ⟨ir1, ir2, ir3, ir4, ir5⟩ := hIr
  have hcr := ir2 hb0 (by omega) hnr
  rw [hc, Nat.add_sub_cancel] at hcr
  obtain ⟨hc9, hc10⟩ := hcr
  have hcn : c < n := by have := (hCr.2.2.1 hb0).2; omega
  have hci : ¬ c = i := by
    intro e; rw [e] at hc9
    split at hc9 <;> omega
  have hpc5 : z 9 c = 3 ∨ z 9 c = 4 := by split at hc9 <;> omega
  have hn6 : n ≤ 600 := by have := hQ.1; have := hQ.2.2.2.1; omega
  have hpi5 : pi = 0 ∨ pi = 5 := by rcases hpi with q | q <;> omega
  have z22i : z 22 i = 0 := by
    rcases hpi with q | q
    · have := ((hT.1 i (by omega) (by omega)).2 (by rw [q.2, hb]; exact hb0)).1; exact this
    · exact q.2.2
  have hio : ∀ q, io z' q = io z q := by
    intro q; unfold io
    rw [zl 22 (by decide) (by decide) (by decide) (by decide) (by decide), zl 8 (by decide) (by decide) (by decide) (by decide) (by decide), zl 23 (by decide) (by decide) (by decide) (by decide) (by decide)]
  have hioc : io z i = io z c := by
    have t := ((hT.1 r (by omega) hlr).2 (by rw [hb]; exact hb0)).2 hnr
    have := t.2 (by omega)
    rw [hc, Nat.add_sub_cancel] at this
    rw [← this]
    unfold io
    rw [z22i, if_pos rfl, hr]
  have gk : ∀ c', (∀ j, ¬ bkf b c' j) → G' c' = G c' := fun c' hc' => funext (fun j => ga c' j (hc' j))
  have gl : ∀ c', ¬ c' = 84 → ¬ c' = 46 → ¬ c' = 140 → ¬ c' = 144 → ¬ c' = 77 → ¬ c' = 78 → G' c' = G c' := fun c' a1 a2 a3 a4 a5 a6 => gk c' (by intro j; unfold bkf; omega)
  have g84 : ∀ j, ¬ j = 8 → ¬ j = 11 → ¬ j = 13 → G' 84 j = G 84 j := fun j a1 a2 a3 => ga _ _ (by unfold bkf; omega)
  have g46 : ∀ j, ¬ j = 49 → ¬ j = 50 → G' 46 j = G 46 j := fun j a1 a2 => ga _ _ (by unfold bkf; omega)
  have hX : eX N z G z' G' := by
    refine ⟨⟨by rw [z0 0 (by decide)]; exact Nat.le_refl _, by rw [z0 4 (by decide)]; exact Nat.le_refl _, by rw [z0 5 (by decide)]; exact Nat.le_refl _, by rw [z0 2 (by decide)]; exact Nat.le_refl _, by rw [z0 6 (by decide)]; exact Nat.le_refl _⟩, fun q _ => ?_, fun q _ _ => by rw [zl 11 (by decide) (by decide) (by decide) (by decide) (by decide)], fun q hq h0 => ⟨?_, by rw [gl 120 (by decide) (by decide) (by decide) (by decide) (by decide) (by decide)]⟩, fun q _ => by rw [zl 13 (by decide) (by decide) (by decide) (by decide) (by decide)], fun m _ => ?_, fun q _ => by rw [gl 80 (by decide) (by decide) (by decide) (by decide) (by decide) (by decide)], fun l _ hh => by rw [gl 54 (by decide) (by decide) (by decide) (by decide) (by decide) (by decide)]; exact hh⟩
    · rw [zl 1 (by decide) (by decide) (by decide) (by decide) (by decide), zl 2 (by decide) (by decide) (by decide) (by decide) (by decide), zl 3 (by decide) (by decide) (by decide) (by decide) (by decide), zl 8 (by decide) (by decide) (by decide) (by decide) (by decide), zl 6 (by decide) (by decide) (by decide) (by decide) (by decide)]
      exact ⟨rfl, rfl, rfl, rfl, rfl⟩
    · rw [z9, if_neg (by intro e; subst e; omega), if_neg (by intro e; subst e; omega)]; exact h0
    · rw [gl 13 (by decide) (by decide) (by decide) (by decide) (by decide) (by decide), gl 47 (by decide) (by decide) (by decide) (by decide) (by decide) (by decide), gl 48 (by decide) (by decide) (by decide) (by decide) (by decide) (by decide), gl 49 (by decide) (by decide) (by decide) (by decide) (by decide) (by decide), gl 50 (by decide) (by decide) (by decide) (by decide) (by decide) (by decide)]
      exact ⟨rfl, rfl, rfl, rfl, rfl⟩
  have hvv : ∀ y, vV z y → vV z' y := fun y hy => vV_ext hX hy
  have hl9 : ∀ j, ¬ z' 9 j = 0 → ¬ z 9 j = 0 := by
    intro j hl
    rw [z9] at hl
    by_cases e : j = c
    · subst e; omega
    · rw [if_neg e] at hl
      by_cases e2 : j = i
      · subst e2; omega
      · rw [if_neg e2] at hl; exact hl
  have hgj : ∀ j, j < n → ¬ z 9 j = 0 → 4 ≤ z 2 j → 4 ≤ b → z 2 j - 4 = b - 4 → j = r := by
    intro j hj hl h4 hb4 e
    have a := ((hI j (by omega) hl).2.2.2.2 h4).2.1
    have b' := (ir5 hb4).2.1
    rw [e] at a
    exact a.symm.trans b'
  have hrst : ∀ j, j < n → ¬ z 9 j = 0 → ¬ j = r → (rst z' j ↔ rst z j) := by
    intro j hj hl hjr
    unfold rst
    rw [zl 2 (by decide) (by decide) (by decide) (by decide) (by decide)]
    by_cases c4 : 4 ≤ z 2 j
    · rw [z16, if_neg (fun q => hjr (hgj j hj hl c4 q.1 q.2))]
    · exact ⟨fun q => absurd q.1 c4, fun q => absurd q.1 c4⟩
  have hdr : pi = 0 → z' 9 r = 0 := by
    intro e
    rcases hpi with q | q
    · have hcr' : ¬ r = c := fun y => hci (by rw [q.2, y])
      rw [z9, if_neg hcr', if_pos q.2.symm, e]
    · omega
  have hnrr : pi = 5 → rst z' r := by
    intro e
    rcases hpi with q | q
    · omega
    · refine ⟨by rw [zl 2 (by decide) (by decide) (by decide) (by decide) (by decide), hb]; exact q.2.1, ?_⟩
      rw [zl 2 (by decide) (by decide) (by decide) (by decide) (by decide), hb, z16, if_pos ⟨q.2.1, rfl⟩, if_neg (by omega)]
  obtain ⟨Q1, Q2, Q3, Q4, Q5, Q6, Q7, Q8, Q9, Q10, Q11, Q12, Q13, Q14, Q15, Q16, Q17, Q18, Q19, Q20, Q21, Q22, Q23, Q24, Q25⟩ := id hQ
  obtain ⟨R1, R2, R3, R4⟩ := id hR
  have y1 := zl 1 (by decide) (by decide) (by decide) (by decide) (by decide)
  have y2 := zl 2 (by decide) (by decide) (by decide) (by decide) (by decide)
  have y3 := zl 3 (by decide) (by decide) (by decide) (by decide) (by decide)
  have y4 := zl 4 (by decide) (by decide) (by decide) (by decide) (by decide)
  have y5 := zl 5 (by decide) (by decide) (by decide) (by decide) (by decide)
  have y6 := zl 6 (by decide) (by decide) (by decide) (by decide) (by decide)
  have y8 := zl 8 (by decide) (by decide) (by decide) (by decide) (by decide)
  have y10 := zl 10 (by decide) (by decide) (by decide) (by decide) (by decide)
  have y11 := zl 11 (by decide) (by decide) (by decide) (by decide) (by decide)
  have y12 := zl 12 (by decide) (by decide) (by decide) (by decide) (by decide)
  have y13 := zl 13 (by decide) (by decide) (by decide) (by decide) (by decide)
  have y14 := zl 14 (by decide) (by decide) (by decide) (by decide) (by decide)
  have y15 := zl 15 (by decide) (by decide) (by decide) (by decide) (by decide)
  have y17 := zl 17 (by decide) (by decide) (by decide) (by decide) (by decide)
  have y19 := zl 19 (by decide) (by decide) (by decide) (by decide) (by decide)
  have y20 := zl 20 (by decide) (by decide) (by decide) (by decide) (by decide)
  have y22 := zl 22 (by decide) (by decide) (by decide) (by decide) (by decide)
  have y23 := zl 23 (by decide) (by decide) (by decide) (by decide) (by decide)
  have y24 := zl 24 (by decide) (by decide) (by decide) (by decide) (by decide)
  have s0 := z0 0 (by decide)
  have s1 := z0 1 (by decide)
  have s2 := z0 2 (by decide)
  have s3 := z0 3 (by decide)
  have s4 := z0 4 (by decide)
  have s5 := z0 5 (by decide)
  have s6 := z0 6 (by decide)
  have s8 := z0 8 (by decide)
  have gc : ∀ c', (c' = 31 ∨ c' = 47 ∨ c' = 48 ∨ c' = 54 ∨ (64 ≤ c' ∧ c' ≤ 76) ∨ c' = 79 ∨ (108 ≤ c' ∧ c' ≤ 138) ∨ c' = 142) → G' c' = G c' := fun c' q => gl c' (by omega) (by omega) (by omega) (by omega) (by omega) (by omega)
  have hL1 : z 21 i = 1 := (R4 i (by omega)).1 (by omega)
  refine ⟨⟨?_, ?_, ?_, ?_, ?_, ?_, ?_, ?_, ?_, ?_, ?_, ?_, ?_, ?_, ?_, ?_, ?_, ?_, ?_, ?_, ?_, ?_⟩, hX, by rw [hn]; exact hcn, hci, hc9, hH c (by omega) (by omega) (by omega), ?_⟩
  · exact gP_eq hP (fun c' j q => ga c' j (by unfold bkf; omega))
  · intro q hq; rw [s8] at hq; rw [gc 108 (by omega), y1]; exact hA q hq
  · intro q hq; rw [s8] at hq; rw [gc 112 (by omega), y13, y5, s2]; exact hB q hq
  · intro q hq; rw [s8] at hq; rw [gc 114 (by omega), y2, y3, y8, y4, s0]; exact hC q hq
  · intro q hq; rw [s8] at hq; rw [gc 110 (by omega), y2, y3, y4]; exact hD q hq
  · intro q hq; rw [s0] at hq; rw [gc 64 (by omega), gc 65 (by omega), gc 66 (by omega), y1, y2, y3, y5, y6]; exact hE q hq
  · intro q hq; rw [s8] at hq; rw [gc 64 (by omega), gc 65 (by omega), gc 67 (by omega), gc 68 (by omega), y2, y4, y6]; exact hF q hq
  · unfold qG; rw [y6, y2, s8, s0, s1]; exact hG
  · -- qH
    intro j hj h1 h2
    rw [s0, hn] at hj
    rw [z9] at h1 h2
    by_cases e : j = c
    · rw [if_pos e] at h2; omega
    · rw [if_neg e] at h1 h2
      by_cases e2 : j = i
      · rw [if_pos e2] at h1
        have p5 : pi = 5 := by omega
        rw [e2]; exact hd5 p5
      · rw [if_neg e2] at h1 h2
        exact dV_ext hX hf (by omega) (by omega) (by rw [z9, if_neg e, if_neg e2]) (by rw [y19]) (by rw [y20]) (by rw [gc 116 (by omega)]) (by rw [gc 118 (by omega)]) (by rw [gc 122 (by omega)]) (by rw [gc 124 (by omega)]) (by rw [gc 126 (by omega)]) (by rw [gc 128 (by omega)]) (by rw [gc 67 (by omega)]) (by rw [gc 68 (by omega)]) (by rw [gc 69 (by omega)]) (hH j (by omega) h1 h2)
  · -- qI
    intro j hj hl
    rw [s8, hm, hn] at hj
    have hl0 := hl9 j hl
    obtain ⟨q1, q2, q3, q4, q5⟩ := hI j (by omega) hl0
    rw [y2, y3, y4, y10, y17, s5]
    have hjr0 : pi = 0 → ¬ j = r := by intro e e2; rw [e2] at hl; exact hl (hdr e)
    refine ⟨fun e => ?_, fun e1 e2 e3 => ?_, q3, q4, fun e => ?_⟩
    · have := q1 e
      rw [z9, if_neg (by intro y; rw [y] at this; omega), if_neg (by intro y; rw [y] at this; omega)]; exact this
    · have hjr : ¬ j = r := by
        rcases hpi5 with p | p
        · exact hjr0 p
        · intro y; rw [y] at e3; exact e3 (hnrr p)
      rw [hrst j hj hl0 hjr] at e3
      have w := q2 e1 e2 e3
      have n1 : ¬ z 4 j - 1 = c := by
        intro y; rw [y, hc10] at w; exact hjr w.2.symm
      have n2 : ¬ z 4 j - 1 = i := by
        intro y; rw [y] at w
        have := w.1
        split at this <;> omega
      rw [z9, if_neg n1, if_neg n2]; exact w
    · obtain ⟨w1, w2, w3⟩ := q5 e
      refine ⟨w1, w2, ?_⟩
      rw [z16]
      by_cases c4 : 4 ≤ b ∧ z 2 j - 4 = b - 4
      · have ej := hgj j hj hl0 e c4.1 c4.2
        rcases hpi5 with p | p
        · exact absurd ej (hjr0 p)
        · rw [if_pos c4, if_neg (by omega)]; exact Or.inl rfl
      · rw [if_neg c4]; exact w3
  · -- qJ
    intro v hv h12
    rw [s8, hm, hn] at hv
    have n1 : ¬ v = c := by intro e; rw [z9, if_pos e] at h12; omega
    have n2 : ¬ v = i := by intro e; rw [z9, if_neg n1, if_pos e] at h12; omega
    rw [z9, if_neg n1, if_neg n2] at h12
    obtain ⟨q1, q2, q3, q4, q5⟩ := hJ v (by omega) h12
    rw [y10, y2, y3, s8]
    refine ⟨q1, q2, ?_, q4, q5⟩
    rw [z9]
    split
    · omega
    · split
      · rename_i e1 e2
        rcases hpi with p | p
        · rw [e2, p.2, hb] at q4; exact absurd q4 hb0
        · omega
      · exact q3
  · -- qK
    have big : ∀ a, a < n → 3 ≤ z' 9 a → 3 ≤ z 9 a := by
      intro a ha h1
      rw [z9] at h1
      by_cases e : a = c
      · subst e; omega
      · rw [if_neg e] at h1
        by_cases e2 : a = i
        · subst e2; omega
        · rw [if_neg e2] at h1; exact h1
    refine ⟨?_, ?_, ?_, ?_, ?_⟩
    · intro a b' ha hb' h1 h2 hh
      rw [s8, hm, hn] at ha hb'
      rw [y8] at hh
      exact k1 a b' (by omega) (by omega) (big a ha h1) (big b' hb' h2) hh
    · intro a ha
      rw [s8] at ha
      rw [z9]; split
      · omega
      · split
        · omega
        · exact k2 a ha
    · intro a ha h1
      rw [s8] at ha
      rw [zc]
      rw [z9] at h1
      by_cases e : a = c
      · exact e
      · rw [if_neg e] at h1
        by_cases e2 : a = i
        · rw [if_pos e2] at h1; omega
        · rw [if_neg e2] at h1; exact absurd (k3 a ha h1) e2
    · rw [zc, s8]; omega
    · rw [zc, z9, if_pos rfl]; omega
  · -- qL
    refine ⟨?_, ?_⟩
    · intro j hj hl hbj hrj
      rw [s8, hm, hn] at hj
      have hl0 := hl9 j hl
      rw [y2] at hbj
      have hjr : ¬ j = r := by
        rcases hpi5 with p | p
        · intro e2; rw [e2] at hl; exact hl (hdr p)
        · intro y; rw [y] at hrj; exact hrj (hnrr p)
      rw [hrst j hj hl0 hjr] at hrj
      rw [y4, y2, y12, y8, y11]
      exact hL.1 j (by omega) hl0 hbj hrj
    · obtain ⟨d, d1, d2, d3, d4, d5⟩ := hL.2
      rw [hi, hr] at d2
      have hLr := (hL.1 r (by omega) hlr (by rw [hb]; exact hb0) hnr).2 (by omega)
      rw [hb, hc, Nat.add_sub_cancel] at hLr
      rw [y12, y8, zc]
      by_cases c2 : b = 2
      · obtain ⟨a1, a2, a3, a4⟩ := g2 c2
        refine ⟨d, d1, by rw [← hLr.1 c2]; exact d2, by rw [a1]; exact d3, by rw [a4]; exact d4, by rw [a2, a3]; exact cH_ext hX d5⟩
      · obtain ⟨d', a0, a1, a2, a3, a4⟩ := gn c2
        obtain ⟨l1, l2⟩ := hLr.2 c2
        have e11 : ¬ z 11 c = 0 := by omega
        obtain ⟨m1, m2⟩ := hM.1 c (by omega) e11
        refine ⟨d', by omega, by omega, a1, a2, ?_⟩
        rw [a3, a4]
        have : z 11 c - 1 = d' := by omega
        rw [← this]
        exact cH_ext hX m2
  · -- qM
    refine ⟨?_, ?_⟩
    · intro q hq hdp
      rw [s0] at hq
      rw [y11] at hdp ⊢
      rw [y6, gc 120 (by omega), gc 70 (by omega)]
      obtain ⟨m1, m2⟩ := hM.1 q hq hdp
      exact ⟨m1, cH_ext hX m2⟩
    · intro q hq h1 h2
      rw [s0] at hq
      rw [y11]
      rw [z9] at h1 h2
      by_cases e : q = c
      · rw [if_pos e] at h2; omega
      · rw [if_neg e] at h1 h2
        by_cases e2 : q = i
        · rw [if_pos e2] at h1 h2; omega
        · rw [if_neg e2] at h1 h2; exact hM.2 q hq h1 h2
  · -- qN
    obtain ⟨q1, q2⟩ := hN
    refine ⟨by rw [s2, y13]; exact q1, ?_⟩
    rw [s2, s3, y13, gc 71 (by omega), gc 72 (by omega), gc 131 (by omega), gc 133 (by omega)]
    intro s' hs'
    obtain ⟨w1, w2, w3, w4⟩ := q2 s' hs'
    exact ⟨w1, w2, w3, fun k hk => (w4 k hk).imp id (fun w => ⟨w.1, hvv _ w.2⟩)⟩
  · unfold qO; rw [s4, y14, y1, y5, s0, gc 136 (by omega), gc 73 (by omega), gc 74 (by omega), gc 47 (by omega)]; exact hO
  · -- qP
    intro j hj
    rw [s5] at hj
    obtain ⟨w1, w2, w3, w4, w5, w6, w7, w8, w9, w10⟩ := hPg j hj
    rw [y15, y1, y5, s0, s8, y17, y2, y6, y8, z16, z18, gc 138 (by omega), gc 75 (by omega), gc 76 (by omega), gc 79 (by omega), gc 142 (by omega), gc 47 (by omega)]
    refine ⟨w1, w2, w3, w4, w5, ?_⟩
    by_cases c4 : 4 ≤ b ∧ j = b - 4
    · obtain ⟨c1, rfl⟩ := c4
      obtain ⟨a1, a2, a3⟩ := gg c1
      obtain ⟨i5a, i5b, i5c⟩ := ir5 c1
      rw [if_pos ⟨c1, rfl⟩]
      refine ⟨by split <;> omega, a1, a2, ?_, ?_⟩
      · intro q
        have p : pi = 5 := by
          rcases hpi5 with p | p
          · rw [if_pos p] at q; omega
          · exact p
        obtain ⟨v1, v2, v3, v4, v5, v6⟩ := w9 (by omega)
        refine ⟨v1, v2, ?_, v4, v5, fun y => by rw [if_neg (by omega)] at y; omega⟩
        rw [i5b, z9]
        split
        · omega
        · split
          · omega
          · exact hlr
      · intro q
        have p : pi = 5 := by
          rcases hpi5 with p | p
          · rw [if_pos p] at q; omega
          · exact p
        obtain ⟨b1, b2⟩ := a3 p
        rw [if_pos ⟨c1, rfl, p⟩]
        refine ⟨by rw [hn]; exact hin, ?_, by rw [i5b]; exact hr, b1, b2⟩
        rw [z9, if_neg (fun y => hci y.symm), if_pos rfl, p]
    · rw [if_neg c4, if_neg (fun q => c4 ⟨q.1, q.2.1⟩), ga 140 j (by unfold bkf; omega), ga 77 j (by unfold bkf; omega), ga 144 j (by unfold bkf; omega), ga 78 j (by unfold bkf; omega)]
      refine ⟨w6, w7, w8, fun q => ?_, fun q => ?_⟩
      · obtain ⟨v1, v2, v3, v4, v5, v6⟩ := w9 q
        refine ⟨v1, v2, ?_, v4, v5, fun y => by rw [y4]; exact v6 y⟩
        rw [z9]
        split
        · omega
        · split
          · rename_i e1 e2
            rcases hpi with p | p
            · rw [e2, p.2, hb] at v2
              exact absurd ⟨by omega, by omega⟩ c4
            · omega
          · exact v3
      · obtain ⟨v1, v2, v3, v4, v5⟩ := w10 q
        refine ⟨v1, ?_, v3, v4, v5⟩
        rw [z9, if_neg (by intro e; rw [e] at v2; omega), if_neg (by intro e; rw [e] at v2; omega)]; exact v2
  · -- qQ
    refine ⟨Q1, by rw [g84 9 (by decide) (by decide) (by decide)]; exact Q2, by rw [g46 59 (by decide) (by decide)]; exact Q3, by rw [s0]; exact Q4, by rw [s0, s8]; exact Q5, by rw [s0, s8]; exact Q6, by rw [g84 10 (by decide) (by decide) (by decide), s0]; exact Q7, by rw [g46 58 (by decide) (by decide), s0]; exact Q8, by rw [zc]; exact g11, by rw [g84 7 (by decide) (by decide) (by decide)]; exact Q10, by rw [g46 53 (by decide) (by decide)]; exact Q11, by rw [g84 14 (by decide) (by decide) (by decide), g46 51 (by decide) (by decide)]; exact Q12, by rw [g46 51 (by decide) (by decide)]; exact Q13, by rw [g84 19 (by decide) (by decide) (by decide), g46 62 (by decide) (by decide)]; exact Q14, by rw [g46 63 (by decide) (by decide)]; exact Q15, by rw [g46 64 (by decide) (by decide)]; exact Q16, by rw [g46 21 (by decide) (by decide), s1]; exact Q17, by rw [g46 29 (by decide) (by decide), s2]; exact Q18, by rw [gc 129 (by omega), s3]; exact Q19, by rw [gc 134 (by omega), s4]; exact Q20, by rw [g46 32 (by decide) (by decide), s4]; exact Q21, by rw [gc 134 (by omega), s5]; exact Q22, by rw [g46 35 (by decide) (by decide), s5]; exact Q23, by rw [g46 47 (by decide) (by decide), s6]; exact Q24, by rw [s2, s3]; exact Q25⟩
  · -- qR
    refine ⟨by rw [s3, y19, s0]; exact R1, by rw [s6, y20, s0]; exact R2, by rw [s4, s5, s0]; exact R3, ?_⟩
    intro q hq
    rw [s0] at hq
    rw [z21]
    refine ⟨fun hl => ?_, ?_⟩
    · by_cases e : pi = 0 ∧ q = i
      · rcases hpi with p | p
        · rw [e.2, p.2] at hl; exact absurd (hdr e.1) hl
        · omega
      · rw [if_neg e]; exact (R4 q hq).1 (hl9 q hl)
    · split
      · omega
      · exact (R4 q hq).2
  · -- qS
    obtain ⟨f, hf'⟩ := hS
    refine ⟨f, fun o ho => ?_⟩
    have h0 := hf' o ho
    rw [hi, hioc] at h0
    rw [zc, hio]
    refine oK_ext (N := N) (z := z) (z' := z') (G := G) (G' := G') (by rw [s0]; exact Nat.le_refl _) hf.1 (fun q _ => by rw [y1]) (fun m _ => ⟨by rw [gc 47 (by omega)], by rw [gc 48 (by omega)]⟩) f (fun q q1 q2 q3 q4 => ?_) _ _ h0
    refine ⟨?_, by rw [gc 122 (by omega)], hio q, by rw [y24]⟩
    rw [z9, if_neg (by intro e; rw [e] at q2; omega), if_neg (by intro e; rw [e] at q2; omega)]; exact q2
  · -- qT
    refine ⟨?_, ?_⟩
    · intro j hj hl
      rw [s8, hm, hn] at hj
      have hl0 := hl9 j hl
      obtain ⟨t1, t2⟩ := hT.1 j (by omega) hl0
      have i1 := (hI j (by omega) hl0).1
      rw [y2, y3, y4, y1, y22, y23, gc 47 (by omega)]
      refine ⟨fun q => ?_, fun q => ⟨(t2 q).1, fun q3 => ?_⟩⟩
      · have w := i1 q
        have z93 : z' 9 (z 3 j) = z 9 (z 3 j) := by rw [z9, if_neg (by intro e; rw [e] at w; omega), if_neg (by intro e; rw [e] at w; omega)]
        rw [z93]; exact t1 q
      · have hjr : ¬ j = r := by
          rcases hpi5 with p | p
          · intro e2; rw [e2] at hl; exact hl (hdr p)
          · intro y; rw [y] at q3; exact q3 (hnrr p)
        rw [hrst j hj hl0 hjr] at q3
        have w := (t2 q).2 q3
        exact ⟨w.1, fun q4 => by rw [hio]; exact w.2 q4⟩
    · intro j hj h1 h2
      rw [s0, hn] at hj
      have n1 : ¬ j = c := by intro e; rw [z9, if_pos e] at h1; omega
      have n2 : ¬ j = i := by intro e; rw [z9, if_neg n1, if_pos e] at h1; omega
      rw [z9, if_neg n1, if_neg n2] at h1
      rw [y1, gc 47 (by omega)] at h2
      rw [y8]
      have w := hT.2 j (by omega) h1 h2
      have hr8 : z 8 j < n := by have := (hC j (by omega)).2.2.2.2.1; omega
      by_cases e : z 8 j = r
      · rcases hpi5 with p | p
        · intro q
          have := hdr p
          have hlj := live_root hC hI j j (Nat.le_refl _) (by omega) (by omega)
          rw [e] at q
          unfold rst at q
          rw [y2, hb] at q
          rw [z16, if_pos ⟨q.1, rfl⟩, if_pos p] at q
          omega
        · exact absurd e (hno p j (by omega) h1 h2)
      · rw [hrst _ hr8 (live_root hC hI j j (Nat.le_refl _) (by omega) (by omega)) e]; exact w
  · -- qU
    obtain ⟨u1, u2, u3, u4, u5, u6⟩ := hU
    have hq := qU_eq (G' := G') ⟨u1, u2, u3, u4, u5, u6⟩ (fun c' j q => ga c' j (by unfold bkf; omega))
    exact ⟨hq.1, hq.2.1, hq.2.2.1, hq.2.2.2.1, hq.2.2.2.2.1, fun k hk => ⟨(hq.2.2.2.2.2 k hk).1, hvv _ (hq.2.2.2.2.2 k hk).2⟩⟩
  · unfold mu
    rw [s0, hn]
    rcases hpi5 with p | p
    · rw [if_pos p]
      have := sm_up (f := z' 21) (g := z 21) (j := i) (n := n) hin (fun q _ hne => by rw [z21, if_neg (fun y => hne y.2)])
      have e : z' 21 i = 0 := by rw [z21, if_pos ⟨p, rfl⟩]
      rw [e, hL1] at this
      omega
    · rw [if_neg (by omega)]
      have : sm (z' 21) n = sm (z 21) n := sm_eq (fun q _ => by rw [z21, if_neg (fun y => by omega)])
      omega
