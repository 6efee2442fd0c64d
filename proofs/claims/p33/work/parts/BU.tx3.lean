/-! the text stays a text of both -/
def tC (b k j : Nat) : Prop := (k = 20 + 5 * b ∧ (j = 2 ∨ j = 3)) ∨ k = 22 + 5 * b ∨ k = 24 + 5 * b ∨ (k = 58 ∧ 40 * b ≤ j ∧ j < 40 * b + 40) ∨ (k = 59 ∧ j = b) ∨ (k = 60 ∧ 4 * b ≤ j ∧ j < 4 * b + 4) ∨ (k = 61 ∧ j = b)
theorem gT_eq {b : Nat} {C R C' R' : Gt} (h : gT (20 + 5 * b) b C R) (e1 : ∀ k j, tC b k j → C' k j = C k j) (e2 : ∀ k j, tC b k j → R' k j = R k j) : gT (20 + 5 * b) b C' R' := by
  obtain ⟨⟨l, c, h1, h2, h3, h4, h5, h6, h7, h8⟩, h9⟩ := h
  refine ⟨⟨l, c, h1, h2, ?_, ?_, ?_, ?_, ?_, fun k hk => ?_⟩, fun p hp => ?_⟩
  · rw [e1 _ _ (by unfold tC; omega)]; exact h3
  · rw [e2 _ _ (by unfold tC; omega)]; exact h4
  · rw [e1 _ _ (by unfold tC; omega)]; exact h5
  · rw [e2 _ _ (by unfold tC; omega)]; exact h6
  · rw [e2 _ _ (by unfold tC; omega)]; exact h7
  · rw [e1 _ _ (by unfold tC; omega), e2 _ _ (by unfold tC; omega)]; exact h8 k hk
  · rw [e1 _ _ (by unfold tC; omega), e2 _ _ (by unfold tC; omega)]; exact h9 p hp
theorem tC_r {b k j : Nat} (hb : b < 2) (h : tC b k j) : (k = 20 ∨ k = 22 ∨ k = 24 ∨ k = 25 ∨ k = 27 ∨ k = 29 ∨ k = 58 ∨ k = 59 ∨ k = 60 ∨ k = 61) := by
  unfold tC at h; omega
theorem gT_mx {b : Nat} {C R : Gt} (hb : b < 2) (h : gT (20 + 5 * b) b C R) : gT (20 + 5 * b) b (mxw C R) (mxw C R) := by
  have : b = 0 ∨ b = 1 := by omega
  rcases this with rfl | rfl <;> exact h
theorem qU_t {N b : Nat} {z : Zt} {G G' : Gt} (h : qU N z G) (hb : b < 2) (hT : gT (20 + 5 * b) b G' G') (e : ∀ k j, ¬ tC b k j → G' k j = G k j) : qU N z G' := by
  obtain ⟨u1, u2, u3, u4, u5, u6⟩ := h
  have e' : ∀ k j, ¬ (k = 20 ∨ k = 22 ∨ k = 24 ∨ k = 25 ∨ k = 27 ∨ k = 29 ∨ k = 58 ∨ k = 59 ∨ k = 60 ∨ k = 61) → G' k j = G k j := fun k j q => e k j (fun y => q (tC_r hb y))
  have T : ∀ b', b' < 2 → ¬ b' = b → gT (20 + 5 * b') b' G G → gT (20 + 5 * b') b' G' G' := fun b' hb' hne q => gT_eq q (fun k j y => e k j (by unfold tC at y ⊢; omega)) (fun k j y => e k j (by unfold tC at y ⊢; omega))
  refine ⟨?_, ?_, ⟨fun s hs => ?_, ?_, ?_, ?_⟩, fun s hs => ?_, fun k hk => ?_, fun k hk => ?_⟩
  · by_cases c : b = 0
    · subst c; exact hT
    · exact T 0 (by decide) (fun q => c q.symm) u1
  · by_cases c : b = 1
    · subst c; exact hT
    · exact T 1 (by decide) (fun q => c q.symm) u2
  · rw [e' 35 s (by omega), e' 54 s (by omega)]; exact u3.1 s hs
  · rw [e' 19 7 (by omega), e' 46 14 (by omega)]; exact u3.2.1
  · rw [e' 19 8 (by omega), e' 46 12 (by omega)]; exact u3.2.2.1
  · rw [e' 46 12 (by omega)]; exact u3.2.2.2
  · rw [e' 37 s (by omega), e' 53 s (by omega), e' 39 s (by omega), e' 55 s (by omega)]; exact u4 s hs
  · rw [e' 33 k (by omega), e' 57 k (by omega)]; exact u5 k hk
  · rw [e' 31 k (by omega), e' 56 k (by omega)]; exact u6 k hk
theorem tC_fr {z : Zt} {b k j : Nat} (hb : b < 2) (h : tC b k j) : fr z k j := by
  rcases tC_r hb h with q | q | q | q | q | q | q | q | q | q <;> rw [q] <;> unfold fr <;> omega
theorem tC_n {b k j : Nat} (hb : b < 2) (h : k = 84 ∨ k = 46 ∨ k = 54) : ¬ tC b k j := by
  intro q
  have := tC_r hb q
  omega
theorem st_t {N B : Nat} {z : Zt} {G G' : Gt} {x : Nat → Int32} {sp fp u k e b : Nat} (h : st N B z G x sp fp u k e) (hb : b < 2) (hT : gT (20 + 5 * b) b G' G') (he : ∀ k j, ¬ tC b k j → G' k j = G k j) : st N B z G' x sp fp u k e := by
  have s := st_s h
  have a1 : agr z G G' := fun k j q => he k j (fun y => q (tC_fr hb y))
  have a2 : G' 84 14 = G' 46 51 ∧ bz (G' 46 51) ∧ G' 84 19 = G' 46 62 ∧ G' 84 12 = 0 := by
    rw [he 84 14 (tC_n hb (by decide)), he 46 51 (tC_n hb (by decide)), he 84 19 (tC_n hb (by decide)), he 46 62 (tC_n hb (by decide)), he 84 12 (tC_n hb (by decide))]
    exact s
  have a3 : ∀ l, l < 6 → ¬ G 54 l = -1 → ¬ G' 54 l = -1 := fun l _ q => by
    rw [he 54 l (tC_n hb (by decide))]; exact q
  exact st_w h a1 a2 a3 (qU_t (st_qU h) hb hT he) (Or.inl (fun _ _ => rfl))
/-- .. of the current buffer -/
theorem txc {N : Nat} {z : Zt} {G : Gt} (h : qU N z G) : ∃ b l c, b < 2 ∧ l ≤ 40 ∧ c < 4 ∧ G 19 7 = nI b ∧ G 46 14 = nI b ∧ txo 19 (G 19 7) = 20 + 5 * b ∧ tx (20 + 5 * b) ∧ gT (20 + 5 * b) b G G ∧ G (20 + 5 * b) 2 = nI l ∧ G 59 b = nI l ∧ G (20 + 5 * b) 3 = nI c ∧ G 61 b = nI c ∧ ∃ p, p ≤ l ∧ G (20 + 5 * b + 4) c = nI p ∧ G 60 (4 * b + c) = nI p := by
  obtain ⟨u1, u2, u3, u4, u5, u6⟩ := h
  obtain ⟨b, hb, e1, e2⟩ := u3.2.1
  have hg : gT (20 + 5 * b) b G G := by
    have : b = 0 ∨ b = 1 := by omega
    rcases this with rfl | rfl
    · exact u1
    · exact u2
  have ht : txo 19 (nI b) = 20 + 5 * b ∧ tx (20 + 5 * b) := by
    have : b = 0 ∨ b = 1 := by omega
    rcases this with rfl | rfl
    · exact ⟨rfl, Or.inl rfl⟩
    · exact ⟨rfl, Or.inr rfl⟩
  obtain ⟨⟨l, c, h1, h2, h3, h4, h5, h6, h7, h8⟩, h9⟩ := id hg
  obtain ⟨w1, w2⟩ := h8 c h2
  rcases w2 with q | ⟨p, hp, q⟩
  · exact absurd q h7
  · exact ⟨b, l, c, hb, h1, h2, e1, e2, by rw [e1]; exact ht.1, ht.2, hg, h3, h4, h5, h6, p, hp, w1.trans q, q⟩
theorem tx_20 {b : Nat} (h : b < 2) : tx (20 + 5 * b) := by unfold tx; omega
theorem m1_nlt {h : Nat} (hh : h < 2 ^ 31) : ¬ nI h < -1 := by
  rw [Int32.lt_iff_toInt_lt, nI_toInt hh, show (-1 : Int32).toInt = -1 by decide]; omega
theorem gT_ins {b c h l y : Nat} {C R : Gt} (hT : gT (20 + 5 * b) b C R) (hb : b < 2) (hl : C (20 + 5 * b) 2 = nI l) (hl4 : l < 40) (hc : C (20 + 5 * b) 3 = nI c) (hc4 : c < 4) (hh : h ≤ l) (hy : y < 26) : gT (20 + 5 * b) b (gIc (20 + 5 * b) c h l (nI y) C) (gIr b c h l (nI y) R) := by
  obtain ⟨⟨l', c', h1, h2, h3, h4, h5, h6, h7, h8⟩, h9⟩ := hT
  have : l' = l := (nI_eq (by omega) (by omega)).mp (h3.symm.trans hl)
  subst this
  have : c' = c := (nI_eq (by omega) (by omega)).mp (h5.symm.trans hc)
  subst this
  have pC : ∀ k, k < 4 → (gIc (20 + 5 * b) c' h l' (nI y) C) (20 + 5 * b + 4) k = if k = c' ∨ nI h < C (20 + 5 * b + 4) k then C (20 + 5 * b + 4) k + 1 else C (20 + 5 * b + 4) k := by
    intro k hk
    have e0 : (gu (gu (oSh (20 + 5 * b + 2) 0 h l' C) (20 + 5 * b + 2) h (nI y)) (20 + 5 * b) 2 (nI (l' + 1))) (20 + 5 * b + 4) k = C (20 + 5 * b + 4) k := by
      rw [gu_oo _ (by omega), gu_oo _ (by omega), oSh_o (by omega)]
    unfold gIc oCi
    rw [e0]
    by_cases q : k = c' ∨ nI h < C (20 + 5 * b + 4) k
    · rw [if_pos q, if_pos ⟨rfl, by omega, by omega, q.imp (fun w => by omega) id⟩]
    · rw [if_neg q, if_neg (fun w => q (w.2.2.2.imp (fun y => by omega) id))]
  have pR : ∀ k, k < 4 → (gIr b c' h l' (nI y) R) 60 (4 * b + k) = if k = c' ∨ nI h < R 60 (4 * b + k) then R 60 (4 * b + k) + 1 else R 60 (4 * b + k) := by
    intro k hk
    have e0 : (gu (gu (oSh 58 (40 * b) h l' R) 58 (40 * b + h) (nI y)) 59 b (nI (l' + 1))) 60 (4 * b + k) = R 60 (4 * b + k) := by
      rw [gu_oo _ (by decide), gu_oo _ (by decide), oSh_o (by decide)]
    unfold gIr oCi
    rw [e0]
    by_cases q : k = c' ∨ nI h < R 60 (4 * b + k)
    · rw [if_pos q, if_pos ⟨rfl, by omega, by omega, q.imp (fun w => by omega) id⟩]
    · rw [if_neg q, if_neg (fun w => q (w.2.2.2.imp (fun y => by omega) id))]
  have lC : ∀ p, (gIc (20 + 5 * b) c' h l' (nI y) C) (20 + 5 * b + 2) p = if p = h then nI y else if h < p ∧ p ≤ l' then C (20 + 5 * b + 2) (p - 1) else C (20 + 5 * b + 2) p := by
    intro p
    unfold gIc
    rw [oCi_o (by omega), gu_oo _ (by omega)]
    by_cases q : p = h
    · rw [if_pos q, q, gu_kk]
    · rw [if_neg q, gu_ko _ q]
      unfold oSh
      by_cases w : h < p ∧ p ≤ l'
      · rw [if_pos w, if_pos ⟨rfl, by omega, by omega⟩]
      · rw [if_neg w, if_neg (fun y => w ⟨by omega, by omega⟩)]
  have lR : ∀ p, (gIr b c' h l' (nI y) R) 58 (40 * b + p) = if p = h then nI y else if h < p ∧ p ≤ l' then R 58 (40 * b + (p - 1)) else R 58 (40 * b + p) := by
    intro p
    unfold gIr
    rw [oCi_o (by decide), gu_oo _ (by decide)]
    by_cases q : p = h
    · rw [if_pos q, q, gu_kk]
    · rw [if_neg q, gu_ko _ (by omega)]
      unfold oSh
      by_cases w : h < p ∧ p ≤ l'
      · rw [if_pos w, if_pos ⟨rfl, by omega, by omega⟩, show 40 * b + p - 1 = 40 * b + (p - 1) by omega]
      · rw [if_neg w, if_neg (fun y => w ⟨by omega, by omega⟩)]
  refine ⟨⟨l' + 1, c', by omega, h2, ?_, ?_, ?_, ?_, ?_, fun k hk => ?_⟩, fun p hp => ?_⟩
  · unfold gIc; rw [oCi_o (by omega), gu_kk]
  · unfold gIr; rw [oCi_o (by decide), gu_kk]
  · unfold gIc; rw [oCi_o (by omega), gu_ko _ (by decide), gu_oo _ (by omega), oSh_o (by omega)]; exact h5
  · unfold gIr; rw [oCi_o (by decide), gu_oo _ (by decide), gu_oo _ (by decide), oSh_o (by decide)]; exact h6
  · rw [pR c' h2, if_pos (Or.inl rfl)]
    rcases (h8 c' h2).2 with q | ⟨p, hp, q⟩
    · exact absurd q h7
    · rw [q, nI_1]; exact nI_neg (by omega)
  · obtain ⟨w1, w2⟩ := h8 k hk
    rw [pC k hk, pR k hk, w1]
    refine ⟨rfl, ?_⟩
    rcases w2 with q | ⟨p, hp, q⟩
    · left
      rw [if_neg (fun w => ?_)]
      · exact q
      · rcases w with w | w
        · subst w; exact h7 q
        · rw [q] at w; exact m1_nlt (by omega) w
    · right
      rw [q]
      by_cases w : k = c' ∨ nI h < nI p
      · rw [if_pos w, nI_1]; exact ⟨p + 1, by omega, rfl⟩
      · rw [if_neg w]; exact ⟨p, by omega, rfl⟩
  · rw [lC p, lR p]
    by_cases q : p = h
    · rw [if_pos q, if_pos q]; exact ⟨rfl, y, hy, rfl⟩
    · rw [if_neg q, if_neg q]
      by_cases w : h < p ∧ p ≤ l'
      · rw [if_pos w, if_pos w]; exact h9 (p - 1) (by omega)
      · rw [if_neg w, if_neg w]; exact h9 p hp
theorem gT_era {b c h l : Nat} {C R : Gt} (hT : gT (20 + 5 * b) b C R) (hb : b < 2) (hl : C (20 + 5 * b) 2 = nI l) (hc : C (20 + 5 * b) 3 = nI c) (hc4 : c < 4) (h1 : 1 ≤ h) (hh : h ≤ l) (hl4 : l ≤ 40) (hcp : R 60 (4 * b + c) = nI h) : gT (20 + 5 * b) b (gEc (20 + 5 * b) c h l C) (gEr b c h l R) := by
  obtain ⟨⟨l', c', g1, h2, h3, h4, h5, h6, h7, h8⟩, h9⟩ := hT
  have : l' = l := (nI_eq (by omega) (by omega)).mp (h3.symm.trans hl)
  subst this
  have : c' = c := (nI_eq (by omega) (by omega)).mp (h5.symm.trans hc)
  subst this
  have pC : ∀ k, k < 4 → (gEc (20 + 5 * b) c' h l' C) (20 + 5 * b + 4) k = eC c' h k (C (20 + 5 * b + 4) k) := by
    intro k hk
    have e0 : (gu (oSd (20 + 5 * b + 2) 0 (h - 1) (l' - 1) C) (20 + 5 * b) 2 (nI (l' - 1))) (20 + 5 * b + 4) k = C (20 + 5 * b + 4) k := by
      rw [gu_oo _ (by omega), oSd_o (by omega)]
    unfold gEc oCe
    rw [e0, if_pos ⟨rfl, by omega, by omega⟩, Nat.sub_zero]
  have pR : ∀ k, k < 4 → (gEr b c' h l' R) 60 (4 * b + k) = eC c' h k (R 60 (4 * b + k)) := by
    intro k hk
    have e0 : (oSd 58 (40 * b) (h - 1) (l' - 1) (gu R 59 b (nI (l' - 1)))) 60 (4 * b + k) = R 60 (4 * b + k) := by
      rw [oSd_o (by decide), gu_oo _ (by decide)]
    unfold gEr oCe
    rw [e0, if_pos ⟨rfl, by omega, by omega⟩, show 4 * b + k - 4 * b = k by omega]
  have lC : ∀ p, (gEc (20 + 5 * b) c' h l' C) (20 + 5 * b + 2) p = if h - 1 ≤ p ∧ p < l' - 1 then C (20 + 5 * b + 2) (p + 1) else C (20 + 5 * b + 2) p := by
    intro p
    unfold gEc
    rw [oCe_o (by omega), gu_oo _ (by omega)]
    unfold oSd
    by_cases w : h - 1 ≤ p ∧ p < l' - 1
    · rw [if_pos w, if_pos ⟨rfl, by omega, by omega⟩]
    · rw [if_neg w, if_neg (fun y => w ⟨by omega, by omega⟩)]
  have lR : ∀ p, (gEr b c' h l' R) 58 (40 * b + p) = if h - 1 ≤ p ∧ p < l' - 1 then R 58 (40 * b + (p + 1)) else R 58 (40 * b + p) := by
    intro p
    unfold gEr
    rw [oCe_o (by decide)]
    unfold oSd
    by_cases w : h - 1 ≤ p ∧ p < l' - 1
    · rw [if_pos w, if_pos ⟨rfl, by omega, by omega⟩, gu_oo _ (by decide), Nat.add_assoc]
    · rw [if_neg w, if_neg (fun y => w ⟨by omega, by omega⟩), gu_oo _ (by decide)]
  refine ⟨⟨l' - 1, c', by omega, h2, ?_, ?_, ?_, ?_, ?_, fun k hk => ?_⟩, fun p hp => ?_⟩
  · unfold gEc; rw [oCe_o (by omega), gu_kk]
  · unfold gEr; rw [oCe_o (by decide), oSd_o (by decide), gu_kk]
  · unfold gEc; rw [oCe_o (by omega), gu_ko _ (by decide), oSd_o (by omega)]; exact h5
  · unfold gEr; rw [oCe_o (by decide), oSd_o (by decide), gu_oo _ (by decide)]; exact h6
  · rw [pR c' h2, hcp]
    unfold eC
    rw [if_neg (fun q => q.1 rfl), if_neg (fun q => by rw [nI_ltL rfl (by omega) (by omega)] at q; omega), nI_p h1]
    exact nI_neg (by omega)
  · obtain ⟨w1, w2⟩ := h8 k hk
    rw [pC k hk, pR k hk, w1]
    refine ⟨rfl, ?_⟩
    rcases w2 with q | ⟨p, hp, q⟩
    · left
      have hlt : (-1 : Int32) < nI h := by rw [Int32.lt_iff_toInt_lt, nI_toInt (by omega), show (-1 : Int32).toInt = -1 by decide]; omega
      rw [q]
      unfold eC
      rw [if_pos hlt]
      split
      · rfl
      · rfl
    · rw [q]
      unfold eC
      by_cases w : nI p < nI h
      · have w' := (nI_ltL (w := p) (a := h) (b := nI h) rfl (by omega) (by omega)).mp w
        rw [if_pos w]
        split
        · exact Or.inl rfl
        · exact Or.inr ⟨p, by omega, rfl⟩
      · have w' : ¬ p < h := fun y => w ((nI_ltL (w := p) (a := h) (b := nI h) rfl (by omega) (by omega)).mpr y)
        rw [if_neg w, nI_p (by omega)]
        split
        · exact Or.inl rfl
        · exact Or.inr ⟨p - 1, by omega, rfl⟩
  · rw [lC p, lR p]
    by_cases w : h - 1 ≤ p ∧ p < l' - 1
    · rw [if_pos w, if_pos w]; exact h9 (p + 1) (by omega)
    · rw [if_neg w, if_neg w]; exact h9 p hp
theorem gT_pl {b k l p : Nat} {C R : Gt} (hT : gT (20 + 5 * b) b C R) (hl : C (20 + 5 * b) 2 = nI l) (hl4 : l ≤ 40) (hk : k < 4) (hp : p ≤ l) : gT (20 + 5 * b) b (gu C (20 + 5 * b + 4) k (nI p)) (gu R 60 (4 * b + k) (nI p)) := by
  obtain ⟨⟨l', c', g1, h2, h3, h4, h5, h6, h7, h8⟩, h9⟩ := hT
  have : l' = l := (nI_eq (by omega) (by omega)).mp (h3.symm.trans hl)
  subst this
  refine ⟨⟨l', c', g1, h2, ?_, ?_, ?_, ?_, ?_, fun i hi => ?_⟩, fun q hq => ?_⟩
  · rw [gu_oo _ (by omega)]; exact h3
  · rw [gu_oo _ (by decide)]; exact h4
  · rw [gu_oo _ (by omega)]; exact h5
  · rw [gu_oo _ (by decide)]; exact h6
  · by_cases e : c' = k
    · rw [e, gu_kk]; exact nI_neg (by omega)
    · rw [gu_ko _ (by omega)]; exact h7
  · by_cases e : i = k
    · rw [e, gu_kk, gu_kk]; exact ⟨rfl, Or.inr ⟨p, hp, rfl⟩⟩
    · rw [gu_ko _ e, gu_ko _ (by omega)]; exact h8 i hi
  · rw [gu_oo _ (by omega), gu_oo _ (by decide)]; exact h9 q hq
theorem gT_ch {b k : Nat} {C R : Gt} (hT : gT (20 + 5 * b) b C R) (hk : k < 4) (hp : ¬ R 60 (4 * b + k) = -1) : gT (20 + 5 * b) b (gu C (20 + 5 * b) 3 (nI k)) (gu R 61 b (nI k)) := by
  obtain ⟨⟨l', c', g1, h2, h3, h4, h5, h6, h7, h8⟩, h9⟩ := hT
  refine ⟨⟨l', k, g1, hk, ?_, ?_, ?_, ?_, ?_, fun i hi => ?_⟩, fun q hq => ?_⟩
  · rw [gu_ko _ (by decide)]; exact h3
  · rw [gu_oo _ (by decide)]; exact h4
  · rw [gu_kk]
  · rw [gu_kk]
  · rw [gu_oo _ (by decide)]; exact hp
  · rw [gu_oo _ (by omega), gu_oo _ (by decide)]; exact h8 i hi
  · rw [gu_oo _ (by omega), gu_oo _ (by decide)]; exact h9 q hq
theorem gIc_o {b c h l k j : Nat} {v : Int32} {G : Gt} (hn : ¬ tC b k j) : gIc (20 + 5 * b) c h l v G k j = G k j := by
  unfold tC at hn
  unfold gIc
  rw [oCi_o (by omega), gu_n (by omega), gu_oo _ (by omega), oSh_o (by omega)]
theorem gIr_o {b c h l k j : Nat} {v : Int32} {G : Gt} (hh : h ≤ l) (hl : l < 40) (hn : ¬ tC b k j) : gIr b c h l v G k j = G k j := by
  unfold tC at hn
  unfold gIr
  have e1 : oCi 60 (4 * b) 4 c h (gu (gu (oSh 58 (40 * b) h l G) 58 (40 * b + h) v) 59 b (nI (l + 1))) k j = (gu (gu (oSh 58 (40 * b) h l G) 58 (40 * b + h) v) 59 b (nI (l + 1))) k j := by
    by_cases q : k = 60
    · subst q; exact oCi_r (by omega)
    · exact oCi_o q
  rw [e1, gu_n (by omega), gu_n (by omega)]
  by_cases q : k = 58
  · subst q; exact oSh_r (by omega)
  · exact oSh_o q
theorem gEc_o {b c h l k j : Nat} {G : Gt} (hn : ¬ tC b k j) : gEc (20 + 5 * b) c h l G k j = G k j := by
  unfold tC at hn
  unfold gEc
  rw [oCe_o (by omega), gu_n (by omega), oSd_o (by omega)]
theorem gEr_o {b c h l k j : Nat} {G : Gt} (hl : l ≤ 40) (hn : ¬ tC b k j) : gEr b c h l G k j = G k j := by
  unfold tC at hn
  unfold gEr
  have e1 : oCe 60 (4 * b) 4 c h (oSd 58 (40 * b) (h - 1) (l - 1) (gu G 59 b (nI (l - 1)))) k j = (oSd 58 (40 * b) (h - 1) (l - 1) (gu G 59 b (nI (l - 1)))) k j := by
    by_cases q : k = 60
    · subst q; exact oCe_r (by omega)
    · exact oCe_o q
  rw [e1]
  by_cases q : k = 58
  · subst q; rw [oSd_r (by omega), gu_oo _ (by decide)]
  · rw [oSd_o q, gu_n (by omega)]
theorem mx_o {b : Nat} {C R C' R' : Gt} (h1 : ∀ k j, ¬ tC b k j → C' k j = C k j) (h2 : ∀ k j, ¬ tC b k j → R' k j = R k j) : ∀ k j, ¬ tC b k j → mxw C' R' k j = mxw C R k j := by
  intro k j q
  cases hk : isR k
  · rw [mx_C hk, mx_C hk]; exact h1 k j q
  · rw [mx_R hk, mx_R hk]; exact h2 k j q
