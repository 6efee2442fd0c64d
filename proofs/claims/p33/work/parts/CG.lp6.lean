/-! THE FIRST NODE WAITS -/
def zI (m : Nat) : Zt := fun k j => if k = 0 then (if j = 8 ∨ j = 1 ∨ j = 2 ∨ j = 3 then 1 else 0) else if j = 0 then (if k = 1 then m else if k = 2 then 1 else if k = 6 then 1 else if k = 9 then 7 else 0) else 0
theorem zI_mu {m : Nat} : mu (zI m) = 12020 := by
  unfold mu
  rw [show (zI m) 0 0 = 0 from rfl]
  rfl
theorem oC_1 {w B : Int32} {m : Nat} {G : Gt} : oC w B m G 84 7 = 1 ∧ oC w B m G 84 8 = 0 ∧ oC w B m G 84 9 = B ∧ oC w B m G 84 10 = 0 ∧ oC w B m G 84 11 = 0 ∧ oC w B m G 84 12 = 1 ∧ oC w B m G 84 13 = -1 ∧ oC w B m G 84 14 = 0 ∧ oC w B m G 84 15 = 0 ∧ oC w B m G 84 19 = 0 ∧ oC w B m G 84 6 = w ∧ oC w B m G 129 2 = 1 ∧ oC w B m G 134 5 = 0 ∧ oC w B m G 134 6 = 0 := by
  unfold oC
  refine ⟨rfl, rfl, rfl, rfl, rfl, rfl, rfl, rfl, rfl, rfl, rfl, rfl, rfl, rfl⟩
theorem oC_2 {w B : Int32} {m : Nat} {G : Gt} : oC w B m G 108 0 = nI m ∧ oC w B m G 110 0 = -1 ∧ oC w B m G 112 0 = nI 0 ∧ oC w B m G 114 0 = 1 ∧ oC w B m G 116 0 = G 13 m ∧ oC w B m G 118 0 = 0 ∧ oC w B m G 124 0 = 0 ∧ oC w B m G 131 0 = -1 ∧ ∀ k, k < 8 → oC w B m G 133 k = 49999 := by
  unfold oC
  refine ⟨rfl, rfl, rfl, rfl, rfl, rfl, rfl, rfl, fun k hk => ?_⟩
  rw [show (oBg 0 (-1) (nI m) (nI 0) 1 (G 13 m) (oOp 0 (-1) (oc0 w B (ab G)))) 133 k = (oOp 0 (-1) (oc0 w B (ab G))) 133 k from rfl]
  unfold oOp
  rw [if_pos rfl, if_pos ⟨by omega, by omega⟩]
theorem oR_1 {B : Int32} {m : Nat} {G : Gt} : oR B m G 46 21 = 1 ∧ oR B m G 46 29 = 1 ∧ oR B m G 46 32 = 0 ∧ oR B m G 46 35 = 0 ∧ oR B m G 46 47 = 0 ∧ oR B m G 46 49 = -1 ∧ oR B m G 46 50 = 0 ∧ oR B m G 46 51 = 0 ∧ oR B m G 46 53 = 0 ∧ oR B m G 46 58 = 0 ∧ oR B m G 46 59 = B ∧ oR B m G 46 62 = 0 ∧ oR B m G 46 63 = 50000 ∧ oR B m G 46 64 = 0 ∧ oR B m G 46 41 = 0 ∧ oR B m G 46 54 = nI m ∧ oR B m G 46 55 = nI 0 ∧ oR B m G 46 56 = nI 0 := by
  unfold oR
  refine ⟨rfl, rfl, rfl, rfl, rfl, rfl, rfl, rfl, rfl, rfl, rfl, rfl, rfl, rfl, rfl, rfl, rfl, rfl⟩
theorem oR_2 {B : Int32} {m : Nat} {G : Gt} : oR B m G 64 0 = -1 ∧ oR B m G 65 0 = -1 ∧ oR B m G 67 0 = 0 ∧ oR B m G 71 0 = -1 ∧ ∀ k, k < 8 → oR B m G 72 k = -100000 := by
  unfold oR
  refine ⟨rfl, rfl, rfl, rfl, fun k hk => ?_⟩
  rw [ak_n (by decide), la_n (by decide) (by omega)]
  unfold oOr
  rw [if_pos rfl, if_pos ⟨by omega, by omega⟩]
theorem oR_lo {B : Int32} {m k j : Nat} {G : Gt} (h : k = 53 ∨ k = 54 ∨ k = 55 ∨ k = 56 ∨ k = 57 ∨ k = 58 ∨ k = 59 ∨ k = 60 ∨ k = 61 ∨ (47 ≤ k ∧ k ≤ 52) ∨ (k = 46 ∧ (j = 0 ∨ j = 12 ∨ j = 13 ∨ j = 14))) : oR B m G k j = G k j := oR_n (by omega) (by omega) (fun q => by omega)
theorem gP_eq2 {N : Nat} {G C R : Gt} (hP : gP N G G) (c : ∀ k j, k < 46 → C k j = G k j) (r : ∀ k j, (47 ≤ k ∧ k ≤ 52) ∨ (k = 46 ∧ j = 0) → R k j = G k j) : gP N (mxw C R) (mxw C R) := by
  refine gP_eq hP (fun k j q => ?_)
  cases hk : isR k
  · have := isR_f hk
    rw [mx_C hk]; exact c k j (by omega)
  · have := isR_t hk
    rw [mx_R hk]; exact r k j (by omega)
theorem open_w {N B m : Nat} {w : Int32} {G : Gt} (hP : gP N G G) (h0 : gT 20 0 G G) (h1 : gT 25 1 G G) (hS0 : gS0 N G G) (hS1 : gS1 N G G) (hRg : gRg G G) (hOp : gOp G G) (hm : m < N) (hB : B ≤ 600) : wST N B (zI m) (mxw (oC w (nI B) m G) (oR (nI B) m G)) := by
  obtain ⟨c1, c2, c3, c4, c5, c6, c7, c8, c9, c10, c11, c12, c13, c14⟩ := oC_1 (w := w) (B := nI B) (m := m) (G := G)
  obtain ⟨d1, d2, d3, d4, d5, d6, d7, d8, d9⟩ := oC_2 (w := w) (B := nI B) (m := m) (G := G)
  obtain ⟨r1, r2, r3, r4, r5, r6, r7, r8, r9, r10, r11, r12, r13, r14, r15, r16, r17, r18⟩ := oR_1 (B := nI B) (m := m) (G := G)
  obtain ⟨s1, s2, s3, s4, s5⟩ := oR_2 (B := nI B) (m := m) (G := G)
  have lo : ∀ k j, k < 46 → (oC w (nI B) m G) k j = G k j := fun k j hk => by
    rw [oC_n (by omega)]; exact ab_n (by unfold abk; omega)
  have wr' : ∀ k j, (k < 46 ∨ k = 53 ∨ k = 54 ∨ k = 55 ∨ k = 56 ∨ k = 57 ∨ k = 58 ∨ k = 59 ∨ k = 60 ∨ k = 61 ∨ (k = 46 ∧ (j = 12 ∨ j = 14))) → (mxw (oC w (nI B) m G) (oR (nI B) m G)) k j = G k j := by
    intro k j q
    cases hk : isR k
    · have := isR_f hk
      rw [mx_C hk]; exact lo k j (by omega)
    · have := isR_t hk
      rw [mx_R hk]; exact oR_lo (by omega)
  have hP' := gP_eq2 (C := oC w (nI B) m G) (R := oR (nI B) m G) hP lo (fun k j q => oR_lo (by omega))
  have hU : qU N (zI m) G := ⟨h0, h1, hS0, hS1, hRg, fun k hk => ⟨(hOp k hk).1, Or.inl (by rw [(hOp k hk).1]; exact (hOp k hk).2)⟩⟩
  have hU' : qU N (zI m) (mxw (oC w (nI B) m G) (oR (nI B) m G)) := qU_eq hU (fun k j q => wr' k j (by omega))
  have h116 : (mxw (oC w (nI B) m G) (oR (nI B) m G)) 116 0 = (mxw (oC w (nI B) m G) (oR (nI B) m G)) 13 m := d5.trans (lo 13 m (by decide)).symm
  have z2 : ¬ (zI m) 2 0 = 0 := (show ¬ (1 : Nat) = 0 by decide)
  have z2' : ∀ n, ¬ n = 1 → ¬ (zI m) 2 0 = n := fun n hn q => hn ((show (zI m) 2 0 = 1 from rfl).symm.trans q).symm
  have j0 : ∀ j, j < (zI m) 0 8 → j = 0 := fun j hj => by
    have : (zI m) 0 8 = 1 := rfl
    omega
  have n0 : ∀ j, ¬ j < (zI m) 0 0 := fun j hj => by
    have : (zI m) 0 0 = 0 := rfl
    omega
  refine ⟨⟨hP', ?_, ?_, ?_, ?_, ?_, ?_, ?_, ?_, ?_, ?_, ?_, ?_, ?_, ?_, ?_, ?_, ?_, ?_, ?_, ?_, hU'⟩, rfl, rfl, rfl, c6, h116, d6, d7, r16, fun q => absurd q z2, fun _ => r18, r17, r15, rfl, (show (1 : Nat) ≤ 2 * 0 + 1 by decide), rfl, c9⟩
  · intro i hi
    rw [j0 i hi]; exact ⟨d1, hm⟩
  · intro i hi
    rw [j0 i hi]; exact ⟨d3, (show (0 : Nat) < 1 by decide)⟩
  · intro i hi
    rw [j0 i hi]; exact ⟨d4, fun q => absurd q z2, fun _ => ⟨rfl, Nat.le_refl _⟩, (show (1 : Nat) ≤ 603 by decide), Nat.le_refl _, z2⟩
  · intro i hi
    rw [j0 i hi]; exact ⟨fun q => absurd q z2, fun _ => d2⟩
  · exact fun i hi => absurd hi (n0 i)
  · intro i hi _
    rw [j0 i hi]
    exact ⟨(show (1 : Nat) ≤ 1 by decide), s1, s3, s2, fun q => absurd q (show ¬ (4 : Nat) ≤ 1 by decide)⟩
  · refine ⟨fun i j hij hj => by have := j0 j hj; omega, fun i hi => ?_, fun i hi => absurd hi (n0 i)⟩
    rw [j0 i hi]; exact (show (1 : Nat) ≤ 1 by decide)
  · exact fun i hi => absurd hi (n0 i)
  · intro j hj _
    rw [j0 j hj]
    exact ⟨fun q => absurd q z2, fun _ q => absurd rfl q, fun _ => rfl, fun q => by
      rcases q with q | q
      · exact absurd q (z2' 2 (by decide))
      · exact absurd q (z2' 3 (by decide)), fun q => absurd q (show ¬ (4 : Nat) ≤ 1 by decide)⟩
  · intro u hu q
    rw [j0 u hu] at q
    rcases q with q | q
    · exact absurd q (show ¬ (7 : Nat) = 1 by decide)
    · exact absurd q (show ¬ (7 : Nat) = 2 by decide)
  · refine ⟨fun i j hi hj _ _ _ => by rw [j0 i hi, j0 j hj], fun i hi => ?_, fun i hi _ => j0 i hi, (show (0 : Nat) < 1 by decide), (show (6 : Nat) ≤ 7 by decide)⟩
    rw [j0 i hi]; exact (show (7 : Nat) ≤ 7 by decide)
  · refine ⟨fun j hj _ _ _ => ?_, 0, by decide, rfl, c2, r7, Or.inl ⟨rfl, c7, r6⟩⟩
    rw [j0 j hj]; exact ⟨fun _ => rfl, fun q => absurd rfl q⟩
  · exact ⟨fun i hi => absurd hi (n0 i), fun i hi => absurd hi (n0 i)⟩
  · refine ⟨fun s t hst ht => ?_, fun s hs => ?_⟩
    · have : (zI m) 0 2 = 1 := rfl
      omega
    · have e : s = 0 := by
        have : (zI m) 0 2 = 1 := rfl
        omega
      subst e
      refine ⟨(show (0 : Nat) < 1 by decide), (show (0 : Nat) ≤ 0 by decide), Or.inl ⟨s4, d8⟩, fun k hk => Or.inl ⟨?_, ?_⟩⟩
      · rw [mx_R rfl, show 8 * 0 + k = k by omega]; exact s5 k hk
      · rw [mx_C rfl, show 8 * (zI m) 13 0 + k = k from by
          have : (zI m) 13 0 = 0 := rfl
          omega]
        exact d9 k hk
  · exact fun j hj => absurd hj (Nat.not_lt_zero j)
  · exact fun j hj => absurd hj (Nat.not_lt_zero j)
  · exact ⟨hB, c3, r11, Nat.zero_le _, (show (0 : Nat) ≤ 1 by decide), (show (1 : Nat) ≤ 0 + 1 by decide), c4, r10, c5, c1, r9, c8.trans r8.symm, by rw [mx_R rfl, r8]; exact bz_0, c10.trans r12.symm, r13, r14, r1, r2, c12, c13, r3, c14, r4, r5, (show (1 : Nat) ≤ 1 by decide)⟩
  · exact ⟨(show 1 + 0 + 0 ≤ 1 + 0 by decide), (show 0 + 0 ≤ 0 by decide), (show 0 + 0 + 0 ≤ 0 by decide), fun i hi => absurd hi (n0 i)⟩
  · refine ⟨0, fun o ho => ⟨rfl, ?_⟩⟩
    show isnum ((oC w (nI B) m G) 31 o)
    rw [lo 31 o (by decide), (hOp o ho).1]; exact (hOp o ho).2
  · refine ⟨fun j hj _ => ?_, fun j hj => absurd hj (n0 j)⟩
    rw [j0 j hj]
    exact ⟨fun q => absurd q z2, fun _ => ⟨rfl, fun _ => ⟨fun _ => rfl, fun q => absurd rfl q⟩⟩⟩
/-! what was before is kept -/
theorem isR_hi {k : Nat} (h : 84 ≤ k) : isR k = false := by
  cases hk : isR k
  · rfl
  · have := isR_t hk
    omega
def wb (N : Nat) (G : Gt) : Prop := ∃ H, gT 20 0 H H ∧ gT 25 1 H H ∧ gS0 N H H ∧ gOp H H ∧ gRg H H ∧ (∀ k j, bbk k j → G (k + 66) j = H k j) ∧ (∀ j, j < 4 → G 99 j = H 33 j) ∧ ∀ k, k < 104 → G 62 k = kap H k
theorem wb_kq {N : Nat} {G G' : Gt} (h : wb N G) (k : kq G G') : wb N G' := by
  obtain ⟨H, a1, a2, a3, a4, a5, a6, a7, a8⟩ := h
  refine ⟨H, a1, a2, a3, a4, a5, fun c j q => ?_, fun j hj => ?_, fun c hc => ?_⟩
  · rw [k _ _ (by unfold kpd; unfold bbk at q; omega) (by unfold bbk at q; omega) (by unfold bbk at q; omega)]; exact a6 c j q
  · rw [k _ _ (by unfold kpd; omega) (by omega) (by omega)]; exact a7 j hj
  · rw [k _ _ (by unfold kpd; omega) (by omega) (by omega)]; exact a8 c hc
theorem open_wb {N B m : Nat} {w : Int32} {G : Gt} (h0 : gT 20 0 G G) (h1 : gT 25 1 G G) (hS0 : gS0 N G G) (hRg : gRg G G) (hOp : gOp G G) : wb N (mxw (oC w (nI B) m G) (oR (nI B) m G)) := by
  refine ⟨G, h0, h1, hS0, hOp, hRg, fun k j q => ?_, fun j hj => ?_, fun k hk => ?_⟩
  · have hi : isR (k + 66) = false := isR_hi (by unfold bbk at q; omega)
    rw [mx_C hi, oC_n (by unfold bbk at q; omega), ab_y (by unfold abk; unfold bbk at q; omega), show k + 66 - 66 = k by omega]
  · rw [mx_C rfl, oC_n (by omega), ab_y (by unfold abk; omega)]
  · rw [mx_R rfl]
    unfold oR
    rw [ak_n (by decide), la_n (by decide) (by omega), or_n (by omega)]
    unfold or0
    rw [gu_oo _ (by decide), gu_oo _ (by decide), gu_oo _ (by decide), gu_oo _ (by decide), gu_oo _ (by decide), gu_oo _ (by decide), gu_oo _ (by decide), gu_oo _ (by decide), gu_oo _ (by decide), gu_oo _ (by decide), gu_oo _ (by decide), gu_oo _ (by decide), gu_oo _ (by decide), gu_oo _ (by decide)]
    unfold oKp
    rw [if_pos ⟨rfl, hk⟩]
