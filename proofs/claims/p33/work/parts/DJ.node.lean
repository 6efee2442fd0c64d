/-! P33: nodes are made -/
theorem rput_mx {C R : Gt} {a N : Nat} {i v : Int32} (ha : isR a = false) : rput (mxw C R) a N i v = mxw (rput C a N i v) R := by
  unfold rput
  split
  · exact mxw_gC ha
  · rfl
theorem em_mx {C R : Gt} {q : Int32 × Int32} : em (mxw C R) q = mxw (em C q) R := by
  unfold em
  rw [show (mxw C R) 14 2 = C 14 2 from mx_C rfl, rput_mx (a := 16) rfl, rput_mx (a := 18) rfl, mxw_gC (k := 14) rfl]
theorem emL_mx : ∀ (L : List (Int32 × Int32)) (C R : Gt), emL L (mxw C R) = mxw (emL L C) R
  | [], _, _ => rfl
  | q :: L, C, R => by
    show emL L (em (mxw C R) q) = mxw (emL L (em C q)) R
    rw [em_mx]
    exact emL_mx L _ R
/-- the class's world behind a node -/
def nX (N U : Nat) (k a b c s : Int32) (G : Gt) : Gt := gu (gu (emL (codeOf k a b c (nI U)) (gu (gu (gu (gu G 3 N k) 5 N a) 7 N b) 9 N s)) 13 N (nI U)) 1 7 (nI (N + 1))
theorem nX_mx {N U : Nat} {k a b c s : Int32} {C R : Gt} : nX N U k a b c s (mxw C R) = mxw (nX N U k a b c s C) R := by
  unfold nX
  rw [mxw_gC (k := 3) rfl, mxw_gC (k := 5) rfl, mxw_gC (k := 7) rfl, mxw_gC (k := 9) rfl, emL_mx, mxw_gC (k := 13) rfl, mxw_gC (k := 1) rfl]
theorem rAdd_mx {N : Nat} {k a b c s : Int32} {C R : Gt} : rAdd N k a b c s (mxw C R) = mxw C (rAdd N k a b c s R) := by
  unfold rAdd
  rw [mxw_gR (k := 46) rfl, mxw_gR (k := 47) rfl, mxw_gR (k := 48) rfl, mxw_gR (k := 49) rfl, mxw_gR (k := 50) rfl, mxw_gR (k := 51) rfl, mxw_gR (k := 46) rfl]
theorem nX_oth {N U : Nat} {k a b c s : Int32} {G : Gt} {p j : Nat} (h : ¬ ((p = 3 ∨ p = 5 ∨ p = 7 ∨ p = 9 ∨ p = 13) ∧ j = N)) (h1 : ¬ (p = 1 ∧ j = 7)) (h14 : ¬ p = 14) (h16 : ¬ p = 16) (h18 : ¬ p = 18) : nX N U k a b c s G p j = G p j := by
  unfold nX
  rw [gu_n h1, gu_n (by omega), emL_oth _ _ _ _ h14 h16 h18, gu_n (by omega), gu_n (by omega), gu_n (by omega), gu_n (by omega)]
theorem nX_9 {N U : Nat} {k a b c s : Int32} {G : Gt} : nX N U k a b c s G 9 N = s := by
  unfold nX
  rw [gu_n (by omega), gu_n (by omega), emL_oth _ _ _ _ (by decide) (by decide) (by decide), gu_kk]
theorem Jn_add {N U k s : Nat} {a b c : Int32} {R G : Gt} (h : Jn N R G) (hU : G 14 2 = nI U) (hU9 : U ≤ 1 + 9 * N) (hN : N < 120) (hk : k < 40) (hs1 : 1 ≤ s) (hs : s ≤ 150) (o0 : okL (N + 1) (shp (nI k) 0 b) a) (o1 : okL (N + 1) (shp (nI k) 1 b) b) (o2 : okL (N + 1) (shp (nI k) 2 b) c) : Jn (N + 1) (rAdd N (nI k) a b c (nI s) R) (nX N U (nI k) a b c (nI s) G) := by
  unfold Jn at h
  have hU' : (mxw G R) 14 2 = nI U := (mx_C rfl).trans hU
  have hP := gP_add (a := a) (b := b) (c := c) h.1 hU' hN hk hs1 hs o0 o1 o2
  have hlen := codeOf_len (nI k) a b c (nI U)
  have hoth := wAdd_oth (N := N) (k := nI k) (a := a) (b := b) (c := c) (s := nI s) (G := mxw G R) hU' (by omega)
  obtain ⟨q1, q2, q3⟩ := nd_all h.2.2.2.2.2.2.2.2.1 hoth
  have hj := jA_cg h (Nat.le_succ N) hP q1 q2 (q3.trans h.2.2.2.2.2.2.2.2.2)
  have e : wAdd N U (nI k) a b c (nI s) (mxw G R) = mxw (gu (nX N U (nI k) a b c (nI s) G) 83 0 (nI N)) (rAdd N (nI k) a b c (nI s) R) := by
    show rAdd N (nI k) a b c (nI s) (gu (nX N U (nI k) a b c (nI s) (mxw G R)) 83 0 (nI N)) = _
    rw [nX_mx, mxw_gC (k := 83) rfl, rAdd_mx]
  rw [e] at hj
  exact J83 hj
theorem tvC_le {N N' : Nat} {G : Gt} (h : tvC N G) (hN : N ≤ N') : tvC N' G := by
  rcases h with h | ⟨h, c, c1, c2, c3, c4⟩
  · exact Or.inl h
  · exact Or.inr ⟨h, c, c1, c2, c3, fun p hp => by
      obtain ⟨i, hi, e⟩ := c4 p hp
      exact ⟨i, by omega, e⟩⟩
/-! which kinds take what -/
def ta (k : Nat) : Nat := if k = 0 then 0 else if k = 1 ∨ k = 2 ∨ k = 3 ∨ k = 16 ∨ k = 20 ∨ k = 18 ∨ k = 38 then 1 else if k = 13 ∨ k = 14 ∨ k = 15 ∨ k = 26 ∨ k = 27 ∨ k = 28 then 2 else if k = 39 then 3 else if k = 30 ∨ k = 32 ∨ k = 33 ∨ k = 34 then 4 else 5
def sb (k : Nat) : Nat := if k = 2 ∨ k = 3 ∨ (4 ≤ k ∧ k ≤ 11) ∨ k = 13 ∨ k = 14 ∨ k = 16 ∨ k = 17 ∨ k = 20 ∨ k = 21 ∨ k = 26 ∨ k = 28 ∨ k = 38 then 1 else if k = 18 then 2 else 0
def sc (k : Nat) : Nat := if k = 10 ∨ k = 20 ∨ k = 26 then 1 else if k = 18 then 2 else 0
def fb (k : Nat) : Nat := if (3 < k ∧ k < 13) ∨ k = 17 ∨ k = 19 ∨ (20 < k ∧ k < 26) ∨ k = 29 ∨ k = 31 ∨ (34 < k ∧ k < 38) then 1 else 0
theorem tab0 : ∀ k, k < 40 → ((ta k = 0 → tb k 0 = 5) ∧ (ta k = 1 → tb k 0 = 2 ∨ tb k 0 = 3 ∨ tb k 0 = 4) ∧ (ta k = 2 → tb k 0 = 2 ∨ tb k 0 = 3 ∨ tb k 0 = 4) ∧ (ta k = 3 → tb k 0 = 6) ∧ (ta k = 4 → tb k 0 = 0) ∧ (ta k = 5 → tb k 0 = 1) ∧ ta k ≤ 5) := by decide +kernel
theorem tab1 : ∀ k, k < 40 → ((fb k = 1 → ta k = 5) ∧ (fb k = 0 → ¬ tb k 0 = 1) ∧ fb k ≤ 1) := by decide +kernel
theorem tab2 : ∀ k, k < 40 → ((sb k = 1 → (k = 38 → tb k 1 = 7) ∧ (¬ k = 38 → tb k 1 = 1)) ∧ (sb k = 0 → tb k 1 = 0) ∧ (sb k = 2 → tb k 1 = 8 ∧ k = 18) ∧ sb k ≤ 2 ∧ (k = 18 → sb k = 2) ∧ (k = 0 → sb k = 0)) := by decide +kernel
theorem tab3 : ∀ k, k < 40 → ((sc k = 1 → tb k 2 = 1 ∧ (k = 10 ∨ k = 20 ∨ k = 26)) ∧ (sc k = 0 → tb k 2 = 0) ∧ (sc k = 2 → tb k 2 = 8 ∧ k = 18) ∧ sc k ≤ 2 ∧ (k = 18 → sc k = 2)) := by decide +kernel
def AK (N k : Nat) (a : Int32) : Prop := (ta k = 0 → isnum a) ∧ (ta k = 1 → ∃ i, i < 3 ∧ a = nI i) ∧ (ta k = 2 → ∃ i, i < 2 ∧ a = nI i) ∧ (ta k = 3 → a = -1 ∨ ∃ i, i < 3 ∧ a = nI i) ∧ (ta k = 4 → a = -1) ∧ (ta k = 5 → ∃ i, i < N ∧ a = nI i)
def BK (N k : Nat) (b : Int32) : Prop := (sb k = 1 → ∃ i, i < N ∧ b = nI i) ∧ (sb k = 0 → b = -1) ∧ (sb k = 2 → b = -1 ∨ ∃ i, i < N ∧ b = nI i)
def CK (N k : Nat) (b c : Int32) : Prop := (sc k = 1 → ∃ i, i < N ∧ c = nI i) ∧ (sc k = 0 → c = -1) ∧ (sc k = 2 → c = -1 ∨ (¬ b = -1 ∧ ∃ i, i < N ∧ c = nI i))
theorem has_it {N k : Nat} {a b c : Int32} (hk : k < 40) (hA : AK N k a) (hB : BK N k b) (hC : CK N k b c) : nHas N k a b c ∧ nCan k a b c := by
  obtain ⟨t0, t1, t2, t3, t4, t5, t6⟩ := tab0 k hk
  obtain ⟨s1, s0, s2, s3, s18, _⟩ := tab2 k hk
  obtain ⟨r1, r0, r2, r3, r18⟩ := tab3 k hk
  obtain ⟨a0, a1, a2, a3, a4, a5⟩ := hA
  obtain ⟨b1, b0, b2⟩ := hB
  obtain ⟨c1, c0, c2⟩ := hC
  have ct : ta k = 0 ∨ ta k = 1 ∨ ta k = 2 ∨ ta k = 3 ∨ ta k = 4 ∨ ta k = 5 := by omega
  have cs : sb k = 0 ∨ sb k = 1 ∨ sb k = 2 := by omega
  have cr : sc k = 0 ∨ sc k = 1 ∨ sc k = 2 := by omega
  refine ⟨⟨fun q => ?_, fun q => ?_, fun q => ?_⟩, ⟨?_, ?_, ?_, ?_⟩⟩
  · have q' : tb k 0 = 1 ∨ tb k 0 = 7 ∨ tb k 0 = 8 := by
      rcases q with q | q | q
      · exact Or.inl q
      · exact Or.inr (Or.inl q)
      · exact Or.inr (Or.inr q.1)
    rcases ct with z | z | z | z | z | z
    · have := t0 z; omega
    · have := t1 z; omega
    · have := t2 z; omega
    · have := t3 z; omega
    · have := t4 z; omega
    · exact a5 z
  · rcases cs with z | z | z
    · have := s0 z
      rcases q with q | q | q
      · omega
      · omega
      · have := q.1; omega
    · exact b1 z
    · have := (s2 z).1
      rcases q with q | q | q
      · omega
      · omega
      · exact (b2 z).resolve_left q.2.1
  · rcases cr with z | z | z
    · have := r0 z
      rcases q with q | q | q
      · omega
      · omega
      · have := q.1; omega
    · exact c1 z
    · have := (r2 z).1
      rcases q with q | q | q
      · omega
      · omega
      · exact ((c2 z).resolve_left q.2.1).2
  · have w3 : (∃ i, i < 3 ∧ a = nI i) → ¬ tb k 0 = 0 → ¬ tb k 0 = 5 → ¬ tb k 0 = 6 → cbP (tb k 0) a := fun ⟨i, hi, e⟩ x0 x5 x6 => ⟨fun y => absurd y x0, fun _ => ⟨i, by omega, e⟩, fun _ => ⟨i, by omega, e⟩, fun _ => ⟨i, by omega, e⟩, fun y => absurd y x5, fun y => absurd y x6⟩
    rcases ct with z | z | z | z | z | z
    · have := t0 z
      exact ⟨fun y => by omega, fun y => by omega, fun y => by omega, fun y => by omega, fun _ => a0 z, fun y => by omega⟩
    · have := t1 z
      exact w3 (a1 z) (by omega) (by omega) (by omega)
    · have := t2 z
      obtain ⟨i, hi, e⟩ := a2 z
      exact w3 ⟨i, by omega, e⟩ (by omega) (by omega) (by omega)
    · have := t3 z
      refine ⟨fun y => by omega, fun y => by omega, fun y => by omega, fun y => by omega, fun y => by omega, fun _ => ?_⟩
      rcases a3 z with e | ⟨i, hi, e⟩
      · exact Or.inl e
      · exact Or.inr ⟨i, by omega, e⟩
    · have := t4 z
      exact ⟨fun _ => a4 z, fun y => by omega, fun y => by omega, fun y => by omega, fun y => by omega, fun y => by omega⟩
    · have := t5 z
      exact ⟨fun y => by omega, fun y => by omega, fun y => by omega, fun y => by omega, fun y => by omega, fun y => by omega⟩
  · have d : tb k 1 = 0 ∨ tb k 1 = 1 ∨ tb k 1 = 7 ∨ tb k 1 = 8 := by
      rcases cs with z | z | z
      · exact Or.inl (s0 z)
      · by_cases w : k = 38
        · exact Or.inr (Or.inr (Or.inl ((s1 z).1 w)))
        · exact Or.inr (Or.inl ((s1 z).2 w))
      · exact Or.inr (Or.inr (Or.inr (s2 z).1))
    refine ⟨fun y => ?_, fun y => by omega, fun y => by omega, fun y => by omega, fun y => by omega, fun y => by omega⟩
    rcases cs with z | z | z
    · exact b0 z
    · by_cases w : k = 38
      · have := (s1 z).1 w; omega
      · have := (s1 z).2 w; omega
    · have := (s2 z).1; omega
  · have d : tb k 2 = 0 ∨ tb k 2 = 1 ∨ tb k 2 = 8 := by
      rcases cr with z | z | z
      · exact Or.inl (r0 z)
      · exact Or.inr (Or.inl (r1 z).1)
      · exact Or.inr (Or.inr (r2 z).1)
    refine ⟨fun y => ?_, fun y => by omega, fun y => by omega, fun y => by omega, fun y => by omega, fun y => by omega⟩
    rcases cr with z | z | z
    · exact c0 z
    · have := (r1 z).1; omega
    · have := (r2 z).1; omega
  · intro k18 hb1
    rcases c2 (r18 k18) with e | e
    · exact e
    · exact absurd hb1 e.1
/-! sizes, as the law counts -/
def vA (k : Nat) (a : Int32) (G : Gt) : Int32 := if fb k = 1 then G 46 a.toNatClampNeg else 0
def vB (k : Nat) (b : Int32) (G : Gt) : Int32 := if ¬ b = -1 ∧ ¬ k = 38 then G 46 b.toNatClampNeg else 0
def vC (c : Int32) (G : Gt) : Int32 := if ¬ c = -1 then G 46 c.toNatClampNeg else 0
theorem sz_law {N B k : Nat} {a b c : Int32} {R G : Gt} (hI : INV N B R G) (hk : k < 40) (hA : AK N k a) (hB : BK N k b) (hC : CK N k b c) : szA G (nI k) a b c = ((1 + vA k a G) + vB k b G) + vC c G ∧ (¬ 150 < szA G (nI k) a b c → ∃ s, 1 ≤ s ∧ s ≤ 150 ∧ szA G (nI k) a b c = nI s) := by
  obtain ⟨nh, nc⟩ := has_it hk hA hB hC
  obtain ⟨hJ, i2, i3, _⟩ := hI
  obtain ⟨hN, p2, h9, h11⟩ := Jn_n hJ
  obtain ⟨_, _, _, w9, _⟩ := gP_n hJ.1
  have e9 : ∀ m, m < N → (mxw G R) 51 m = G 9 m := fun m hm => (w9 m hm).symm.trans (mx_C rfl)
  have es : szA G (nI k) a b c = nSz k a b c (mxw G R) := size_iff (G := mxw G R) hN ((mx_C rfl).trans p2) w9 hk nh nc
  obtain ⟨t0, t1, t2, t3, t4, t5, t6⟩ := tab0 k hk
  obtain ⟨f1, f0, f2⟩ := tab1 k hk
  obtain ⟨s1, s0, s2, s3, s18, _⟩ := tab2 k hk
  obtain ⟨r1, r0, r2, r3, r18⟩ := tab3 k hk
  have eA : szR (tb k 0) a (mxw G R) = vA k a G := by
    unfold szR vA
    by_cases z : fb k = 1
    · obtain ⟨i, hi, rfl⟩ := hA.2.2.2.2.2 (f1 z)
      rw [if_pos (Or.inl (t5 (f1 z))), if_pos z, nI_clamp (by omega), e9 i hi, i3 i hi]
    · have n1 := f0 (by omega)
      have n8 : ¬ tb k 0 = 8 := by
        have ct : ta k = 0 ∨ ta k = 1 ∨ ta k = 2 ∨ ta k = 3 ∨ ta k = 4 ∨ ta k = 5 := by omega
        rcases ct with z | z | z | z | z | z
        · have := t0 z; omega
        · have := t1 z; omega
        · have := t2 z; omega
        · have := t3 z; omega
        · have := t4 z; omega
        · have := t5 z; omega
      rw [if_neg (fun q => q.elim n1 (fun q => n8 q.1)), if_neg z]
  have eB : szR (tb k 1) b (mxw G R) = vB k b G := by
    unfold szR vB
    have cs : sb k = 0 ∨ sb k = 1 ∨ sb k = 2 := by omega
    rcases cs with z | z | z
    · have := s0 z
      rw [if_neg (fun q => by
        rcases q with q | q
        · omega
        · have := q.1; omega), if_neg (fun q => q.1 (hB.2.1 z))]
    · obtain ⟨i, hi, rfl⟩ := hB.1 z
      by_cases w : k = 38
      · have := (s1 z).1 w
        rw [if_neg (fun q => by
          rcases q with q | q
          · omega
          · have := q.1; omega), if_neg (fun q => q.2 w)]
      · rw [if_pos (Or.inl ((s1 z).2 w)), if_pos ⟨nI_neg (by omega), w⟩, nI_clamp (by omega), e9 i hi, i3 i hi]
    · obtain ⟨s8, k18⟩ := s2 z
      by_cases w : b = -1
      · rw [if_neg (fun q => by
          rcases q with q | q
          · omega
          · exact q.2 w), if_neg (fun q => q.1 w)]
      · obtain ⟨i, hi, rfl⟩ := (hB.2.2 z).resolve_left w
        rw [if_pos (Or.inr ⟨s8, w⟩), if_pos ⟨w, by omega⟩, nI_clamp (by omega), e9 i hi, i3 i hi]
  have eC : szR (tb k 2) c (mxw G R) = vC c G := by
    unfold szR vC
    have cs : sc k = 0 ∨ sc k = 1 ∨ sc k = 2 := by omega
    rcases cs with z | z | z
    · have := r0 z
      rw [if_neg (fun q => by
        rcases q with q | q
        · omega
        · have := q.1; omega), if_neg (fun q => q (hC.2.1 z))]
    · obtain ⟨i, hi, rfl⟩ := hC.1 z
      rw [if_pos (Or.inl (r1 z).1), if_pos (nI_neg (by omega)), nI_clamp (by omega), e9 i hi, i3 i hi]
    · obtain ⟨s8, k18⟩ := r2 z
      by_cases w : c = -1
      · rw [if_neg (fun q => by
          rcases q with q | q
          · omega
          · exact q.2 w), if_neg (fun q => q w)]
      · obtain ⟨i, hi, rfl⟩ := ((hC.2.2 z).resolve_left w).2
        rw [if_pos (Or.inr ⟨s8, w⟩), if_pos w, nI_clamp (by omega), e9 i hi, i3 i hi]
  refine ⟨?_, fun q => ?_⟩
  · rw [es]
    unfold nSz
    rw [eA, eB, eC]
  · rw [es] at q ⊢
    exact nSz_n hN (fun m hm => by
      obtain ⟨s, _, s2, s3⟩ := h9 m hm
      exact ⟨s, s2, (e9 m hm).trans s3⟩) hk nh nc q
/-! what is drawn -/
theorem part_n {N : Nat} {y : Int32} {K : Int32 → Gt → Prop} {G : Gt} (h0 : G 47 0 = nI N) (hN1 : 1 ≤ N) (hN : N ≤ 120) (hK : ∀ i, i < N → K (nI i) G) : w_L_part K y G := by
  unfold w_L_part w_L_part_j40 w_L_part_j44
  refine ⟨by unfold vp_in; decide, ?_⟩
  have e : G 47 (0 : Int32).toNatClampNeg = nI N := h0
  rw [e]
  obtain ⟨p, rfl⟩ : ∃ p, N = p + 1 := ⟨N - 1, by omega⟩
  rw [nI_pred]
  obtain ⟨i4, _, l4⟩ := low_n (x := y) (n := 4) (by decide) (by decide)
  obtain ⟨iN, hN', lN⟩ := low_n (x := y >>> (2 &&& 31)) (n := p + 1) (by omega) (by omega)
  obtain ⟨i9, h9, l9⟩ := low_n (x := y >>> (2 &&& 31)) (n := 9) (by decide) (by decide)
  refine l4 _ _ ⟨fun _ => lN _ _ (hK iN hN'), fun _ => ?_⟩
  by_cases q : 9 ≤ p + 1
  · refine pif_p ((nI_leR (a := 9) rfl (by omega) (by decide)).mpr q) (l9 _ _ ?_)
    rw [nI_sub (by omega)]
    exact hK _ (by omega)
  · refine pif_n (nI_ge (b := 9) (by omega) (by decide)) (lN _ _ ?_)
    rw [nI_sub (by omega)]
    exact hK _ (by omega)
theorem second_n {k : Nat} (hk : k < 40) {K : Int32 → Gt → Prop} {G : Gt} (h1 : sb k = 1 → K 1 G) (h0 : ¬ sb k = 1 → K 0 G) : w_L_hasSecond K (nI k) G := by
  have y1 : sb k = 1 → w_L_hasSecond_j75 K G := fun q => ⟨bz_1, h1 q⟩
  have y0 : ¬ sb k = 1 → w_L_hasSecond_j80 K 0 G := fun q => ⟨bz_0, h0 q⟩
  unfold w_L_hasSecond w_L_hasSecond_j21
  have : k = 0 ∨ k = 1 ∨ k = 2 ∨ k = 3 ∨ k = 4 ∨ k = 5 ∨ k = 6 ∨ k = 7 ∨ k = 8 ∨ k = 9 ∨ k = 10 ∨ k = 11 ∨ k = 12 ∨ k = 13 ∨ k = 14 ∨ k = 15 ∨ k = 16 ∨ k = 17 ∨ k = 18 ∨ k = 19 ∨ k = 20 ∨ k = 21 ∨ k = 22 ∨ k = 23 ∨ k = 24 ∨ k = 25 ∨ k = 26 ∨ k = 27 ∨ k = 28 ∨ k = 29 ∨ k = 30 ∨ k = 31 ∨ k = 32 ∨ k = 33 ∨ k = 34 ∨ k = 35 ∨ k = 36 ∨ k = 37 ∨ k = 38 ∨ k = 39 := by omega
  rcases this with rfl | rfl | rfl | rfl | rfl | rfl | rfl | rfl | rfl | rfl | rfl | rfl | rfl | rfl | rfl | rfl | rfl | rfl | rfl | rfl | rfl | rfl | rfl | rfl | rfl | rfl | rfl | rfl | rfl | rfl | rfl | rfl | rfl | rfl | rfl | rfl | rfl | rfl | rfl | rfl <;> (repeat (first | exact y1 (by decide) | exact y0 (by decide) | refine pif_p (by decide) ?_ | refine pif_n (by decide) ?_))
theorem first_n {N k : Nat} (hk : k < 40) {y : Int32} {K : Int32 → Gt → Prop} {G : Gt} (g0 : G 47 0 = nI N) (hN1 : k = 0 ∨ 1 ≤ N) (hN : N ≤ 120) (hK : ∀ a, AK N k a → K a G) : w_L_firstOf K (nI k) y G := by
  obtain ⟨i3, h3, l3⟩ := low_n (x := y) (n := 3) (by decide) (by decide)
  obtain ⟨i2, h2, l2⟩ := low_n (x := y) (n := 2) (by decide) (by decide)
  obtain ⟨i4, h4, l4⟩ := low_n (x := y) (n := 4) (by decide) (by decide)
  obtain ⟨i5, h5, l5⟩ := low_n (x := y) (n := 5) (by decide) (by decide)
  obtain ⟨iq, hq, lq⟩ := low_n (x := y >>> (3 &&& 31)) (n := 4000) (by decide) (by decide)
  obtain ⟨i9, h9, l9⟩ := low_n (x := y >>> (3 &&& 31)) (n := 9) (by decide) (by decide)
  have c1 : ta k = 1 → w_L_firstOf_j66 K y G := fun q => l3 _ _ (hK _ ⟨fun z => by omega, fun _ => ⟨i3, h3, rfl⟩, fun z => by omega, fun z => by omega, fun z => by omega, fun z => by omega⟩)
  have c1' : ta k = 1 → w_L_firstOf_j126 K y G := fun q => l3 _ _ (hK _ ⟨fun z => by omega, fun _ => ⟨i3, h3, rfl⟩, fun z => by omega, fun z => by omega, fun z => by omega, fun z => by omega⟩)
  have c2 : ta k = 2 → w_L_firstOf_j108 K y G := fun q => l2 _ _ (hK _ ⟨fun z => by omega, fun z => by omega, fun _ => ⟨i2, h2, rfl⟩, fun z => by omega, fun z => by omega, fun z => by omega⟩)
  have c3 : ta k = 3 → w_L_low (fun v10 G9 => K (v10 - 1) G9) y 4 G := fun q => l4 _ _ (hK _ ⟨fun z => by omega, fun z => by omega, fun z => by omega, fun _ => by
    rcases Nat.eq_zero_or_pos i4 with e | e
    · subst e
      exact Or.inl (by decide)
    · exact Or.inr ⟨i4 - 1, by omega, by rw [show (1 : Int32) = nI 1 from rfl, nI_sub (by omega)]⟩, fun z => by omega, fun z => by omega⟩)
  have c4 : ta k = 4 → w_L_firstOf_j170 K G := fun q => hK _ ⟨fun z => by omega, fun z => by omega, fun z => by omega, fun z => by omega, fun _ => rfl, fun z => by omega⟩
  have c5 : ta k = 5 → 1 ≤ N → w_L_part (fun v8 G7 => w_L_firstOf_j179 K v8 G7) y G := fun q hN1 => part_n g0 hN1 hN (fun i hi => hK _ ⟨fun z => by omega, fun z => by omega, fun z => by omega, fun z => by omega, fun z => by omega, fun _ => ⟨i, hi, rfl⟩⟩)
  have c0 : ta k = 0 → w_L_low (fun v12 G11 => pif (v12 = 0) (w_L_low (fun v16 G15 => w_L_firstOf_j38 K (5000 + v16) G15) (y >>> (3 &&& 31)) 4000 G11) (w_L_low (fun v14 G13 => w_L_firstOf_j38 K (v14 - 2) G13) (y >>> (3 &&& 31)) 9 G11)) y 5 G := fun q => by
    refine l5 _ _ ⟨fun _ => lq _ _ (hK _ ⟨fun _ => ?_, fun z => by omega, fun z => by omega, fun z => by omega, fun z => by omega, fun z => by omega⟩), fun _ => l9 _ _ (hK _ ⟨fun _ => ?_, fun z => by omega, fun z => by omega, fun z => by omega, fun z => by omega, fun z => by omega⟩)⟩
    · have e : (5000 : Int32) + nI iq = nI (5000 + iq) := nI_add' rfl
      rw [e]
      have a : (nI (5000 + iq)).toInt = ((5000 + iq : Nat) : Int) := nI_toInt (by omega)
      have b : (9999 : Int32).toInt = 9999 := by decide
      have c : (-9999 : Int32).toInt = -9999 := by decide
      refine ⟨?_, ?_⟩
      · rw [Int32.le_iff_toInt_le]; omega
      · rw [Int32.le_iff_toInt_le]; omega
    · have d : i9 = 0 ∨ i9 = 1 ∨ i9 = 2 ∨ i9 = 3 ∨ i9 = 4 ∨ i9 = 5 ∨ i9 = 6 ∨ i9 = 7 ∨ i9 = 8 := by omega
      rcases d with rfl | rfl | rfl | rfl | rfl | rfl | rfl | rfl | rfl <;> exact ⟨by decide, by decide⟩
  have kq : ∀ j, j < 40 → (nI k = nI j ↔ k = j) := fun j hj => nI_eq (by omega) (by omega)
  unfold w_L_firstOf
  by_cases k0 : k = 0
  · exact pif_p ((kq 0 (by decide)).mpr k0) (c0 (by rw [k0]; decide))
  refine pif_n (fun q => k0 ((kq 0 (by decide)).mp q)) ?_
  by_cases k1 : k = 1
  · exact pif_p ((kq 1 (by decide)).mpr k1) (c1 (by rw [k1]; decide))
  refine pif_n (fun q => k1 ((kq 1 (by decide)).mp q)) ?_
  by_cases k2 : k = 2
  · exact pif_p ((kq 2 (by decide)).mpr k2) (c1 (by rw [k2]; decide))
  refine pif_n (fun q => k2 ((kq 2 (by decide)).mp q)) ?_
  by_cases k3 : k = 3
  · exact pif_p ((kq 3 (by decide)).mpr k3) (c1 (by rw [k3]; decide))
  refine pif_n (fun q => k3 ((kq 3 (by decide)).mp q)) ?_
  by_cases k16 : k = 16
  · exact pif_p ((kq 16 (by decide)).mpr k16) (c1 (by rw [k16]; decide))
  refine pif_n (fun q => k16 ((kq 16 (by decide)).mp q)) ?_
  by_cases k20 : k = 20
  · exact pif_p ((kq 20 (by decide)).mpr k20) (c1 (by rw [k20]; decide))
  refine pif_n (fun q => k20 ((kq 20 (by decide)).mp q)) ?_
  by_cases k13 : k = 13
  · exact pif_p ((kq 13 (by decide)).mpr k13) (c2 (by rw [k13]; decide))
  refine pif_n (fun q => k13 ((kq 13 (by decide)).mp q)) ?_
  by_cases k14 : k = 14
  · exact pif_p ((kq 14 (by decide)).mpr k14) (c2 (by rw [k14]; decide))
  refine pif_n (fun q => k14 ((kq 14 (by decide)).mp q)) ?_
  by_cases k15 : k = 15
  · exact pif_p ((kq 15 (by decide)).mpr k15) (c2 (by rw [k15]; decide))
  refine pif_n (fun q => k15 ((kq 15 (by decide)).mp q)) ?_
  by_cases k26 : k = 26
  · exact pif_p ((kq 26 (by decide)).mpr k26) (c2 (by rw [k26]; decide))
  refine pif_n (fun q => k26 ((kq 26 (by decide)).mp q)) ?_
  by_cases k27 : k = 27
  · exact pif_p ((kq 27 (by decide)).mpr k27) (c2 (by rw [k27]; decide))
  refine pif_n (fun q => k27 ((kq 27 (by decide)).mp q)) ?_
  by_cases k28 : k = 28
  · exact pif_p ((kq 28 (by decide)).mpr k28) (c2 (by rw [k28]; decide))
  refine pif_n (fun q => k28 ((kq 28 (by decide)).mp q)) ?_
  by_cases k18 : k = 18
  · exact pif_p ((kq 18 (by decide)).mpr k18) (c1' (by rw [k18]; decide))
  refine pif_n (fun q => k18 ((kq 18 (by decide)).mp q)) ?_
  by_cases k38 : k = 38
  · exact pif_p ((kq 38 (by decide)).mpr k38) (c1' (by rw [k38]; decide))
  refine pif_n (fun q => k38 ((kq 38 (by decide)).mp q)) ?_
  by_cases k39 : k = 39
  · exact pif_p ((kq 39 (by decide)).mpr k39) (c3 (by rw [k39]; decide))
  refine pif_n (fun q => k39 ((kq 39 (by decide)).mp q)) ?_
  by_cases k30 : k = 30
  · exact pif_p ((kq 30 (by decide)).mpr k30) (c4 (by rw [k30]; decide))
  refine pif_n (fun q => k30 ((kq 30 (by decide)).mp q)) ?_
  by_cases k32 : k = 32
  · exact pif_p ((kq 32 (by decide)).mpr k32) (c4 (by rw [k32]; decide))
  refine pif_n (fun q => k32 ((kq 32 (by decide)).mp q)) ?_
  by_cases k33 : k = 33
  · exact pif_p ((kq 33 (by decide)).mpr k33) (c4 (by rw [k33]; decide))
  refine pif_n (fun q => k33 ((kq 33 (by decide)).mp q)) ?_
  by_cases k34 : k = 34
  · exact pif_p ((kq 34 (by decide)).mpr k34) (c4 (by rw [k34]; decide))
  refine pif_n (fun q => k34 ((kq 34 (by decide)).mp q)) ?_
  exact c5 (by unfold ta; rw [if_neg k0, if_neg (by omega), if_neg (by omega), if_neg k39, if_neg (by omega)]) (by omega)
