/-! WHAT HOLDS BETWEEN CALLS, behind a run -/
def jA (N : Nat) (G : Gt) : Prop := gP N G G ∧ gT 20 0 G G ∧ gT 25 1 G G ∧ gS0 N G G ∧ gS1 N G G ∧ gRg G G ∧ gOp G G ∧ gL G G ∧ gB G G ∧ G 46 52 = 0
/-- what a run does not touch -/
def fR (N : Nat) (G : Gt) : Prop := gP N G G ∧ gS1 N G G ∧ gB G G ∧ gL G G ∧ wb N G
/-- the cells of programs, slots, budget -/
def pcl (k j : Nat) : Prop := k = 1 ∨ k = 3 ∨ k = 5 ∨ k = 7 ∨ k = 9 ∨ k = 11 ∨ k = 13 ∨ k = 14 ∨ k = 16 ∨ k = 18 ∨ (47 ≤ k ∧ k ≤ 52) ∨ (k = 46 ∧ (j = 0 ∨ j = 13)) ∨ k = 37 ∨ k = 39 ∨ k = 53 ∨ k = 55 ∨ (k = 0 ∧ j = 4)
theorem pcl_all {N : Nat} {G W : Gt} (hP : gP N G G) (hS1 : gS1 N G G) (hB : gB G G) (e : ∀ k j, pcl k j → W k j = G k j) : gP N W W ∧ gS1 N W W ∧ gB W W := by
  refine ⟨gP_eq hP (fun k j q => e k j (by unfold pcl; omega)), fun s hs => ?_, ?_, ?_⟩
  · rw [e 37 s (by unfold pcl; omega), e 53 s (by unfold pcl; omega), e 39 s (by unfold pcl; omega), e 55 s (by unfold pcl; omega)]; exact hS1 s hs
  · rw [e 0 4 (by unfold pcl; omega), e 46 13 (by unfold pcl; omega)]; exact hB.1
  · rw [e 46 13 (by unfold pcl; omega)]; exact hB.2
theorem gL_eq {G W : Gt} (h : gL G G) (e : ∀ k j, (k = 40 ∨ k = 42 ∨ k = 82 ∨ (k = 46 ∧ 66 ≤ j ∧ j ≤ 69)) → W k j = G k j) : gL W W := by
  obtain ⟨a, b, c, d, e1, e2, e3, e4⟩ := h
  refine ⟨?_, ?_, ?_, d, e1, ?_, ?_, fun p hp => ?_⟩
  · rw [e 40 0 (by omega), e 46 66 (by omega)]; exact a
  · rw [e 40 1 (by omega), e 46 67 (by omega)]; exact b
  · rw [e 40 2 (by omega), e 46 68 (by omega)]; exact c
  · rw [e 40 3 (by omega)]; exact e2
  · rw [e 46 69 (by omega)]; exact e3
  · rw [e 42 p (by omega), e 82 p (by omega)]; exact e4 p hp
theorem fR_kq {N : Nat} {G G' : Gt} (h : fR N G) (k : kq G G') : fR N G' := by
  obtain ⟨h1, h2, h3, h4, h5⟩ := h
  obtain ⟨p1, p2, p3⟩ := pcl_all (W := G') h1 h2 h3 (fun c j q => k c j (by unfold kpd; unfold pcl at q; omega) (by unfold pcl at q; omega) (by unfold pcl at q; omega))
  exact ⟨p1, p2, p3, gL_eq h4 (fun c j q => k c j (by unfold kpd; omega) (by omega) (by omega)), wb_kq h5 k⟩
def tK (b k j : Nat) : Prop := (k = 20 + 5 * b ∧ (j = 2 ∨ j = 3)) ∨ (k = 22 + 5 * b ∧ j < 40) ∨ (k = 24 + 5 * b ∧ j < 4) ∨ (k = 58 ∧ 40 * b ≤ j ∧ j < 40 * b + 40) ∨ (k = 59 ∧ j = b) ∨ (k = 60 ∧ 4 * b ≤ j ∧ j < 4 * b + 4) ∨ (k = 61 ∧ j = b)
theorem gT_eqK {b : Nat} {G W : Gt} (h : gT (20 + 5 * b) b G G) (e : ∀ k j, tK b k j → W k j = G k j) : gT (20 + 5 * b) b W W := by
  obtain ⟨⟨l, c, h1, h2, h3, h4, h5, h6, h7, h8⟩, h9⟩ := h
  refine ⟨⟨l, c, h1, h2, ?_, ?_, ?_, ?_, ?_, fun k hk => ?_⟩, fun p hp => ?_⟩
  · rw [e _ _ (by unfold tK; omega)]; exact h3
  · rw [e _ _ (by unfold tK; omega)]; exact h4
  · rw [e _ _ (by unfold tK; omega)]; exact h5
  · rw [e _ _ (by unfold tK; omega)]; exact h6
  · rw [e _ _ (by unfold tK; omega)]; exact h7
  · rw [e (20 + 5 * b + 4) k (by unfold tK; omega), e 60 _ (by unfold tK; omega)]; exact h8 k hk
  · rw [e (20 + 5 * b + 2) p (by unfold tK; omega), e 58 _ (by unfold tK; omega)]; exact h9 p hp
/-- the world's cells that are undone -/
def wcl (k j : Nat) : Prop := tK 0 k j ∨ tK 1 k j ∨ ((k = 31 ∨ k = 56) ∧ j < 4) ∨ ((k = 35 ∨ k = 54) ∧ j < 6) ∨ (k = 19 ∧ (j = 7 ∨ j = 8)) ∨ (k = 46 ∧ (j = 12 ∨ j = 14))
theorem wcl_all {N : Nat} {H W : Gt} (h0 : gT 20 0 H H) (h1 : gT 25 1 H H) (hS : gS0 N H H) (hO : gOp H H) (e : ∀ k j, wcl k j → W k j = H k j) : gT 20 0 W W ∧ gT 25 1 W W ∧ gS0 N W W ∧ gOp W W := by
  refine ⟨gT_eqK (b := 0) h0 (fun k j q => e k j (Or.inl q)), gT_eqK (b := 1) h1 (fun k j q => e k j (Or.inr (Or.inl q))), ⟨fun s hs => ?_, ?_, ?_, ?_⟩, fun k hk => ?_⟩
  · rw [e 35 s (by unfold wcl; omega), e 54 s (by unfold wcl; omega)]; exact hS.1 s hs
  · rw [e 19 7 (by unfold wcl; omega), e 46 14 (by unfold wcl; omega)]; exact hS.2.1
  · rw [e 19 8 (by unfold wcl; omega), e 46 12 (by unfold wcl; omega)]; exact hS.2.2.1
  · rw [e 46 12 (by unfold wcl; omega)]; exact hS.2.2.2
  · rw [e 31 k (by unfold wcl; omega), e 56 k (by unfold wcl; omega)]; exact hO k hk
theorem rsd_H {G H : Gt} (h : rsd G) (hk : ∀ k, k < 104 → G 62 k = kap H k) {k j : Nat} (q : wcl k j) (hr : isR k = true) : G k j = H k j := by
  obtain ⟨r1, r2, r3, r4, r5, r6, r7⟩ := h
  have hr' := isR_t hr
  have c : (k = 58 ∧ j < 80) ∨ (k = 59 ∧ j < 2) ∨ (k = 60 ∧ j < 8) ∨ (k = 61 ∧ j < 2) ∨ (k = 56 ∧ j < 4) ∨ (k = 54 ∧ j < 6) ∨ (k = 46 ∧ j = 12) ∨ (k = 46 ∧ j = 14) := by
    unfold wcl tK at q; omega
  rcases c with ⟨rfl, c⟩ | ⟨rfl, c⟩ | ⟨rfl, c⟩ | ⟨rfl, c⟩ | ⟨rfl, c⟩ | ⟨rfl, c⟩ | ⟨rfl, rfl⟩ | ⟨rfl, rfl⟩
  · rw [r1 j c, hk j (by omega)]; unfold kap; rw [if_pos c]
  · rw [(r2 j c).1, hk (80 + j) (by omega)]; unfold kap; rw [if_neg (by omega), if_pos (by omega), show 80 + j - 80 = j by omega]
  · rw [r3 j c, hk (82 + j) (by omega)]; unfold kap; rw [if_neg (by omega), if_neg (by omega), if_pos (by omega), show 82 + j - 82 = j by omega]
  · rw [(r2 j c).2, hk (90 + j) (by omega)]; unfold kap; rw [if_neg (by omega), if_neg (by omega), if_neg (by omega), if_pos (by omega), show 90 + j - 90 = j by omega]
  · rw [r4 j c, hk (92 + j) (by omega)]; unfold kap; rw [if_neg (by omega), if_neg (by omega), if_neg (by omega), if_neg (by omega), if_pos (by omega), show 92 + j - 92 = j by omega]
  · rw [r5 j c, hk (96 + j) (by omega)]; unfold kap; rw [if_neg (by omega), if_neg (by omega), if_neg (by omega), if_neg (by omega), if_neg (by omega), if_pos (by omega), show 96 + j - 96 = j by omega]
  · rw [r6, hk 102 (by omega)]; rfl
  · rw [r7, hk 103 (by omega)]; rfl
theorem sN_n {q k j : Nat} {G : Gt} (h : ¬ k = q) : sN q G k j = G k j := by
  unfold sN; rw [gu_oo _ h, gu_oo _ h, gu_oo _ h, gu_oo _ h]
theorem sE_n {q d k j : Nat} {l : List Int32} {G : Gt} (h : ¬ k = q) (h2 : ¬ k = q + 2) (hb : ¬ bbk k j) : sE q d l G k j = G k j := by
  unfold sE
  rw [bb_n hb, wq_n _ _ _ _ _ h2 (by omega), gu_n (by omega), gu_oo _ h2, gu_oo _ h, gu_oo _ h, gu_oo _ h, gu_oo _ h]
theorem sE_b {q d k j : Nat} {l : List Int32} {G : Gt} (hq : q = 40 ∨ q = 43) (hb : bbk k j) : sE q d l G k j = G (k + 66) j := by
  unfold sE
  have h66 : 85 ≤ k + 66 := by unfold bbk at hb; omega
  rw [bb_y hb, wq_n _ _ _ _ _ (by omega) (by omega), gu_n (by omega), gu_oo _ (by omega), gu_oo _ (by omega), gu_oo _ (by omega), gu_oo _ (by omega), gu_oo _ (by omega)]
theorem oLs_n {c k j : Nat} {G : Gt} (h : ¬ k = 82) (h2 : ¬ (k = 46 ∧ 66 ≤ j ∧ j ≤ 69)) : oLs c G k j = G k j := by
  unfold oLs
  rw [if_neg (fun q => h q.1), gu_n (by omega), gu_n (by omega), gu_n (by omega), gu_n (by omega)]
theorem oLs_46 {c : Nat} {G : Gt} : oLs c G 46 66 = G 46 62 ∧ oLs c G 46 67 = G 46 58 ∧ oLs c G 46 68 = G 46 63 ∧ oLs c G 46 69 = G 46 64 := by
  unfold oLs
  refine ⟨?_, ?_, ?_, ?_⟩ <;> rw [if_neg (by omega)] <;> rfl
theorem oLs_82 {c j : Nat} {G : Gt} (h : j < c) : oLs c G 82 j = G 81 j := by
  unfold oLs; rw [if_pos ⟨rfl, h⟩]
/-- how it settles: the report of the class -/
theorem fin_set {N B : Nat} {z : Zt} {G : Gt} {q : Nat} (h : fST N B z G) (hq : q = 40 ∨ q = 43) (hr : rpt G = q) (hwb : wb N G) : ∃ Cf c, c ≤ 13 ∧ G 46 64 = nI c ∧ (∀ (R : Gt) (K : Gt → Prop), K (mxw Cf R) → w_X2_settle K (mxw G R)) ∧ Cf q 0 = G 46 62 ∧ Cf q 1 = G 46 58 ∧ Cf q 2 = G 46 63 ∧ Cf q 3 = nI c ∧ (∀ p, p < c → Cf (q + 2) p = G 81 p) ∧
    (∀ k j, ¬ k = q → ¬ k = q + 2 → ¬ bbk k j → Cf k j = G k j) ∧ (G 84 15 = 1 → ∀ k j, bbk k j → Cf k j = G (k + 66) j) ∧ (∀ Gr : Gt, (∀ k j, ¬ k = 82 → ¬ k = 46 → Gr k j = G k j) → Gr 46 12 = G 46 12 → Gr 46 14 = G 46 14 → gT 20 0 (mxw Cf Gr) (mxw Cf Gr) ∧ gT 25 1 (mxw Cf Gr) (mxw Cf Gr) ∧ gS0 N (mxw Cf Gr) (mxw Cf Gr) ∧ gOp (mxw Cf Gr) (mxw Cf Gr)) := by
  obtain ⟨e1, e2, e3, e4, e5, e6, e7, e8⟩ := h
  rcases e8 with ⟨n1, n2, n3, n4, n5, n6, n7, n8⟩ | ⟨n1, n2, n3, n4, d, l, n5, n6, n7, n8, n9, n10, n11, n12⟩
  · refine ⟨sN q G, 0, by decide, n4, fun R K hk => k_set_n hq hr n1 hk, ?_, ?_, ?_, ?_, fun p hp => by omega, fun k j a _ _ => sN_n a, fun q => absurd q n1, fun Gr g1 g2 g3 => ?_⟩
    · unfold sN; rw [gu_ko _ (by decide), gu_ko _ (by decide), gu_ko _ (by decide), gu_kk]; exact n2
    · unfold sN; rw [gu_ko _ (by decide), gu_ko _ (by decide), gu_kk, e5]; exact e6.symm
    · unfold sN; rw [gu_ko _ (by decide), gu_kk]; exact n3.symm
    · unfold sN; rw [gu_kk]; rfl
    · refine wcl_all n5 n6 n7 n8 (fun k j w => ?_)
      cases hk : isR k
      · have := isR_f hk
        rw [mx_C hk]; exact sN_n (by unfold wcl tK at w; omega)
      · rw [mx_R hk]
        by_cases c46 : k = 46
        · subst c46
          have : j = 12 ∨ j = 14 := by unfold wcl tK at w; omega
          rcases this with rfl | rfl
          · exact g2
          · exact g3
        · exact g1 k j (by unfold wcl tK at w; omega) c46
  · obtain ⟨H, a1, a2, a3, a4, a5, a6, a7, a8⟩ := hwb
    refine ⟨sE q d l G, l.length + 1, by omega, n9, fun R K hk => k_set_e hq hr n1 n5 n6 n7 n8 hk, ?_, ?_, ?_, ?_, fun p hp => ?_, fun k j a b w => sE_n a b w, fun _ k j hb => sE_b hq hb, fun Gr g1 g2 g3 => ?_⟩
    · unfold sE
      rw [bb_n (by unfold bbk; omega), wq_n _ _ _ _ _ (by omega) (by omega), gu_ko _ (by decide), gu_oo _ (by omega), gu_ko _ (by decide), gu_ko _ (by decide), gu_ko _ (by decide), gu_kk]; exact n2.symm
    · unfold sE
      rw [bb_n (by unfold bbk; omega), wq_n _ _ _ _ _ (by omega) (by omega), gu_ko _ (by decide), gu_oo _ (by omega), gu_ko _ (by decide), gu_ko _ (by decide), gu_kk, e5]; exact e6.symm
    · unfold sE
      rw [bb_n (by unfold bbk; omega), wq_n _ _ _ _ _ (by omega) (by omega), gu_ko _ (by decide), gu_oo _ (by omega), gu_ko _ (by decide), gu_kk]; exact n3.symm
    · unfold sE
      rw [bb_n (by unfold bbk; omega), wq_c l 1 _ (gu_kk _ _ _ _), Nat.add_comm]
    · unfold sE
      rw [bb_n (by unfold bbk; omega)]
      cases p with
      | zero =>
        rw [wq_lo _ _ _ _ (by decide), gu_oo _ (by omega), gu_kk]; exact n10.symm
      | succ p =>
        obtain ⟨x, hx⟩ : ∃ x, l[p]? = some x := ⟨l[p]'(by omega), List.getElem?_eq_getElem (by omega)⟩
        rw [Nat.add_comm p 1, wq_v l 1 _ p x hx, Nat.add_comm 1 p]; exact (n11 p x hx).symm
    · refine wcl_all a1 a2 a3 a4 (fun k j w => ?_)
      cases hk : isR k
      · have hkf := isR_f hk
        have hb : bbk k j := by unfold wcl tK at w; unfold bbk; omega
        rw [mx_C hk, sE_b hq hb]; exact a6 k j hb
      · rw [mx_R hk]
        have e : Gr k j = G k j := by
          by_cases c46 : k = 46
          · subst c46
            have : j = 12 ∨ j = 14 := by unfold wcl tK at w; omega
            rcases this with rfl | rfl
            · exact g2
            · exact g3
          · exact g1 k j (by unfold wcl tK at w; omega) c46
        rw [e]
        exact rsd_H n4 a8 w hk
theorem i50 {x : Int32} (h : isnum x) : 40001 ≤ 50000 + x ∧ 50000 + x < 60000 := by
  obtain ⟨h1, h2⟩ := h
  rw [Int32.le_iff_toInt_le] at h1 h2
  rw [Int32.le_iff_toInt_le, Int32.lt_iff_toInt_lt, Int32.toInt_add]
  rw [show (-9999 : Int32).toInt = -9999 by decide] at h1
  rw [show (9999 : Int32).toInt = 9999 by decide] at h2
  rw [show (40001 : Int32).toInt = 40001 by decide, show (60000 : Int32).toInt = 60000 by decide, show (50000 : Int32).toInt = 50000 by decide, Int.bmod_eq_of_le (by omega) (by omega)]
  omega
/-- what is told of a run's end -/
theorem fin_told {N B : Nat} {z : Zt} {G : Gt} (h : fST N B z G) : ∃ c, c ≤ 13 ∧ G 46 64 = nI c ∧ (¬ G 84 15 = 1 → c = 0 ∧ G 46 63 = 50000) ∧ (G 84 15 = 1 → 1 ≤ c ∧ (40001 ≤ G 46 62 ∧ G 46 62 < 60000) ∧ ∀ p, p < c → ∃ v, v < N ∧ G 81 p = nI v) := by
  obtain ⟨e1, e2, e3, e4, e5, e6, e7, e8⟩ := h
  rcases e8 with ⟨n1, n2, n3, n4, n5, n6, n7, n8⟩ | ⟨n1, n2, n3, n4, d, l, n5, n6, n7, n8, n9, n10, n11, n12, n13, n14⟩
  · exact ⟨0, by decide, n4, fun _ => ⟨rfl, n3⟩, fun q => absurd q n1⟩
  · refine ⟨l.length + 1, by omega, n9, fun q => absurd n1 q, fun _ => ⟨by omega, by rw [n2]; exact i50 n12, fun p hp => ?_⟩⟩
    cases p with
    | zero => rw [n10]; exact n13
    | succ p =>
      obtain ⟨x, hx⟩ : ∃ x, l[p]? = some x := ⟨l[p]'(by omega), List.getElem?_eq_getElem (by omega)⟩
      rw [n11 p x hx]
      exact n14 x (List.mem_of_getElem? hx)
