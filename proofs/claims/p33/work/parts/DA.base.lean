/-! P33: WHAT THE LAW COUNTS ON. G: the world of class and law; R: a reference's that goes along with it, seen by nobody -/
theorem isR_o {k : Nat} (a : 46 ≤ k) (b : k ≤ 82) : isR k = true := by
  simp only [isR, Bool.and_eq_true, Nat.ble_eq]
  exact ⟨a, b⟩
/-- the class's cells that a run which is tried keeps -/
def kC (k j : Nat) : Prop := vs9 k j ∨ (k = 33 ∧ j < 4)
theorem kC_f {k j : Nat} (h : kC k j) : isR k = false := by
  rcases h with h | ⟨rfl, _⟩
  · exact vs9_f h
  · rfl
theorem kC_b {k j : Nat} (h : kC k j) : k < 43 ∧ ¬ (k = 0 ∧ j = 5) := by
  rcases h with (h | h) | ⟨rfl, _⟩
  · unfold pl9 at h
    omega
  · unfold bbk at h
    omega
  · omega
theorem pcl_9 {k j : Nat} (h : pcl k j) : pl9 k j ∨ (46 ≤ k ∧ k ≤ 82) := by
  unfold pcl at h
  rcases h with h | h | h | h | h | h | h | h | h | h | h | h | h | h | h | h | h
  all_goals first
    | exact Or.inr ⟨by omega, by omega⟩
    | exact Or.inl (by unfold pl9; omega)
theorem wcl_9 {k j : Nat} (h : wcl k j) : bbk k j ∨ (46 ≤ k ∧ k ≤ 82) := by
  unfold wcl tK at h
  rcases h with (h | h | h | h | h | h | h) | (h | h | h | h | h | h | h) | ⟨h | h, h'⟩ | ⟨h | h, h'⟩ | h | h
  all_goals first
    | exact Or.inr ⟨by omega, by omega⟩
    | exact Or.inl (by unfold bbk; omega)
theorem jA_w {N : Nat} {G X : Gt} (h : jA N G) (e : ∀ k j, kC k j ∨ isR k = true → X k j = G k j) : jA N X := by
  obtain ⟨hP, h0, h1, hS0, hS1, hRg, hOp, hL, hB, h52⟩ := h
  have e1 : ∀ k j, vs9 k j ∨ (46 ≤ k ∧ k ≤ 82) → X k j = G k j := fun k j q => q.elim (fun q => e k j (Or.inl (Or.inl q))) (fun q => e k j (Or.inr (isR_o q.1 q.2)))
  obtain ⟨p1, p2, p3⟩ := pcl_all (W := X) hP hS1 hB (fun k j q => e1 k j ((pcl_9 q).imp_left Or.inl))
  obtain ⟨w1, w2, w3, w4⟩ := wcl_all (W := X) h0 h1 hS0 hOp (fun k j q => e1 k j ((wcl_9 q).imp_left Or.inr))
  refine ⟨p1, w1, w2, w3, p2, fun k hk => ?_, w4, gL_eq hL (fun k j q => ?_), p3, ?_⟩
  · rw [e 33 k (Or.inl (Or.inr ⟨rfl, hk⟩)), e 57 k (Or.inr rfl)]; exact hRg k hk
  · rcases q with rfl | rfl | rfl | ⟨rfl, _, _⟩
    · exact e1 40 j (Or.inl (Or.inl (by unfold pl9; omega)))
    · exact e1 42 j (Or.inl (Or.inl (by unfold pl9; omega)))
    · exact e1 82 j (Or.inr ⟨by decide, by decide⟩)
    · exact e1 46 j (Or.inr ⟨by decide, by decide⟩)
  · rw [e 46 52 (Or.inr rfl)]; exact h52
def Jn (N : Nat) (R G : Gt) : Prop := jA N (mxw G R)
def keq (G G' : Gt) : Prop := ∀ k j, kC k j → G' k j = G k j
/-- the law's own cells are kept -/
def lk6 (G G' : Gt) : Prop := ∀ k, isR k = true → G' k = G k
theorem Jn_keq {N : Nat} {R G G' : Gt} (h : Jn N R G) (e : keq G G') : Jn N R G' := jA_w h (fun k j q => by
  cases hk : isR k
  · rw [mx_C hk, mx_C hk]
    rcases q with q | q
    · exact e k j q
    · rw [hk] at q; exact absurd q (by decide)
  · rw [mx_R hk, mx_R hk])
theorem keq_rfl {G : Gt} : keq G G := fun _ _ _ => rfl
theorem keq_tr {G G' G'' : Gt} (h : keq G G') (h' : keq G' G'') : keq G G'' := fun k j q => (h' k j q).trans (h k j q)
theorem lk6_rfl {G : Gt} : lk6 G G := fun _ _ => rfl
theorem lk6_tr {G G' G'' : Gt} (h : lk6 G G') (h' : lk6 G' G'') : lk6 G G'' := fun k q => (h' k q).trans (h k q)
theorem lk6_mx {C G : Gt} : lk6 G (mxw C G) := fun k q => by funext j; exact mx_R q
theorem keq_mx {C G : Gt} (h : keq G C) : keq G (mxw C G) := fun k j q => by rw [mx_C (kC_f q)]; exact h k j q
/-- the law writes into its own cells: nothing else changes -/
theorem keq_cw {G G' : Gt} (h : ∀ k, k < 46 → G' k = G k) : keq G G' := fun k j q => by
  have := kC_b q
  rw [h k (by omega)]
theorem frm_eq {c : Nat} {G G' : Gt} (h : G' c = G c) : frm c G G' = G' := by
  funext k
  unfold frm
  by_cases q : k = c
  · rw [if_pos q, q, h]
  · rw [if_neg q]
/-! class facts -/
theorem Jn_n {N : Nat} {R G : Gt} (h : Jn N R G) : N ≤ 120 ∧ G 1 7 = nI N ∧ (∀ m, m < N → ∃ s, 1 ≤ s ∧ s ≤ 150 ∧ G 9 m = nI s) ∧ (∀ m, N ≤ m → m < 120 → G 11 m = 0) := by
  obtain ⟨hN, h1, h2, h3, h4, U, h5, h6, h7, h8⟩ := h.1
  refine ⟨hN, h1, fun m hm => ?_, fun m a b => (h4 m a b).2⟩
  obtain ⟨k, e, s, q1, q2, q3, q4, q5, q6, q7, q8, q9, q10, q11, q12, q13, q14⟩ := h8 m hm
  exact ⟨s, q3, q4, q9⟩
theorem Jn_B {N : Nat} {R G : Gt} (h : Jn N R G) : ∃ b, 1 ≤ b ∧ b ≤ 600 ∧ G 0 4 = nI b := by
  obtain ⟨b0, b, b1, b2, b3⟩ := h.2.2.2.2.2.2.2.2.1
  exact ⟨b, b1, b2, b0.trans b3⟩
/-- a text, as the class has it -/
def txC (G : Gt) (a : Nat) : Prop := ∃ l c, l ≤ 40 ∧ c < 4 ∧ G a 2 = nI l ∧ G a 3 = nI c ∧ ¬ G (a + 4) c = -1 ∧ (∀ k, k < 4 → (G (a + 4) k = -1 ∨ ∃ j, j ≤ l ∧ G (a + 4) k = nI j)) ∧ ∀ p, p < 40 → ∃ j, j < 26 ∧ G (a + 2) p = nI j
theorem gT_tx {a b : Nat} {W G : Gt} (h : gT a b W W) (e1 : W a = G a) (e2 : W (a + 2) = G (a + 2)) (e4 : W (a + 4) = G (a + 4)) : txC G a := by
  obtain ⟨⟨l, c, h1, h2, h3, h4, h5, h6, h7, h8⟩, h9⟩ := h
  refine ⟨l, c, h1, h2, by rw [← e1]; exact h3, by rw [← e1]; exact h5, ?_, fun k hk => ?_, fun p hp => ?_⟩
  · rw [← e4, (h8 c h2).1]; exact h7
  · rw [← e4, (h8 k hk).1]; exact (h8 k hk).2
  · rw [← e2, (h9 p hp).1]; exact (h9 p hp).2
theorem mx_k {C R : Gt} {k : Nat} (h : isR k = false) : mxw C R k = C k := by funext j; exact mx_C h
theorem Jn_t {N : Nat} {R G : Gt} (h : Jn N R G) : txC G 20 ∧ txC G 25 ∧ ∃ b, b < 2 ∧ G 19 7 = nI b := by
  obtain ⟨hP, h0, h1, hS0, hS1, hRg, hOp, hL, hB, h52⟩ := h
  refine ⟨gT_tx h0 (mx_k rfl) (mx_k rfl) (mx_k rfl), gT_tx h1 (mx_k rfl) (mx_k rfl) (mx_k rfl), ?_⟩
  obtain ⟨b, b1, b2, b3⟩ := hS0.2.1
  exact ⟨b, b1, b2⟩
/-! what a run comes to -/
def SEM (R : Gt) (B m n : Nat) (o : Int32) : Prop := ∃ S Gf, rl (st0 0 B m R) S ∧ RES B S n Gf ∧ Gf 46 62 = o
theorem SEM_cmp {R R' : Gt} {B1 B2 m n1 n2 : Nat} {o1 o2 : Int32} (hr : rl R R') (hB : B2 ≤ B1) (h1 : SEM R B1 m n1 o1) (h2 : SEM R' B2 m n2 o2) : (n1 ≤ B2 → n2 = n1 ∧ o2 = o1) ∧ (¬ n1 ≤ B2 → n2 = B2 ∧ o2 = 49993) := by
  obtain ⟨S1, F1, a1, b1, rfl⟩ := h1
  obtain ⟨S2, F2, a2, b2, rfl⟩ := h2
  exact RES_cmp (rl_tr (rl_sy a1) (rl_tr (st0_rl hr) a2)) hB b1 b2
def isO (o : Int32) : Prop := vrV o ∨ (40001 ≤ o ∧ o < 60000)
theorem vrV_le {o : Int32} (h : vrV o) : o ≤ 39999 := by
  rcases h with ⟨_, h⟩ | ⟨j, hj, rfl⟩ | ⟨j, hj, rfl⟩
  · exact Int32.le_trans h (by decide)
  · exact (nI_leL (a := 39999) rfl (by omega) (by decide)).mpr (by omega)
  · exact (nI_leL (a := 39999) rfl (by omega) (by decide)).mpr (by omega)
theorem o_lo {o : Int32} (h : o ≤ 39999) : o < 40000 := by
  rw [Int32.le_iff_toInt_le] at h
  rw [Int32.lt_iff_toInt_lt]
  have a : (39999 : Int32).toInt = 39999 := by decide
  have b : (40000 : Int32).toInt = 40000 := by decide
  omega
theorem o_hi {o : Int32} (h : 40001 ≤ o) : ¬ o ≤ 39999 ∧ ¬ o < 40000 := by
  rw [Int32.le_iff_toInt_le] at h
  rw [Int32.le_iff_toInt_le, Int32.lt_iff_toInt_lt]
  have a : (39999 : Int32).toInt = 39999 := by decide
  have b : (40000 : Int32).toInt = 40000 := by decide
  have c : (40001 : Int32).toInt = 40001 := by decide
  omega
/-- what is told of the last run is well -/
def tvC (N : Nat) (G : Gt) : Prop := (G 40 0 ≤ 39999 ∧ G 40 3 = 0 ∧ G 40 2 = 50000) ∨ (¬ G 40 0 ≤ 39999 ∧ ∃ c, 1 ≤ c ∧ c ≤ 13 ∧ G 40 3 = nI c ∧ ∀ p, p < c → ∃ i, i < N ∧ G 42 p = nI i)
theorem tvC_eq {N : Nat} {G G' : Gt} (h : tvC N G) (e : ∀ k j, k = 40 ∨ k = 42 → G' k j = G k j) : tvC N G' := by
  unfold tvC
  rw [e 40 0 (Or.inl rfl), e 40 2 (Or.inl rfl), e 40 3 (Or.inl rfl)]
  rcases h with h | ⟨h, c, c1, c2, c3, c4⟩
  · exact Or.inl h
  · exact Or.inr ⟨h, c, c1, c2, c3, fun p hp => by rw [e 42 p (Or.inr rfl)]; exact c4 p hp⟩
/-- the class's cells that hold program, slots, budget; but for the places where steps stop -/
def pl0 (k j : Nat) : Prop := k = 1 ∨ k = 3 ∨ k = 5 ∨ k = 7 ∨ k = 9 ∨ k = 13 ∨ k = 14 ∨ k = 16 ∨ k = 18 ∨ k = 37 ∨ k = 39 ∨ (k = 0 ∧ j = 4)
theorem pl0_9 {k j : Nat} (h : pl0 k j) : pl9 k j := by
  unfold pl0 at h
  rcases h with rfl | rfl | rfl | rfl | rfl | rfl | rfl | rfl | rfl | rfl | rfl | ⟨rfl, rfl⟩ <;> (unfold pl9; omega)
theorem pl0_b {k j : Nat} (h : pl0 k j) : k < 43 ∧ ¬ (k = 0 ∧ ¬ j = 4) ∧ ¬ k = 40 ∧ ¬ k = 42 ∧ ¬ bbk k j ∧ kpd k j := by
  obtain ⟨a, b, c, d⟩ := pl9_b (pl0_9 h)
  unfold pl0 at h
  exact ⟨b, by omega, by omega, by omega, d, a⟩
theorem pl0_f {k j : Nat} (h : pl0 k j) : isR k = false := by
  have := pl0_b h
  cases q : isR k
  · rfl
  · have := isR_t q; omega
/-- a run of n steps with this outcome has ended -/
def fin9 (N : Nat) (G0 : Gt) (n : Nat) (o : Int32) (G : Gt) : Prop := G 84 7 = 0 ∧ G 40 0 = o ∧ G 40 1 = nI n ∧ tvC N G ∧ (∀ k j, pl0 k j → G k j = G0 k j) ∧ (¬ o < 40000 → ∀ k j, bbk k j → G k j = G0 k j) ∧ ∃ R, Jn N R G
theorem fin_all {N B : Nat} {z : Zt} {Gf : Gt} (h : fST N B z Gf) (hR : fR N Gf) (hr : rpt Gf = 40) (hv : ¬ Gf 84 15 = 1 → vrV (Gf 46 62)) : ∃ Cf, (∀ (R : Gt) (K : Gt → Prop), K (mxw Cf R) → w_X2_settle K (mxw Gf R)) ∧ Cf 84 7 = 0 ∧ Cf 84 10 = Gf 84 10 ∧ Cf 40 0 = Gf 46 62 ∧ Cf 40 1 = nI (z 0 0) ∧ (∀ X, tvC N (mxw Cf X)) ∧ (∀ k j, pl0 k j ∨ k = 11 → Cf k j = Gf k j) ∧ (¬ Gf 46 62 < 40000 → ∀ k j, bbk k j → Cf k j = Gf (k + 66) j) ∧ isO (Gf 46 62) ∧ ∀ X, ∃ R, Jn N R (mxw Cf X) := by
  obtain ⟨Cf, c, hc, h64, hset, c0, c7, c10, c1, c2, c3, ct, cn, cb, hj⟩ := fin_jA h hR hr
  obtain ⟨c', hc', h64', t1, t2⟩ := fin_told h
  have ecc : c = c' := (nI_eq (by omega) (by omega)).mp (h64.symm.trans h64')
  subst ecc
  refine ⟨Cf, hset, c7, c10, c0, c1.trans h.2.2.2.2.2.1, fun X => ?_, fun k j q => ?_, fun q => ?_, ?_, fun X => ⟨oLs c (gu Gf 46 52 0), ?_⟩⟩
  · unfold tvC
    rw [mx_C (k := 40) (j := 0) rfl, mx_C (k := 40) (j := 2) rfl, mx_C (k := 40) (j := 3) rfl, c0, c2, c3]
    by_cases h15 : Gf 84 15 = 1
    · obtain ⟨u1, ⟨u2, u3⟩, u4⟩ := t2 h15
      refine Or.inr ⟨(o_hi u2).1, c, u1, hc, rfl, fun p hp => ?_⟩
      obtain ⟨v, v1, v2⟩ := u4 p hp
      exact ⟨v, v1, by rw [mx_C (k := 42) rfl, ct p hp]; exact v2⟩
    · obtain ⟨u1, u2⟩ := t1 h15
      exact Or.inl ⟨vrV_le (hv h15), by rw [u1]; rfl, u2⟩
  · rcases q with q | rfl
    · obtain ⟨a, b, d, e, f, g⟩ := pl0_b q
      exact cn k j d e f
    · exact cn 11 j (by decide) (by decide) (by unfold bbk; omega)
  · by_cases h15 : Gf 84 15 = 1
    · exact cb h15
    · exact absurd (o_lo (vrV_le (hv h15))) q
  · by_cases h15 : Gf 84 15 = 1
    · exact Or.inr (t2 h15).2.1
    · exact Or.inl (hv h15)
  · refine jA_eq (hj 0) (fun k j q => ?_)
    rw [mxw_mc]
    cases hk : isR k
    · rw [mx_C hk, mx_C hk, gu_oo _ (fun e => q (by unfold jfr; omega))]
    · rw [mx_R hk, mx_R hk]
/-! TRIED -/
theorem r_try {N m B : Nat} {R G : Gt} (h : Jn N R G) (hm : m < N) (hB1 : 1 ≤ B) (hB2 : B ≤ 600) (hB : G 0 4 = nI B) : ∃ (C : Gt) (n : Nat) (o : Int32), 1 ≤ n ∧ n ≤ B ∧ SEM R B m n o ∧ isO o ∧ C 43 0 = o ∧ C 43 1 = nI n ∧ C 84 7 = 0 ∧ keq G C ∧ ∀ K : Gt → Prop, K (mxw C G) → w_X2_open 43 (fun G2 => w_X2_advance (fun _ G3 => w_X9_become 19 85 (fun G5 => K G5) G3) 601 0 G2) (nI m) (G 0 4) G := by
  have e04 : (mxw G R) 0 4 = G 0 4 := mx_C rfl
  obtain ⟨Cx, Gf, n, hc, c0, c1, c7, ck, n1, n2, hR, hv⟩ := try_P h hm hB1 hB2 (e04.trans hB)
  refine ⟨Cx, n, Gf 46 62, n1, n2, ⟨_, Gf, st0_rl (rl_mx rl_rfl), hR, rfl⟩, hv, c0, c1, c7, fun k j q => ?_, fun K hk => ?_⟩
  · rw [ck k j q, mx_C (kC_f q)]
  · have := hc G K hk
    rw [mxw_mc, mxw_self, e04] at this
    exact this
