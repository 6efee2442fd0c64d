/-! P33: tried, run, start, step, giveUp, breakAt, by what they come to -/
def mkL (G G' : Gt) : Prop := ∀ k j, k < 84 → G' k j = G k j
theorem mkL_rfl {G : Gt} : mkL G G := fun _ _ _ => rfl
theorem mkL_gu {G G' : Gt} {c i : Nat} {v : Int32} (hc : 84 ≤ c) (h : mkL G G') : mkL G (gu G' c i v) := fun k j hk => by
  rw [gu_n (by omega)]; exact h k j hk
theorem mkL_gz {G G' : Gt} {c : Nat} {v : Int32} (hc : 84 ≤ c) (h : mkL G G') : mkL G (gz G' c v) := fun k j hk => by
  unfold gz; rw [if_neg (by omega)]; exact h k j hk
theorem mkL_gf {G G' : Gt} {c n : Nat} {v : Int32} (hc : 84 ≤ c) (h : mkL G G') : mkL G (gf G' c n v) := fun k j hk => by
  unfold gf; rw [if_neg (by omega)]; exact h k j hk
theorem mkL_rp {G G' : Gt} {c n : Nat} {x v : Int32} (hc : 84 ≤ c) (h : mkL G G') : mkL G (rput G' c n x v) := fun k j hk => by
  unfold rput
  by_cases q : 0 ≤ x ∧ x < nI n
  · rw [if_pos q]; exact mkL_gu hc h k j hk
  · rw [if_neg q]; exact h k j hk
theorem mkL_X2 {G : Gt} : mkL G (g_X2 84 85 (gz G 84 0)) := by
  unfold g_X2 g_X3 g_X7 g_X1 g_X9 g_X8
  repeat (first | exact mkL_rfl | refine mkL_gu (by decide) ?_ | refine mkL_gf (by decide) ?_ | refine mkL_gz (by decide) ?_ | refine mkL_rp (by decide) ?_)
theorem gM_04 {G : Gt} : gM G 0 4 = G 0 4 := by
  unfold gM
  rw [gu_n (by omega)]
  exact mkL_X2 0 4 (by decide)
theorem sm_le1 {f : Nat → Nat} : ∀ {n : Nat}, (∀ i, i < n → f i ≤ 1) → sm f n ≤ n
  | 0, _ => Nat.le_refl _
  | n + 1, h => by
    have a := sm_le1 (n := n) (fun i hi => h i (by omega))
    have b := h n (by omega)
    show sm f n + f n ≤ n + 1
    omega
theorem mu_le {N B : Nat} {z : Zt} {G : Gt} (h : wST N B z G) : mu z ≤ 18020 := by
  obtain ⟨c1, c2, c3, c4, c5, c6, c7, c8, c9, c10, c11⟩ := w_cells h
  obtain ⟨hP, hA, hB, hC, hD, hE, hF, hG, hH, hI, hJ, hK, hL, hM, hNN, hO, hPg, hQ, hR, hS, hT, hU⟩ := h.1
  have := sm_le1 (f := z 21) (n := z 0 0) (fun i hi => (hR.2.2.2 i hi).2)
  unfold mu
  omega
theorem wR_eq {N B : Nat} {z : Zt} {G X : Gt} (hw : wST N B z G) (hf : fR N G) (e : ∀ k j, ¬ (k = 83 ∨ (k = 46 ∧ j = 71)) → X k j = G k j) : wST N B z X ∧ fR N X := by
  obtain ⟨p1, p2, p3⟩ := pcl_all hf.1 hf.2.1 hf.2.2.1 (fun k j q => e k j (by unfold pcl at q; omega))
  exact ⟨wST_cg hw (Nat.le_refl _) p1 (fun k j q => e k j (by unfold frz at q; omega)), p1, p2, p3, gL_eq hf.2.2.2.1 (fun k j q => e k j (by omega)), wb_cg hf.2.2.2.2 (Nat.le_refl _) (fun k j q => e k j (by unfold frz at q; omega))⟩
theorem iam_S {x : Int32} (h : 1 ≤ x ∧ x ≤ 600) : ∃ S, 1 ≤ S ∧ S ≤ 600 ∧ x = nI S := by
  obtain ⟨i, hi, e⟩ := (lit_b1 (x := x) (b := 600) (N := 601) rfl (by decide)).mp ⟨Int32.le_trans (by decide) h.1, h.2⟩
  refine ⟨i, ?_, by omega, e⟩
  rcases Nat.eq_zero_or_pos i with z | z
  · subst z
    rw [e] at h
    exact absurd h.1 (by decide)
  · exact z
theorem keq_gM {G : Gt} : keq G (gM G) := fun k j q => by
  obtain ⟨a, b⟩ := kC_b q
  unfold gM
  rw [gu_n b]
  exact mkL_X2 k j (by omega)
theorem lk6_gM {G : Gt} : lk6 G (gM G) := fun k q => by
  have := isR_t q
  funext j
  unfold gM
  rw [gu_n (by omega)]
  exact mkL_X2 k j (by omega)
theorem r_tried_B {N m B : Nat} {R G : Gt} (h : Jn N R G) (h7 : G 84 7 = 0) (hm : m < N) (hB1 : 1 ≤ B) (hB2 : B ≤ 600) (hB : G 0 4 = nI B) : ∃ (n : Nat) (o : Int32), 1 ≤ n ∧ n ≤ B ∧ SEM R B m n o ∧ isO o ∧ ∀ K : Int32 → Sh → Gt → Prop, (∀ G', keq G G' → lk6 G G' → G' 84 7 = 0 → K o shB G') → w_L_tried_B K (nI m) G := by
  obtain ⟨C, n, o, n1, n2, hs, ho, c0, c1, c7, ck, hT⟩ := r_try h hm hB1 hB2 hB
  obtain ⟨hN, h1, _, _⟩ := Jn_n h
  refine ⟨n, o, n1, n2, hs, ho, fun K hK => ?_⟩
  unfold w_L_tried_B w_X10_tried_B w_X10_tryOut_B
  refine has_y h1 hN hm (pif_n (by decide) (step_By h7 (pif_p rfl ?_)))
  unfold w_X10_readyMachine_B w_X10_readyMachine_B_j30
  refine hT (fun G5 => K (G5 43 0) shB G5) ?_
  show K ((mxw C G) 43 0) shB (mxw C G)
  rw [show (mxw C G) 43 0 = o from (mx_C rfl).trans c0]
  exact hK _ (keq_mx ck) lk6_mx ((mx_C rfl).trans c7)
theorem r_triedSteps_B {N m B : Nat} {R G : Gt} (h : Jn N R G) (h7 : G 84 7 = 0) (hm : m < N) (hB1 : 1 ≤ B) (hB2 : B ≤ 600) (hB : G 0 4 = nI B) : ∃ (n : Nat) (o : Int32), 1 ≤ n ∧ n ≤ B ∧ SEM R B m n o ∧ isO o ∧ ∀ K : Int32 → Sh → Gt → Prop, (∀ G', keq G G' → lk6 G G' → G' 84 7 = 0 → K (nI n) shB G') → w_L_triedSteps_B K (nI m) G := by
  obtain ⟨C, n, o, n1, n2, hs, ho, c0, c1, c7, ck, hT⟩ := r_try h hm hB1 hB2 hB
  obtain ⟨hN, h1, _, _⟩ := Jn_n h
  refine ⟨n, o, n1, n2, hs, ho, fun K hK => ?_⟩
  unfold w_L_triedSteps_B w_X10_triedSteps_B w_X10_tryOut_B
  refine has_y h1 hN hm (pif_n (by decide) (step_By h7 (pif_p rfl ?_)))
  unfold w_X10_readyMachine_B w_X10_readyMachine_B_j30
  refine hT (fun G5 => K (G5 43 1) shB G5) ?_
  show K ((mxw C G) 43 1) shB (mxw C G)
  rw [show (mxw C G) 43 1 = nI n from (mx_C rfl).trans c1]
  exact hK _ (keq_mx ck) lk6_mx ((mx_C rfl).trans c7)
theorem r_tried_A {N m B : Nat} {R G : Gt} (h : Jn N R G) (hm : m < N) (hB1 : 1 ≤ B) (hB2 : B ≤ 600) (hB : G 0 4 = nI B) : ∃ (n : Nat) (o : Int32), 1 ≤ n ∧ n ≤ B ∧ SEM R B m n o ∧ isO o ∧ ∀ K : Int32 → Sh → Gt → Prop, (∀ G', keq G G' → lk6 G G' → G' 84 7 = 0 → K o shB G') → w_L_tried_A K (nI m) G := by
  obtain ⟨C, n, o, n1, n2, hs, ho, c0, c1, c7, ck, hT⟩ := r_try (Jn_keq h keq_gM) hm hB1 hB2 (gM_04.trans hB)
  obtain ⟨hN, h1, _, _⟩ := Jn_n h
  refine ⟨n, o, n1, n2, hs, ho, fun K hK => ?_⟩
  unfold w_L_tried_A w_X10_tried_A w_X10_tryOut_A
  refine has_y h1 hN hm (pif_n (by decide) (step_A (pif_p rfl (pt_of ?_))))
  refine hT (fun G5 => K (G5 43 0) shB G5) ?_
  show K ((mxw C (gM G)) 43 0) shB (mxw C (gM G))
  rw [show (mxw C (gM G)) 43 0 = o from (mx_C rfl).trans c0]
  exact hK _ (keq_tr keq_gM (keq_mx ck)) (lk6_tr lk6_gM lk6_mx) ((mx_C rfl).trans c7)
theorem r_triedSteps_A {N m B : Nat} {R G : Gt} (h : Jn N R G) (hm : m < N) (hB1 : 1 ≤ B) (hB2 : B ≤ 600) (hB : G 0 4 = nI B) : ∃ (n : Nat) (o : Int32), 1 ≤ n ∧ n ≤ B ∧ SEM R B m n o ∧ isO o ∧ ∀ K : Int32 → Sh → Gt → Prop, (∀ G', keq G G' → lk6 G G' → G' 84 7 = 0 → K (nI n) shB G') → w_L_triedSteps_A K (nI m) G := by
  obtain ⟨C, n, o, n1, n2, hs, ho, c0, c1, c7, ck, hT⟩ := r_try (Jn_keq h keq_gM) hm hB1 hB2 (gM_04.trans hB)
  obtain ⟨hN, h1, _, _⟩ := Jn_n h
  refine ⟨n, o, n1, n2, hs, ho, fun K hK => ?_⟩
  unfold w_L_triedSteps_A w_X10_triedSteps_A w_X10_tryOut_A
  refine has_y h1 hN hm (pif_n (by decide) (step_A (pif_p rfl (pt_of ?_))))
  refine hT (fun G5 => K (G5 43 1) shB G5) ?_
  show K ((mxw C (gM G)) 43 1) shB (mxw C (gM G))
  rw [show (mxw C (gM G)) 43 1 = nI n from (mx_C rfl).trans c1]
  exact hK _ (keq_tr keq_gM (keq_mx ck)) (lk6_tr lk6_gM lk6_mx) ((mx_C rfl).trans c7)
/-- at once -/
theorem r_run_B {N m B : Nat} {R G : Gt} (h : Jn N R G) (h7 : G 84 7 = 0) (hm : m < N) (hB1 : 1 ≤ B) (hB2 : B ≤ 600) (hB : G 0 4 = nI B) : ∃ (n : Nat) (o : Int32), 1 ≤ n ∧ n ≤ B ∧ SEM R B m n o ∧ isO o ∧ ∀ K : Int32 → Sh → Gt → Prop, (∀ G', lk6 G G' → fin9 N G n o G' → G' 11 = G 11 → K o shB G') → w_L_run_B K (nI m) G := by
  have e04 : (mxw G R) 0 4 = G 0 4 := mx_C rfl
  obtain ⟨hN, h1, _, _⟩ := Jn_n h
  obtain ⟨z, n, Gf, hf, hfR, hrp, hz, n1, n2, hres, hv, hkq, hcl⟩ := run_core (q := 40) (Or.inl rfl) h hm hB1 hB2 (e04.trans hB)
  rw [if_pos rfl] at hres hkq
  obtain ⟨Cf, hset, c7, c10, c0, c1, ctv, cpl, cbk, ho, hJ⟩ := fin_all hf hfR hrp hv
  have es : ∀ a b, a < 84 → isR a = false → (st0 0 B m (mxw G R)) a b = G a b := fun a b q1 q2 => ((st0_w (w := 0) h hm hB2).2.2.2 a b q1 q2).trans (mx_C q2)
  have eg : ∀ a b, kpd a b → a < 84 → isR a = false → Gf a b = G a b := fun a b q1 q2 q3 => (hkq a b q1 (by omega) (by rintro ⟨rfl, _⟩; exact absurd q3 (by decide))).trans (es a b q2 q3)
  refine ⟨n, Gf 46 62, n1, n2, ⟨_, Gf, st0_rl (rl_mx rl_rfl), hres, rfl⟩, ho, fun K hK => ?_⟩
  unfold w_L_run_B w_X10_run_B
  refine has_y h1 hN hm (pif_n (by decide) (step_By h7 (pif_p rfl ?_)))
  unfold w_X10_readyMachine_B w_X10_readyMachine_B_j30
  have := hcl G (fun _ G7 => K (G7 40 0) shB G7) (by
    unfold w_X2_advance_j249
    refine pif_p ((mx_C rfl).trans hf.1) (hset G _ ?_)
    unfold w_X2_advance_j260
    show K ((mxw Cf G) 40 0) shB (mxw Cf G)
    rw [show (mxw Cf G) 40 0 = Gf 46 62 from (mx_C rfl).trans c0]
    refine hK _ lk6_mx ⟨(mx_C rfl).trans c7, (mx_C rfl).trans c0, (mx_C rfl).trans (by rw [c1, hz]), ctv G, fun k j q => ?_, fun q k j b => ?_, hJ G⟩ ?_
    · obtain ⟨a1, a2, a3, a4, a5, a6⟩ := pl0_b q
      rw [mx_C (pl0_f q), cpl k j (Or.inl q)]
      exact eg k j a6 (by omega) (pl0_f q)
    · rw [mx_C (bbk_f b), cbk q k j b, hkq (k + 66) j (by unfold bbk at b; unfold kpd; omega) (by unfold bbk at b; omega) (by unfold bbk at b; omega), st0_b b]
      exact mx_C (bbk_f b)
    · funext j
      rw [mx_C rfl, cpl 11 j (Or.inr rfl)]
      exact eg 11 j (by unfold kpd; omega) (by decide) rfl)
  rw [mxw_mc, mxw_self, e04] at this
  exact this
/-! STEPPED: G0, the world as it began; k steps done -/
def SW (N B : Nat) (G0 : Gt) (k : Nat) (z : Zt) (Gs G : Gt) : Prop := wST N B z Gs ∧ fR N Gs ∧ Gs 84 6 = 0 ∧ z 0 0 = k ∧ vrV (Gs 46 62) ∧ eqc Gs G ∧ (∀ k j, pl0 k j ∨ k = 40 ∨ k = 42 → G k j = G0 k j) ∧ (∀ k j, bbk k j → G (k + 66) j = G0 k j)
def SS (N B m : Nat) (R G0 : Gt) (k : Nat) (G : Gt) : Prop := ∃ z Gs S, SW N B G0 k z Gs G ∧ chn k S Gs ∧ rl (st0 0 B m R) S
def SV (N B : Nat) (G0 : Gt) (k : Nat) (G : Gt) : Prop := ∃ z Gs, SW N B G0 k z Gs G
theorem SS_V {N B m k : Nat} {R G0 G : Gt} (h : SS N B m R G0 k G) : SV N B G0 k G := by
  obtain ⟨z, Gs, S, a, _, _⟩ := h
  exact ⟨z, Gs, a⟩
theorem eqc_self {Gs G : Gt} (h : eqc Gs G) : mxw Gs G = G := by rw [← mxw_c h, mxw_self]
theorem SV_7 {N B k : Nat} {G0 G : Gt} (h : SV N B G0 k G) : G 84 7 = 1 ∧ G 1 7 = nI N ∧ N ≤ 120 ∧ k ≤ B := by
  obtain ⟨z, Gs, hw, hf, h6, hz, hv, he, hp, hb⟩ := h
  obtain ⟨c1, c2, c3, c4, c5, c6, c7, c8, c9, c10, _⟩ := w_cells hw
  refine ⟨by rw [he 84 rfl]; exact c1, by rw [he 1 rfl]; exact hf.1.2.1, c7, by omega⟩
theorem SV_n {N B k : Nat} {G0 G : Gt} (h : SV N B G0 k G) : ∃ w, w < N ∧ ∀ K : Int32 → Gt → Prop, K (nI w) G → w_X10_next_B K G := by
  obtain ⟨h7, _⟩ := SV_7 h
  obtain ⟨z, Gs, hw, hf, h6, hz, hv, he, hp, hb⟩ := h
  obtain ⟨c1, c2, c3, c4, c5, c6, c7, c8, c9, c10, _⟩ := w_cells hw
  refine ⟨_, c6, fun K hk => ?_⟩
  unfold w_X10_next_B w_X10_next_B_j17 w_X2_waitingNode
  refine pif_n (by rw [h7]; decide) ?_
  have e : rat G 108 601 (G 84 11) = nI (z 1 (z 0 0)) := by
    rw [he 84 rfl, c3, rat_n (by omega) (by decide), he 108 rfl]; exact c5
  rw [e]
  exact hk
theorem SV_a {N B k : Nat} {G0 G : Gt} (h : SV N B G0 k G) : ∃ d, d ≤ 12 ∧ ∀ K : Int32 → Gt → Prop, K (nI d) G → w_X10_active_B K G := by
  obtain ⟨h7, _⟩ := SV_7 h
  obtain ⟨z, Gs, hw, hf, h6, hz, hv, he, hp, hb⟩ := h
  obtain ⟨hP, hA, hB, hC, hD, hE, hF, hG, hH, hI, hJ, hK, hL, hM, hNN, hO, hPg, hQ, hR, hS, hT, hU⟩ := hw.1
  obtain ⟨d, d1, d2, d3, d4, d5⟩ := hL.2
  refine ⟨d, d1, fun K hk => ?_⟩
  unfold w_X10_active_B w_X10_active_B_j17
  refine pif_n (by rw [h7]; decide) ?_
  rw [he 84 rfl, d3]
  exact hk
/-- it begins -/
theorem r_start_B {N m B : Nat} {R G : Gt} (h : Jn N R G) (h7 : G 84 7 = 0) (hm : m < N) (hB1 : 1 ≤ B) (hB2 : B ≤ 600) (hB : G 0 4 = nI B) (K : Int32 → Sh → Gt → Prop) (hK : ∀ G', lk6 G G' → SS N B m R G 0 G' → G' 11 = G 11 → (∀ K2 : Int32 → Gt → Prop, K2 (nI m) G' → w_X10_next_B K2 G') → (∀ K2 : Int32 → Sh → Gt → Prop, K2 49999 shB G' → w_L_look_B K2 0 G') → K 0 shB G') : w_L_start_B K (nI m) G := by
  have e04 : (mxw G R) 0 4 = G 0 4 := mx_C rfl
  obtain ⟨hN, h1, _, _⟩ := Jn_n h
  obtain ⟨hw, hf, h6, eC⟩ := st0_w (w := 0) (B := B) h hm hB2
  unfold w_L_start_B w_X10_start_B
  refine has_y h1 hN hm (pif_n (by decide) (step_By h7 (pif_p rfl ?_)))
  unfold w_X10_readyMachine_B w_X10_readyMachine_B_j30
  have key : K 0 shB (mxw (st0 0 B m (mxw G R)) G) := by
    have he : eqc (st0 0 B m (mxw G R)) (mxw (st0 0 B m (mxw G R)) G) := fun k q => mx_k q
    have e7 : (mxw (st0 0 B m (mxw G R)) G) 84 7 = 1 := by rw [mx_C rfl]; exact (w_cells hw).1
    have e11 : (mxw (st0 0 B m (mxw G R)) G) 84 11 = nI 0 := by rw [mx_C rfl]; exact (w_cells hw).2.2.1
    refine hK _ lk6_mx ⟨zI m, st0 0 B m (mxw G R), st0 0 B m (mxw G R), ⟨hw, hf, h6, rfl, ?_, he, fun k j q => ?_, fun k j q => ?_⟩, fun _ _ => rfl, st0_rl (rl_mx rl_rfl)⟩ ?_ (fun K2 hk => ?_) (fun K2 hk => ?_)
    · rw [st0_46.2.1]
      exact Or.inl ⟨by decide, by decide⟩
    · have q2 : k < 84 ∧ isR k = false := by
        rcases q with q | rfl | rfl
        · exact ⟨by have := pl0_b q; omega, pl0_f q⟩
        · exact ⟨by decide, rfl⟩
        · exact ⟨by decide, rfl⟩
      rw [mx_C q2.2, eC k j q2.1 q2.2, mx_C q2.2]
    · have hk : isR (k + 66) = false := by
        cases y : isR (k + 66)
        · rfl
        · have := isR_t y
          unfold bbk at q
          omega
      rw [mx_C hk, st0_b q, mx_C (bbk_f q)]
    · funext j
      rw [mx_C rfl, eC 11 j (by decide) rfl, mx_C rfl]
    · unfold w_X10_next_B w_X10_next_B_j17 w_X2_waitingNode
      refine pif_n (by rw [e7]; decide) ?_
      have c5 := (w_cells hw).2.2.2.2.1
      have e : rat (mxw (st0 0 B m (mxw G R)) G) 108 601 ((mxw (st0 0 B m (mxw G R)) G) 84 11) = nI m := by
        rw [e11, rat_n (by omega) (by decide), mx_C rfl]; exact c5
      rw [e]
      exact hk
    · unfold w_L_look_B w_X10_look_B
      refine pif_n (ibl_y (n := 8) rfl (by decide) (i := 0) (by decide) rfl) (pif_n (by rw [e7]; decide) ?_)
      obtain ⟨b1, b2⟩ := hw.1.2.2.1 0 (show 0 < zI m 0 8 from Nat.zero_lt_one)
      have b1 : (mxw (st0 0 B m (mxw G R)) G) 112 0 = nI 0 := by rw [mx_C rfl]; exact b1
      have k133 : (mxw (st0 0 B m (mxw G R)) G) 133 0 = 49999 := by
        rw [mx_C rfl]
        unfold st0
        rw [mx_C rfl]
        rfl
      have k131 : (mxw (st0 0 B m (mxw G R)) G) 131 0 = -1 := by
        rw [mx_C rfl]
        unfold st0
        rw [mx_C rfl]
        rfl
      unfold w_X2_seenByWaiting w_X7_valueOf w_X7_holderOf
      rw [e11, rat_n (by omega) (by decide), b1]
      refine ⟨2, ?_⟩
      rw [w_X7_holderOf_h5]
      refine pif_n (by decide) (pif_n (by decide) (pif_p ?_ ?_))
      · show rat _ 133 9680 (nI 0) = 49999
        rw [rat_n (by omega) (by decide)]; exact k133
      · have e : rat (mxw (st0 0 B m (mxw G R)) G) 131 1210 (nI 0) = -1 := by rw [rat_n (by omega) (by decide)]; exact k131
        rw [e, w_X7_holderOf_h5]
        refine pif_n (by decide) (pif_p rfl ?_)
        unfold w_X7_holderOf_j53 w_X7_valueOf_j30
        exact pif_p rfl hk
  have hm120 : m < 120 := by omega
  have := k_opn (K := fun G6 => K 0 shB G6) (q := 40) (B := nI B) (G := mxw G R) (R := G) hm120 (by
    rw [if_pos rfl]
    show K 0 shB (mxw (oC 0 (nI B) m (mxw G R)) G)
    have e : mxw (st0 0 B m (mxw G R)) G = mxw (oC 0 (nI B) m (mxw G R)) G := mxw_mc
    rw [← e]
    exact key)
  rw [mxw_mc, mxw_self, ← hB] at this
  exact this
