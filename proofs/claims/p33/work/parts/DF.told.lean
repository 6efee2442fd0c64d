/-! P33: letters, same, told -/
/-- letters that were taken down -/
def LTp (G G' : Gt) (b p : Nat) : Prop := ∀ b' p' l, b' < 2 → (b' < b ∨ (b' = b ∧ p' < p)) → p' < 31 → l ≤ 40 → G (20 + 5 * b') 2 = nI l → p' < l → G' 49 (31 * b' + p') = G (20 + 5 * b' + 2) p'
def LTi (G G' : Gt) (b p : Nat) : Prop := (∀ k, ¬ k = 49 → G' k = G k) ∧ LTp G G' b p
theorem lt14_A {K : Sh → Gt → Prop} {rec5 : Int32 → Int32 → Gt → Prop} {G : Gt} {b l : Nat} (hb : b < 2) (hl : l ≤ 40) (e2 : G (20 + 5 * b) 2 = nI l) (el : ∀ p, p < 40 → ∃ j, j < 26 ∧ G (20 + 5 * b + 2) p = nI j) (hrec : ∀ G', LTi G G' (b + 1) 0 → rec5 1 (nI (b + 1)) G') : ∀ (n p : Nat) (G' : Gt), p + n = 32 → p ≤ 31 → LTi G G' b p → w_L_letters_A_h14 K rec5 n 1 (nI b) (nI p) G' := by
  intro n
  induction n with
  | zero => intro p G' h1 h2; omega
  | succ n ih =>
    intro p G' hp hp2 hI
    have e31 : (31 : Int32) * nI b + nI p = nI (31 * b + p) := by rw [show (31 : Int32) = nI 31 from rfl, nI_mulx, nI_add]
    have ev : G' (20 + 5 * b) 2 = nI l := by rw [hI.1 _ (by omega)]; exact e2
    have done : (l ≤ p ∨ 31 ≤ p) → LTi G G' (b + 1) 0 := fun q => ⟨hI.1, fun b' p' l' h1 h2 h3 h40 h4 h5 => by
      refine hI.2 b' p' l' h1 ?_ h3 h40 h4 h5
      rcases Nat.lt_or_ge b' b with z | z
      · exact Or.inl z
      · have : b' = b := by omega
        subst this
        have := (nI_eq (by omega) (by omega)).mp (e2.symm.trans h4)
        exact Or.inr ⟨rfl, by omega⟩⟩
    rw [w_L_letters_A_h14]
    refine l_len_A hb _ ⟨rfl, ?_⟩
    rw [ev, nI_1]
    by_cases h1 : l ≤ p
    · exact pif_p (nI_le h1 (by omega)) (hrec _ (done (Or.inl h1)))
    · refine pif_n (fun q => h1 ((nI_leI (by omega) (by omega)).mp q)) ?_
      by_cases h31 : p = 31
      · exact pif_p (by rw [h31]; decide) (hrec _ (done (Or.inr (by omega))))
      · refine pif_n (nI_ge (b := 31) (by omega) (by decide)) (l_let_A hb hl (by omega) ev _ ⟨rfl, ?_⟩)
        obtain ⟨j, hj, ej⟩ := el p (by omega)
        have ej' : G' (20 + 5 * b + 2) p = nI j := by rw [hI.1 _ (by omega)]; exact ej
        rw [ej', e31, nI_clamp (by omega), nI_1]
        refine pif_n (nI_lt0 (by omega)) (pif_n (nI_ge (b := 26) (by omega) (by decide)) (pif_n (by decide) ⟨vp_n (by omega) (by decide), pt_of (ih (p + 1) _ (by omega) (by omega) ⟨fun k hk => ?_, fun b' p' l' h1 h2 h3 h40 h4 h5 => ?_⟩)⟩))
        · rw [← hI.1 k hk]
          funext i
          exact gu_oo _ hk
        · by_cases z : b' = b ∧ p' = p
          · obtain ⟨rfl, rfl⟩ := z
            rw [gu_kk]; exact ej.symm
          · rw [gu_ko _ (by omega)]
            exact hI.2 b' p' l' h1 (by omega) h3 h40 h4 h5
theorem lt5_A {K : Sh → Gt → Prop} {G : Gt} (hw : wlC G) (hK : ∀ G', LTi G G' 2 0 → K shA G') : ∀ (n b : Nat) (G' : Gt), b + n = 3 → b ≤ 2 → LTi G G' b 0 → w_L_letters_A_h5 K n 1 (nI b) G' := by
  intro n
  induction n with
  | zero => intro b G' h1 h2; omega
  | succ n ih =>
    intro b G' hb hb2 hI
    rw [w_L_letters_A_h5]
    by_cases h2 : b = 2
    · subst h2
      exact pif_p (by decide) (hK _ hI)
    · obtain ⟨l, c, hl, hc, e2, e3, ec, ek, el⟩ := hw.1 b (by omega)
      exact pif_n (nI_ge (b := 2) (by omega) (by decide)) ⟨32, by decide, lt14_A (by omega) hl e2 el (fun G'' h => ih (b + 1) G'' (by omega) (by omega) h) 32 0 _ rfl (by decide) hI⟩
theorem letters1_A {K : Sh → Gt → Prop} {G : Gt} (hw : wlC G) (hK : ∀ G', LTi G G' 2 0 → K shA G') : w_L_letters_A K 1 G :=
  ⟨3, by decide, lt5_A hw hK 3 0 G rfl (by decide) ⟨fun _ _ => rfl, fun b' p' l h1 h2 => by omega⟩⟩
theorem lt14_B {K : Sh → Gt → Prop} {rec5 : Int32 → Int32 → Gt → Prop} {G : Gt} {b l : Nat} (hb : b < 2) (hl : l ≤ 40) (e2 : G (20 + 5 * b) 2 = nI l) (el : ∀ p, p < 40 → ∃ j, j < 26 ∧ G (20 + 5 * b + 2) p = nI j) (hrec : ∀ G', LTi G G' (b + 1) 0 → rec5 1 (nI (b + 1)) G') : ∀ (n p : Nat) (G' : Gt), p + n = 32 → p ≤ 31 → LTi G G' b p → w_L_letters_B_h14 K rec5 n 1 (nI b) (nI p) G' := by
  intro n
  induction n with
  | zero => intro p G' h1 h2; omega
  | succ n ih =>
    intro p G' hp hp2 hI
    have e31 : (31 : Int32) * nI b + nI p = nI (31 * b + p) := by rw [show (31 : Int32) = nI 31 from rfl, nI_mulx, nI_add]
    have ev : G' (20 + 5 * b) 2 = nI l := by rw [hI.1 _ (by omega)]; exact e2
    have done : (l ≤ p ∨ 31 ≤ p) → LTi G G' (b + 1) 0 := fun q => ⟨hI.1, fun b' p' l' h1 h2 h3 h40 h4 h5 => by
      refine hI.2 b' p' l' h1 ?_ h3 h40 h4 h5
      rcases Nat.lt_or_ge b' b with z | z
      · exact Or.inl z
      · have : b' = b := by omega
        subst this
        have := (nI_eq (by omega) (by omega)).mp (e2.symm.trans h4)
        exact Or.inr ⟨rfl, by omega⟩⟩
    rw [w_L_letters_B_h14]
    refine l_len_B hb _ ⟨rfl, ?_⟩
    rw [ev, nI_1]
    by_cases h1 : l ≤ p
    · exact pif_p (nI_le h1 (by omega)) (hrec _ (done (Or.inl h1)))
    · refine pif_n (fun q => h1 ((nI_leI (by omega) (by omega)).mp q)) ?_
      by_cases h31 : p = 31
      · exact pif_p (by rw [h31]; decide) (hrec _ (done (Or.inr (by omega))))
      · refine pif_n (nI_ge (b := 31) (by omega) (by decide)) (l_let_B hb hl (by omega) ev _ ⟨rfl, ?_⟩)
        obtain ⟨j, hj, ej⟩ := el p (by omega)
        have ej' : G' (20 + 5 * b + 2) p = nI j := by rw [hI.1 _ (by omega)]; exact ej
        rw [ej', e31, nI_clamp (by omega), nI_1]
        refine pif_n (nI_lt0 (by omega)) (pif_n (nI_ge (b := 26) (by omega) (by decide)) (pif_n (by decide) ⟨vp_n (by omega) (by decide), pt_of (ih (p + 1) _ (by omega) (by omega) ⟨fun k hk => ?_, fun b' p' l' h1 h2 h3 h40 h4 h5 => ?_⟩)⟩))
        · rw [← hI.1 k hk]
          funext i
          exact gu_oo _ hk
        · by_cases z : b' = b ∧ p' = p
          · obtain ⟨rfl, rfl⟩ := z
            rw [gu_kk]; exact ej.symm
          · rw [gu_ko _ (by omega)]
            exact hI.2 b' p' l' h1 (by omega) h3 h40 h4 h5
theorem lt5_B {K : Sh → Gt → Prop} {G : Gt} (hw : wlC G) (hK : ∀ G', LTi G G' 2 0 → K shB G') : ∀ (n b : Nat) (G' : Gt), b + n = 3 → b ≤ 2 → LTi G G' b 0 → w_L_letters_B_h5 K n 1 (nI b) G' := by
  intro n
  induction n with
  | zero => intro b G' h1 h2; omega
  | succ n ih =>
    intro b G' hb hb2 hI
    rw [w_L_letters_B_h5]
    by_cases h2 : b = 2
    · subst h2
      exact pif_p (by decide) (hK _ hI)
    · obtain ⟨l, c, hl, hc, e2, e3, ec, ek, el⟩ := hw.1 b (by omega)
      exact pif_n (nI_ge (b := 2) (by omega) (by decide)) ⟨32, by decide, lt14_B (by omega) hl e2 el (fun G'' h => ih (b + 1) G'' (by omega) (by omega) h) 32 0 _ rfl (by decide) hI⟩
theorem letters1_B {K : Sh → Gt → Prop} {G : Gt} (hw : wlC G) (hK : ∀ G', LTi G G' 2 0 → K shB G') : w_L_letters_B K 1 G :=
  ⟨3, by decide, lt5_B hw hK 3 0 G rfl (by decide) ⟨fun _ _ => rfl, fun b' p' l h1 h2 => by omega⟩⟩
/-- held against what was taken down -/
theorem lz14 {K : Sh → Gt → Prop} {rec5 : Int32 → Int32 → Gt → Prop} {G : Gt} {b l : Nat} (hb : b < 2) (hl : l ≤ 40) (e2 : G (20 + 5 * b) 2 = nI l) (el : ∀ p, p < 40 → ∃ j, j < 26 ∧ G (20 + 5 * b + 2) p = nI j) (ht : ∀ p, p < 31 → p < l → G 49 (31 * b + p) = G (20 + 5 * b + 2) p) (hrec : rec5 0 (nI (b + 1)) G) : ∀ (n p : Nat), p + n = 32 → p ≤ 31 → w_L_letters_B_h14 K rec5 n 0 (nI b) (nI p) G := by
  intro n
  induction n with
  | zero => intro p h1 h2; omega
  | succ n ih =>
    intro p hp hp2
    have e31 : (31 : Int32) * nI b + nI p = nI (31 * b + p) := by rw [show (31 : Int32) = nI 31 from rfl, nI_mulx, nI_add]
    rw [w_L_letters_B_h14]
    refine l_len_B hb _ ⟨rfl, ?_⟩
    rw [e2, nI_1]
    by_cases h1 : l ≤ p
    · exact pif_p (nI_le h1 (by omega)) hrec
    · refine pif_n (fun q => h1 ((nI_leI (by omega) (by omega)).mp q)) ?_
      by_cases h31 : p = 31
      · exact pif_p (by rw [h31]; decide) hrec
      · refine pif_n (nI_ge (b := 31) (by omega) (by decide)) (l_let_B hb hl (by omega) e2 _ ⟨rfl, ?_⟩)
        obtain ⟨j, hj, ej⟩ := el p (by omega)
        have et := ht p (by omega) (by omega)
        rw [ej] at et
        rw [ej, e31, nI_clamp (by omega), nI_1]
        refine pif_n (nI_lt0 (by omega)) (pif_n (nI_ge (b := 26) (by omega) (by decide)) (pif_p rfl ⟨vp_n (by omega) (by decide), pif_p et ⟨vp_n (by omega) (by decide), pt_of ?_⟩⟩))
        rw [gu_sm et.symm]
        exact ih (p + 1) (by omega) (by omega)
theorem lz5 {K : Sh → Gt → Prop} {G : Gt} (hw : wlC G) (ht : ∀ b p l, b < 2 → p < 31 → l ≤ 40 → G (20 + 5 * b) 2 = nI l → p < l → G 49 (31 * b + p) = G (20 + 5 * b + 2) p) (hK : K shB G) : ∀ (n b : Nat), b + n = 3 → b ≤ 2 → w_L_letters_B_h5 K n 0 (nI b) G := by
  intro n
  induction n with
  | zero => intro b h1 h2; omega
  | succ n ih =>
    intro b hb hb2
    rw [w_L_letters_B_h5]
    by_cases h2 : b = 2
    · subst h2
      exact pif_p (by decide) hK
    · obtain ⟨l, c, hl, hc, e2, e3, ec, ek, el⟩ := hw.1 b (by omega)
      exact pif_n (nI_ge (b := 2) (by omega) (by decide)) ⟨32, by decide, lz14 (by omega) hl e2 el (fun p p1 p2 => ht b p l (by omega) p1 hl e2 p2) (ih (b + 1) (by omega) (by omega)) 32 0 rfl (by decide)⟩
/-- all is as it was noted -/
def SM (G : Gt) : Prop := (∀ i, i < 26 → G 48 i = nt G i) ∧ ∀ b p l, b < 2 → p < 31 → l ≤ 40 → G (20 + 5 * b) 2 = nI l → p < l → G 49 (31 * b + p) = G (20 + 5 * b + 2) p
theorem SM_eq {G G' : Gt} (h : SM G) (e : ∀ k j, bbk k j → G' k j = G k j) (e48 : G' 48 = G 48) (e49 : G' 49 = G 49) : SM G' := by
  refine ⟨fun i hi => ?_, fun b p l hb hp h40 h2 hl => ?_⟩
  · rw [e48, nt_eq e hi]; exact h.1 i hi
  · rw [e49]
    rw [e (20 + 5 * b) 2 (by unfold bbk; omega)] at h2
    by_cases p40 : p < 40
    · rw [e (20 + 5 * b + 2) p (by unfold bbk; omega)]
      exact h.2 b p l hb hp h40 h2 hl
    · omega
theorem sm15 {K : Sh → Gt → Prop} {G : Gt} (hw : wlC G) (hs : SM G) (h51 : ∀ i, i < 26 → G 51 i = nt G i) (hK : K shB G) : ∀ (n i : Nat), i + n = 27 → i ≤ 26 → w_L_same_B_h15 K n (nI i) G := by
  intro n
  induction n with
  | zero => intro i h1 h2; omega
  | succ n ih =>
    intro i hi hi2
    rw [w_L_same_B_h15]
    by_cases h26 : i = 26
    · subst h26
      refine pif_p (by decide) ⟨3, by decide, lz5 hw hs.2 ⟨rfl, ?_⟩ 3 0 rfl (by decide)⟩
      refine pt_of ?_
      rw [frm_self]
      exact hK
    · rw [nI_clamp (by omega), nI_1]
      exact pif_n (nI_ge (b := 26) (by omega) (by decide)) ⟨vp_n (by omega) (by decide), vp_n (by omega) (by decide), pif_p ((h51 i (by omega)).trans (hs.1 i (by omega)).symm) (ih (i + 1) (by omega) (by omega))⟩
theorem same_B {K : Sh → Gt → Prop} {G : Gt} (hw : wlC G) (hs : SM G) (hK : ∀ G', (∀ k, ¬ k = 51 → G' k = G k) → K shB G') : w_L_same_B K G := by
  unfold w_L_same_B
  have e : ∀ k, ¬ k = 51 → (gz G 51 0) k = G k := fun k hk => by
    funext j
    unfold gz
    rw [if_neg hk]
  have hw' : ∀ G' : Gt, (∀ k, ¬ k = 51 → G' k = G k) → wlC G' := fun G' e => by
    refine ⟨fun b hb => ?_, ?_⟩
    · have := hw.1 b hb
      unfold txB at this ⊢
      rw [e (20 + 5 * b) (by omega), e (20 + 5 * b + 2) (by omega), e (20 + 5 * b + 4) (by omega)]
      exact this
    · rw [e 19 (by decide)]; exact hw.2
  have hn : ∀ G' : Gt, (∀ k, ¬ k = 51 → G' k = G k) → ∀ k j, bbk k j → G' k j = G k j := fun G' e k j q => by
    unfold bbk at q
    rw [e k (by omega)]
  refine pt_of (notes_N (hw' _ e) (fun G' hI => ⟨rfl, 27, by decide, ?_⟩))
  have e' : ∀ k, ¬ k = 51 → G' k = G k := fun k hk => (hI.1 k hk).trans (e k hk)
  have hs' : SM G' := SM_eq hs (hn _ e') (e' 48 (by decide)) (e' 49 (by decide))
  refine sm15 (hw' _ e') hs' (fun i hi => ?_) (hK _ e') 27 0 rfl (by decide)
  rw [hI.2 i hi trivial, nt_eq (hn _ e) hi, nt_eq (hn _ e') hi]
/-- what is told of the last run, as the law has it -/
def TD (N : Nat) (G : Gt) : Prop := G 47 0 = nI N ∧ G 47 2 = G 40 0 ∧ G 47 3 = G 40 1 ∧ G 47 4 = G 40 2 ∧ G 47 5 = G 40 3 ∧ tvC N G
theorem td135_A {N c : Nat} {K : Sh → Gt → Prop} {G : Gt} (hN : N ≤ 120) (h0 : G 47 0 = nI N) (hc : c ≤ 13) (e3 : G 40 3 = nI c) (h5 : G 47 5 = nI c) (ht : ∀ p, p < c → ∃ i, i < N ∧ G 42 p = nI i) (hK : K shA G) : ∀ (n p : Nat), p + n = 14 → p ≤ c → w_L_told_A_h135 K n (nI p) G := by
  intro n
  induction n with
  | zero => intro p h1 h2; omega
  | succ n ih =>
    intro p hp hpc
    rw [w_L_told_A_h135]
    refine ⟨by unfold vp_in; decide, ?_⟩
    show pif (G 47 5 ≤ nI p) _ _
    rw [h5]
    by_cases h : p = c
    · subst h
      exact pif_p (i_ler _) hK
    · obtain ⟨i, hi, ei⟩ := ht p (by omega)
      refine pif_n (fun q => by have := (nI_leI (by omega) (by omega)).mp q; omega) (l_tr_A hc (by omega) e3 _ ⟨rfl, ?_⟩)
      rw [ei, nI_1]
      refine pif_n (nI_lt0 (by omega)) (l_tr_A hc (by omega) e3 _ ⟨rfl, by unfold vp_in; decide, ?_⟩)
      show pif (G 47 0 ≤ G 42 p) _ _
      rw [ei, h0]
      exact pif_n (fun q => by have := (nI_leI (by omega) (by omega)).mp q; omega) (ih (p + 1) (by omega) (by omega))
theorem told_A {N : Nat} {K : Sh → Gt → Prop} {G : Gt} (hN : N ≤ 120) (hT : TD N G) (hK : K shA G) : w_L_told_A K G := by
  obtain ⟨h0, h2, h3, h4, h5, hv⟩ := hT
  have c89 : ∀ c, c ≤ 13 → G 40 3 = nI c → (∀ p, p < c → ∃ i, i < N ∧ G 42 p = nI i) → w_L_told_A_j89 K G := by
    intro c hc e3 ht
    have h5' : G 47 5 = nI c := h5.trans e3
    unfold w_L_told_A_j89
    unfold w_X10_next_A w_X10_next_A_j17 w_X10_active_A w_X10_active_A_j17
    refine pif_p rfl (pif_p rfl ⟨by unfold vp_in; decide, ?_⟩)
    show w_L_traceAt_A _ (G 47 5) G
    rw [h5']
    refine l_trx_A hc e3 (Or.inl rfl) _ ⟨rfl, pif_p rfl (l_trx_A hc e3 (Or.inr rfl) _ ⟨rfl, pif_p rfl ⟨14, by decide, td135_A hN h0 hc e3 h5' ht hK 14 0 rfl (Nat.zero_le _)⟩⟩)⟩
  have c13 : ∀ y, (y = 0 → G 40 3 = 0 ∧ G 40 2 = 50000) → (¬ y = 0 → ∃ c, 1 ≤ c ∧ c ≤ 13 ∧ G 40 3 = nI c ∧ ∀ p, p < c → ∃ i, i < N ∧ G 42 p = nI i) → w_L_told_A_j13 K y G := by
    intro y y0 y1
    unfold w_L_told_A_j13 w_X10_outcome_A w_X10_steps_A w_X10_cause_A w_X10_traced_A
    refine ⟨by unfold vp_in; decide, pif_p h2.symm ⟨by unfold vp_in; decide, pif_p h3.symm ⟨by unfold vp_in; decide, pif_p h4.symm ⟨by unfold vp_in; decide, pif_p h5.symm ?_⟩⟩⟩⟩
    by_cases hy : y = 0
    · obtain ⟨a, b⟩ := y0 hy
      exact pif_p hy ⟨by unfold vp_in; decide, pif_p (h5.trans a) ⟨by unfold vp_in; decide, pif_p (h4.trans b) (c89 0 (by decide) a (fun p hp => by omega))⟩⟩
    · obtain ⟨c, c1, c2, c3, c4⟩ := y1 hy
      refine pif_n hy ⟨by unfold vp_in; decide, pif_n ?_ ⟨by unfold vp_in; decide, pif_n ?_ (c89 c c2 c3 c4)⟩⟩
      · show ¬ G 47 5 ≤ 0
        rw [h5, c3]
        intro q
        have := (nI_leL (a := 0) rfl (by omega) (by decide)).mp q
        omega
      · show ¬ 14 ≤ G 47 5
        rw [h5, c3]
        exact nI_ge (b := 14) (by omega) (by decide)
  unfold w_L_told_A
  refine ⟨by unfold vp_in; decide, ?_⟩
  show pif (G 47 2 ≤ 39999) _ _
  rw [h2]
  rcases hv with ⟨a, b, c⟩ | ⟨a, b⟩
  · exact pif_p a (c13 0 (fun _ => ⟨b, c⟩) (fun q => absurd rfl q))
  · exact pif_n a (c13 1 (fun q => absurd q (by decide)) (fun _ => b))
theorem td135_B {N c : Nat} {K : Sh → Gt → Prop} {G : Gt} (hN : N ≤ 120) (h0 : G 47 0 = nI N) (hc : c ≤ 13) (e3 : G 40 3 = nI c) (h5 : G 47 5 = nI c) (ht : ∀ p, p < c → ∃ i, i < N ∧ G 42 p = nI i) (hK : K shB G) : ∀ (n p : Nat), p + n = 14 → p ≤ c → w_L_told_B_h135 K n (nI p) G := by
  intro n
  induction n with
  | zero => intro p h1 h2; omega
  | succ n ih =>
    intro p hp hpc
    rw [w_L_told_B_h135]
    refine ⟨by unfold vp_in; decide, ?_⟩
    show pif (G 47 5 ≤ nI p) _ _
    rw [h5]
    by_cases h : p = c
    · subst h
      exact pif_p (i_ler _) hK
    · obtain ⟨i, hi, ei⟩ := ht p (by omega)
      refine pif_n (fun q => by have := (nI_leI (by omega) (by omega)).mp q; omega) (l_tr_B hc (by omega) e3 _ ⟨rfl, ?_⟩)
      rw [ei, nI_1]
      refine pif_n (nI_lt0 (by omega)) (l_tr_B hc (by omega) e3 _ ⟨rfl, by unfold vp_in; decide, ?_⟩)
      show pif (G 47 0 ≤ G 42 p) _ _
      rw [ei, h0]
      exact pif_n (fun q => by have := (nI_leI (by omega) (by omega)).mp q; omega) (ih (p + 1) (by omega) (by omega))
theorem told_B {N : Nat} {K : Sh → Gt → Prop} {G : Gt} (hN : N ≤ 120) (hT : TD N G) (h7 : G 84 7 = 0) (hK : K shB G) : w_L_told_B K G := by
  obtain ⟨h0, h2, h3, h4, h5, hv⟩ := hT
  have c89 : ∀ c, c ≤ 13 → G 40 3 = nI c → (∀ p, p < c → ∃ i, i < N ∧ G 42 p = nI i) → w_L_told_B_j89 K G := by
    intro c hc e3 ht
    have h5' : G 47 5 = nI c := h5.trans e3
    unfold w_L_told_B_j89
    refine n_0 h7 _ (pif_p rfl (a_0 h7 _ (pif_p rfl ⟨by unfold vp_in; decide, ?_⟩)))
    show w_L_traceAt_B _ (G 47 5) G
    rw [h5']
    refine l_trx_B hc e3 (Or.inl rfl) _ ⟨rfl, pif_p rfl (l_trx_B hc e3 (Or.inr rfl) _ ⟨rfl, pif_p rfl ⟨14, by decide, td135_B hN h0 hc e3 h5' ht hK 14 0 rfl (Nat.zero_le _)⟩⟩)⟩
  have c13 : ∀ y, (y = 0 → G 40 3 = 0 ∧ G 40 2 = 50000) → (¬ y = 0 → ∃ c, 1 ≤ c ∧ c ≤ 13 ∧ G 40 3 = nI c ∧ ∀ p, p < c → ∃ i, i < N ∧ G 42 p = nI i) → w_L_told_B_j13 K y G := by
    intro y y0 y1
    unfold w_L_told_B_j13 w_X10_outcome_B w_X10_steps_B w_X10_cause_B w_X10_traced_B
    refine ⟨by unfold vp_in; decide, pif_p h2.symm ⟨by unfold vp_in; decide, pif_p h3.symm ⟨by unfold vp_in; decide, pif_p h4.symm ⟨by unfold vp_in; decide, pif_p h5.symm ?_⟩⟩⟩⟩
    by_cases hy : y = 0
    · obtain ⟨a, b⟩ := y0 hy
      exact pif_p hy ⟨by unfold vp_in; decide, pif_p (h5.trans a) ⟨by unfold vp_in; decide, pif_p (h4.trans b) (c89 0 (by decide) a (fun p hp => by omega))⟩⟩
    · obtain ⟨c, c1, c2, c3, c4⟩ := y1 hy
      refine pif_n hy ⟨by unfold vp_in; decide, pif_n ?_ ⟨by unfold vp_in; decide, pif_n ?_ (c89 c c2 c3 c4)⟩⟩
      · show ¬ G 47 5 ≤ 0
        rw [h5, c3]
        intro q
        have := (nI_leL (a := 0) rfl (by omega) (by decide)).mp q
        omega
      · show ¬ 14 ≤ G 47 5
        rw [h5, c3]
        exact nI_ge (b := 14) (by omega) (by decide)
  unfold w_L_told_B
  refine ⟨by unfold vp_in; decide, ?_⟩
  show pif (G 47 2 ≤ 39999) _ _
  rw [h2]
  rcases hv with ⟨a, b, c⟩ | ⟨a, b⟩
  · exact pif_p a (c13 0 (fun _ => ⟨b, c⟩) (fun q => absurd rfl q))
  · exact pif_n a (c13 1 (fun q => absurd q (by decide)) (fun _ => b))
