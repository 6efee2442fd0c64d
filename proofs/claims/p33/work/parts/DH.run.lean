/-! P33: a run that is told ahead, and done at once or stepped -/
def IBx (G : Gt) : Prop := (∃ N R, INV N 300 R G) ∧ G 84 7 = 0
theorem nI_m1 {N : Nat} (hN : N < 2 ^ 31) : ¬ nI N ≤ -1 := fun q => by
  rw [Int32.le_iff_toInt_le] at q
  have a : (nI N).toInt = (N : Int) := nI_toInt hN
  have b : (-1 : Int32).toInt = -1 := by decide
  omega
/-- behind notes and letters all is as it was noted -/
theorem SM_of {G1 G4 G6 : Gt} (h4 : NTi 48 G1 G4 (fun _ => True)) (h6 : LTi G4 G6 2 0) : SM G6 := by
  have e : ∀ k j, bbk k j → G6 k j = G1 k j := fun k j q => by
    unfold bbk at q
    rw [h6.1 k (by omega), h4.1 k (by omega)]
  refine ⟨fun i hi => ?_, fun b p l hb hp h40 h2 hl => ?_⟩
  · rw [h6.1 48 (by decide), h4.2 i hi trivial, nt_eq e hi]
  · rw [h6.1 _ (by omega)] at h2
    rw [h6.1 (20 + 5 * b + 2) (by omega)]
    exact h6.2 b p l hb (Or.inl hb) hp h40 h2 hl
theorem j427_A {N n : Nat} {o : Int32} {K : Sh → Gt → Prop} {R G0 G : Gt} (hI : INV N 300 R G0) (hS : SM G0) (hf : fin9 N G0 n o G) (e11 : G 11 = G0 11) (h6 : ∀ q, 46 ≤ q → q ≤ 49 → G q = G0 q) (hK : ∀ G', IBx G' → K shB G') : w_L_runs_A_j427 K o (nI n) G := by
  obtain ⟨f7, f0, f1, fv, fp, fb, R', fJ⟩ := hf
  obtain ⟨i1, i2, i3, i4, i5, ⟨t0, _, _, _, _, _⟩, i7⟩ := hI
  have hN := (Jn_n fJ).1
  have key : ∀ X, X = gu (gu (gu (gu G 47 2 o) 47 3 (nI n)) 47 4 (G 40 2)) 47 5 (G 40 3) → INV N 300 R' X ∧ (¬ o < 40000 → SM X) ∧ X 84 7 = 0 := by
    rintro X rfl
    have e : ∀ k j, ¬ (k = 47 ∧ 2 ≤ j ∧ j ≤ 5) → (gu (gu (gu (gu G 47 2 o) 47 3 (nI n)) 47 4 (G 40 2)) 47 5 (G 40 3)) k j = G k j := fun k j q => by
      rw [gu_n (by omega), gu_n (by omega), gu_n (by omega), gu_n (by omega)]
    refine ⟨⟨Jn_keq fJ (fun k j q => e k j (by have := kC_b q; omega)), i2, fun m hm => ?_, ?_, ?_, ⟨?_, ?_, ?_, ?_, ?_, ?_⟩, fun m hm => ?_⟩, fun q => ?_, ?_⟩
    · rw [e 46 m (by omega), e 9 m (by omega), h6 46 (by decide) (by decide), fp 9 m (by unfold pl0; omega)]; exact i3 m hm
    · rw [e 47 1 (by omega), h6 47 (by decide) (by decide)]; exact i4
    · rw [e 0 4 (by omega), fp 0 4 (by unfold pl0; omega)]; exact i5
    · rw [e 47 0 (by omega), h6 47 (by decide) (by decide)]; exact t0
    · rw [e 40 0 (by omega), f0, gu_n (by omega), gu_n (by omega), gu_n (by omega), gu_kk]
    · rw [e 40 1 (by omega), f1, gu_n (by omega), gu_n (by omega), gu_kk]
    · rw [e 40 2 (by omega), gu_n (by omega), gu_kk]
    · rw [e 40 3 (by omega), gu_kk]
    · exact tvC_eq fv (fun k j q => e k j (by omega))
    · rw [e 11 m (by omega), e11]; exact i7 m hm
    · refine SM_eq hS (fun k j b => ?_) ?_ ?_
      · rw [e k j (by unfold bbk at b; omega)]; exact fb q k j b
      · funext j; rw [e 48 j (by omega), h6 48 (by decide) (by decide)]
      · funext j; rw [e 49 j (by omega), h6 49 (by decide) (by decide)]
    · rw [e 84 7 (by omega)]; exact f7
  obtain ⟨kI, kS, k7⟩ := key _ rfl
  unfold w_L_runs_A_j427 w_X10_cause_B w_X10_traced_B
  refine ⟨by unfold vp_in; decide, pt_of ⟨by unfold vp_in; decide, pt_of ?_⟩⟩
  refine pt_of ?_
  rw [frm_self]
  refine ⟨by unfold vp_in; decide, pt_of ?_⟩
  refine pt_of ?_
  rw [frm_self]
  refine ⟨by unfold vp_in; decide, pt_of ?_⟩
  refine told_B hN kI.2.2.2.2.2.1 k7 ⟨rfl, ?_⟩
  refine pt_of ?_
  rw [frm_self]
  by_cases q : o < 40000
  · exact pif_p q (hK _ ⟨⟨N, R', kI⟩, k7⟩)
  · refine pif_n q (same_B (Jn_w kI.1) (kS q) (fun G' e => ⟨rfl, ?_⟩))
    refine pt_of ?_
    rw [frm_eq (e 50 (by decide))]
    exact hK _ ⟨⟨N, R', INV_k kI (keq_cw (fun k hk => e k (by omega))) (e 46 (by decide)) (e 47 (by decide))⟩, by rw [e 84 (by decide)]; exact k7⟩
theorem hEnd_A {N n nn : Nat} {o s : Int32} {K : Sh → Gt → Prop} {R G0 G : Gt} (hI : INV N 300 R G0) (hS : SM G0) (hf : fin9 N G0 n o G) (e11 : G 11 = G0 11) (h6 : ∀ q, 46 ≤ q → q ≤ 49 → G q = G0 q) (hK : ∀ G', IBx G' → K shB G') : w_L_runs_A_h304 K (nn + 1) s o (nI n) (nI n) G := by
  have f7 := hf.1
  rw [w_L_runs_A_h304]
  refine n_0 f7 _ ?_
  refine pt_of ?_
  rw [frm_self]
  refine pif_p (by decide) (pif_p rfl (rf_step f7 _ ⟨rfl, ?_⟩))
  refine pt_of ?_
  rw [frm_self]
  refine pif_p rfl (rf_giveUp f7 _ ⟨rfl, ?_⟩)
  refine pt_of ?_
  rw [frm_self]
  refine pif_p rfl (rf_look f7 _ ⟨rfl, ?_⟩)
  refine pt_of ?_
  rw [frm_self]
  exact pif_p rfl (j427_A hI hS hf e11 h6 hK)
theorem h304_A {N m n s : Nat} {o : Int32} {K : Sh → Gt → Prop} {R G0 : Gt} (hI : INV N 300 R G0) (hS : SM G0) (hs1 : 1 ≤ s) (hs : s ≤ 600) (hn : n ≤ 300) (hsem : SEM R 300 m n o) (hK : ∀ G', IBx G' → K shB G') : ∀ (nn k : Nat) (G : Gt), 302 ≤ k + nn → SS N 300 m R G0 k G → G 11 = G0 11 → (∀ q, 46 ≤ q → q ≤ 49 → G q = G0 q) → w_L_runs_A_h304 K nn (nI s) o (nI n) (nI k) G := by
  have hN := (Jn_n hI.1).1
  have t0 := hI.2.2.2.2.2.1.1
  intro nn
  induction nn with
  | zero =>
    intro k G h1 hss
    have := (SV_7 (SS_V hss)).2.2.2
    omega
  | succ nn ih =>
    intro k G h1 hss e11 h6
    have hkB := (SV_7 (SS_V hss)).2.2.2
    rw [w_L_runs_A_h304]
    obtain ⟨w, hw, hnx⟩ := SV_n (SS_V hss)
    refine hnx _ ?_
    refine pt_of ?_
    rw [frm_self]
    refine pif_n (nI_lt0 (by omega)) ?_
    obtain ⟨t, ht, _, hor⟩ := r_step_B (by decide) hss hs1 hs
    rcases hor with ⟨o', hsem', ho, hstep⟩ | ⟨ht1, hstep⟩
    · obtain ⟨en, eo⟩ := (SEM_cmp rl_rfl (Nat.le_refl _) hsem hsem').1 hn
      subst eo
      refine hstep _ (fun G' hl hf e11' => ⟨rfl, ?_⟩)
      refine pt_of ?_
      rw [frm_eq (hl 50 rfl)]
      refine pif_n (nI_lt0 (by omega)) (pif_n (nI_nltx rfl ht (by omega)) (a_0 hf.1 _ ?_))
      refine pt_of ?_
      rw [frm_self]
      refine pif_n (by decide) (a_0 hf.1 _ ?_)
      refine pt_of ?_
      rw [frm_self]
      refine pif_n (by decide) (n_0 hf.1 _ ?_)
      refine pt_of ?_
      rw [frm_self]
      refine ⟨by unfold vp_in; decide, pif_n ?_ ?_⟩
      · show ¬ G' 47 0 ≤ -1
        rw [hl 47 rfl, h6 47 (by decide) (by decide), t0]
        exact nI_m1 (by omega)
      · obtain ⟨nn', rfl⟩ : ∃ nn', nn = nn' + 1 := ⟨nn - 1, by omega⟩
        rw [nI_add, en]
        rw [en] at hf
        exact hEnd_A hI hS hf (e11'.trans e11) (fun q a b => (hl q (isR_o a (by omega))).trans (h6 q a b)) hK
    · refine hstep _ (fun G' hl hss' e11' => ⟨rfl, ?_⟩)
      refine pt_of ?_
      rw [frm_eq (hl 50 rfl)]
      obtain ⟨d, hd, ha⟩ := SV_a (SS_V hss')
      obtain ⟨w', hw', hnx'⟩ := SV_n (SS_V hss')
      refine pif_n (nI_lt0 (by omega)) (pif_n (nI_nltx rfl ht (by omega)) (ha _ ?_))
      refine pt_of ?_
      rw [frm_self]
      refine pif_n (nI_lt0 (by omega)) (ha _ ?_)
      refine pt_of ?_
      rw [frm_self]
      refine pif_n (nI_ge (b := 13) (by omega) (by decide)) (hnx' _ ?_)
      refine pt_of ?_
      rw [frm_self]
      refine ⟨by unfold vp_in; decide, pif_n ?_ ?_⟩
      · show ¬ G' 47 0 ≤ nI w'
        rw [hl 47 rfl, h6 47 (by decide) (by decide), t0]
        exact nI_ge hw' (by omega)
      · rw [nI_add]
        exact ih (k + t) G' (by omega) hss' (e11'.trans e11) (fun q a b => (hl q (isR_o a (by omega))).trans (h6 q a b))
theorem h74_A {N m n s : Nat} {o x5 : Int32} {K : Sh → Gt → Prop} {R G : Gt} (hI : INV N 300 R G) (hS : SM G) (hr : ∀ k, k < 4 → G 50 k = G 33 k) (h7 : G 84 7 = 0) (hm : m < N) (hx5 : x5 = 0 ∨ x5 = 1) (hs1 : 1 ≤ s) (hs : s ≤ 600) (hn1 : 1 ≤ n) (hn : n ≤ 300) (hsem : SEM R 300 m n o) (ho : isO o) (hK : ∀ G', IBx G' → K shB G') : ∀ (nn j : Nat), j + nn = 5 → j ≤ 4 → w_L_runs_A_h74 K nn (nI m) x5 (nI s) o (nI n) (nI j) G := by
  have hN := (Jn_n hI.1).1
  intro nn
  induction nn with
  | zero => intro j h1 h2; omega
  | succ nn ih =>
    intro j hj hj4
    rw [w_L_runs_A_h74]
    by_cases h4 : j = 4
    · subst h4
      refine pif_p (by decide) (isO_y ho _ _ (pif_n (by decide) (pif_n ?_ ⟨by unfold vp_in; decide, pif_n ?_ (told_B hN hI.2.2.2.2.2.1 h7 ⟨rfl, ?_⟩)⟩)))
      · intro q
        have := (nI_leL (a := 0) rfl (by omega) (by decide)).mp q
        omega
      · show ¬ G 47 1 < nI n
        rw [hI.2.2.2.1]
        exact nI_nltx rfl hn (by decide)
      refine pt_of ?_
      rw [frm_self]
      refine same_B (Jn_w hI.1) hS (fun G' e => ⟨rfl, ?_⟩)
      refine pt_of ?_
      rw [frm_eq (e 50 (by decide))]
      have ek : keq G G' := keq_cw (fun k hk => e k (by omega))
      have hI' : INV N 300 R G' := INV_k hI ek (e 46 (by decide)) (e 47 (by decide))
      have hS' : SM G' := SM_k hS ek (e 48 (by decide)) (e 49 (by decide))
      have h7' : G' 84 7 = 0 := by rw [e 84 (by decide)]; exact h7
      rcases hx5 with rfl | rfl
      · refine pif_p rfl ?_
        obtain ⟨n', o', n1', n2', hsem', ho', hrun⟩ := r_run_B hI'.1 h7' hm (by decide) (by decide) hI'.2.2.2.2.1
        obtain ⟨en, eo⟩ := (SEM_cmp rl_rfl (Nat.le_refl _) hsem hsem').1 hn
        subst en eo
        refine hrun _ (fun G'' hl hf e11 => ⟨rfl, ?_⟩)
        refine pt_of ?_
        rw [frm_eq (hl 50 rfl)]
        exact pif_p rfl (j427_A hI' hS' hf e11 (fun q a b => hl q (isR_o a (by omega))) hK)
      · refine pif_n (by decide) (r_start_B hI'.1 h7' hm (by decide) (by decide) hI'.2.2.2.2.1 _ (fun G'' hl hss e11 hnx hlk => ⟨rfl, ?_⟩))
        obtain ⟨s7, s1, _, _⟩ := SV_7 (SS_V hss)
        refine pt_of ?_
        rw [frm_eq (hl 50 rfl)]
        refine pif_p rfl (hnx _ ?_)
        refine pt_of ?_
        rw [frm_self]
        refine pif_p rfl (hlk _ ⟨rfl, ?_⟩)
        refine pt_of ?_
        rw [frm_self]
        refine pif_p rfl (rf_start s1 hN hm s7 _ ⟨rfl, ?_⟩)
        refine pt_of ?_
        rw [frm_self]
        refine pif_p rfl (rf_run s1 hN hm s7 _ ⟨rfl, ?_⟩)
        refine pt_of ?_
        rw [frm_self]
        refine pif_p rfl (rf_tried s1 hN hm s7 _ ⟨rfl, ?_⟩)
        refine pt_of ?_
        rw [frm_self]
        refine pif_p rfl (rf_setOption s7 _ ⟨rfl, ?_⟩)
        refine pt_of ?_
        rw [frm_self]
        refine pif_p rfl (rf_write s7 _ ⟨rfl, ?_⟩)
        refine pt_of ?_
        rw [frm_self]
        refine pif_p rfl (rf_define s1 hN (by omega) s7 _ ⟨rfl, ?_⟩)
        refine pt_of ?_
        rw [frm_self]
        exact pif_p rfl ⟨302, by decide, h304_A hI' hS' hs1 hs hn hsem hK 302 0 G'' (by decide) hss e11 (fun q a b => hl q (isR_o a (by omega)))⟩
    · refine pif_n (nI_ge (b := 4) (by omega) (by decide)) (l_reg_B (by omega) _ ⟨rfl, ?_⟩)
      refine pt_of ?_
      rw [frm_self, nI_clamp (by omega), nI_1]
      exact ⟨vp_n (by omega) (by decide), pif_p (hr j (by omega)).symm (ih (j + 1) (by omega) (by omega))⟩
theorem h32_A {N m s : Nat} {x5 : Int32} {K : Sh → Gt → Prop} {R G : Gt} (hI : INV N 300 R G) (hS : SM G) (hm : m < N) (hx5 : x5 = 0 ∨ x5 = 1) (hs1 : 1 ≤ s) (hs : s ≤ 600) (hK : ∀ G', IBx G' → K shB G') : ∀ (nn j : Nat) (G' : Gt), j + nn = 5 → j ≤ 4 → (∀ k, ¬ k = 50 → G' k = G k) → (∀ k, k < j → G' 50 k = G 33 k) → w_L_runs_A_h32 K nn (nI m) x5 (nI s) (nI j) G' := by
  intro nn
  induction nn with
  | zero => intro j G' h1 h2; omega
  | succ nn ih =>
    intro j G' hj hj4 e hr
    rw [w_L_runs_A_h32]
    by_cases h4 : j = 4
    · subst h4
      have ek : keq G G' := keq_cw (fun k hk => e k (by omega))
      have hI' : INV N 300 R G' := INV_k hI ek (e 46 (by decide)) (e 47 (by decide))
      have hS' : SM G' := SM_k hS ek (e 48 (by decide)) (e 49 (by decide))
      obtain ⟨n, o, n1, n2, hsem, ho, hT⟩ := r_tried_A hI'.1 hm (by decide) (by decide) hI'.2.2.2.2.1
      refine pif_p (by decide) (hT _ (fun G8 hk8 hl8 h78 => ⟨rfl, ?_⟩))
      refine pt_of ?_
      rw [frm_eq (hl8 50 rfl)]
      have hI8 : INV N 300 R G8 := INV_k hI' hk8 (hl8 46 rfl) (hl8 47 rfl)
      obtain ⟨n', o', n1', n2', hsem', ho', hT'⟩ := r_triedSteps_B hI8.1 h78 hm (by decide) (by decide) hI8.2.2.2.2.1
      obtain ⟨en, eo⟩ := (SEM_cmp rl_rfl (Nat.le_refl _) hsem hsem').1 n2
      subst en eo
      refine hT' _ (fun G11 hk11 hl11 h711 => ⟨rfl, ?_⟩)
      refine pt_of ?_
      rw [frm_eq (hl11 50 rfl)]
      have hS8 : SM G8 := SM_k hS' hk8 (hl8 48 rfl) (hl8 49 rfl)
      refine ⟨5, by decide, h74_A (INV_k hI8 hk11 (hl11 46 rfl) (hl11 47 rfl)) (SM_k hS8 hk11 (hl11 48 rfl) (hl11 49 rfl)) (fun k hk => ?_) h711 hm hx5 hs1 hs n1 n2 hsem ho hK 5 0 rfl (by decide)⟩
      rw [hl11 50 rfl, hl8 50 rfl, hr k hk, hk11 33 k (Or.inr ⟨rfl, hk⟩), hk8 33 k (Or.inr ⟨rfl, hk⟩), e 33 (by decide)]
    · refine pif_n (nI_ge (b := 4) (by omega) (by decide)) (l_reg_A (by omega) _ ⟨rfl, ?_⟩)
      refine pt_of ?_
      rw [frm_self, nI_clamp (by omega), nI_1]
      refine ⟨vp_n (by omega) (by decide), pt_of (ih (j + 1) _ (by omega) (by omega) (fun k hk => ?_) (fun k hk => ?_))⟩
      · rw [← e k hk]
        funext i
        exact gu_oo _ hk
      · by_cases q : k = j
        · subst q
          rw [gu_kk, e 33 (by decide)]
        · rw [gu_ko _ q]
          exact hr k (by omega)
theorem runs_A {N m s : Nat} {x5 : Int32} {K : Sh → Gt → Prop} {R G : Gt} (hI : INV N 300 R G) (hm : m < N) (hx5 : x5 = 0 ∨ x5 = 1) (hs1 : 1 ≤ s) (hs : s ≤ 600) (hK : ∀ G', IBx G' → K shB G') : w_L_runs_A K (nI m) x5 (nI s) G := by
  unfold w_L_runs_A
  refine pt_of ?_
  have e1 : ∀ k, ¬ k = 50 → (gz G 50 0) k = G k := fun k hk => by
    funext j
    unfold gz
    rw [if_neg hk]
  have hI1 : INV N 300 R (gz G 50 0) := INV_k hI (keq_cw (fun k hk => e1 k (by omega))) (e1 46 (by decide)) (e1 47 (by decide))
  refine notes_A (Jn_w hI1.1) (fun G4 h4 => ⟨rfl, ?_⟩)
  refine pt_of ?_
  rw [frm_eq (h4.1 50 (by decide))]
  have hI4 : INV N 300 R G4 := INV_k hI1 (keq_cw (fun k hk => h4.1 k (by omega))) (h4.1 46 (by decide)) (h4.1 47 (by decide))
  refine letters1_A (Jn_w hI4.1) (fun G6 h6 => ⟨rfl, ?_⟩)
  refine pt_of ?_
  rw [frm_eq (h6.1 50 (by decide))]
  have hI6 : INV N 300 R G6 := INV_k hI4 (keq_cw (fun k hk => h6.1 k (by omega))) (h6.1 46 (by decide)) (h6.1 47 (by decide))
  exact ⟨5, by decide, h32_A hI6 (SM_of h4 h6) hm hx5 hs1 hs hK 5 0 G6 rfl (by decide) (fun _ _ => rfl) (fun k hk => by omega)⟩
theorem j427_B {N n : Nat} {o : Int32} {K : Sh → Gt → Prop} {R G0 G : Gt} (hI : INV N 300 R G0) (hS : SM G0) (hf : fin9 N G0 n o G) (e11 : G 11 = G0 11) (h6 : ∀ q, 46 ≤ q → q ≤ 49 → G q = G0 q) (hK : ∀ G', IBx G' → K shB G') : w_L_runs_B_j427 K o (nI n) G := by
  obtain ⟨f7, f0, f1, fv, fp, fb, R', fJ⟩ := hf
  obtain ⟨i1, i2, i3, i4, i5, ⟨t0, _, _, _, _, _⟩, i7⟩ := hI
  have hN := (Jn_n fJ).1
  have key : ∀ X, X = gu (gu (gu (gu G 47 2 o) 47 3 (nI n)) 47 4 (G 40 2)) 47 5 (G 40 3) → INV N 300 R' X ∧ (¬ o < 40000 → SM X) ∧ X 84 7 = 0 := by
    rintro X rfl
    have e : ∀ k j, ¬ (k = 47 ∧ 2 ≤ j ∧ j ≤ 5) → (gu (gu (gu (gu G 47 2 o) 47 3 (nI n)) 47 4 (G 40 2)) 47 5 (G 40 3)) k j = G k j := fun k j q => by
      rw [gu_n (by omega), gu_n (by omega), gu_n (by omega), gu_n (by omega)]
    refine ⟨⟨Jn_keq fJ (fun k j q => e k j (by have := kC_b q; omega)), i2, fun m hm => ?_, ?_, ?_, ⟨?_, ?_, ?_, ?_, ?_, ?_⟩, fun m hm => ?_⟩, fun q => ?_, ?_⟩
    · rw [e 46 m (by omega), e 9 m (by omega), h6 46 (by decide) (by decide), fp 9 m (by unfold pl0; omega)]; exact i3 m hm
    · rw [e 47 1 (by omega), h6 47 (by decide) (by decide)]; exact i4
    · rw [e 0 4 (by omega), fp 0 4 (by unfold pl0; omega)]; exact i5
    · rw [e 47 0 (by omega), h6 47 (by decide) (by decide)]; exact t0
    · rw [e 40 0 (by omega), f0, gu_n (by omega), gu_n (by omega), gu_n (by omega), gu_kk]
    · rw [e 40 1 (by omega), f1, gu_n (by omega), gu_n (by omega), gu_kk]
    · rw [e 40 2 (by omega), gu_n (by omega), gu_kk]
    · rw [e 40 3 (by omega), gu_kk]
    · exact tvC_eq fv (fun k j q => e k j (by omega))
    · rw [e 11 m (by omega), e11]; exact i7 m hm
    · refine SM_eq hS (fun k j b => ?_) ?_ ?_
      · rw [e k j (by unfold bbk at b; omega)]; exact fb q k j b
      · funext j; rw [e 48 j (by omega), h6 48 (by decide) (by decide)]
      · funext j; rw [e 49 j (by omega), h6 49 (by decide) (by decide)]
    · rw [e 84 7 (by omega)]; exact f7
  obtain ⟨kI, kS, k7⟩ := key _ rfl
  unfold w_L_runs_B_j427 w_X10_cause_B w_X10_traced_B
  refine ⟨by unfold vp_in; decide, pt_of ⟨by unfold vp_in; decide, pt_of ?_⟩⟩
  refine pt_of ?_
  rw [frm_self]
  refine ⟨by unfold vp_in; decide, pt_of ?_⟩
  refine pt_of ?_
  rw [frm_self]
  refine ⟨by unfold vp_in; decide, pt_of ?_⟩
  refine told_B hN kI.2.2.2.2.2.1 k7 ⟨rfl, ?_⟩
  refine pt_of ?_
  rw [frm_self]
  by_cases q : o < 40000
  · exact pif_p q (hK _ ⟨⟨N, R', kI⟩, k7⟩)
  · refine pif_n q (same_B (Jn_w kI.1) (kS q) (fun G' e => ⟨rfl, ?_⟩))
    refine pt_of ?_
    rw [frm_eq (e 50 (by decide))]
    exact hK _ ⟨⟨N, R', INV_k kI (keq_cw (fun k hk => e k (by omega))) (e 46 (by decide)) (e 47 (by decide))⟩, by rw [e 84 (by decide)]; exact k7⟩
theorem hEnd_B {N n nn : Nat} {o s : Int32} {K : Sh → Gt → Prop} {R G0 G : Gt} (hI : INV N 300 R G0) (hS : SM G0) (hf : fin9 N G0 n o G) (e11 : G 11 = G0 11) (h6 : ∀ q, 46 ≤ q → q ≤ 49 → G q = G0 q) (hK : ∀ G', IBx G' → K shB G') : w_L_runs_B_h304 K (nn + 1) s o (nI n) (nI n) G := by
  have f7 := hf.1
  rw [w_L_runs_B_h304]
  refine n_0 f7 _ ?_
  refine pt_of ?_
  rw [frm_self]
  refine pif_p (by decide) (pif_p rfl (rf_step f7 _ ⟨rfl, ?_⟩))
  refine pt_of ?_
  rw [frm_self]
  refine pif_p rfl (rf_giveUp f7 _ ⟨rfl, ?_⟩)
  refine pt_of ?_
  rw [frm_self]
  refine pif_p rfl (rf_look f7 _ ⟨rfl, ?_⟩)
  refine pt_of ?_
  rw [frm_self]
  exact pif_p rfl (j427_B hI hS hf e11 h6 hK)
theorem h304_B {N m n s : Nat} {o : Int32} {K : Sh → Gt → Prop} {R G0 : Gt} (hI : INV N 300 R G0) (hS : SM G0) (hs1 : 1 ≤ s) (hs : s ≤ 600) (hn : n ≤ 300) (hsem : SEM R 300 m n o) (hK : ∀ G', IBx G' → K shB G') : ∀ (nn k : Nat) (G : Gt), 302 ≤ k + nn → SS N 300 m R G0 k G → G 11 = G0 11 → (∀ q, 46 ≤ q → q ≤ 49 → G q = G0 q) → w_L_runs_B_h304 K nn (nI s) o (nI n) (nI k) G := by
  have hN := (Jn_n hI.1).1
  have t0 := hI.2.2.2.2.2.1.1
  intro nn
  induction nn with
  | zero =>
    intro k G h1 hss
    have := (SV_7 (SS_V hss)).2.2.2
    omega
  | succ nn ih =>
    intro k G h1 hss e11 h6
    have hkB := (SV_7 (SS_V hss)).2.2.2
    rw [w_L_runs_B_h304]
    obtain ⟨w, hw, hnx⟩ := SV_n (SS_V hss)
    refine hnx _ ?_
    refine pt_of ?_
    rw [frm_self]
    refine pif_n (nI_lt0 (by omega)) ?_
    obtain ⟨t, ht, _, hor⟩ := r_step_B (by decide) hss hs1 hs
    rcases hor with ⟨o', hsem', ho, hstep⟩ | ⟨ht1, hstep⟩
    · obtain ⟨en, eo⟩ := (SEM_cmp rl_rfl (Nat.le_refl _) hsem hsem').1 hn
      subst eo
      refine hstep _ (fun G' hl hf e11' => ⟨rfl, ?_⟩)
      refine pt_of ?_
      rw [frm_eq (hl 50 rfl)]
      refine pif_n (nI_lt0 (by omega)) (pif_n (nI_nltx rfl ht (by omega)) (a_0 hf.1 _ ?_))
      refine pt_of ?_
      rw [frm_self]
      refine pif_n (by decide) (a_0 hf.1 _ ?_)
      refine pt_of ?_
      rw [frm_self]
      refine pif_n (by decide) (n_0 hf.1 _ ?_)
      refine pt_of ?_
      rw [frm_self]
      refine ⟨by unfold vp_in; decide, pif_n ?_ ?_⟩
      · show ¬ G' 47 0 ≤ -1
        rw [hl 47 rfl, h6 47 (by decide) (by decide), t0]
        exact nI_m1 (by omega)
      · obtain ⟨nn', rfl⟩ : ∃ nn', nn = nn' + 1 := ⟨nn - 1, by omega⟩
        rw [nI_add, en]
        rw [en] at hf
        exact hEnd_B hI hS hf (e11'.trans e11) (fun q a b => (hl q (isR_o a (by omega))).trans (h6 q a b)) hK
    · refine hstep _ (fun G' hl hss' e11' => ⟨rfl, ?_⟩)
      refine pt_of ?_
      rw [frm_eq (hl 50 rfl)]
      obtain ⟨d, hd, ha⟩ := SV_a (SS_V hss')
      obtain ⟨w', hw', hnx'⟩ := SV_n (SS_V hss')
      refine pif_n (nI_lt0 (by omega)) (pif_n (nI_nltx rfl ht (by omega)) (ha _ ?_))
      refine pt_of ?_
      rw [frm_self]
      refine pif_n (nI_lt0 (by omega)) (ha _ ?_)
      refine pt_of ?_
      rw [frm_self]
      refine pif_n (nI_ge (b := 13) (by omega) (by decide)) (hnx' _ ?_)
      refine pt_of ?_
      rw [frm_self]
      refine ⟨by unfold vp_in; decide, pif_n ?_ ?_⟩
      · show ¬ G' 47 0 ≤ nI w'
        rw [hl 47 rfl, h6 47 (by decide) (by decide), t0]
        exact nI_ge hw' (by omega)
      · rw [nI_add]
        exact ih (k + t) G' (by omega) hss' (e11'.trans e11) (fun q a b => (hl q (isR_o a (by omega))).trans (h6 q a b))
theorem h74_B {N m n s : Nat} {o x5 : Int32} {K : Sh → Gt → Prop} {R G : Gt} (hI : INV N 300 R G) (hS : SM G) (hr : ∀ k, k < 4 → G 50 k = G 33 k) (h7 : G 84 7 = 0) (hm : m < N) (hx5 : x5 = 0 ∨ x5 = 1) (hs1 : 1 ≤ s) (hs : s ≤ 600) (hn1 : 1 ≤ n) (hn : n ≤ 300) (hsem : SEM R 300 m n o) (ho : isO o) (hK : ∀ G', IBx G' → K shB G') : ∀ (nn j : Nat), j + nn = 5 → j ≤ 4 → w_L_runs_B_h74 K nn (nI m) x5 (nI s) o (nI n) (nI j) G := by
  have hN := (Jn_n hI.1).1
  intro nn
  induction nn with
  | zero => intro j h1 h2; omega
  | succ nn ih =>
    intro j hj hj4
    rw [w_L_runs_B_h74]
    by_cases h4 : j = 4
    · subst h4
      refine pif_p (by decide) (isO_y ho _ _ (pif_n (by decide) (pif_n ?_ ⟨by unfold vp_in; decide, pif_n ?_ (told_B hN hI.2.2.2.2.2.1 h7 ⟨rfl, ?_⟩)⟩)))
      · intro q
        have := (nI_leL (a := 0) rfl (by omega) (by decide)).mp q
        omega
      · show ¬ G 47 1 < nI n
        rw [hI.2.2.2.1]
        exact nI_nltx rfl hn (by decide)
      refine pt_of ?_
      rw [frm_self]
      refine same_B (Jn_w hI.1) hS (fun G' e => ⟨rfl, ?_⟩)
      refine pt_of ?_
      rw [frm_eq (e 50 (by decide))]
      have ek : keq G G' := keq_cw (fun k hk => e k (by omega))
      have hI' : INV N 300 R G' := INV_k hI ek (e 46 (by decide)) (e 47 (by decide))
      have hS' : SM G' := SM_k hS ek (e 48 (by decide)) (e 49 (by decide))
      have h7' : G' 84 7 = 0 := by rw [e 84 (by decide)]; exact h7
      rcases hx5 with rfl | rfl
      · refine pif_p rfl ?_
        obtain ⟨n', o', n1', n2', hsem', ho', hrun⟩ := r_run_B hI'.1 h7' hm (by decide) (by decide) hI'.2.2.2.2.1
        obtain ⟨en, eo⟩ := (SEM_cmp rl_rfl (Nat.le_refl _) hsem hsem').1 hn
        subst en eo
        refine hrun _ (fun G'' hl hf e11 => ⟨rfl, ?_⟩)
        refine pt_of ?_
        rw [frm_eq (hl 50 rfl)]
        exact pif_p rfl (j427_B hI' hS' hf e11 (fun q a b => hl q (isR_o a (by omega))) hK)
      · refine pif_n (by decide) (r_start_B hI'.1 h7' hm (by decide) (by decide) hI'.2.2.2.2.1 _ (fun G'' hl hss e11 hnx hlk => ⟨rfl, ?_⟩))
        obtain ⟨s7, s1, _, _⟩ := SV_7 (SS_V hss)
        refine pt_of ?_
        rw [frm_eq (hl 50 rfl)]
        refine pif_p rfl (hnx _ ?_)
        refine pt_of ?_
        rw [frm_self]
        refine pif_p rfl (hlk _ ⟨rfl, ?_⟩)
        refine pt_of ?_
        rw [frm_self]
        refine pif_p rfl (rf_start s1 hN hm s7 _ ⟨rfl, ?_⟩)
        refine pt_of ?_
        rw [frm_self]
        refine pif_p rfl (rf_run s1 hN hm s7 _ ⟨rfl, ?_⟩)
        refine pt_of ?_
        rw [frm_self]
        refine pif_p rfl (rf_tried s1 hN hm s7 _ ⟨rfl, ?_⟩)
        refine pt_of ?_
        rw [frm_self]
        refine pif_p rfl (rf_setOption s7 _ ⟨rfl, ?_⟩)
        refine pt_of ?_
        rw [frm_self]
        refine pif_p rfl (rf_write s7 _ ⟨rfl, ?_⟩)
        refine pt_of ?_
        rw [frm_self]
        refine pif_p rfl (rf_define s1 hN (by omega) s7 _ ⟨rfl, ?_⟩)
        refine pt_of ?_
        rw [frm_self]
        exact pif_p rfl ⟨302, by decide, h304_B hI' hS' hs1 hs hn hsem hK 302 0 G'' (by decide) hss e11 (fun q a b => hl q (isR_o a (by omega)))⟩
    · refine pif_n (nI_ge (b := 4) (by omega) (by decide)) (l_reg_B (by omega) _ ⟨rfl, ?_⟩)
      refine pt_of ?_
      rw [frm_self, nI_clamp (by omega), nI_1]
      exact ⟨vp_n (by omega) (by decide), pif_p (hr j (by omega)).symm (ih (j + 1) (by omega) (by omega))⟩
theorem h32_B {N m s : Nat} {x5 : Int32} {K : Sh → Gt → Prop} {R G : Gt} (hI : INV N 300 R G) (hS : SM G) (h7 : G 84 7 = 0) (hm : m < N) (hx5 : x5 = 0 ∨ x5 = 1) (hs1 : 1 ≤ s) (hs : s ≤ 600) (hK : ∀ G', IBx G' → K shB G') : ∀ (nn j : Nat) (G' : Gt), j + nn = 5 → j ≤ 4 → (∀ k, ¬ k = 50 → G' k = G k) → (∀ k, k < j → G' 50 k = G 33 k) → w_L_runs_B_h32 K nn (nI m) x5 (nI s) (nI j) G' := by
  intro nn
  induction nn with
  | zero => intro j G' h1 h2; omega
  | succ nn ih =>
    intro j G' hj hj4 e hr
    rw [w_L_runs_B_h32]
    by_cases h4 : j = 4
    · subst h4
      have ek : keq G G' := keq_cw (fun k hk => e k (by omega))
      have hI' : INV N 300 R G' := INV_k hI ek (e 46 (by decide)) (e 47 (by decide))
      have hS' : SM G' := SM_k hS ek (e 48 (by decide)) (e 49 (by decide))
      have h7' : G' 84 7 = 0 := by rw [e 84 (by decide)]; exact h7
      obtain ⟨n, o, n1, n2, hsem, ho, hT⟩ := r_tried_B hI'.1 h7' hm (by decide) (by decide) hI'.2.2.2.2.1
      refine pif_p (by decide) (hT _ (fun G8 hk8 hl8 h78 => ⟨rfl, ?_⟩))
      refine pt_of ?_
      rw [frm_eq (hl8 50 rfl)]
      have hI8 : INV N 300 R G8 := INV_k hI' hk8 (hl8 46 rfl) (hl8 47 rfl)
      obtain ⟨n', o', n1', n2', hsem', ho', hT'⟩ := r_triedSteps_B hI8.1 h78 hm (by decide) (by decide) hI8.2.2.2.2.1
      obtain ⟨en, eo⟩ := (SEM_cmp rl_rfl (Nat.le_refl _) hsem hsem').1 n2
      subst en eo
      refine hT' _ (fun G11 hk11 hl11 h711 => ⟨rfl, ?_⟩)
      refine pt_of ?_
      rw [frm_eq (hl11 50 rfl)]
      have hS8 : SM G8 := SM_k hS' hk8 (hl8 48 rfl) (hl8 49 rfl)
      refine ⟨5, by decide, h74_B (INV_k hI8 hk11 (hl11 46 rfl) (hl11 47 rfl)) (SM_k hS8 hk11 (hl11 48 rfl) (hl11 49 rfl)) (fun k hk => ?_) h711 hm hx5 hs1 hs n1 n2 hsem ho hK 5 0 rfl (by decide)⟩
      rw [hl11 50 rfl, hl8 50 rfl, hr k hk, hk11 33 k (Or.inr ⟨rfl, hk⟩), hk8 33 k (Or.inr ⟨rfl, hk⟩), e 33 (by decide)]
    · refine pif_n (nI_ge (b := 4) (by omega) (by decide)) (l_reg_B (by omega) _ ⟨rfl, ?_⟩)
      refine pt_of ?_
      rw [frm_self, nI_clamp (by omega), nI_1]
      refine ⟨vp_n (by omega) (by decide), pt_of (ih (j + 1) _ (by omega) (by omega) (fun k hk => ?_) (fun k hk => ?_))⟩
      · rw [← e k hk]
        funext i
        exact gu_oo _ hk
      · by_cases q : k = j
        · subst q
          rw [gu_kk, e 33 (by decide)]
        · rw [gu_ko _ q]
          exact hr k (by omega)
theorem runs_B {N m s : Nat} {x5 : Int32} {K : Sh → Gt → Prop} {R G : Gt} (hI : INV N 300 R G) (h7 : G 84 7 = 0) (hm : m < N) (hx5 : x5 = 0 ∨ x5 = 1) (hs1 : 1 ≤ s) (hs : s ≤ 600) (hK : ∀ G', IBx G' → K shB G') : w_L_runs_B K (nI m) x5 (nI s) G := by
  unfold w_L_runs_B
  refine pt_of ?_
  have e1 : ∀ k, ¬ k = 50 → (gz G 50 0) k = G k := fun k hk => by
    funext j
    unfold gz
    rw [if_neg hk]
  have hI1 : INV N 300 R (gz G 50 0) := INV_k hI (keq_cw (fun k hk => e1 k (by omega))) (e1 46 (by decide)) (e1 47 (by decide))
  refine notes_B (Jn_w hI1.1) (fun G4 h4 => ⟨rfl, ?_⟩)
  refine pt_of ?_
  rw [frm_eq (h4.1 50 (by decide))]
  have hI4 : INV N 300 R G4 := INV_k hI1 (keq_cw (fun k hk => h4.1 k (by omega))) (h4.1 46 (by decide)) (h4.1 47 (by decide))
  refine letters1_B (Jn_w hI4.1) (fun G6 h6 => ⟨rfl, ?_⟩)
  refine pt_of ?_
  rw [frm_eq (h6.1 50 (by decide))]
  have hI6 : INV N 300 R G6 := INV_k hI4 (keq_cw (fun k hk => h6.1 k (by omega))) (h6.1 46 (by decide)) (h6.1 47 (by decide))
  have h76 : G6 84 7 = 0 := by rw [h6.1 84 (by decide), h4.1 84 (by decide), e1 84 (by decide)]; exact h7
  exact ⟨5, by decide, h32_B hI6 (SM_of h4 h6) h76 hm hx5 hs1 hs hK 5 0 G6 rfl (by decide) (fun _ _ => rfl) (fun k hk => by omega)⟩
