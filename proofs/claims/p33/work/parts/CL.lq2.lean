/-! THE CALLS THAT RUN -/
theorem eq71 {G : Gt} {t : Int32} {R : Gt} : mxw (gu G 46 71 t) R = mxw G R := mxw_c (fun k hk => gu_ne (by rintro rfl; exact absurd hk (by decide)))
theorem run_y {K : Int32 → Gt → Prop} {G : Gt} {N i : Nat} (e : G 46 0 = nI N) (hN : N ≤ 120) (hi : i < N) (h52 : G 46 52 = 0) (hk : w_X11_runsAll (fun G5 => w_X11_lasts (fun G6 => K (G6 46 66) G6) G5) (nI i) (gu G 46 71 0)) : w_X11_run K (nI i) G := by
  unfold w_X11_run w_X11_run_j18
  exact node_y e hN hi (pif_p h52 (goes_y (by decide) (by decide) (by decide) (pif_n (by decide) hk)))
theorem run_n {K : Int32 → Gt → Prop} {G : Gt} {N : Nat} {x t : Int32} (h : (t = 1 ∧ ¬ ∃ i, i < N ∧ x = nI i) ∨ (t = 2 ∧ (∃ i, i < N ∧ x = nI i) ∧ ¬ G 46 52 = 0)) (e : G 46 0 = nI N) (hN : N ≤ 120) (hk : K 0 (gu G 46 71 t)) : w_X11_run K x G := by
  unfold w_X11_run w_X11_run_j18
  rcases h with ⟨rfl, h⟩ | ⟨rfl, ⟨i, hi, rfl⟩, h⟩
  · refine node_n e hN h ?_
    by_cases h52 : G 46 52 = 0
    · exact pif_p h52 (goes_n (thr_1 rfl) (by decide) (pif_p rfl hk))
    · exact pif_n h52 (goes_n (thr_1 rfl) (by decide) (pif_p rfl hk))
  · exact node_y e hN hi (pif_n h (goes_n (thr_2 (by decide) rfl) (by decide) (pif_p rfl hk)))
theorem tries_y {K : Int32 → Gt → Prop} {G : Gt} {N i : Nat} (e : G 46 0 = nI N) (hN : N ≤ 120) (hi : i < N) (h52 : G 46 52 = 0) (hk : ∃ n, w_X11_tries_h29 K n (nI i) 0 (gu G 46 71 0)) : w_X11_tries K (nI i) G := by
  unfold w_X11_tries w_X11_tries_j18
  exact node_y e hN hi (pif_p h52 (goes_y (by decide) (by decide) (by decide) (pif_n (by decide) hk)))
theorem tries_n {K : Int32 → Gt → Prop} {G : Gt} {N : Nat} {x t : Int32} (h : (t = 1 ∧ ¬ ∃ i, i < N ∧ x = nI i) ∨ (t = 2 ∧ (∃ i, i < N ∧ x = nI i) ∧ ¬ G 46 52 = 0)) (e : G 46 0 = nI N) (hN : N ≤ 120) (hk : K 0 (gu G 46 71 t)) : w_X11_tries K x G := by
  unfold w_X11_tries w_X11_tries_j18
  rcases h with ⟨rfl, h⟩ | ⟨rfl, ⟨i, hi, rfl⟩, h⟩
  · refine node_n e hN h ?_
    by_cases h52 : G 46 52 = 0
    · exact pif_p h52 (goes_n (thr_1 rfl) (by decide) (pif_p rfl hk))
    · exact pif_n h52 (goes_n (thr_1 rfl) (by decide) (pif_p rfl hk))
  · exact node_y e hN hi (pif_n h (goes_n (thr_2 (by decide) rfl) (by decide) (pif_p rfl hk)))
theorem start_y {K : Gt → Prop} {G : Gt} {N i : Nat} (e : G 46 0 = nI N) (hN : N ≤ 120) (hi : i < N) (h52 : G 46 52 = 0) (hk : w_X11_prepares (fun G5 => pt (gu G5 46 52 1) fun G6 => K G6) (nI i) (gu G 46 71 0)) : w_X11_start K (nI i) G := by
  unfold w_X11_start w_X11_start_j18 w_X11_start_j35
  exact node_y e hN hi (pif_p h52 (goes_y (by decide) (by decide) (by decide) (pif_n (by decide) hk)))
theorem start_n {K : Gt → Prop} {G : Gt} {N : Nat} {x t : Int32} (h : (t = 1 ∧ ¬ ∃ i, i < N ∧ x = nI i) ∨ (t = 2 ∧ (∃ i, i < N ∧ x = nI i) ∧ ¬ G 46 52 = 0)) (e : G 46 0 = nI N) (hN : N ≤ 120) (hk : K (gu G 46 71 t)) : w_X11_start K x G := by
  unfold w_X11_start w_X11_start_j18 w_X11_start_j35
  rcases h with ⟨rfl, h⟩ | ⟨rfl, ⟨i, hi, rfl⟩, h⟩
  · refine node_n e hN h ?_
    by_cases h52 : G 46 52 = 0
    · exact pif_p h52 (goes_n (thr_1 rfl) (by decide) (pif_p rfl hk))
    · exact pif_n h52 (goes_n (thr_1 rfl) (by decide) (pif_p rfl hk))
  · exact node_y e hN hi (pif_n h (goes_n (thr_2 (by decide) rfl) (by decide) (pif_p rfl hk)))
theorem jA_71 {N : Nat} {G : Gt} {t : Int32} (h : jA N G) : jA N (gu G 46 71 t) := jA_eq h (fun k j q => gu_n (by unfold jfr at q; omega))
/-- a run that is told of -/
theorem c_run_o {I : Gt → Prop} {N m : Nat} {G : Gt} (hA : jA N G) (hm : m < N) (hI : ∀ X, jA N X → X 84 7 = 0 → I X) : w_X2_open 40 (fun G6 => w_X2_advance (fun _ G7 => pt (gu G7 83 (0 : Int32).toNatClampNeg (G7 40 0)) fun G2 => (shB = shB ∧ w_X11_run (fun v4 G3 => cmpt I 0 v4 G3) (nI m) G2)) 601 0 G6) (nI m) (G 0 4) G := by
  obtain ⟨hN, h1, h2, h9, h11⟩ := gP_n hA.1
  obtain ⟨z, B, Gf, hf, hfR, hrp, hk, h99, hcl, hrf⟩ := run_core (q := 40) (Or.inl rfl) (jA_71 (t := 0) hA) hm
  obtain ⟨Cf, c, hc, h64, hset, c0, c7, c10, hj⟩ := fin_jA hf hfR hrp
  have f52 : Gf 46 52 = 0 := by
    rw [hk 46 52 (by omega), gu_ko _ (by decide)]; exact hA.2.2.2.2.2.2.2.2.2
  have f71 : Gf 46 71 = 0 := by
    rw [hk 46 71 (by omega), gu_kk]
  rw [gu_sf f52] at hj
  have h := hcl G (fun _ G7 => pt (gu G7 83 (0 : Int32).toNatClampNeg (G7 40 0)) fun G2 => (shB = shB ∧ w_X11_run (fun v4 G3 => cmpt I 0 v4 G3) (nI m) G2)) (by
    unfold w_X2_advance_j249
    refine pif_p ((mx_C rfl).trans hf.1) (hset G _ ?_)
    unfold w_X2_advance_j260
    show pt (gu (mxw Cf G) 83 0 ((mxw Cf G) 40 0)) _
    refine ptc rfl ⟨rfl, ?_⟩
    refine run_y (N := N) ((mx_R rfl).trans h2) hN hm ((mx_R rfl).trans hA.2.2.2.2.2.2.2.2.2) ?_
    rw [mxw_gR rfl]
    refine hrf _ _ (r_lasts h64 hc ?_)
    refine cmpt_0 ?_ ?_ (hI _ (hj _) ?_)
    · rw [mx_R rfl, oLs_n (by decide) (by omega)]; exact f71
    · rw [mx_C rfl, gu_kk, mx_C rfl, c0, mx_R rfl]; exact oLs_46.1.symm
    · rw [mx_C rfl, gu_oo _ (by decide)]; exact c7)
  rw [eq71, mxw_self, gu_oo _ (by decide)] at h
  exact h
/-! A RUN THAT IS UNDONE -/
def sv (n : Nat) (G : Gt) : Gt := fun a j => if a = 63 ∧ j < n then G 57 j else G a j
def rg (n : Nat) (G : Gt) : Gt := fun a j => if a = 57 ∧ j < n then G 63 j else G a j
theorem sv_n {n k j : Nat} {G : Gt} (h : ¬ k = 63) : sv n G k j = G k j := by unfold sv; rw [if_neg (fun q => h q.1)]
theorem rg_n {n k j : Nat} {G : Gt} (h : ¬ k = 57) : rg n G k j = G k j := by unfold rg; rw [if_neg (fun q => h q.1)]
theorem r_sv {K : Int32 → Gt → Prop} {C G : Gt} {x : Int32} (h : w_X11_runsAll (fun G5 => w_X11_restores (fun G6 => ∃ i, w_X11_tries_h63 K i 0 G6) G5) x (mxw C (sv 4 G))) : ∀ r n, n + r = 4 → w_X11_tries_h29 K (r + 1) x (nI n) (mxw C (sv n G)) := by
  intro r
  induction r with
  | zero =>
    intro n hn
    have : n = 4 := by omega
    subst this
    rw [w_X11_tries_h29]
    exact pif_p (by decide) h
  | succ r ih =>
    intro n hn
    have hi := ih (n + 1) (by omega)
    rw [w_X11_tries_h29]
    refine pif_n (nI_ge (b := 4) (by omega) (by decide)) ⟨vp_n (by omega) (by decide), vp_n (by omega) (by decide), ?_⟩
    rw [nI_clamp (by omega), nI_1]
    refine ptr rfl ?_
    have e : gu (sv n G) 63 n ((mxw C (sv n G)) 57 n) = sv (n + 1) G := by
      rw [mx_R rfl, sv_n (by decide)]
      funext a j
      rw [gu_at]
      unfold sv
      by_cases q : a = 63 ∧ j = n
      · rw [if_pos q, if_pos ⟨q.1, by omega⟩, q.2]
      · rw [if_neg q]
        by_cases w : a = 63 ∧ j < n
        · rw [if_pos w, if_pos ⟨w.1, by omega⟩]
        · rw [if_neg w, if_neg (by omega)]
    rw [e]
    exact hi
theorem sv_0 {G : Gt} : sv 0 G = G := by
  funext a j
  unfold sv
  rw [if_neg (by omega)]
theorem rg_0 {G : Gt} : rg 0 G = G := by
  funext a j
  unfold rg
  rw [if_neg (by omega)]
theorem r_rg {K : Int32 → Gt → Prop} {C G : Gt} (h : K 1 (mxw C (rg 4 G))) : ∀ r n, n + r = 4 → w_X11_tries_h63 K (r + 1) (nI n) (mxw C (rg n G)) := by
  intro r
  induction r with
  | zero =>
    intro n hn
    have : n = 4 := by omega
    subst this
    rw [w_X11_tries_h63]
    exact pif_p (by decide) h
  | succ r ih =>
    intro n hn
    have hi := ih (n + 1) (by omega)
    rw [w_X11_tries_h63]
    refine pif_n (nI_ge (b := 4) (by omega) (by decide)) ⟨vp_n (by omega) (by decide), vp_n (by omega) (by decide), ?_⟩
    rw [nI_clamp (by omega), nI_1]
    refine ptr rfl ?_
    have e : gu (rg n G) 57 n ((mxw C (rg n G)) 63 n) = rg (n + 1) G := by
      rw [mx_R rfl, rg_n (by decide)]
      funext a j
      rw [gu_at]
      unfold rg
      by_cases q : a = 57 ∧ j = n
      · rw [if_pos q, if_pos ⟨q.1, by omega⟩, q.2]
      · rw [if_neg q]
        by_cases w : a = 57 ∧ j < n
        · rw [if_pos w, if_pos ⟨w.1, by omega⟩]
        · rw [if_neg w, if_neg (by omega)]
    rw [e]
    exact hi
theorem rsd_eq {G W : Gt} (h : rsd G) (e : ∀ k j, (58 ≤ k ∧ k ≤ 62) ∨ k = 56 ∨ k = 54 ∨ (k = 46 ∧ (j = 12 ∨ j = 14)) → W k j = G k j) : rsd W := by
  obtain ⟨r1, r2, r3, r4, r5, r6, r7⟩ := h
  refine ⟨fun k hk => ?_, fun b hb => ⟨?_, ?_⟩, fun k hk => ?_, fun k hk => ?_, fun s hs => ?_, ?_, ?_⟩
  · rw [e 58 k (by omega), e 62 k (by omega)]; exact r1 k hk
  · rw [e 59 b (by omega), e 62 _ (by omega)]; exact (r2 b hb).1
  · rw [e 61 b (by omega), e 62 _ (by omega)]; exact (r2 b hb).2
  · rw [e 60 k (by omega), e 62 _ (by omega)]; exact r3 k hk
  · rw [e 56 k (by omega), e 62 _ (by omega)]; exact r4 k hk
  · rw [e 54 s (by omega), e 62 _ (by omega)]; exact r5 s hs
  · rw [e 46 12 (by omega), e 62 _ (by omega)]; exact r6
  · rw [e 46 14 (by omega), e 62 _ (by omega)]; exact r7
theorem bbr_n {G : Gt} {k j : Nat} (h : ¬ k = 33) (h2 : ¬ bbk k j) : bbr G k j = G k j := by
  unfold bbr; rw [if_neg (fun q => h q.1)]; exact bb_n h2
theorem bbr_y {G : Gt} {k j : Nat} (h : ¬ k = 33) (h2 : bbk k j) : bbr G k j = G (k + 66) j := by
  unfold bbr; rw [if_neg (fun q => h q.1)]; exact bb_y h2
theorem bbk_f {k j : Nat} (h : bbk k j) : isR k = false := by
  cases hk : isR k
  · rfl
  · have := isR_t hk
    unfold bbk at h
    omega
theorem try_core {N m : Nat} {G : Gt} (hA : jA N G) (hm : m < N) : ∃ Cx Rx : Gt, (∀ (R : Gt) (K : Gt → Prop), K (mxw Cx R) → w_X2_open 43 (fun G2 => w_X2_advance (fun _ G3 => w_X9_become 19 85 (fun G5 => K G5) G3) 601 0 G2) (nI m) (G 0 4) (mxw G R)) ∧ (∀ (C : Gt) (K : Int32 → Gt → Prop), K 1 (mxw C Rx) → ∃ i, w_X11_tries_h29 K i (nI m) 0 (mxw C G)) ∧
    Cx 43 0 = Rx 46 62 ∧ Cx 43 1 = Rx 46 58 ∧ Rx 46 71 = G 46 71 ∧ Cx 84 7 = 0 ∧ ∀ v, jA N (mxw (gu Cx 83 0 v) Rx) := by
  have hAk : jA N (sv 4 G) := jA_eq hA (fun k j q => sv_n (by unfold jfr at q; omega))
  obtain ⟨z, B, Gf, hf, hfR, hrp, hk, h99, hcl, hrf⟩ := run_core (q := 43) (Or.inr rfl) hAk hm
  obtain ⟨Cf, c, hc, h64, hset, c0, c1, c2, c3, ct, cn, cw⟩ := fin_set hf (Or.inr rfl) hrp hfR.2.2.2.2
  have eS : ∀ R, mxw (sv 4 G) R = mxw G R := fun R => mxw_c (fun k hk => by
    have := isR_f hk
    funext j
    exact sv_n (by omega))
  have c7 : Cf 84 7 = 0 := (cn 84 7 (by decide) (by decide) (by unfold bbk; omega)).trans hf.1
  refine ⟨bbr Cf, rg 4 (rsW Gf), fun R K hK => ?_, fun C K hK => ?_, ?_, ?_, ?_, ?_, fun v => ?_⟩
  · have h := hcl R (fun _ G3 => w_X9_become 19 85 (fun G5 => K G5) G3) (by
      unfold w_X2_advance_j249
      refine pif_p ((mx_C rfl).trans hf.1) (hset R _ ?_)
      unfold w_X2_advance_j260
      exact k_bbr hK)
    rw [eS, sv_n (by decide)] at h
    exact h
  · refine ⟨5, ?_⟩
    have h := r_sv (x := nI m) (hrf C _ (r_rest (K := fun G6 => ∃ i, w_X11_tries_h63 K i 0 G6) ⟨5, by
      have := r_rg hK 4 0 rfl
      rw [rg_0] at this
      exact this⟩)) 4 0 rfl
    rw [sv_0] at h
    exact h
  · rw [bbr_n (by decide) (by unfold bbk; omega), c0, rg_n (by decide), rsW_n (by decide) (by omega)]
  · rw [bbr_n (by decide) (by unfold bbk; omega), c1, rg_n (by decide), rsW_n (by decide) (by omega)]
  · rw [rg_n (by decide), rsW_n (by decide) (by omega), hk 46 71 (by omega), sv_n (by decide)]
  · rw [bbr_n (by decide) (by unfold bbk; omega)]; exact c7
  · refine undo_jA hfR (fun k j q => ?_) ?_ (fun k hk' => ?_) (fun k hk' => ?_) (fun k j q => ?_) (fun k j q => ?_) ?_
    · rw [mx_C (bbk_f q), gu_oo _ (by unfold bbk at q; omega), bbr_y (by unfold bbk at q; omega) q, cn (k + 66) j (by unfold bbk at q; omega) (by unfold bbk at q; omega) (by unfold bbk at q; unfold bbk; omega)]
    · refine rsd_eq (rsd_rsW (C := gu (bbr Cf) 83 0 v) (G := Gf)) (fun k j q => ?_)
      cases hr : isR k
      · have := isR_f hr
        omega
      · rw [mx_R hr, mx_R hr, rg_n (by omega)]
    · rw [mx_R rfl, rg_n (by decide), rsW_n (by decide) (by omega)]
    · have e33 : (mxw (gu (bbr Cf) 83 0 v) (rg 4 (rsW Gf))) 33 k = G 33 k := by
        rw [mx_C rfl, gu_oo _ (by decide)]
        unfold bbr
        rw [if_pos ⟨rfl, hk'⟩, cn 99 k (by decide) (by decide) (by unfold bbk; omega), h99 k hk', sv_n (by decide)]
      have e57 : (mxw (gu (bbr Cf) 83 0 v) (rg 4 (rsW Gf))) 57 k = G 57 k := by
        rw [mx_R rfl]
        unfold rg
        rw [if_pos ⟨rfl, hk'⟩, rsW_n (by decide) (by omega), hk 63 k (by omega)]
        unfold sv
        rw [if_pos ⟨rfl, hk'⟩]
      rw [e33, e57]
      exact hA.2.2.2.2.2.1 k hk'
    · unfold pcl at q
      cases hr : isR k
      · have := isR_f hr
        rw [mx_C hr, gu_oo _ (by omega), bbr_n (by omega) (by unfold bbk; omega), cn k j (by omega) (by omega) (by unfold bbk; omega)]
      · have := isR_t hr
        rw [mx_R hr, rg_n (by omega), rsW_n (by omega) (by omega)]
    · cases hr : isR k
      · have := isR_f hr
        rw [mx_C hr, gu_oo _ (by omega), bbr_n (by omega) (by unfold bbk; omega), cn k j (by omega) (by omega) (by unfold bbk; omega)]
      · have := isR_t hr
        rw [mx_R hr, rg_n (by omega), rsW_n (by omega) (by omega)]
    · rw [mx_R rfl, rg_n (by decide), rsW_n (by decide) (by omega), hk 46 52 (by omega), sv_n (by decide)]
      exact hA.2.2.2.2.2.2.2.2.2
