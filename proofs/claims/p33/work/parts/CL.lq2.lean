/-! THE CALLS THAT RUN -/
theorem eq71 {G : Gt} {t : Int32} {R : Gt} : mxw (gu G 46 71 t) R = mxw G R := mxw_c (fun k hk => gu_ne (by rintro rfl; exact absurd hk (by decide)))
theorem run_y {K : Int32 → Gt → Prop} {G : Gt} {N i : Nat} (e : G 46 0 = nI N) (hN : N ≤ 120) (hi : i < N) (h52 : G 46 52 = 0) (hk : w_X11_runsAll (fun G5 => w_X11_lasts (fun G6 => K (G6 46 66) G6) G5) (nI i) (gu G 46 71 0)) : w_X11_run K (nI i) G := by
  unfold w_X11_run w_X11_run_j18
  exact node_y e hN hi (pif_p h52 (goes_y (by decide) (by decide) (by decide) (pif_n (by decide) hk)))
theorem run_n {K : Int32 → Gt → Prop} {G : Gt} {N : Nat} {x t : Int32} (h : (t = 1 ∧ ¬ ∃ i, i < N ∧ x = nI i) ∨ (t = 2 ∧ (∃ i, i < N ∧ x = nI i) ∧ ¬ G 46 52 = 0)) (e : G 46 0 = nI N) (hN : N ≤ 120) (hk : K 0 (gu G 46 71 t)) : w_X11_run K x G := by
  unfold w_X11_run w_X11_run_j18
  rcases h with ⟨rfl, h⟩ | ⟨rfl, ⟨i, hi, rfl⟩, h⟩
  · refine node_n e hN h ?_
    by_cases h52 : G 46 52 = 0
    · exact pif_p h52 (goes_n (thr_1 rfl) (by decide) (pif_p rfl hk))
    · exact pif_n h52 (goes_n (thr_1 rfl) (by decide) (pif_p rfl hk))
  · exact node_y e hN hi (pif_n h (goes_n (thr_2 (by decide) rfl) (by decide) (pif_p rfl hk)))
theorem tries_y {K : Int32 → Gt → Prop} {G : Gt} {N i : Nat} (e : G 46 0 = nI N) (hN : N ≤ 120) (hi : i < N) (h52 : G 46 52 = 0) (hk : ∃ n, w_X11_tries_h29 K n (nI i) 0 (gu G 46 71 0)) : w_X11_tries K (nI i) G := by
  unfold w_X11_tries w_X11_tries_j18
  exact node_y e hN hi (pif_p h52 (goes_y (by decide) (by decide) (by decide) (pif_n (by decide) hk)))
theorem tries_n {K : Int32 → Gt → Prop} {G : Gt} {N : Nat} {x t : Int32} (h : (t = 1 ∧ ¬ ∃ i, i < N ∧ x = nI i) ∨ (t = 2 ∧ (∃ i, i < N ∧ x = nI i) ∧ ¬ G 46 52 = 0)) (e : G 46 0 = nI N) (hN : N ≤ 120) (hk : K 0 (gu G 46 71 t)) : w_X11_tries K x G := by
  unfold w_X11_tries w_X11_tries_j18
  rcases h with ⟨rfl, h⟩ | ⟨rfl, ⟨i, hi, rfl⟩, h⟩
  · refine node_n e hN h ?_
    by_cases h52 : G 46 52 = 0
    · exact pif_p h52 (goes_n (thr_1 rfl) (by decide) (pif_p rfl hk))
    · exact pif_n h52 (goes_n (thr_1 rfl) (by decide) (pif_p rfl hk))
  · exact node_y e hN hi (pif_n h (goes_n (thr_2 (by decide) rfl) (by decide) (pif_p rfl hk)))
theorem start_y {K : Gt → Prop} {G : Gt} {N i : Nat} (e : G 46 0 = nI N) (hN : N ≤ 120) (hi : i < N) (h52 : G 46 52 = 0) (hk : w_X11_prepares (fun G5 => pt (gu G5 46 52 1) fun G6 => K G6) (nI i) (gu G 46 71 0)) : w_X11_start K (nI i) G := by
  unfold w_X11_start w_X11_start_j18 w_X11_start_j35
  exact node_y e hN hi (pif_p h52 (goes_y (by decide) (by decide) (by decide) (pif_n (by decide) hk)))
theorem start_n {K : Gt → Prop} {G : Gt} {N : Nat} {x t : Int32} (h : (t = 1 ∧ ¬ ∃ i, i < N ∧ x = nI i) ∨ (t = 2 ∧ (∃ i, i < N ∧ x = nI i) ∧ ¬ G 46 52 = 0)) (e : G 46 0 = nI N) (hN : N ≤ 120) (hk : K (gu G 46 71 t)) : w_X11_start K x G := by
  unfold w_X11_start w_X11_start_j18 w_X11_start_j35
  rcases h with ⟨rfl, h⟩ | ⟨rfl, ⟨i, hi, rfl⟩, h⟩
  · refine node_n e hN h ?_
    by_cases h52 : G 46 52 = 0
    · exact pif_p h52 (goes_n (thr_1 rfl) (by decide) (pif_p rfl hk))
    · exact pif_n h52 (goes_n (thr_1 rfl) (by decide) (pif_p rfl hk))
  · exact node_y e hN hi (pif_n h (goes_n (thr_2 (by decide) rfl) (by decide) (pif_p rfl hk)))
theorem jA_71 {N : Nat} {G : Gt} {t : Int32} (h : jA N G) : jA N (gu G 46 71 t) := jA_eq h (fun k j q => gu_n (by unfold jfr at q; omega))
theorem rsd_eq {G W : Gt} (h : rsd G) (e : ∀ k j, (58 ≤ k ∧ k ≤ 62) ∨ k = 56 ∨ k = 54 ∨ (k = 46 ∧ (j = 12 ∨ j = 14)) → W k j = G k j) : rsd W := by
  obtain ⟨r1, r2, r3, r4, r5, r6, r7⟩ := h
  refine ⟨fun k hk => ?_, fun b hb => ⟨?_, ?_⟩, fun k hk => ?_, fun k hk => ?_, fun s hs => ?_, ?_, ?_⟩
  · rw [e 58 k (by omega), e 62 k (by omega)]; exact r1 k hk
  · rw [e 59 b (by omega), e 62 _ (by omega)]; exact (r2 b hb).1
  · rw [e 61 b (by omega), e 62 _ (by omega)]; exact (r2 b hb).2
  · rw [e 60 k (by omega), e 62 _ (by omega)]; exact r3 k hk
  · rw [e 56 k (by omega), e 62 _ (by omega)]; exact r4 k hk
  · rw [e 54 s (by omega), e 62 _ (by omega)]; exact r5 s hs
  · rw [e 46 12 (by omega), e 62 _ (by omega)]; exact r6
  · rw [e 46 14 (by omega), e 62 _ (by omega)]; exact r7
theorem bbr_n {G : Gt} {k j : Nat} (h : ¬ k = 33) (h2 : ¬ bbk k j) : bbr G k j = G k j := by
  unfold bbr; rw [if_neg (fun q => h q.1)]; exact bb_n h2
theorem bbr_y {G : Gt} {k j : Nat} (h : ¬ k = 33) (h2 : bbk k j) : bbr G k j = G (k + 66) j := by
  unfold bbr; rw [if_neg (fun q => h q.1)]; exact bb_y h2
theorem bbk_f {k j : Nat} (h : bbk k j) : isR k = false := by
  cases hk : isR k
  · rfl
  · have := isR_t hk
    unfold bbk at h
    omega
/-- cells of the class that its answers hang on -/
def pl9 (k j : Nat) : Prop := k = 1 ∨ k = 3 ∨ k = 5 ∨ k = 7 ∨ k = 9 ∨ k = 11 ∨ k = 13 ∨ k = 14 ∨ k = 16 ∨ k = 18 ∨ k = 37 ∨ k = 39 ∨ (k = 0 ∧ j = 4) ∨ k = 40 ∨ k = 42
theorem pl9_b {k j : Nat} (h : pl9 k j) : kpd k j ∧ k < 43 ∧ isR k = false ∧ ¬ bbk k j := by
  unfold pl9 at h
  rcases h with rfl | rfl | rfl | rfl | rfl | rfl | rfl | rfl | rfl | rfl | rfl | rfl | ⟨rfl, rfl⟩ | rfl | rfl <;> exact ⟨by unfold kpd; omega, by decide, rfl, by unfold bbk; omega⟩
def vs9 (k j : Nat) : Prop := pl9 k j ∨ bbk k j
theorem vs9_f {k j : Nat} (h : vs9 k j) : isR k = false := by
  rcases h with h | h
  · exact (pl9_b h).2.2.1
  · exact bbk_f h
/-- what a run in class and ghost comes to, undone -/
theorem try_P {N m B : Nat} {G : Gt} (hA : jA N G) (hm : m < N) (hB1 : 1 ≤ B) (hB2 : B ≤ 600) (hB : G 0 4 = nI B) : ∃ (Cx Gf : Gt) (n : Nat), (∀ (R : Gt) (K : Gt → Prop), K (mxw Cx R) → w_X2_open 43 (fun G2 => w_X2_advance (fun _ G3 => w_X9_become 19 85 (fun G5 => K G5) G3) 601 0 G2) (nI m) (G 0 4) (mxw G R)) ∧
    Cx 43 0 = Gf 46 62 ∧ Cx 43 1 = nI n ∧ Cx 84 7 = 0 ∧ (∀ k j, vs9 k j ∨ (k = 33 ∧ j < 4) → Cx k j = G k j) ∧ 1 ≤ n ∧ n ≤ B ∧ RES B (st0 1 B m G) n Gf ∧ (vrV (Gf 46 62) ∨ (40001 ≤ Gf 46 62 ∧ Gf 46 62 < 60000)) := by
  obtain ⟨z, n, Gf, hf, hfR, hrp, hz, hn1, hnB, hres, hv, hkq, hcl⟩ := run_core (q := 43) (Or.inr rfl) hA hm hB1 hB2 hB
  obtain ⟨Cf, c, hc, h64, hset, c0, c1, c2, c3, ct, cn, cb, cw⟩ := fin_set hf (Or.inr rfl) hrp hfR.2.2.2.2
  have hk : ∀ k j, kpd k j → ¬ (k = 84 ∧ j = 10) → ¬ (k = 46 ∧ j = 58) → Gf k j = (st0 1 B m G) k j := hkq
  refine ⟨bbr Cf, Gf, n, fun R K hK => ?_, ?_, ?_, ?_, fun k j hv9 => ?_, hn1, hnB, hres, ?_⟩
  · refine hcl R (fun _ G3 => w_X9_become 19 85 (fun G5 => K G5) G3) ?_
    unfold w_X2_advance_j249
    refine pif_p ((mx_C rfl).trans hf.1) (hset R _ ?_)
    unfold w_X2_advance_j260
    exact k_bbr hK
  · rw [bbr_n (by decide) (by unfold bbk; omega), c0]
  · rw [bbr_n (by decide) (by unfold bbk; omega), c1, hf.2.2.2.2.2.1, hz]
  · rw [bbr_n (by decide) (by unfold bbk; omega)]
    exact (cn 84 7 (by decide) (by decide) (by unfold bbk; omega)).trans hf.1
  · have es : ∀ (a b : Nat), a < 84 → isR a = false → (st0 1 B m G) a b = G a b := (st0_w (w := 1) hA hm hB2).2.2.2
    by_cases h33 : k = 33
    · subst h33
      have hj : j < 4 := by
        rcases hv9 with q | q
        · unfold vs9 pl9 bbk at q; omega
        · exact q.2
      unfold bbr
      rw [if_pos ⟨rfl, hj⟩, cn 99 j (by decide) (by decide) (by unfold bbk; omega), hk 99 j (by unfold kpd; omega) (by omega) (by omega)]
      exact st0_99 hj
    · have hv9 : vs9 k j := by
        rcases hv9 with q | q
        · exact q
        · exact absurd q.1 h33
      by_cases hb : bbk k j
      · rw [bbr_y h33 hb, cn (k + 66) j (by unfold bbk at hb; omega) (by unfold bbk at hb; omega) (by unfold bbk at hb; unfold bbk; omega), hk (k + 66) j (by unfold kpd; unfold bbk at hb; omega) (by unfold bbk at hb; omega) (by unfold bbk at hb; omega)]
        exact st0_b hb
      · obtain ⟨u1, u2, u3, u4⟩ := pl9_b (hv9.resolve_right hb)
        have hf9 := vs9_f hv9
        rw [bbr_n h33 hb, cn k j (by omega) (by omega) hb, hk k j u1 (by omega) (by omega)]
        exact es k j (by omega) hf9
  · by_cases h15 : Gf 84 15 = 1
    · obtain ⟨_, _, _, _, q⟩ := fin_told hf
      exact Or.inr (q h15).2.1
    · exact Or.inl (hv h15)
