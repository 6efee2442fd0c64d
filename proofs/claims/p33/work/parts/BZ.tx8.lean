/-! EACH: the next cursor, the one that was -/
theorem nI_ge' {m : Nat} (h : ¬ 4 ≤ m) (hm : m < 2 ^ 31) : ¬ (4 : Int32) ≤ nI m := nI_ge (b := 4) (by omega) (by decide)
theorem nx {b f u l : Nat} {about : Int32} {s : Nat} {Xc Xr : Gt} (hb2 : b < 2) (hs : s < 8) (hsb : s % 2 = b) (hu : Xc 84 11 = nI u) (hu6 : u < 601) (h126 : Xc 126 u = nI s) (hf : f < 1220) (hpl : ∀ k, k < 4 → Xc (20 + 5 * b + 4) k = Xr 60 (4 * b + k)) : ∀ d q m, dG d q → m + d ≤ 4 → q < 4096 →
    (∃ q' c' d', d' + 1 ≤ d ∧ dG d' q' ∧ q' < 4096 ∧ c' < 4 ∧ ¬ Xr 60 (4 * b + c') = -1 ∧
      (∀ (R : Gt) (K : Gt → Prop) (fuel : Nat), d + 1 ≤ fuel → K (mxw (gu (gu (gu Xc 122 u (nI q')) 124 u (Xc 124 u + 1)) (20 + 5 * b) 3 (nI c')) R) → w_X2_chooseNextCursor_h45 K fuel about (nI q) (nI m) (mxw Xc R)) ∧
      (∀ (C : Gt) (K : Gt → Prop) (fuel : Nat), d + 2 ≤ fuel → w_X11_goesOn_j77 K (nI f) 1 (mxw C (gu (gu Xr 68 f (nI q')) 61 b (nI c'))) → w_X11_goesOn_h12 K fuel (nI f) (nI b) 0 (mxw C (gu Xr 68 f (nI q))))) ∨
    ((∀ (R : Gt) (K : Gt → Prop) (fuel : Nat), d + 1 ≤ fuel → K (mxw (gu Xc 116 u about) R) → w_X2_chooseNextCursor_h45 K fuel about (nI q) (nI m) (mxw Xc R)) ∧
      (∀ (C : Gt) (K : Gt → Prop) (fuel : Nat), d + 2 ≤ fuel → w_X11_goesOn_j77 K (nI f) 0 (mxw C (gu Xr 68 f 0)) → w_X11_goesOn_h12 K fuel (nI f) (nI b) 0 (mxw C (gu Xr 68 f (nI q))))) := by
  have ht := tx_20 hb2
  obtain ⟨g1, g2, g3⟩ := tx_f ht
  have ht' := ht
  unfold tx at ht'
  have hd2 := d2_k ⟨s % 2, by omega⟩ ⟨s / 2, by omega⟩
  have es : 2 * (s / 2) + s % 2 = s := by omega
  simp only [es] at hd2
  have htx : txo 19 (nI b) = 20 + 5 * b := by
    have : b = 0 ∨ b = 1 := by omega
    rcases this with rfl | rfl <;> rfl
  have hv := vp_n hf (by decide : (1220 : Nat) < 2 ^ 31)
  have z0 : ∀ (C : Gt) (K : Gt → Prop) (fuel : Nat), 1 ≤ fuel → w_X11_goesOn_j77 K (nI f) 0 (mxw C (gu Xr 68 f 0)) → w_X11_goesOn_h12 K fuel (nI f) (nI b) 0 (mxw C (gu Xr 68 f (nI 0))) := by
    intro C K fuel hfu hk
    obtain ⟨n, rfl⟩ : ∃ n, fuel = n + 1 := ⟨fuel - 1, by omega⟩
    rw [w_X11_goesOn_h12, nI_clamp (by omega), show (mxw C (gu Xr 68 f (nI 0))) 68 f = nI 0 from by rw [mx_R rfl, gu_kk]]
    exact ⟨hv, pif_p (by decide) hk⟩
  intro d
  induction d with
  | zero =>
    intro q m hd hm hq
    have : q = 0 := hd
    subst this
    refine Or.inr ⟨fun R K fuel hfu hk => ?_, fun C K fuel hfu hk => z0 C K fuel (by omega) hk⟩
    obtain ⟨n, rfl⟩ : ∃ n, fuel = n + 1 := ⟨fuel - 1, by omega⟩
    rw [w_X2_chooseNextCursor_h45]
    unfold w_X2_chooseNextCursor_j143
    by_cases c : 4 ≤ m
    · have : m = 4 := by omega
      subst this
      exact pif_p (by decide) (k_jump hu hu6 hk)
    · exact pif_n (nI_ge' c (by omega)) (pif_p (by decide) (k_jump hu hu6 hk))
  | succ d ih =>
    intro q m hd hm hq
    rcases hd with rfl | ⟨d1, d2, d3⟩
    · refine Or.inr ⟨fun R K fuel hfu hk => ?_, fun C K fuel hfu hk => z0 C K fuel (by omega) hk⟩
      obtain ⟨n, rfl⟩ : ∃ n, fuel = n + 1 := ⟨fuel - 1, by omega⟩
      rw [w_X2_chooseNextCursor_h45]
      unfold w_X2_chooseNextCursor_j143
      exact pif_n (nI_ge' (by omega) (by omega)) (pif_p (by decide) (k_jump hu hu6 hk))
    · obtain ⟨y1, y2, y3, y4⟩ := dq hq
      have hq1 : 1 ≤ q := by omega
      -- one round of the class, of the reference
      have kc : ∀ (R : Gt) (K : Gt → Prop) (n : Nat), (Xr 60 (4 * b + (q % 8 - 1)) = -1 → w_X2_chooseNextCursor_h45 K n about (nI (q / 8)) (nI (m + 1)) (mxw Xc R)) → (¬ Xr 60 (4 * b + (q % 8 - 1)) = -1 → K (mxw (gu (gu (gu Xc 122 u (nI (q / 8))) 124 u (Xc 124 u + 1)) (20 + 5 * b) 3 (nI (q % 8 - 1))) R)) → w_X2_chooseNextCursor_h45 K (n + 1) about (nI q) (nI m) (mxw Xc R) := by
        intro R K n hA hB
        rw [w_X2_chooseNextCursor_h45]
        refine pif_n (nI_ge' (by omega) (by omega)) (pif_n (fun w => by have := (nI_leL (w := q) (a := 0) (b := 0) rfl (by omega) (by decide)).mp w; omega) ?_)
        have e126 : rat (mxw Xc R) 126 601 ((mxw Xc R) 84 11) = nI s := by rw [show (mxw Xc R) 84 11 = nI u from hu, rat_n hu6 (by decide)]; exact h126
        rw [e126, hd2.2.1, hsb, htx, y3, y4, nI_p d1, nI_1, rat_n (by omega) (by decide), mx_C g3, hpl _ (by omega)]
        by_cases c : Xr 60 (4 * b + (q % 8 - 1)) = -1
        · exact pif_p c (hA c)
        · refine pif_n c (pcp (i := u) hu hu6 (by decide) rfl ?_)
          have e124 : rat (mxw (gu Xc 122 u (nI (q / 8))) R) 124 601 ((mxw (gu Xc 122 u (nI (q / 8))) R) 84 11) = Xc 124 u := by
            rw [show (mxw (gu Xc 122 u (nI (q / 8))) R) 84 11 = nI u from hu, rat_n hu6 (by decide)]; rfl
          rw [e124]
          exact pcp (i := u) hu hu6 (by decide) rfl (ptc g1 (hB c))
      have kr : ∀ (C : Gt) (K : Gt → Prop) (n : Nat), (Xr 60 (4 * b + (q % 8 - 1)) = -1 → w_X11_goesOn_h12 K n (nI f) (nI b) 0 (mxw C (gu Xr 68 f (nI (q / 8))))) → (¬ Xr 60 (4 * b + (q % 8 - 1)) = -1 → w_X11_goesOn_h12 K n (nI f) (nI b) 1 (mxw C (gu (gu Xr 68 f (nI (q / 8))) 61 b (nI (q % 8 - 1))))) → w_X11_goesOn_h12 K (n + 1) (nI f) (nI b) 0 (mxw C (gu Xr 68 f (nI q))) := by
        intro C K n hA hB
        rw [w_X11_goesOn_h12]
        unfold w_X11_goesOn_j74
        rw [nI_clamp (by omega), show (mxw C (gu Xr 68 f (nI q))) 68 f = nI q from by rw [mx_R rfl, gu_kk], y2, y1, nI_p d1, e4, nI_clamp (by omega), nI_clamp (by omega)]
        refine ⟨hv, pif_n (fun w => by have := (nI_leL (w := q) (a := 0) (b := 0) rfl (by omega) (by decide)).mp w; omega) (pif_p rfl ⟨hv, hv, hv, ptr rfl ⟨vp_n (by omega) (by decide), ?_⟩⟩)⟩
        rw [gu_gu, show (mxw C (gu Xr 68 f (nI (q / 8)))) 60 (4 * b + (q % 8 - 1)) = Xr 60 (4 * b + (q % 8 - 1)) from by rw [mx_R rfl, gu_oo _ (by decide)]]
        by_cases c : Xr 60 (4 * b + (q % 8 - 1)) = -1
        · exact pif_p c (hA c)
        · exact pif_n c ⟨vp_n hb2 (by decide), ptr rfl (hB c)⟩
      by_cases c : Xr 60 (4 * b + (q % 8 - 1)) = -1
      · rcases ih (q / 8) (m + 1) d3 (by omega) (by omega) with ⟨q', c', d', w1, w2, w3, w4, w5, w6, w7⟩ | ⟨w6, w7⟩
        · refine Or.inl ⟨q', c', d', by omega, w2, w3, w4, w5, fun R K fuel hfu hk => ?_, fun C K fuel hfu hk => ?_⟩
          · obtain ⟨n, rfl⟩ : ∃ n, fuel = n + 1 := ⟨fuel - 1, by omega⟩
            exact kc R K n (fun _ => w6 R K n (by omega) hk) (fun y => absurd c y)
          · obtain ⟨n, rfl⟩ : ∃ n, fuel = n + 1 := ⟨fuel - 1, by omega⟩
            exact kr C K n (fun _ => w7 C K n (by omega) hk) (fun y => absurd c y)
        · refine Or.inr ⟨fun R K fuel hfu hk => ?_, fun C K fuel hfu hk => ?_⟩
          · obtain ⟨n, rfl⟩ : ∃ n, fuel = n + 1 := ⟨fuel - 1, by omega⟩
            exact kc R K n (fun _ => w6 R K n (by omega) hk) (fun y => absurd c y)
          · obtain ⟨n, rfl⟩ : ∃ n, fuel = n + 1 := ⟨fuel - 1, by omega⟩
            exact kr C K n (fun _ => w7 C K n (by omega) hk) (fun y => absurd c y)
      · refine Or.inl ⟨q / 8, q % 8 - 1, d, Nat.le_refl _, d3, by omega, by omega, c, fun R K fuel hfu hk => ?_, fun C K fuel hfu hk => ?_⟩
        · obtain ⟨n, rfl⟩ : ∃ n, fuel = n + 1 := ⟨fuel - 1, by omega⟩
          exact kc R K n (fun y => absurd y c) (fun _ => hk)
        · obtain ⟨n, rfl⟩ : ∃ n, fuel = n + 1 := ⟨fuel - 1, by omega⟩
          refine kr C K n (fun y => absurd y c) (fun _ => ?_)
          obtain ⟨n', rfl⟩ : ∃ n', n = n' + 1 := ⟨n - 1, by omega⟩
          rw [w_X11_goesOn_h12, nI_clamp (by omega)]
          by_cases y : (mxw C (gu (gu Xr 68 f (nI (q / 8))) 61 b (nI (q % 8 - 1)))) 68 f ≤ 0
          · exact ⟨hv, pif_p y hk⟩
          · exact ⟨hv, pif_n y (pif_n (by decide) hk)⟩
/-- the one that was, or the lowest -/
def sbk (R : Gt) (b c s : Nat) : Prop := s < 4 ∧ ¬ R 60 (4 * b + s) = -1 ∧ (s = c ∨ (R 60 (4 * b + c) = -1 ∧ ∀ k, k < s → R 60 (4 * b + k) = -1))
theorem sbk_ex {b c : Nat} {C R : Gt} (hT : gT (20 + 5 * b) b C R) (hc : c < 4) : ∃ s, sbk R b c s := by
  by_cases h : R 60 (4 * b + c) = -1
  · obtain ⟨f, h1, h2, h3⟩ := fst4 (fun k => ¬ R 60 (4 * b + k) = -1)
    obtain ⟨⟨l', c', g1, g2, g3, g4, g5, g6, g7, g8⟩, g9⟩ := hT
    have hf : f < 4 := by
      rcases Nat.lt_or_ge f 4 with q | q
      · exact q
      · exact absurd g7 (h2 c' (by omega))
    exact ⟨f, hf, h3 hf, Or.inr ⟨h, fun k hk => Classical.byContradiction (fun y => h2 k hk y)⟩⟩
  · exact ⟨c, hc, h, Or.inl rfl⟩
theorem k_sb {K : Gt → Prop} {X R Xr : Gt} {b c s : Nat} (hb2 : b < 2) (hc : c < 4) (hs : sbk Xr b c s) (hpl : ∀ k, k < 4 → X (20 + 5 * b + 4) k = Xr 60 (4 * b + k)) (hk : K (mxw (gu X (20 + 5 * b) 3 (nI s)) R)) : w_X8_chooseAgain (20 + 5 * b) K (nI c) (mxw X R) := by
  have ht := tx_20 hb2
  obtain ⟨g1, g2, g3⟩ := tx_f ht
  obtain ⟨s1, s2, s3⟩ := hs
  unfold w_X8_chooseAgain
  rw [rat_n hc (by decide), mx_C g3, hpl c hc]
  by_cases c0 : Xr 60 (4 * b + c) = -1
  · refine pif_p c0 ?_
    have s3' : ∀ k, k < s → Xr 60 (4 * b + k) = -1 := by
      rcases s3 with q | q
      · subst q; exact absurd c0 s2
      · exact q.2
    have hz : ∀ Z, (Z = X ∨ ∃ w, Z = gu X (20 + 5 * b) 3 w) → ∀ k, k < 4 → (mxw Z R) (20 + 5 * b + 4) k = Xr 60 (4 * b + k) := by
      intro Z hZ k hk4
      rw [mx_C g3]
      rcases hZ with q | ⟨w, q⟩
      · rw [q]; exact hpl k hk4
      · rw [q, gu_oo _ (by omega)]; exact hpl k hk4
    have ix : ∀ r : Nat, nI r + -1 = if r = 0 then -1 else nI (r - 1) := by
      intro r
      cases r with
      | zero => rfl
      | succ r => rw [if_neg (by omega), pk_m1]; rfl
    have lend : ∀ (n : Nat) (Z : Gt), K (mxw Z R) → w_X8_chooseAgain_h20 (20 + 5 * b) K (n + 1) (-1) (mxw Z R) := by
      intro n Z hZ
      rw [w_X8_chooseAgain_h20]
      exact pif_p (by decide) hZ
    have lo : ∀ n, n < s → w_X8_chooseAgain_h20 (20 + 5 * b) K (n + 2) (nI n) (mxw (gu X (20 + 5 * b) 3 (nI s)) R) := by
      intro n
      induction n with
      | zero =>
        intro hn
        rw [w_X8_chooseAgain_h20]
        unfold w_X8_chooseAgain_j41
        rw [rat_n (by omega) (by decide), hz _ (Or.inr ⟨_, rfl⟩) _ (by omega), ix 0, if_pos rfl]
        exact pif_n (nI_n0 (by decide)) (pif_p (s3' 0 hn) (lend 0 _ hk))
      | succ n ih =>
        intro hn
        rw [w_X8_chooseAgain_h20]
        unfold w_X8_chooseAgain_j41
        rw [rat_n (by omega) (by decide), hz _ (Or.inr ⟨_, rfl⟩) _ (by omega), ix, if_neg (by omega)]
        exact pif_n (nI_n0 (by omega)) (pif_p (s3' (n + 1) hn) (ih (by omega)))
    have at_s : ∀ Z, (Z = X ∨ ∃ w, Z = gu X (20 + 5 * b) 3 w) → w_X8_chooseAgain_h20 (20 + 5 * b) K (s + 2) (nI s) (mxw Z R) := by
      intro Z hZ
      rw [w_X8_chooseAgain_h20]
      unfold w_X8_chooseAgain_j41
      rw [rat_n (by omega) (by decide), hz _ hZ _ s1]
      refine pif_n (nI_n0 (by omega)) (pif_n s2 (ptc g1 ?_))
      have e : gu Z (20 + 5 * b) 3 (nI s) = gu X (20 + 5 * b) 3 (nI s) := by
        rcases hZ with rfl | ⟨w, rfl⟩
        · rfl
        · rw [gu_gu]
      rw [e, ix]
      by_cases c1 : s = 0
      · rw [if_pos c1, c1]
        rw [c1] at hk
        exact lend 0 _ hk
      · rw [if_neg c1]
        have := lo (s - 1) (by omega)
        rw [show s - 1 + 2 = s + 1 by omega] at this
        exact this
    have hi : ∀ r n, s + r = n → n < 4 → ∀ Z, (Z = X ∨ ∃ w, Z = gu X (20 + 5 * b) 3 w) → w_X8_chooseAgain_h20 (20 + 5 * b) K (n + 2) (nI n) (mxw Z R) := by
      intro r
      induction r with
      | zero =>
        intro n hn h4 Z hZ
        have : n = s := by omega
        subst this
        exact at_s Z hZ
      | succ r ih =>
        intro n hn h4 Z hZ
        obtain ⟨n', rfl⟩ : ∃ n', n = n' + 1 := ⟨n - 1, by omega⟩
        rw [w_X8_chooseAgain_h20]
        unfold w_X8_chooseAgain_j41
        rw [rat_n (by omega) (by decide), hz _ hZ _ h4, ix, if_neg (by omega)]
        refine pif_n (nI_n0 (by omega)) ?_
        by_cases c1 : Xr 60 (4 * b + (n' + 1)) = -1
        · exact pif_p c1 (ih n' (by omega) (by omega) Z hZ)
        · refine pif_n c1 (ptc g1 (ih n' (by omega) (by omega) _ (Or.inr ⟨nI (n' + 1), ?_⟩)))
          rcases hZ with rfl | ⟨w, rfl⟩
          · rfl
          · rw [gu_gu]
    exact ⟨5, hi (3 - s) 3 (by omega) (by decide) X (Or.inl rfl)⟩
  · have : s = c := by
      rcases s3 with q | q
      · exact q
      · exact absurd q.1 c0
    subst this
    exact pif_n c0 (ptc g1 hk)
theorem r_sb {K : Gt → Prop} {C G : Gt} {f b c s : Nat} (hf : f < 1220) (hb2 : b < 2) (hc : c < 4) (h69 : G 69 f = nI (8 * b + c)) (hs : sbk G b c s) (hk : K (mxw C (gu G 61 b (nI s)))) : w_X11_setsBack K (nI f) (mxw C G) := by
  obtain ⟨s1, s2, s3⟩ := hs
  have hd := d2_k ⟨b, hb2⟩ ⟨c, hc⟩
  simp only at hd
  have hv := vp_n hf (by decide : (1220 : Nat) < 2 ^ 31)
  unfold w_X11_setsBack w_X11_setsBack_j56
  rw [nI_clamp (by omega), show (mxw C G) 69 f = nI (8 * b + c) from h69, hd.2.2.2.2.1, hd.2.2.2.1, e4, nI_clamp (by omega), nI_clamp (by omega)]
  refine ⟨hv, hv, vp_n (by omega) (by decide), ?_⟩
  by_cases c0 : G 60 (4 * b + c) = -1
  · refine pif_p c0 ?_
    have s3' : ∀ k, k < s → G 60 (4 * b + k) = -1 := by
      rcases s3 with q | q
      · subst q; exact absurd c0 s2
      · exact q.2
    have : ∀ r n, n + r = s → w_X11_setsBack_h36 K (r + 1) (nI b) (nI n) (mxw C G) := by
      intro r
      induction r with
      | zero =>
        intro n hn
        have : n = s := by omega
        subst this
        rw [w_X11_setsBack_h36, e4, nI_clamp (by omega)]
        unfold w_X11_setsBack_j56
        rw [nI_clamp (by omega)]
        exact ⟨vp_n (by omega) (by decide), pif_n s2 ⟨vp_n hb2 (by decide), ptr rfl hk⟩⟩
      | succ r ih =>
        intro n hn
        have hi := ih (n + 1) (by omega)
        rw [w_X11_setsBack_h36, e4, nI_clamp (by omega), nI_1]
        exact ⟨vp_n (by omega) (by decide), pif_p (s3' n (by omega)) hi⟩
    exact ⟨_, this s 0 (by omega)⟩
  · have : s = c := by
      rcases s3 with q | q
      · exact q
      · exact absurd q.1 c0
    subst this
    exact pif_n c0 ⟨vp_n hb2 (by decide), ptr rfl hk⟩
