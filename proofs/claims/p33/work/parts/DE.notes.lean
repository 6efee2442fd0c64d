/-! P33: notes -/
/-- what there is to note -/
def nt (G : Gt) (i : Nat) : Int32 := if i < 2 then G (20 + 5 * i) 2 else if i < 10 then G (20 + 5 * ((i - 2) / 4) + 4) ((i - 2) % 4) else if i < 12 then G (20 + 5 * (i - 10)) 3 else if i < 16 then G 31 (i - 12) else if i < 18 then 0 else if i < 24 then G 35 (i - 18) else if i = 24 then G 19 8 else G 19 7
theorem nt_0 {G : Gt} {b : Nat} (hb : b < 2) : nt G b = G (20 + 5 * b) 2 := by unfold nt; rw [if_pos hb]
theorem nt_2 {G : Gt} {b j : Nat} (hb : b < 2) (hj : j < 4) : nt G (2 + 4 * b + j) = G (20 + 5 * b + 4) j := by
  unfold nt
  rw [if_neg (by omega), if_pos (by omega), show (2 + 4 * b + j - 2) / 4 = b by omega, show (2 + 4 * b + j - 2) % 4 = j by omega]
theorem nt_10 {G : Gt} {b : Nat} (hb : b < 2) : nt G (10 + b) = G (20 + 5 * b) 3 := by
  unfold nt
  rw [if_neg (by omega), if_neg (by omega), if_pos (by omega), show 10 + b - 10 = b by omega]
theorem nt_12 {G : Gt} {k : Nat} (hk : k < 4) : nt G (12 + k) = G 31 k := by
  unfold nt
  rw [if_neg (by omega), if_neg (by omega), if_neg (by omega), if_pos (by omega), show 12 + k - 12 = k by omega]
theorem nt_16 {G : Gt} {k : Nat} (h4 : 4 ≤ k) (hk : k < 6) : nt G (12 + k) = 0 := by
  unfold nt
  rw [if_neg (by omega), if_neg (by omega), if_neg (by omega), if_neg (by omega), if_pos (by omega)]
theorem nt_18 {G : Gt} {k : Nat} (hk : k < 6) : nt G (18 + k) = G 35 k := by
  unfold nt
  rw [if_neg (by omega), if_neg (by omega), if_neg (by omega), if_neg (by omega), if_neg (by omega), if_pos (by omega), show 18 + k - 18 = k by omega]
theorem nt_24 {G : Gt} : nt G 24 = G 19 8 := rfl
theorem nt_25 {G : Gt} : nt G 25 = G 19 7 := rfl
theorem nt_eq {G G' : Gt} (h : ∀ k j, bbk k j → G' k j = G k j) {i : Nat} (hi : i < 26) : nt G' i = nt G i := by
  have c : i < 2 ∨ (∃ b j, b < 2 ∧ j < 4 ∧ i = 2 + 4 * b + j) ∨ (∃ b, b < 2 ∧ i = 10 + b) ∨ (∃ k, k < 4 ∧ i = 12 + k) ∨ (∃ k, 4 ≤ k ∧ k < 6 ∧ i = 12 + k) ∨ (∃ k, k < 6 ∧ i = 18 + k) ∨ i = 24 ∨ i = 25 := by
    by_cases a1 : i < 2
    · exact Or.inl a1
    by_cases a2 : i < 10
    · exact Or.inr (Or.inl ⟨(i - 2) / 4, (i - 2) % 4, by omega, by omega, by omega⟩)
    by_cases a3 : i < 12
    · exact Or.inr (Or.inr (Or.inl ⟨i - 10, by omega, by omega⟩))
    by_cases a4 : i < 16
    · exact Or.inr (Or.inr (Or.inr (Or.inl ⟨i - 12, by omega, by omega⟩)))
    by_cases a5 : i < 18
    · exact Or.inr (Or.inr (Or.inr (Or.inr (Or.inl ⟨i - 12, by omega, by omega, by omega⟩))))
    by_cases a6 : i < 24
    · exact Or.inr (Or.inr (Or.inr (Or.inr (Or.inr (Or.inl ⟨i - 18, by omega, by omega⟩)))))
    exact Or.inr (Or.inr (Or.inr (Or.inr (Or.inr (Or.inr (by omega))))))
  rcases c with c | ⟨b, j, hb, hj, rfl⟩ | ⟨b, hb, rfl⟩ | ⟨k, hk, rfl⟩ | ⟨k, h4, hk, rfl⟩ | ⟨k, hk, rfl⟩ | rfl | rfl
  · rw [nt_0 c, nt_0 c]; exact h _ _ (by unfold bbk; omega)
  · rw [nt_2 hb hj, nt_2 hb hj]; exact h _ _ (by unfold bbk; omega)
  · rw [nt_10 hb, nt_10 hb]; exact h _ _ (by unfold bbk; omega)
  · rw [nt_12 hk, nt_12 hk]; exact h _ _ (by unfold bbk; omega)
  · rw [nt_16 h4 hk, nt_16 h4 hk]
  · rw [nt_18 hk, nt_18 hk]; exact h _ _ (by unfold bbk; omega)
  · rw [nt_24, nt_24]; exact h _ _ (by unfold bbk; omega)
  · rw [nt_25, nt_25]; exact h _ _ (by unfold bbk; omega)
def NTi (c : Nat) (G G' : Gt) (P : Nat → Prop) : Prop := (∀ k, ¬ k = c → G' k = G k) ∧ ∀ i, i < 26 → P i → G' c i = nt G i
theorem NTi_put {c i0 : Nat} {G G' : Gt} {P P' : Nat → Prop} {v : Int32} (h : NTi c G G' P) (hv : v = nt G i0) (hP : ∀ i, P' i → P i ∨ i = i0) : NTi c G (gu G' c i0 v) P' := by
  refine ⟨fun k hk => ?_, fun i hi hp => ?_⟩
  · rw [← h.1 k hk]
    funext j
    exact gu_oo _ hk
  · by_cases e : i = i0
    · subst e
      rw [gu_kk]; exact hv
    · rw [gu_ko _ e]
      rcases hP i hp with q | q
      · exact h.2 i hi q
      · exact absurd q e
/-- a text at a place that depends on the buffer -/
def txB (G : Gt) (b : Nat) : Prop := ∃ l c, l ≤ 40 ∧ c < 4 ∧ G (20 + 5 * b) 2 = nI l ∧ G (20 + 5 * b) 3 = nI c ∧ ¬ G (20 + 5 * b + 4) c = -1 ∧ (∀ k, k < 4 → (G (20 + 5 * b + 4) k = -1 ∨ ∃ j, j ≤ l ∧ G (20 + 5 * b + 4) k = nI j)) ∧ ∀ p, p < 40 → ∃ j, j < 26 ∧ G (20 + 5 * b + 2) p = nI j
def wlC (G : Gt) : Prop := (∀ b, b < 2 → txB G b) ∧ ∃ b, b < 2 ∧ G 19 7 = nI b
theorem Jn_w {N : Nat} {R G : Gt} (h : Jn N R G) : wlC G := by
  obtain ⟨h0, h1, h2⟩ := Jn_t h
  refine ⟨fun b hb => ?_, h2⟩
  have : b = 0 ∨ b = 1 := by omega
  rcases this with rfl | rfl
  · exact h0
  · exact h1
def P4 (b i : Nat) : Prop := i < b ∨ (2 ≤ i ∧ i < 2 + 4 * b) ∨ (10 ≤ i ∧ i < 10 + b)
def P24 (b j i : Nat) : Prop := i < b + 1 ∨ (2 ≤ i ∧ i < 2 + 4 * b + j) ∨ (10 ≤ i ∧ i < 10 + b)
def P166 (k i : Nat) : Prop := i < 12 ∨ (12 ≤ i ∧ i < 12 + k) ∨ (18 ≤ i ∧ i < 18 + k)
theorem nI_add' {a b : Nat} {x : Int32} (e : x = nI a) : x + nI b = nI (a + b) := by rw [e, nI_add]
theorem nt166_A {K : Sh → Gt → Prop} {G : Gt} (hb : ∃ b, b < 2 ∧ G 19 7 = nI b) (hK : ∀ G', NTi 48 G G' (fun _ => True) → K shA G') : ∀ (n k : Nat) (G' : Gt), k + n = 7 → k ≤ 6 → NTi 48 G G' (P166 k) → w_L_notes_A_h166 K n (nI k) G' := by
  intro n
  induction n with
  | zero => intro k G' h1 h2; omega
  | succ n ih =>
    intro k G' hk hk6 hI
    have e12 : (12 : Int32) + nI k = nI (12 + k) := nI_add' rfl
    have e18 : (18 : Int32) + nI k = nI (18 + k) := nI_add' rfl
    rw [w_L_notes_A_h166]
    by_cases h6 : k = 6
    · subst h6
      refine pif_p (by decide) ?_
      unfold w_X10_hook_A w_X10_buffer_A
      refine ⟨by unfold vp_in; decide, pt_of ?_⟩
      have i1 : NTi 48 G (gu G' 48 24 (G' 19 8)) (fun i => i < 25) := NTi_put hI (by rw [hI.1 19 (by decide), nt_24]) (fun i q => by unfold P166; omega)
      have i2 : NTi 48 G (gu (gu G' 48 24 (G' 19 8)) 48 25 ((gu G' 48 24 (G' 19 8)) 19 7)) (fun i => i < 26) := NTi_put i1 (by rw [i1.1 19 (by decide), nt_25]) (fun i q => by omega)
      have i3 : NTi 48 G (gu (gu G' 48 24 (G' 19 8)) 48 25 ((gu G' 48 24 (G' 19 8)) 19 7)) (fun _ => True) := ⟨i2.1, fun i hi _ => i2.2 i hi hi⟩
      refine ⟨by unfold vp_in; decide, pt_of ⟨by unfold vp_in; decide, ?_⟩⟩
      have e25 : (gu (gu G' 48 24 (G' 19 8)) 48 25 ((gu G' 48 24 (G' 19 8)) 19 7)) 48 25 = G 19 7 := i3.2 25 (by decide) trivial
      obtain ⟨b, hb2, hb7⟩ := hb
      have hb01 : b = 0 ∨ b = 1 := by omega
      rcases hb01 with rfl | rfl
      · exact pif_p (e25.trans hb7) (hK _ i3)
      · refine pif_n ?_ ⟨by unfold vp_in; decide, pif_p (e25.trans hb7) (hK _ i3)⟩
        intro q
        have q2 : nI 1 = 0 := hb7.symm.trans (e25.symm.trans q)
        exact absurd q2 (by decide)
    · refine pif_n (nI_ge (b := 6) (by omega) (by decide)) ?_
      by_cases h4 : 4 ≤ k
      · refine pif_p ((nI_leR (a := 4) rfl (by omega) (by decide)).mpr h4) ?_
        rw [e12, e18, nI_clamp (by omega), nI_clamp (by omega), nI_1]
        have i1 : NTi 48 G (gu G' 48 (12 + k) 0) (fun i => P166 k i ∨ i = 12 + k) := NTi_put hI (nt_16 h4 (by omega)).symm (fun i q => q)
        refine ⟨vp_n (by omega) (by decide), pt_of (l_bod_A (by omega) _ ⟨rfl, ?_⟩)⟩
        refine ⟨vp_n (by omega) (by decide), pt_of ?_⟩
        exact ih (k + 1) _ (by omega) (by omega) (NTi_put i1 (by rw [i1.1 35 (by decide), nt_18 (by omega)]) (fun i q => by unfold P166 at q ⊢; omega))
      · refine pif_n (nI_ge (b := 4) (by omega) (by decide)) (l_opt_A (by omega) _ ⟨rfl, ?_⟩)
        rw [e12, e18, nI_clamp (by omega), nI_clamp (by omega), nI_1]
        have i1 : NTi 48 G (gu G' 48 (12 + k) (G' 31 k)) (fun i => P166 k i ∨ i = 12 + k) := NTi_put hI (by rw [hI.1 31 (by decide), nt_12 (by omega)]) (fun i q => q)
        refine ⟨vp_n (by omega) (by decide), pt_of (l_bod_A (by omega) _ ⟨rfl, ?_⟩)⟩
        refine ⟨vp_n (by omega) (by decide), pt_of ?_⟩
        exact ih (k + 1) _ (by omega) (by omega) (NTi_put i1 (by rw [i1.1 35 (by decide), nt_18 (by omega)]) (fun i q => by unfold P166 at q ⊢; omega))
theorem nt24_A {K : Sh → Gt → Prop} {rec4 : Int32 → Gt → Prop} {G : Gt} {b l c : Nat} (hb : b < 2) (hl : l ≤ 40) (hc : c < 4) (e2 : G (20 + 5 * b) 2 = nI l) (e3 : G (20 + 5 * b) 3 = nI c) (ec : ¬ G (20 + 5 * b + 4) c = -1) (ek : ∀ k, k < 4 → (G (20 + 5 * b + 4) k = -1 ∨ ∃ j, j ≤ l ∧ G (20 + 5 * b + 4) k = nI j)) (hrec : ∀ G', NTi 48 G G' (P4 (b + 1)) → rec4 (nI (b + 1)) G') : ∀ (n j : Nat) (G' : Gt), j + n = 5 → j ≤ 4 → NTi 48 G G' (P24 b j) → w_L_notes_A_h24 K rec4 n (nI b) (nI l) (nI j) G' := by
  intro n
  induction n with
  | zero => intro j G' h1 h2; omega
  | succ n ih =>
    intro j G' hj hj4 hI
    have e10 : (10 : Int32) + nI b = nI (10 + b) := nI_add' rfl
    have e22 : (2 : Int32) + 4 * nI b + nI j = nI (2 + 4 * b + j) := by
      rw [show (4 : Int32) = nI 4 from rfl, nI_mulx, nI_add' (a := 2) (x := 2) rfl, nI_add]
    rw [w_L_notes_A_h24]
    by_cases h4 : j = 4
    · subst h4
      refine pif_p (by decide) (l_act_A hb _ ⟨rfl, ?_⟩)
      have i1 : NTi 48 G (gu G' 48 (10 + b) (G' (20 + 5 * b) 3)) (P4 (b + 1)) := NTi_put hI (by rw [hI.1 _ (by omega), nt_10 hb]) (fun i q => by unfold P4 at q; unfold P24; omega)
      have e10' : (gu G' 48 (10 + b) (G' (20 + 5 * b) 3)) 48 (10 + b) = nI c := by rw [gu_kk, hI.1 _ (by omega)]; exact e3
      rw [e10, nI_clamp (by omega)]
      refine ⟨vp_n (by omega) (by decide), pt_of (pif_n (nI_lt0 (by omega)) (pif_n (nI_ge (b := 41) (by omega) (by decide)) ⟨vp_n (by omega) (by decide), ?_⟩))⟩
      rw [e10']
      refine pif_n (nI_lt0 (by omega)) ⟨vp_n (by omega) (by decide), pif_n (nI_ge (b := 4) (by omega) (by decide)) ⟨vp_n (by omega) (by decide), l_cur_A hb hc _ ⟨rfl, ?_⟩⟩⟩
      refine pif_n ?_ (l_letx_A hb hl ?_ _ ⟨rfl, ?_⟩)
      · rw [i1.1 _ (by omega)]
        rcases ek c hc with q | ⟨p, hp, q⟩
        · exact absurd q ec
        · rw [q]; exact nI_lt0 (by omega)
      · rw [i1.1 _ (by omega)]; exact e2
      · refine pif_p rfl ?_
        rw [nI_1]
        exact hrec _ i1
    · refine pif_n (nI_ge (b := 4) (by omega) (by decide)) (l_cur_A hb (by omega) _ ⟨rfl, ?_⟩)
      rw [e22, nI_clamp (by omega), nI_1]
      have ev : G' (20 + 5 * b + 4) j = G (20 + 5 * b + 4) j := by rw [hI.1 _ (by omega)]
      refine ⟨vp_n (by omega) (by decide), pt_of (pif_n ?_ (pif_n ?_ ?_))⟩
      · rw [ev]
        rcases ek j (by omega) with q | ⟨p, hp, q⟩
        · rw [q]; decide
        · rw [q]
          intro y
          have := nI_lt0 (i := p) (by omega)
          rw [Int32.lt_iff_toInt_lt] at y this
          have a : (-1 : Int32).toInt = -1 := by decide
          have b' : (0 : Int32).toInt = 0 := by decide
          omega
      · rw [ev]
        rcases ek j (by omega) with q | ⟨p, hp, q⟩
        · rw [q]
          intro y
          have := nI_lt0 (i := l) (by omega)
          rw [Int32.lt_iff_toInt_lt] at y this
          have a : (-1 : Int32).toInt = -1 := by decide
          have b' : (0 : Int32).toInt = 0 := by decide
          omega
        · rw [q]; exact nI_nltx rfl hp (by omega)
      · exact ih (j + 1) _ (by omega) (by omega) (NTi_put hI (by rw [ev, nt_2 hb (by omega)]) (fun i q => by unfold P24 at q ⊢; omega))
theorem nt4_A {K : Sh → Gt → Prop} {G : Gt} (hw : wlC G) (hK : ∀ G', NTi 48 G G' (fun _ => True) → K shA G') : ∀ (n b : Nat) (G' : Gt), b + n = 3 → b ≤ 2 → NTi 48 G G' (P4 b) → w_L_notes_A_h4 K n (nI b) G' := by
  intro n
  induction n with
  | zero => intro b G' h1 h2; omega
  | succ n ih =>
    intro b G' hb hb2 hI
    rw [w_L_notes_A_h4]
    by_cases h2 : b = 2
    · subst h2
      exact pif_p (by decide) ⟨7, by decide, nt166_A hw.2 hK 7 0 G' rfl (by decide) ⟨hI.1, fun i hi q => hI.2 i hi (by unfold P166 at q; unfold P4; omega)⟩⟩
    · obtain ⟨l, c, hl, hc, e2, e3, ec, ek, _⟩ := hw.1 b (by omega)
      refine pif_n (nI_ge (b := 2) (by omega) (by decide)) (l_len_A (by omega) _ ⟨rfl, ?_⟩)
      have ev : G' (20 + 5 * b) 2 = nI l := by rw [hI.1 _ (by omega)]; exact e2
      rw [nI_clamp (by omega), ev]
      refine ⟨vp_n (by omega) (by decide), pt_of ⟨5, by decide, ?_⟩⟩
      exact nt24_A (by omega) hl hc e2 e3 ec ek (fun G'' h => ih (b + 1) G'' (by omega) (by omega) h) 5 0 _ rfl (by decide) (NTi_put hI (by rw [nt_0 (by omega), e2]) (fun i q => by unfold P24 at q; unfold P4; omega))
theorem notes_A {K : Sh → Gt → Prop} {G : Gt} (hw : wlC G) (hK : ∀ G', NTi 48 G G' (fun _ => True) → K shA G') : w_L_notes_A K G :=
  ⟨3, by decide, nt4_A hw hK 3 0 G rfl (by decide) ⟨fun _ _ => rfl, fun i hi q => by unfold P4 at q; omega⟩⟩
theorem nt166_B {K : Sh → Gt → Prop} {G : Gt} (hb : ∃ b, b < 2 ∧ G 19 7 = nI b) (hK : ∀ G', NTi 48 G G' (fun _ => True) → K shB G') : ∀ (n k : Nat) (G' : Gt), k + n = 7 → k ≤ 6 → NTi 48 G G' (P166 k) → w_L_notes_B_h166 K n (nI k) G' := by
  intro n
  induction n with
  | zero => intro k G' h1 h2; omega
  | succ n ih =>
    intro k G' hk hk6 hI
    have e12 : (12 : Int32) + nI k = nI (12 + k) := nI_add' rfl
    have e18 : (18 : Int32) + nI k = nI (18 + k) := nI_add' rfl
    rw [w_L_notes_B_h166]
    by_cases h6 : k = 6
    · subst h6
      refine pif_p (by decide) ?_
      unfold w_X10_hook_B w_X10_buffer_B
      refine ⟨by unfold vp_in; decide, pt_of ?_⟩
      have i1 : NTi 48 G (gu G' 48 24 (G' 19 8)) (fun i => i < 25) := NTi_put hI (by rw [hI.1 19 (by decide), nt_24]) (fun i q => by unfold P166; omega)
      have i2 : NTi 48 G (gu (gu G' 48 24 (G' 19 8)) 48 25 ((gu G' 48 24 (G' 19 8)) 19 7)) (fun i => i < 26) := NTi_put i1 (by rw [i1.1 19 (by decide), nt_25]) (fun i q => by omega)
      have i3 : NTi 48 G (gu (gu G' 48 24 (G' 19 8)) 48 25 ((gu G' 48 24 (G' 19 8)) 19 7)) (fun _ => True) := ⟨i2.1, fun i hi _ => i2.2 i hi hi⟩
      refine ⟨by unfold vp_in; decide, pt_of ⟨by unfold vp_in; decide, ?_⟩⟩
      have e25 : (gu (gu G' 48 24 (G' 19 8)) 48 25 ((gu G' 48 24 (G' 19 8)) 19 7)) 48 25 = G 19 7 := i3.2 25 (by decide) trivial
      obtain ⟨b, hb2, hb7⟩ := hb
      have hb01 : b = 0 ∨ b = 1 := by omega
      rcases hb01 with rfl | rfl
      · exact pif_p (e25.trans hb7) (hK _ i3)
      · refine pif_n ?_ ⟨by unfold vp_in; decide, pif_p (e25.trans hb7) (hK _ i3)⟩
        intro q
        have q2 : nI 1 = 0 := hb7.symm.trans (e25.symm.trans q)
        exact absurd q2 (by decide)
    · refine pif_n (nI_ge (b := 6) (by omega) (by decide)) ?_
      by_cases h4 : 4 ≤ k
      · refine pif_p ((nI_leR (a := 4) rfl (by omega) (by decide)).mpr h4) ?_
        rw [e12, e18, nI_clamp (by omega), nI_clamp (by omega), nI_1]
        have i1 : NTi 48 G (gu G' 48 (12 + k) 0) (fun i => P166 k i ∨ i = 12 + k) := NTi_put hI (nt_16 h4 (by omega)).symm (fun i q => q)
        refine ⟨vp_n (by omega) (by decide), pt_of (l_bod_B (by omega) _ ⟨rfl, ?_⟩)⟩
        refine ⟨vp_n (by omega) (by decide), pt_of ?_⟩
        exact ih (k + 1) _ (by omega) (by omega) (NTi_put i1 (by rw [i1.1 35 (by decide), nt_18 (by omega)]) (fun i q => by unfold P166 at q ⊢; omega))
      · refine pif_n (nI_ge (b := 4) (by omega) (by decide)) (l_opt_B (by omega) _ ⟨rfl, ?_⟩)
        rw [e12, e18, nI_clamp (by omega), nI_clamp (by omega), nI_1]
        have i1 : NTi 48 G (gu G' 48 (12 + k) (G' 31 k)) (fun i => P166 k i ∨ i = 12 + k) := NTi_put hI (by rw [hI.1 31 (by decide), nt_12 (by omega)]) (fun i q => q)
        refine ⟨vp_n (by omega) (by decide), pt_of (l_bod_B (by omega) _ ⟨rfl, ?_⟩)⟩
        refine ⟨vp_n (by omega) (by decide), pt_of ?_⟩
        exact ih (k + 1) _ (by omega) (by omega) (NTi_put i1 (by rw [i1.1 35 (by decide), nt_18 (by omega)]) (fun i q => by unfold P166 at q ⊢; omega))
theorem nt24_B {K : Sh → Gt → Prop} {rec4 : Int32 → Gt → Prop} {G : Gt} {b l c : Nat} (hb : b < 2) (hl : l ≤ 40) (hc : c < 4) (e2 : G (20 + 5 * b) 2 = nI l) (e3 : G (20 + 5 * b) 3 = nI c) (ec : ¬ G (20 + 5 * b + 4) c = -1) (ek : ∀ k, k < 4 → (G (20 + 5 * b + 4) k = -1 ∨ ∃ j, j ≤ l ∧ G (20 + 5 * b + 4) k = nI j)) (hrec : ∀ G', NTi 48 G G' (P4 (b + 1)) → rec4 (nI (b + 1)) G') : ∀ (n j : Nat) (G' : Gt), j + n = 5 → j ≤ 4 → NTi 48 G G' (P24 b j) → w_L_notes_B_h24 K rec4 n (nI b) (nI l) (nI j) G' := by
  intro n
  induction n with
  | zero => intro j G' h1 h2; omega
  | succ n ih =>
    intro j G' hj hj4 hI
    have e10 : (10 : Int32) + nI b = nI (10 + b) := nI_add' rfl
    have e22 : (2 : Int32) + 4 * nI b + nI j = nI (2 + 4 * b + j) := by
      rw [show (4 : Int32) = nI 4 from rfl, nI_mulx, nI_add' (a := 2) (x := 2) rfl, nI_add]
    rw [w_L_notes_B_h24]
    by_cases h4 : j = 4
    · subst h4
      refine pif_p (by decide) (l_act_B hb _ ⟨rfl, ?_⟩)
      have i1 : NTi 48 G (gu G' 48 (10 + b) (G' (20 + 5 * b) 3)) (P4 (b + 1)) := NTi_put hI (by rw [hI.1 _ (by omega), nt_10 hb]) (fun i q => by unfold P4 at q; unfold P24; omega)
      have e10' : (gu G' 48 (10 + b) (G' (20 + 5 * b) 3)) 48 (10 + b) = nI c := by rw [gu_kk, hI.1 _ (by omega)]; exact e3
      rw [e10, nI_clamp (by omega)]
      refine ⟨vp_n (by omega) (by decide), pt_of (pif_n (nI_lt0 (by omega)) (pif_n (nI_ge (b := 41) (by omega) (by decide)) ⟨vp_n (by omega) (by decide), ?_⟩))⟩
      rw [e10']
      refine pif_n (nI_lt0 (by omega)) ⟨vp_n (by omega) (by decide), pif_n (nI_ge (b := 4) (by omega) (by decide)) ⟨vp_n (by omega) (by decide), l_cur_B hb hc _ ⟨rfl, ?_⟩⟩⟩
      refine pif_n ?_ (l_letx_B hb hl ?_ _ ⟨rfl, ?_⟩)
      · rw [i1.1 _ (by omega)]
        rcases ek c hc with q | ⟨p, hp, q⟩
        · exact absurd q ec
        · rw [q]; exact nI_lt0 (by omega)
      · rw [i1.1 _ (by omega)]; exact e2
      · refine pif_p rfl ?_
        rw [nI_1]
        exact hrec _ i1
    · refine pif_n (nI_ge (b := 4) (by omega) (by decide)) (l_cur_B hb (by omega) _ ⟨rfl, ?_⟩)
      rw [e22, nI_clamp (by omega), nI_1]
      have ev : G' (20 + 5 * b + 4) j = G (20 + 5 * b + 4) j := by rw [hI.1 _ (by omega)]
      refine ⟨vp_n (by omega) (by decide), pt_of (pif_n ?_ (pif_n ?_ ?_))⟩
      · rw [ev]
        rcases ek j (by omega) with q | ⟨p, hp, q⟩
        · rw [q]; decide
        · rw [q]
          intro y
          have := nI_lt0 (i := p) (by omega)
          rw [Int32.lt_iff_toInt_lt] at y this
          have a : (-1 : Int32).toInt = -1 := by decide
          have b' : (0 : Int32).toInt = 0 := by decide
          omega
      · rw [ev]
        rcases ek j (by omega) with q | ⟨p, hp, q⟩
        · rw [q]
          intro y
          have := nI_lt0 (i := l) (by omega)
          rw [Int32.lt_iff_toInt_lt] at y this
          have a : (-1 : Int32).toInt = -1 := by decide
          have b' : (0 : Int32).toInt = 0 := by decide
          omega
        · rw [q]; exact nI_nltx rfl hp (by omega)
      · exact ih (j + 1) _ (by omega) (by omega) (NTi_put hI (by rw [ev, nt_2 hb (by omega)]) (fun i q => by unfold P24 at q ⊢; omega))
theorem nt4_B {K : Sh → Gt → Prop} {G : Gt} (hw : wlC G) (hK : ∀ G', NTi 48 G G' (fun _ => True) → K shB G') : ∀ (n b : Nat) (G' : Gt), b + n = 3 → b ≤ 2 → NTi 48 G G' (P4 b) → w_L_notes_B_h4 K n (nI b) G' := by
  intro n
  induction n with
  | zero => intro b G' h1 h2; omega
  | succ n ih =>
    intro b G' hb hb2 hI
    rw [w_L_notes_B_h4]
    by_cases h2 : b = 2
    · subst h2
      exact pif_p (by decide) ⟨7, by decide, nt166_B hw.2 hK 7 0 G' rfl (by decide) ⟨hI.1, fun i hi q => hI.2 i hi (by unfold P166 at q; unfold P4; omega)⟩⟩
    · obtain ⟨l, c, hl, hc, e2, e3, ec, ek, _⟩ := hw.1 b (by omega)
      refine pif_n (nI_ge (b := 2) (by omega) (by decide)) (l_len_B (by omega) _ ⟨rfl, ?_⟩)
      have ev : G' (20 + 5 * b) 2 = nI l := by rw [hI.1 _ (by omega)]; exact e2
      rw [nI_clamp (by omega), ev]
      refine ⟨vp_n (by omega) (by decide), pt_of ⟨5, by decide, ?_⟩⟩
      exact nt24_B (by omega) hl hc e2 e3 ec ek (fun G'' h => ih (b + 1) G'' (by omega) (by omega) h) 5 0 _ rfl (by decide) (NTi_put hI (by rw [nt_0 (by omega), e2]) (fun i q => by unfold P24 at q; unfold P4; omega))
theorem notes_B {K : Sh → Gt → Prop} {G : Gt} (hw : wlC G) (hK : ∀ G', NTi 48 G G' (fun _ => True) → K shB G') : w_L_notes_B K G :=
  ⟨3, by decide, nt4_B hw hK 3 0 G rfl (by decide) ⟨fun _ _ => rfl, fun i hi q => by unfold P4 at q; omega⟩⟩
theorem nt166_N {K : Sh → Gt → Prop} {G : Gt} (hb : ∃ b, b < 2 ∧ G 19 7 = nI b) (hK : ∀ G', NTi 51 G G' (fun _ => True) → K (shB.set 51 (.inl (0, 26))) G') : ∀ (n k : Nat) (G' : Gt), k + n = 7 → k ≤ 6 → NTi 51 G G' (P166 k) → w_L_notes_N_h166 K n (nI k) G' := by
  intro n
  induction n with
  | zero => intro k G' h1 h2; omega
  | succ n ih =>
    intro k G' hk hk6 hI
    have e12 : (12 : Int32) + nI k = nI (12 + k) := nI_add' rfl
    have e18 : (18 : Int32) + nI k = nI (18 + k) := nI_add' rfl
    rw [w_L_notes_N_h166]
    by_cases h6 : k = 6
    · subst h6
      refine pif_p (by decide) ?_
      unfold w_X10_hook_B w_X10_buffer_B
      refine pt_of ?_
      rw [frm_self]
      refine ⟨by unfold vp_in; decide, pt_of ?_⟩
      refine pt_of ?_
      rw [frm_self]
      have i1 : NTi 51 G (gu G' 51 24 (G' 19 8)) (fun i => i < 25) := NTi_put hI (by rw [hI.1 19 (by decide), nt_24]) (fun i q => by unfold P166; omega)
      have i2 : NTi 51 G (gu (gu G' 51 24 (G' 19 8)) 51 25 ((gu G' 51 24 (G' 19 8)) 19 7)) (fun i => i < 26) := NTi_put i1 (by rw [i1.1 19 (by decide), nt_25]) (fun i q => by omega)
      have i3 : NTi 51 G (gu (gu G' 51 24 (G' 19 8)) 51 25 ((gu G' 51 24 (G' 19 8)) 19 7)) (fun _ => True) := ⟨i2.1, fun i hi _ => i2.2 i hi hi⟩
      refine ⟨by unfold vp_in; decide, pt_of ⟨by unfold vp_in; decide, ?_⟩⟩
      have e25 : (gu (gu G' 51 24 (G' 19 8)) 51 25 ((gu G' 51 24 (G' 19 8)) 19 7)) 51 25 = G 19 7 := i3.2 25 (by decide) trivial
      obtain ⟨b, hb2, hb7⟩ := hb
      have hb01 : b = 0 ∨ b = 1 := by omega
      rcases hb01 with rfl | rfl
      · exact pif_p (e25.trans hb7) (hK _ i3)
      · refine pif_n ?_ ⟨by unfold vp_in; decide, pif_p (e25.trans hb7) (hK _ i3)⟩
        intro q
        have q2 : nI 1 = 0 := hb7.symm.trans (e25.symm.trans q)
        exact absurd q2 (by decide)
    · refine pif_n (nI_ge (b := 6) (by omega) (by decide)) ?_
      by_cases h4 : 4 ≤ k
      · refine pif_p ((nI_leR (a := 4) rfl (by omega) (by decide)).mpr h4) ?_
        rw [e12, e18, nI_clamp (by omega), nI_clamp (by omega), nI_1]
        have i1 : NTi 51 G (gu G' 51 (12 + k) 0) (fun i => P166 k i ∨ i = 12 + k) := NTi_put hI (nt_16 h4 (by omega)).symm (fun i q => q)
        refine ⟨vp_n (by omega) (by decide), pt_of (l_bod_B (by omega) _ ⟨rfl, ?_⟩)⟩
        refine pt_of ?_
        rw [frm_self]
        refine ⟨vp_n (by omega) (by decide), pt_of ?_⟩
        exact ih (k + 1) _ (by omega) (by omega) (NTi_put i1 (by rw [i1.1 35 (by decide), nt_18 (by omega)]) (fun i q => by unfold P166 at q ⊢; omega))
      · refine pif_n (nI_ge (b := 4) (by omega) (by decide)) (l_opt_B (by omega) _ ⟨rfl, ?_⟩)
        refine pt_of ?_
        rw [frm_self]
        rw [e12, e18, nI_clamp (by omega), nI_clamp (by omega), nI_1]
        have i1 : NTi 51 G (gu G' 51 (12 + k) (G' 31 k)) (fun i => P166 k i ∨ i = 12 + k) := NTi_put hI (by rw [hI.1 31 (by decide), nt_12 (by omega)]) (fun i q => q)
        refine ⟨vp_n (by omega) (by decide), pt_of (l_bod_B (by omega) _ ⟨rfl, ?_⟩)⟩
        refine pt_of ?_
        rw [frm_self]
        refine ⟨vp_n (by omega) (by decide), pt_of ?_⟩
        exact ih (k + 1) _ (by omega) (by omega) (NTi_put i1 (by rw [i1.1 35 (by decide), nt_18 (by omega)]) (fun i q => by unfold P166 at q ⊢; omega))
theorem nt24_N {K : Sh → Gt → Prop} {rec4 : Int32 → Gt → Prop} {G : Gt} {b l c : Nat} (hb : b < 2) (hl : l ≤ 40) (hc : c < 4) (e2 : G (20 + 5 * b) 2 = nI l) (e3 : G (20 + 5 * b) 3 = nI c) (ec : ¬ G (20 + 5 * b + 4) c = -1) (ek : ∀ k, k < 4 → (G (20 + 5 * b + 4) k = -1 ∨ ∃ j, j ≤ l ∧ G (20 + 5 * b + 4) k = nI j)) (hrec : ∀ G', NTi 51 G G' (P4 (b + 1)) → rec4 (nI (b + 1)) G') : ∀ (n j : Nat) (G' : Gt), j + n = 5 → j ≤ 4 → NTi 51 G G' (P24 b j) → w_L_notes_N_h24 K rec4 n (nI b) (nI l) (nI j) G' := by
  intro n
  induction n with
  | zero => intro j G' h1 h2; omega
  | succ n ih =>
    intro j G' hj hj4 hI
    have e10 : (10 : Int32) + nI b = nI (10 + b) := nI_add' rfl
    have e22 : (2 : Int32) + 4 * nI b + nI j = nI (2 + 4 * b + j) := by
      rw [show (4 : Int32) = nI 4 from rfl, nI_mulx, nI_add' (a := 2) (x := 2) rfl, nI_add]
    rw [w_L_notes_N_h24]
    by_cases h4 : j = 4
    · subst h4
      refine pif_p (by decide) (l_act_B hb _ ⟨rfl, ?_⟩)
      refine pt_of ?_
      rw [frm_self]
      have i1 : NTi 51 G (gu G' 51 (10 + b) (G' (20 + 5 * b) 3)) (P4 (b + 1)) := NTi_put hI (by rw [hI.1 _ (by omega), nt_10 hb]) (fun i q => by unfold P4 at q; unfold P24; omega)
      have e10' : (gu G' 51 (10 + b) (G' (20 + 5 * b) 3)) 51 (10 + b) = nI c := by rw [gu_kk, hI.1 _ (by omega)]; exact e3
      rw [e10, nI_clamp (by omega)]
      refine ⟨vp_n (by omega) (by decide), pt_of (pif_n (nI_lt0 (by omega)) (pif_n (nI_ge (b := 41) (by omega) (by decide)) ⟨vp_n (by omega) (by decide), ?_⟩))⟩
      rw [e10']
      refine pif_n (nI_lt0 (by omega)) ⟨vp_n (by omega) (by decide), pif_n (nI_ge (b := 4) (by omega) (by decide)) ⟨vp_n (by omega) (by decide), l_cur_B hb hc _ ⟨rfl, ?_⟩⟩⟩
      refine pt_of ?_
      rw [frm_self]
      refine pif_n ?_ (l_letx_B hb hl ?_ _ ⟨rfl, ?_⟩)
      · rw [i1.1 _ (by omega)]
        rcases ek c hc with q | ⟨p, hp, q⟩
        · exact absurd q ec
        · rw [q]; exact nI_lt0 (by omega)
      · rw [i1.1 _ (by omega)]; exact e2
      · refine pt_of ?_
        rw [frm_self]
        refine pif_p rfl ?_
        rw [nI_1]
        exact hrec _ i1
    · refine pif_n (nI_ge (b := 4) (by omega) (by decide)) (l_cur_B hb (by omega) _ ⟨rfl, ?_⟩)
      refine pt_of ?_
      rw [frm_self]
      rw [e22, nI_clamp (by omega), nI_1]
      have ev : G' (20 + 5 * b + 4) j = G (20 + 5 * b + 4) j := by rw [hI.1 _ (by omega)]
      refine ⟨vp_n (by omega) (by decide), pt_of (pif_n ?_ (pif_n ?_ ?_))⟩
      · rw [ev]
        rcases ek j (by omega) with q | ⟨p, hp, q⟩
        · rw [q]; decide
        · rw [q]
          intro y
          have := nI_lt0 (i := p) (by omega)
          rw [Int32.lt_iff_toInt_lt] at y this
          have a : (-1 : Int32).toInt = -1 := by decide
          have b' : (0 : Int32).toInt = 0 := by decide
          omega
      · rw [ev]
        rcases ek j (by omega) with q | ⟨p, hp, q⟩
        · rw [q]
          intro y
          have := nI_lt0 (i := l) (by omega)
          rw [Int32.lt_iff_toInt_lt] at y this
          have a : (-1 : Int32).toInt = -1 := by decide
          have b' : (0 : Int32).toInt = 0 := by decide
          omega
        · rw [q]; exact nI_nltx rfl hp (by omega)
      · exact ih (j + 1) _ (by omega) (by omega) (NTi_put hI (by rw [ev, nt_2 hb (by omega)]) (fun i q => by unfold P24 at q ⊢; omega))
theorem nt4_N {K : Sh → Gt → Prop} {G : Gt} (hw : wlC G) (hK : ∀ G', NTi 51 G G' (fun _ => True) → K (shB.set 51 (.inl (0, 26))) G') : ∀ (n b : Nat) (G' : Gt), b + n = 3 → b ≤ 2 → NTi 51 G G' (P4 b) → w_L_notes_N_h4 K n (nI b) G' := by
  intro n
  induction n with
  | zero => intro b G' h1 h2; omega
  | succ n ih =>
    intro b G' hb hb2 hI
    rw [w_L_notes_N_h4]
    by_cases h2 : b = 2
    · subst h2
      exact pif_p (by decide) ⟨7, by decide, nt166_N hw.2 hK 7 0 G' rfl (by decide) ⟨hI.1, fun i hi q => hI.2 i hi (by unfold P166 at q; unfold P4; omega)⟩⟩
    · obtain ⟨l, c, hl, hc, e2, e3, ec, ek, _⟩ := hw.1 b (by omega)
      refine pif_n (nI_ge (b := 2) (by omega) (by decide)) (l_len_B (by omega) _ ⟨rfl, ?_⟩)
      refine pt_of ?_
      rw [frm_self]
      have ev : G' (20 + 5 * b) 2 = nI l := by rw [hI.1 _ (by omega)]; exact e2
      rw [nI_clamp (by omega), ev]
      refine ⟨vp_n (by omega) (by decide), pt_of ⟨5, by decide, ?_⟩⟩
      exact nt24_N (by omega) hl hc e2 e3 ec ek (fun G'' h => ih (b + 1) G'' (by omega) (by omega) h) 5 0 _ rfl (by decide) (NTi_put hI (by rw [nt_0 (by omega), e2]) (fun i q => by unfold P24 at q; unfold P4; omega))
theorem notes_N {K : Sh → Gt → Prop} {G : Gt} (hw : wlC G) (hK : ∀ G', NTi 51 G G' (fun _ => True) → K (shB.set 51 (.inl (0, 26))) G') : w_L_notes_N K G :=
  ⟨3, by decide, nt4_N hw hK 3 0 G rfl (by decide) ⟨fun _ _ => rfl, fun i hi q => by unfold P4 at q; omega⟩⟩
