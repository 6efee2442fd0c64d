/-! a letter goes out -/
def gEc (t c h l : Nat) (G : Gt) : Gt := oCe (t + 4) 0 4 c h (gu (oSd (t + 2) 0 (h - 1) (l - 1) G) t 2 (nI (l - 1)))
theorem nI_p {h : Nat} (h1 : 1 ≤ h) : nI h - 1 = nI (h - 1) := by
  have := nI_pred (h - 1)
  rwa [show h - 1 + 1 = h by omega] at this
theorem el_2 {K : Int32 → Gt → Prop} {G R : Gt} {t c h : Nat} {w : Int32} (ht : tx t) (hc : G t 3 = nI c) (hc4 : c < 4) (h1 : 1 ≤ h) (hh : h < 2 ^ 30) (hk : K w (mxw (oCe (t + 4) 0 4 c h G) R)) : ∀ r n, n + r = 4 → w_X8_eraseLetter_h62 t K (r + 1) (nI h) w (nI n) (mxw (oCe (t + 4) 0 n c h G) R) := by
  obtain ⟨f1, f2, f3⟩ := tx_f ht
  intro r
  induction r with
  | zero =>
    intro n hn
    have : n = 4 := by omega
    subst this
    rw [w_X8_eraseLetter_h62]
    exact pif_p (by decide) hk
  | succ r ih =>
    intro n hn
    have hi := ih (n + 1) (by omega)
    rw [w_X8_eraseLetter_h62]
    refine pif_n (nI_ge (b := 4) (by omega) (by decide)) ?_
    have e3 : (mxw (oCe (t + 4) 0 n c h G) R) t 3 = nI c := by rw [mx_C f1, oCe_o (by omega)]; exact hc
    have e4 : rat (mxw (oCe (t + 4) 0 n c h G) R) (t + 4) 4 (nI n) = G (t + 4) (0 + n) := by rw [rat_n (by omega) (by decide), mx_C f3, oCe_r (by omega), Nat.zero_add]
    rw [e4]
    unfold w_X8_eraseLetter_j92 w_X8_eraseLetter_j119 w_X8_eraseLetter_j121
    rw [e3, nI_p h1]
    have hy : ∀ y, eC c h n (G (t + 4) (0 + n)) = y → pt (rput (mxw (oCe (t + 4) 0 n c h G) R) (t + 4) 4 (nI n) y) fun G4 => w_X8_eraseLetter_h62 t K (r + 1) (nI h) w (nI n + 1) G4 := by
      intro y q
      refine pcp (i := n) rfl (by omega) (by decide) f3 ?_
      have := oCe_s (r := t + 4) (o := 0) (n := n) (c := c) (h := h) (G := G)
      rw [q, Nat.zero_add] at this
      rw [this, nI_1]
      exact hi
    have hgo : ∀ y, (if G (t + 4) (0 + n) < nI h then G (t + 4) (0 + n) else G (t + 4) (0 + n) - 1) = y → pif (nI n = nI c) (pt (rput (mxw (oCe (t + 4) 0 n c h G) R) (t + 4) 4 (nI n) y) fun G4 => w_X8_eraseLetter_h62 t K (r + 1) (nI h) w (nI n + 1) G4) (pif (y = nI (h - 1)) (pt (rput (mxw (oCe (t + 4) 0 n c h G) R) (t + 4) 4 (nI n) (-1)) fun G4 => w_X8_eraseLetter_h62 t K (r + 1) (nI h) w (nI n + 1) G4) (pt (rput (mxw (oCe (t + 4) 0 n c h G) R) (t + 4) 4 (nI n) y) fun G4 => w_X8_eraseLetter_h62 t K (r + 1) (nI h) w (nI n + 1) G4)) := by
      intro y q
      by_cases c1 : n = c
      · exact pif_p (by rw [c1]) (hy y (by unfold eC; rw [q, if_neg (fun w => w.1 c1)]))
      · refine pif_n (fun w => c1 ((nI_eq (by omega) (by omega)).mp w)) ?_
        by_cases c2 : y = nI (h - 1)
        · exact pif_p c2 (hy _ (by unfold eC; rw [q, if_pos ⟨c1, c2⟩]))
        · exact pif_n c2 (hy _ (by unfold eC; rw [q, if_neg (fun w => c2 w.2)]))
    by_cases c3 : G (t + 4) (0 + n) < nI h
    · exact pif_p c3 (hgo _ (if_pos c3))
    · exact pif_n c3 (hgo _ (if_neg c3))
theorem el_1 {K : Int32 → Gt → Prop} {G R : Gt} {t h l : Nat} {w : Int32} (ht : tx t) (h1 : 1 ≤ h) (hl : G t 2 = nI l) (hl4 : l ≤ 40) (hk : ∃ i, w_X8_eraseLetter_h62 t K i (nI h) w 0 (mxw (gu (oSd (t + 2) 0 (h - 1) (l - 1) G) t 2 (nI (l - 1))) R)) : ∀ r x, x + r = l → h ≤ x → w_X8_eraseLetter_h18 t K (r + 1) (nI h) w (nI x) (mxw (oSd (t + 2) 0 (h - 1) (x - 1) G) R) := by
  obtain ⟨f1, f2, f3⟩ := tx_f ht
  intro r
  induction r with
  | zero =>
    intro x hx hhx
    have : x = l := by omega
    subst this
    rw [w_X8_eraseLetter_h18]
    have e2 : (mxw (oSd (t + 2) 0 (h - 1) (x - 1) G) R) t 2 = nI x := by rw [mx_C f1, oSd_o (by omega)]; exact hl
    rw [e2, nI_p (by omega), mxw_gC f1]
    exact pif_p (i_ler _) (pt_of hk)
  | succ r ih =>
    intro x hx hhx
    have hi := ih (x + 1) (by omega) (by omega)
    rw [w_X8_eraseLetter_h18]
    have e2 : (mxw (oSd (t + 2) 0 (h - 1) (x - 1) G) R) t 2 = nI l := by rw [mx_C f1, oSd_o (by omega)]; exact hl
    rw [e2]
    refine pif_n (nI_ge (by omega) (by omega)) ?_
    rw [nI_p (by omega), rat_n (by omega) (by decide), mx_C f2, oSd_r (by omega)]
    refine pcp (i := x - 1) rfl (by omega) (by decide) f2 ?_
    have := oSd_s (r := t + 2) (o := 0) (lo := h - 1) (x := x - 1) (G := G) (by omega)
    rw [Nat.zero_add, show x - 1 + 1 = x by omega] at this
    rw [this, nI_1]
    exact hi
theorem k_el {K : Int32 → Gt → Prop} {G R : Gt} {t c h l : Nat} (ht : tx t) (hl : G t 2 = nI l) (hl4 : l ≤ 40) (hc : G t 3 = nI c) (hc4 : c < 4) (hh : G (t + 4) c = nI h) (h1 : 1 ≤ h) (hhl : h ≤ l) (hk : K (G (t + 2) (h - 1)) (mxw (gEc t c h l G) R)) : w_X8_eraseLetter t K (mxw G R) := by
  obtain ⟨f1, f2, f3⟩ := tx_f ht
  unfold w_X8_eraseLetter w_X8_activePlace
  have e1 : rat (mxw G R) (t + 4) 4 ((mxw G R) t 3) = nI h := by rw [mx_C f1, hc, rat_n hc4 (by decide), mx_C f3]; exact hh
  rw [e1]
  dsimp only
  rw [nI_p h1, rat_n (by omega) (by decide), mx_C f2]
  have := el_1 (K := K) (G := G) (R := R) (h := h) (w := G (t + 2) (h - 1)) ht h1 hl hl4 ⟨5, by
    have := el_2 (K := K) (G := gu (oSd (t + 2) 0 (h - 1) (l - 1) G) t 2 (nI (l - 1))) (R := R) (c := c) (h := h) (w := G (t + 2) (h - 1)) ht (by rw [gu_ko _ (by decide), oSd_o (by omega)]; exact hc) hc4 h1 (by omega) hk 4 0 rfl
    rw [oCe_0] at this
    exact this⟩ (l - h) h (by omega) (Nat.le_refl _)
  rw [oSd_0] at this
  exact ⟨_, this⟩
def gEr (b c h l : Nat) (G : Gt) : Gt := oCe 60 (4 * b) 4 c h (oSd 58 (40 * b) (h - 1) (l - 1) (gu G 59 b (nI (l - 1))))
theorem r_el_2 {K : Int32 → Gt → Prop} {C G : Gt} {b c h : Nat} {w : Int32} (hb : G 46 14 = nI b) (hb2 : b < 2) (hc : G 61 b = nI c) (hc4 : c < 4) (h1 : 1 ≤ h) (hh : h < 2 ^ 30) (hk : K w (mxw C (oCe 60 (4 * b) 4 c h G))) : ∀ r n, n + r = 4 → w_X11_erases_h90 K (r + 1) (nI h) w (nI n) (mxw C (oCe 60 (4 * b) n c h G)) := by
  intro r
  induction r with
  | zero =>
    intro n hn
    have : n = 4 := by omega
    subst this
    rw [w_X11_erases_h90]
    exact pif_p (by decide) hk
  | succ r ih =>
    intro n hn
    have hi := ih (n + 1) (by omega)
    rw [w_X11_erases_h90]
    refine pif_n (nI_ge (b := 4) (by omega) (by decide)) ?_
    have e14 : (mxw C (oCe 60 (4 * b) n c h G)) 46 14 = nI b := by rw [mx_R rfl, oCe_o (by decide)]; exact hb
    have e60 : (mxw C (oCe 60 (4 * b) n c h G)) 60 (4 * b + n) = G 60 (4 * b + n) := by rw [mx_R rfl, oCe_r (by omega)]
    have hv := vp_n (N := 8) (i := 4 * b + n) (by omega) (by decide)
    rw [e14, e4, nI_clamp (by omega), e60]
    have hgo : ∀ y3, (if G 60 (4 * b + n) < nI h then G 60 (4 * b + n) else G 60 (4 * b + n) - 1) = G 60 (4 * b + n) - y3 → w_X11_erases_j129 K (fun z0 z1 z2 z3 => w_X11_erases_h90 K (r + 1) z0 z1 z2 z3) (nI h) w (nI n) (nI (4 * b + n)) (nI (4 * b + n)) (G 60 (4 * b + n)) y3 (mxw C (oCe 60 (4 * b) n c h G)) := by
      intro y3 q
      unfold w_X11_erases_j129 w_X11_erases_j167 w_X11_erases_j174
      rw [nI_clamp (by omega), ← q]
      generalize hy : (if G 60 (4 * b + n) < nI h then G 60 (4 * b + n) else G 60 (4 * b + n) - 1) = y at *
      refine ⟨hv, ptr rfl ⟨hv, ?_⟩⟩
      have e60' : (mxw C (gu (oCe 60 (4 * b) n c h G) 60 (4 * b + n) y)) 60 (4 * b + n) = y := by rw [mx_R rfl, gu_kk]
      have e14' : (mxw C (gu (oCe 60 (4 * b) n c h G) 60 (4 * b + n) y)) 46 14 = nI b := by rw [mx_R rfl, gu_oo _ (by decide), oCe_o (by decide)]; exact hb
      have e61' : (mxw C (gu (oCe 60 (4 * b) n c h G) 60 (4 * b + n) y)) 61 b = nI c := by rw [mx_R rfl, gu_oo _ (by decide), oCe_o (by decide)]; exact hc
      rw [e60', e14', nI_clamp (by omega), e61', nI_p h1]
      have hfin : ∀ y', eC c h n (G 60 (4 * b + n)) = y' → vp_in (nI (4 * b + n)) 8 ∧ pt (gu (mxw C (gu (oCe 60 (4 * b) n c h G) 60 (4 * b + n) y)) 60 (4 * b + n) y') fun G5 => w_X11_erases_h90 K (r + 1) (nI h) w (nI n + 1) G5 := by
        intro y' q'
        refine ⟨hv, ptr rfl ?_⟩
        have := oCe_s (r := 60) (o := 4 * b) (n := n) (c := c) (h := h) (G := G)
        rw [q'] at this
        rw [gu_gu, this, nI_1]
        exact hi
      by_cases c2 : y = nI (h - 1)
      · refine pif_p c2 ⟨vp_n hb2 (by decide), ?_⟩
        by_cases c1 : n = c
        · exact pif_p (by rw [c1]) ⟨hv, hfin y (by unfold eC; rw [hy, if_neg (fun w => w.1 c1)])⟩
        · exact pif_n (fun w => c1 ((nI_eq (by omega) (by omega)).mp w)) (hfin (-1) (by unfold eC; rw [hy, if_pos ⟨c1, c2⟩]))
      · exact pif_n c2 ⟨hv, hfin y (by unfold eC; rw [hy, if_neg (fun w => c2 w.2)])⟩
    by_cases c3 : G 60 (4 * b + n) < nI h
    · exact ⟨hv, hv, pif_p c3 (hgo 0 (by rw [if_pos c3]; simp))⟩
    · exact ⟨hv, hv, pif_n c3 (hgo 1 (by rw [if_neg c3]))⟩
theorem r_el_1 {K : Int32 → Gt → Prop} {C G : Gt} {b h l : Nat} {w : Int32} (hb : G 46 14 = nI b) (hb2 : b < 2) (h1 : 1 ≤ h) (hl : G 59 b = nI (l - 1)) (hl1 : 1 ≤ l) (hl4 : l ≤ 40) (hk : ∃ i, w_X11_erases_h90 K i (nI h) w 0 (mxw C (oSd 58 (40 * b) (h - 1) (l - 1) G))) : ∀ r x, x + r = l - 1 → h - 1 ≤ x → w_X11_erases_h39 K (r + 1) (nI h) w (nI x) (mxw C (oSd 58 (40 * b) (h - 1) x G)) := by
  intro r
  induction r with
  | zero =>
    intro x hx hhx
    have : x = l - 1 := by omega
    subst this
    rw [w_X11_erases_h39]
    have e14 : (mxw C (oSd 58 (40 * b) (h - 1) (l - 1) G)) 46 14 = nI b := by rw [mx_R rfl, oSd_o (by decide)]; exact hb
    have e59 : (mxw C (oSd 58 (40 * b) (h - 1) (l - 1) G)) 59 b = nI (l - 1) := by rw [mx_R rfl, oSd_o (by decide)]; exact hl
    rw [e14, nI_clamp (by omega), e59]
    exact ⟨vp_n hb2 (by decide), pif_p (i_ler _) hk⟩
  | succ r ih =>
    intro x hx hhx
    have hi := ih (x + 1) (by omega) (by omega)
    rw [w_X11_erases_h39]
    have e14 : (mxw C (oSd 58 (40 * b) (h - 1) x G)) 46 14 = nI b := by rw [mx_R rfl, oSd_o (by decide)]; exact hb
    have e59 : (mxw C (oSd 58 (40 * b) (h - 1) x G)) 59 b = nI (l - 1) := by rw [mx_R rfl, oSd_o (by decide)]; exact hl
    rw [e14, nI_clamp (by omega), e59, e40, nI_1, nI_1, nI_clamp (by omega), nI_clamp (by omega)]
    have e58 : (mxw C (oSd 58 (40 * b) (h - 1) x G)) 58 (40 * b + x + 1) = G 58 (40 * b + x + 1) := by rw [mx_R rfl, oSd_r (by omega)]
    rw [e58]
    refine ⟨vp_n hb2 (by decide), pif_n (nI_ge (by omega) (by omega)) ⟨vp_n (by omega) (by decide), vp_n (by omega) (by decide), ptr rfl ?_⟩⟩
    rw [oSd_s (by omega)]
    exact hi
theorem r_el {K : Int32 → Gt → Prop} {C G : Gt} {b c h l : Nat} (hb : G 46 14 = nI b) (hb2 : b < 2) (hl : G 59 b = nI l) (hl4 : l ≤ 40) (hc : G 61 b = nI c) (hc4 : c < 4) (hh : G 60 (4 * b + c) = nI h) (h1 : 1 ≤ h) (hhl : h ≤ l) (hk : K (G 58 (40 * b + (h - 1))) (mxw C (gEr b c h l G))) : w_X11_erases K (mxw C G) := by
  unfold w_X11_erases
  refine r_place hb hb2 hc hc4 hh ?_
  rw [show (mxw C G) 46 14 = nI b from hb, nI_clamp (by omega), show (mxw C G) 59 b = nI l from hl, nI_p h1, nI_p (by omega), e40, nI_p (by omega), nI_clamp (by omega), show (mxw C G) 58 (40 * b + h - 1) = G 58 (40 * b + (h - 1)) from by rw [mx_R rfl, show 40 * b + h - 1 = 40 * b + (h - 1) by omega]]
  have := r_el_1 (K := K) (C := C) (G := gu G 59 b (nI (l - 1))) (h := h) (l := l) (w := G 58 (40 * b + (h - 1))) (by rw [gu_oo _ (by decide)]; exact hb) hb2 h1 (gu_kk _ _ _ _) (by omega) hl4 ⟨5, by
    have := r_el_2 (K := K) (C := C) (G := oSd 58 (40 * b) (h - 1) (l - 1) (gu G 59 b (nI (l - 1)))) (b := b) (c := c) (h := h) (w := G 58 (40 * b + (h - 1))) (by rw [oSd_o (by decide), gu_oo _ (by decide)]; exact hb) hb2 (by rw [oSd_o (by decide), gu_oo _ (by decide)]; exact hc) hc4 h1 (by omega) hk 4 0 rfl
    rw [oCe_0] at this
    exact this⟩ (l - h) (h - 1) (by omega) (Nat.le_refl _)
  rw [oSd_0] at this
  exact ⟨vp_n (by omega) (by decide), vp_n hb2 (by decide), vp_n hb2 (by decide), ptr rfl ⟨_, this⟩⟩
