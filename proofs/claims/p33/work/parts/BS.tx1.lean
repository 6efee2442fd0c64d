/-! TEXTS: letters go in and out -/
def oSh (r o lo hi : Nat) (G : Gt) : Gt := fun k j => if k = r ∧ o + lo < j ∧ j ≤ o + hi then G r (j - 1) else G k j
def oSd (r o lo hi : Nat) (G : Gt) : Gt := fun k j => if k = r ∧ o + lo ≤ j ∧ j < o + hi then G r (j + 1) else G k j
def oCi (r o n c h : Nat) (G : Gt) : Gt := fun k j => if k = r ∧ o ≤ j ∧ j < o + n ∧ (j = o + c ∨ nI h < G r j) then G r j + 1 else G k j
def eC (c h i : Nat) (x : Int32) : Int32 := if ¬ i = c ∧ (if x < nI h then x else x - 1) = nI (h - 1) then -1 else (if x < nI h then x else x - 1)
def oCe (r o n c h : Nat) (G : Gt) : Gt := fun k j => if k = r ∧ o ≤ j ∧ j < o + n then eC c h (j - o) (G r j) else G k j
theorem oSh_o {r o lo hi k j : Nat} {G : Gt} (h : ¬ k = r) : oSh r o lo hi G k j = G k j := by
  unfold oSh; rw [if_neg (fun q => h q.1)]
theorem oSd_o {r o lo hi k j : Nat} {G : Gt} (h : ¬ k = r) : oSd r o lo hi G k j = G k j := by
  unfold oSd; rw [if_neg (fun q => h q.1)]
theorem oCi_o {r o n c h k j : Nat} {G : Gt} (hk : ¬ k = r) : oCi r o n c h G k j = G k j := by
  unfold oCi; rw [if_neg (fun q => hk q.1)]
theorem oCe_o {r o n c h k j : Nat} {G : Gt} (hk : ¬ k = r) : oCe r o n c h G k j = G k j := by
  unfold oCe; rw [if_neg (fun q => hk q.1)]
theorem oSh_r {r o lo hi j : Nat} {G : Gt} (h : ¬ (o + lo < j ∧ j ≤ o + hi)) : oSh r o lo hi G r j = G r j := by
  unfold oSh; rw [if_neg (fun q => h q.2)]
theorem oSd_r {r o lo hi j : Nat} {G : Gt} (h : ¬ (o + lo ≤ j ∧ j < o + hi)) : oSd r o lo hi G r j = G r j := by
  unfold oSd; rw [if_neg (fun q => h q.2)]
theorem oCi_r {r o n c h j : Nat} {G : Gt} (hk : ¬ (o ≤ j ∧ j < o + n)) : oCi r o n c h G r j = G r j := by
  unfold oCi; rw [if_neg (fun q => hk ⟨q.2.1, q.2.2.1⟩)]
theorem oCe_r {r o n c h j : Nat} {G : Gt} (hk : ¬ (o ≤ j ∧ j < o + n)) : oCe r o n c h G r j = G r j := by
  unfold oCe; rw [if_neg (fun q => hk q.2)]
theorem oSh_0 {r o hi : Nat} {G : Gt} : oSh r o hi hi G = G := by
  funext k j; unfold oSh; rw [if_neg (by omega)]
theorem oSd_0 {r o lo : Nat} {G : Gt} : oSd r o lo lo G = G := by
  funext k j; unfold oSd; rw [if_neg (by omega)]
theorem oCi_0 {r o c h : Nat} {G : Gt} : oCi r o 0 c h G = G := by
  funext k j; unfold oCi; rw [if_neg (by omega)]
theorem oCe_0 {r o c h : Nat} {G : Gt} : oCe r o 0 c h G = G := by
  funext k j; unfold oCe; rw [if_neg (by omega)]
theorem oSh_s {r o x hi : Nat} {G : Gt} (h : x + 1 ≤ hi) : gu (oSh r o (x + 1) hi G) r (o + (x + 1)) (G r (o + x)) = oSh r o x hi G := by
  funext k j
  rw [gu_at]
  unfold oSh
  by_cases c : k = r ∧ j = o + (x + 1)
  · rw [if_pos c, if_pos ⟨c.1, by omega, by omega⟩, show j - 1 = o + x by omega]
  · rw [if_neg c]
    by_cases d : k = r ∧ o + (x + 1) < j ∧ j ≤ o + hi
    · rw [if_pos d, if_pos ⟨d.1, by omega, d.2.2⟩]
    · rw [if_neg d, if_neg (fun q => d ⟨q.1, by have : ¬ j = o + (x + 1) := (fun y => c ⟨q.1, y⟩); omega, q.2.2⟩)]
theorem oSd_s {r o lo x : Nat} {G : Gt} (h : lo ≤ x) : gu (oSd r o lo x G) r (o + x) (G r (o + x + 1)) = oSd r o lo (x + 1) G := by
  funext k j
  rw [gu_at]
  unfold oSd
  by_cases c : k = r ∧ j = o + x
  · rw [if_pos c, if_pos ⟨c.1, by omega, by omega⟩, c.2]
  · rw [if_neg c]
    by_cases d : k = r ∧ o + lo ≤ j ∧ j < o + x
    · rw [if_pos d, if_pos ⟨d.1, d.2.1, by omega⟩]
    · rw [if_neg d, if_neg (fun q => d ⟨q.1, q.2.1, by have : ¬ j = o + x := (fun y => c ⟨q.1, y⟩); omega⟩)]
theorem oCi_y {r o n c h : Nat} {G : Gt} (hc : n = c ∨ nI h < G r (o + n)) : gu (oCi r o n c h G) r (o + n) (G r (o + n) + 1) = oCi r o (n + 1) c h G := by
  funext k j
  rw [gu_at]
  unfold oCi
  by_cases e : k = r ∧ j = o + n
  · rw [if_pos e, e.2, if_pos ⟨e.1, by omega, by omega, hc.imp (fun q => by omega) id⟩]
  · rw [if_neg e]
    by_cases d : k = r ∧ o ≤ j ∧ j < o + n ∧ (j = o + c ∨ nI h < G r j)
    · rw [if_pos d, if_pos ⟨d.1, d.2.1, by omega, d.2.2.2⟩]
    · rw [if_neg d, if_neg (fun q => d ⟨q.1, q.2.1, by have : ¬ j = o + n := (fun y => e ⟨q.1, y⟩); omega, q.2.2.2⟩)]
theorem oCi_n {r o n c h : Nat} {G : Gt} (hc : ¬ n = c) (hc2 : ¬ nI h < G r (o + n)) : oCi r o (n + 1) c h G = oCi r o n c h G := by
  funext k j
  unfold oCi
  by_cases d : k = r ∧ o ≤ j ∧ j < o + n ∧ (j = o + c ∨ nI h < G r j)
  · rw [if_pos d, if_pos ⟨d.1, d.2.1, by omega, d.2.2.2⟩]
  · rw [if_neg d, if_neg (fun q => d ⟨q.1, q.2.1, by
      have : ¬ j = o + n := fun y => by
        rcases q.2.2.2 with w | w
        · exact hc (by omega)
        · rw [y] at w; exact hc2 w
      omega, q.2.2.2⟩)]
theorem oCe_s {r o n c h : Nat} {G : Gt} : gu (oCe r o n c h G) r (o + n) (eC c h n (G r (o + n))) = oCe r o (n + 1) c h G := by
  funext k j
  rw [gu_at]
  unfold oCe
  by_cases e : k = r ∧ j = o + n
  · rw [if_pos e, e.2, if_pos ⟨e.1, by omega, by omega⟩, show o + n - o = n by omega]
  · rw [if_neg e]
    by_cases d : k = r ∧ o ≤ j ∧ j < o + n
    · rw [if_pos d, if_pos ⟨d.1, d.2.1, by omega⟩]
    · rw [if_neg d, if_neg (fun q => d ⟨q.1, q.2.1, by have : ¬ j = o + n := (fun y => e ⟨q.1, y⟩); omega⟩)]
theorem i_ler (x : Int32) : x ≤ x := Int32.le_iff_toInt_le.mpr (Int.le_refl _)
/-- a text of the class -/
def tx (t : Nat) : Prop := t = 20 ∨ t = 25
theorem tx_f {t : Nat} (h : tx t) : isR t = false ∧ isR (t + 2) = false ∧ isR (t + 4) = false := by
  rcases h with rfl | rfl <;> exact ⟨rfl, rfl, rfl⟩
theorem mx_sh {C R : Gt} {r o lo hi : Nat} (h : isR r = false) : mxw (oSh r o lo hi C) R = oSh r o lo hi (mxw C R) := by
  funext k j
  unfold oSh mxw
  by_cases e : k = r ∧ o + lo < j ∧ j ≤ o + hi
  · rw [if_pos e, e.1, h]; simp [e.2]
  · rw [if_neg e]
    cases isR k
    · simp [e]
    · rfl
/-- insertLetter -/
def gIc (t c h l : Nat) (v : Int32) (G : Gt) : Gt := oCi (t + 4) 0 4 c h (gu (gu (oSh (t + 2) 0 h l G) (t + 2) h v) t 2 (nI (l + 1)))
theorem il_2 {K : Gt → Prop} {G R : Gt} {t c h : Nat} (ht : tx t) (hc : G t 3 = nI c) (hc4 : c < 4) (hh : h < 2 ^ 30) (hk : K (mxw (oCi (t + 4) 0 4 c h G) R)) : ∀ r n, n + r = 4 → w_X8_insertLetter_h60 t K (r + 1) (nI h) (nI n) (mxw (oCi (t + 4) 0 n c h G) R) := by
  obtain ⟨f1, f2, f3⟩ := tx_f ht
  intro r
  induction r with
  | zero =>
    intro n hn
    have : n = 4 := by omega
    subst this
    rw [w_X8_insertLetter_h60]
    exact pif_p (by decide) hk
  | succ r ih =>
    intro n hn
    have hi := ih (n + 1) (by omega)
    rw [w_X8_insertLetter_h60]
    refine pif_n (nI_ge (b := 4) (by omega) (by decide)) ?_
    have e3 : (mxw (oCi (t + 4) 0 n c h G) R) t 3 = nI c := by rw [mx_C f1, oCi_o (by omega)]; exact hc
    have e4 : rat (mxw (oCi (t + 4) 0 n c h G) R) (t + 4) 4 (nI n) = G (t + 4) (0 + n) := by rw [rat_n (by omega) (by decide), mx_C f3, oCi_r (by omega), Nat.zero_add]
    rw [e3, e4]
    unfold w_X8_insertLetter_j89 w_X8_insertLetter_j101
    have hy : (n = c ∨ nI h < G (t + 4) (0 + n)) → pt (rput (mxw (oCi (t + 4) 0 n c h G) R) (t + 4) 4 (nI n) (G (t + 4) (0 + n) + 1)) fun G5 => w_X8_insertLetter_h60 t K (r + 1) (nI h) (nI n + 1) G5 := by
      intro q
      refine pcp (i := n) rfl (by omega) (by decide) f3 ?_
      have := oCi_y (r := t + 4) (o := 0) (G := G) q
      rw [Nat.zero_add] at this ⊢
      rw [this, nI_1]
      exact hi
    by_cases c1 : n = c
    · exact pif_p (by rw [c1]) (hy (Or.inl c1))
    · refine pif_n (fun q => c1 ((nI_eq (by omega) (by omega)).mp q)) ?_
      by_cases c2 : nI h < G (t + 4) (0 + n)
      · exact pif_n (lt_not_le c2) (hy (Or.inr c2))
      · refine pif_p (not_lt_le c2) ?_
        rw [← oCi_n (o := 0) c1 c2, nI_1]
        exact hi
theorem il_1 {K : Gt → Prop} {G R : Gt} {t h l : Nat} {v : Int32} (ht : tx t) (hl : G t 2 = nI l) (hl4 : l < 40) (hk : ∃ i, w_X8_insertLetter_h60 t K i (nI h) 0 (mxw (gu (gu (oSh (t + 2) 0 h l G) (t + 2) h v) t 2 (nI (l + 1))) R)) : ∀ r x, h + r = x → x ≤ l → w_X8_insertLetter_h10 t K (r + 1) v (nI h) (nI x) (mxw (oSh (t + 2) 0 x l G) R) := by
  obtain ⟨f1, f2, f3⟩ := tx_f ht
  intro r
  induction r with
  | zero =>
    intro x hx hxl
    have : x = h := by omega
    subst this
    rw [w_X8_insertLetter_h10]
    refine pif_p (i_ler _) (pcp rfl (by omega) (by decide) f2 (pt_of ?_))
    have e2 : (mxw (gu (oSh (t + 2) 0 x l G) (t + 2) x v) R) t 2 = nI l := by rw [mx_C f1, gu_oo _ (by omega), oSh_o (by omega)]; exact hl
    rw [e2, nI_1, mxw_gC f1]
    exact hk
  | succ r ih =>
    intro x hx hxl
    obtain ⟨y, rfl⟩ : ∃ y, x = y + 1 := ⟨x - 1, by omega⟩
    have hi := ih y (by omega) (by omega)
    rw [w_X8_insertLetter_h10]
    refine pif_n (fun q => by have := (nI_leL (w := y + 1) (a := h) (b := nI h) rfl (by omega) (by omega)).mp q; omega) ?_
    refine pcp (i := y + 1) rfl (by omega) (by decide) f2 ?_
    rw [nI_pred, rat_n (by omega) (by decide), mx_C f2, oSh_r (by omega)]
    have := oSh_s (r := t + 2) (o := 0) (x := y) (hi := l) (G := G) (by omega)
    rw [Nat.zero_add, Nat.zero_add] at this
    rw [this, show nI (y + 1) + -1 = nI y from pk_m1 y]
    exact hi
theorem k_il {K : Gt → Prop} {G R : Gt} {t c h l : Nat} {v : Int32} (ht : tx t) (hl : G t 2 = nI l) (hl4 : l < 40) (hc : G t 3 = nI c) (hc4 : c < 4) (hh : G (t + 4) c = nI h) (hhl : h ≤ l) (hk : K (mxw (gIc t c h l v G) R)) : w_X8_insertLetter t K v (mxw G R) := by
  obtain ⟨f1, f2, f3⟩ := tx_f ht
  unfold w_X8_insertLetter w_X8_activePlace
  have e1 : rat (mxw G R) (t + 4) 4 ((mxw G R) t 3) = nI h := by rw [mx_C f1, hc, rat_n hc4 (by decide), mx_C f3]; exact hh
  rw [e1]
  dsimp only
  rw [show (mxw G R) t 2 = nI l from by rw [mx_C f1]; exact hl]
  have := il_1 (K := K) (G := G) (R := R) (h := h) (v := v) ht hl hl4 ⟨5, by
    have := il_2 (K := K) (G := gu (gu (oSh (t + 2) 0 h l G) (t + 2) h v) t 2 (nI (l + 1))) (R := R) (c := c) (h := h) ht (by rw [gu_ko _ (by decide), gu_oo _ (by omega), oSh_o (by omega)]; exact hc) hc4 (by omega) hk 4 0 rfl
    rw [oCi_0] at this
    exact this⟩ (l - h) l (by omega) (Nat.le_refl _)
  rw [oSh_0] at this
  exact ⟨_, this⟩
/-- inserts -/
def gIr (b c h l : Nat) (v : Int32) (G : Gt) : Gt := oCi 60 (4 * b) 4 c h (gu (gu (oSh 58 (40 * b) h l G) 58 (40 * b + h) v) 59 b (nI (l + 1)))
theorem e4 {b n : Nat} : (4 : Int32) * nI b + nI n = nI (4 * b + n) := by rw [show (4 : Int32) = nI 4 from rfl, nI_mulx, nI_add]
theorem e40 {b n : Nat} : (40 : Int32) * nI b + nI n = nI (40 * b + n) := by rw [show (40 : Int32) = nI 40 from rfl, nI_mulx, nI_add]
theorem r_il_2 {K : Gt → Prop} {C G : Gt} {b c h : Nat} (hb : G 46 14 = nI b) (hb2 : b < 2) (hc : G 61 b = nI c) (hc4 : c < 4) (hh : h < 2 ^ 30) (hk : K (mxw C (oCi 60 (4 * b) 4 c h G))) : ∀ r n, n + r = 4 → w_X11_inserts_h86 K (r + 1) (nI h) (nI n) (mxw C (oCi 60 (4 * b) n c h G)) := by
  intro r
  induction r with
  | zero =>
    intro n hn
    have : n = 4 := by omega
    subst this
    rw [w_X11_inserts_h86]
    exact pif_p (by decide) hk
  | succ r ih =>
    intro n hn
    have hi := ih (n + 1) (by omega)
    rw [w_X11_inserts_h86]
    refine pif_n (nI_ge (b := 4) (by omega) (by decide)) ?_
    have e14 : (mxw C (oCi 60 (4 * b) n c h G)) 46 14 = nI b := by rw [mx_R rfl, oCi_o (by decide)]; exact hb
    have e60 : (mxw C (oCi 60 (4 * b) n c h G)) 60 (4 * b + n) = G 60 (4 * b + n) := by rw [mx_R rfl, oCi_r (by omega)]
    have e61 : (mxw C (oCi 60 (4 * b) n c h G)) 61 b = nI c := by rw [mx_R rfl, oCi_o (by decide)]; exact hc
    have hv := vp_n (N := 8) (i := 4 * b + n) (by omega) (by decide)
    rw [e14, e4, nI_clamp (by omega), nI_clamp (by omega), e60, e61]
    unfold w_X11_inserts_j133 w_X11_inserts_j138
    refine ⟨hv, hv, ?_⟩
    rw [nI_clamp (by omega)]
    have hy : (n = c ∨ nI h < G 60 (4 * b + n)) → vp_in (nI (4 * b + n)) 8 ∧ pt (gu (mxw C (oCi 60 (4 * b) n c h G)) 60 (4 * b + n) (G 60 (4 * b + n) + 1)) fun G5 => w_X11_inserts_h86 K (r + 1) (nI h) (nI n + 1) G5 := by
      intro q
      refine ⟨hv, ptr rfl ?_⟩
      rw [oCi_y q, nI_1]
      exact hi
    by_cases c2 : nI h < G 60 (4 * b + n)
    · exact pif_p c2 (hy (Or.inr c2))
    · refine pif_n c2 ⟨vp_n hb2 (by decide), ?_⟩
      by_cases c1 : n = c
      · exact pif_p (by rw [c1]) (hy (Or.inl c1))
      · refine pif_n (fun q => c1 ((nI_eq (by omega) (by omega)).mp q)) ⟨hv, ptr rfl ?_⟩
        rw [Int32.add_zero, nI_1, gu_sf (by rw [oCi_r (by omega)]), ← oCi_n (o := 4 * b) c1 c2]
        exact hi
theorem r_il_1 {K : Gt → Prop} {C G : Gt} {b h l : Nat} {v : Int32} (hb : G 46 14 = nI b) (hb2 : b < 2) (hl : G 59 b = nI l) (hl4 : l < 40) (hk : ∃ i, w_X11_inserts_h86 K i (nI h) 0 (mxw C (gu (gu (oSh 58 (40 * b) h l G) 58 (40 * b + h) v) 59 b (nI (l + 1))))) : ∀ r x, h + r = x → x ≤ l → w_X11_inserts_h15 K (r + 1) v (nI h) (nI x) (mxw C (oSh 58 (40 * b) x l G)) := by
  intro r
  induction r with
  | zero =>
    intro x hx hxl
    have : x = h := by omega
    subst this
    rw [w_X11_inserts_h15]
    have e14 : (mxw C (oSh 58 (40 * b) x l G)) 46 14 = nI b := by rw [mx_R rfl, oSh_o (by decide)]; exact hb
    rw [e14, e40, nI_clamp (by omega)]
    refine pif_p (i_ler _) ⟨vp_n (by omega) (by decide), ptr rfl ?_⟩
    have e14' : (mxw C (gu (oSh 58 (40 * b) x l G) 58 (40 * b + x) v)) 46 14 = nI b := by rw [mx_R rfl, gu_oo _ (by decide), oSh_o (by decide)]; exact hb
    rw [e14', nI_clamp (by omega)]
    have e59 : (mxw C (gu (oSh 58 (40 * b) x l G) 58 (40 * b + x) v)) 59 b = nI l := by rw [mx_R rfl, gu_oo _ (by decide), oSh_o (by decide)]; exact hl
    rw [e59, nI_1]
    exact ⟨vp_n hb2 (by decide), vp_n hb2 (by decide), ptr rfl hk⟩
  | succ r ih =>
    intro x hx hxl
    obtain ⟨y, rfl⟩ : ∃ y, x = y + 1 := ⟨x - 1, by omega⟩
    have hi := ih y (by omega) (by omega)
    rw [w_X11_inserts_h15]
    have e14 : (mxw C (oSh 58 (40 * b) (y + 1) l G)) 46 14 = nI b := by rw [mx_R rfl, oSh_o (by decide)]; exact hb
    rw [e14, e40 (n := y + 1), show 40 * b + (y + 1) = (40 * b + y) + 1 by omega, nI_pred, nI_clamp (by omega), nI_clamp (by omega)]
    refine pif_n (fun q => by have := (nI_leL (w := y + 1) (a := h) (b := nI h) rfl (by omega) (by omega)).mp q; omega) ⟨vp_n (by omega) (by decide), vp_n (by omega) (by decide), ptr rfl ?_⟩
    have e58 : (mxw C (oSh 58 (40 * b) (y + 1) l G)) 58 (40 * b + y) = G 58 (40 * b + y) := by rw [mx_R rfl, oSh_r (by omega)]
    rw [e58]
    have := oSh_s (r := 58) (o := 40 * b) (x := y) (hi := l) (G := G) (by omega)
    rw [show 40 * b + (y + 1) = 40 * b + y + 1 by omega] at this
    rw [this, show nI (y + 1) + -1 = nI y from pk_m1 y]
    exact hi
theorem r_place {K : Int32 → Gt → Prop} {C G : Gt} {b c : Nat} {x : Int32} (hb : G 46 14 = nI b) (hb2 : b < 2) (hc : G 61 b = nI c) (hc4 : c < 4) (hx : G 60 (4 * b + c) = x) (hk : K x (mxw C G)) : w_X11_place K (mxw C G) := by
  unfold w_X11_place
  rw [show (mxw C G) 46 14 = nI b from hb, nI_clamp (by omega), show (mxw C G) 61 b = nI c from hc, e4, nI_clamp (by omega), show (mxw C G) 60 (4 * b + c) = x from hx]
  exact ⟨vp_n hb2 (by decide), vp_n (by omega) (by decide), hk⟩
theorem r_il {K : Gt → Prop} {C G : Gt} {b c h l : Nat} {v : Int32} (hb : G 46 14 = nI b) (hb2 : b < 2) (hl : G 59 b = nI l) (hl4 : l < 40) (hc : G 61 b = nI c) (hc4 : c < 4) (hh : G 60 (4 * b + c) = nI h) (hhl : h ≤ l) (hk : K (mxw C (gIr b c h l v G))) : w_X11_inserts K v (mxw C G) := by
  unfold w_X11_inserts
  refine r_place hb hb2 hc hc4 hh ?_
  rw [show (mxw C G) 46 14 = nI b from hb, nI_clamp (by omega), show (mxw C G) 59 b = nI l from hl]
  have := r_il_1 (K := K) (C := C) (G := G) (h := h) (v := v) hb hb2 hl hl4 ⟨5, by
    have := r_il_2 (K := K) (C := C) (G := gu (gu (oSh 58 (40 * b) h l G) 58 (40 * b + h) v) 59 b (nI (l + 1))) (b := b) (c := c) (h := h) (by rw [gu_oo _ (by decide), gu_oo _ (by decide), oSh_o (by decide)]; exact hb) hb2 (by rw [gu_oo _ (by decide), gu_oo _ (by decide), oSh_o (by decide)]; exact hc) hc4 (by omega) hk 4 0 rfl
    rw [oCi_0] at this
    exact this⟩ (l - h) l (by omega) (Nat.le_refl _)
  rw [oSh_0] at this
  exact ⟨vp_n hb2 (by decide), _, this⟩
