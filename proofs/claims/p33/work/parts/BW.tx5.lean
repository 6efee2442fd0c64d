/-! MOVE, CURSOR -/
theorem k_hp {K : Int32 → Gt → Prop} {G R : Gt} {t l : Nat} {v : Int32} (ht : tx t) (hl : G t 2 = nI l) (h : K (bi (0 ≤ v ∧ v ≤ nI l)) (mxw G R)) : w_X8_hasPlace t K v (mxw G R) := by
  obtain ⟨g1, g2, g3⟩ := tx_f ht
  unfold w_X8_hasPlace w_X8_hasPlace_j16 w_X8_hasPlace_j17
  rw [show (mxw G R) t 2 = nI l from by rw [mx_C g1]; exact hl]
  by_cases c1 : v < 0
  · rw [bi_F (fun q => lt_not_le c1 q.1)] at h
    exact pif_p c1 ⟨bz_0, h⟩
  · by_cases c2 : nI l < v
    · rw [bi_F (fun q => lt_not_le c2 q.2)] at h
      exact pif_n c1 (pif_p c2 ⟨bz_0, h⟩)
    · rw [bi_T ⟨not_lt_le c1, not_lt_le c2⟩] at h
      exact pif_n c1 (pif_n c2 ⟨bz_1, h⟩)
theorem i_mov {G H : Gt} {u p b c l : Nat} (h : cAt G u p 31) (ht : txo 19 (G 19 7) = 20 + 5 * b) (hx : tx (20 + 5 * b)) (h3 : G (20 + 5 * b) 3 = nI c) (hc4 : c < 4) (hl : G (20 + 5 * b) 2 = nI l)
    (hH : H = if inm (G 84 16) = 0 then oFl u (-3) (gu G 116 u (nI (p + 1))) else if 0 ≤ G 84 16 ∧ G 84 16 ≤ nI l then gu (gu G 116 u (nI (p + 1))) (20 + 5 * b + 4) c (G 84 16) else oFl u (-4) (gu G 116 u (nI (p + 1)))) : cS G H := by
  refine cS_e h (by decide) (fun R K hk => ?_)
  obtain ⟨h7, h12, h11, hu6, hp, hp2, hw0⟩ := h
  obtain ⟨g1, g2, g3⟩ := tx_f hx
  have hx' := hx
  unfold tx at hx'
  refine pif_n (by decide) (pif_n (by decide) (pif_p (by decide) ?_))
  rw [show txo 19 ((mxw (gu G 116 u (nI (p + 1))) R) 19 7) = 20 + 5 * b from ht]
  unfold w_X2_move w_X2_move_j54
  rw [show (mxw (gu G 116 u (nI (p + 1))) R) 84 16 = G 84 16 from rfl]
  by_cases c1 : inm (G 84 16) = 0
  · rw [hH, if_pos c1] at hk
    exact pif_p c1 (k_fail (G := gu G 116 u (nI (p + 1))) h11 hu6 hk)
  · rw [hH, if_neg c1] at hk
    refine pif_n c1 (k_hp (G := gu G 116 u (nI (p + 1))) (l := l) hx (by rw [gu_oo _ (by omega)]; exact hl) ?_)
    by_cases c2 : 0 ≤ G 84 16 ∧ G 84 16 ≤ nI l
    · rw [if_pos c2] at hk
      rw [bi_T c2]
      refine pif_n (by decide) ?_
      have e1 : (mxw (gu G 116 u (nI (p + 1))) R) (20 + 5 * b) 3 = nI c := by rw [mx_C g1, gu_oo _ (by omega)]; exact h3
      rw [e1]
      exact pcp rfl hc4 (by decide) g3 hk
    · rw [if_neg c2] at hk
      rw [bi_F c2]
      exact pif_p rfl (k_fail (G := gu G 116 u (nI (p + 1))) h11 hu6 hk)
theorem r_mov {K : Gt → Prop} {C G H : Gt} {f b c l : Nat} {v : Int32} (hf : f < 1220) (hb : G 46 14 = nI b) (hb2 : b < 2) (hl : G 59 b = nI l) (hc : G 61 b = nI c) (hc4 : c < 4)
    (hH : H = if 0 ≤ v ∧ v ≤ nI l then oEn v (G 65 f) (gu G 60 (4 * b + c) v) else oFr f (-4) G) (hk : K (mxw C H)) : w_X11_takes K (nI f) (nI 31) v (mxw C G) := by
  unfold w_X11_takes w_X11_takes_j211
  refine pif_n (by decide) (pif_n (by decide) (pif_n (by decide) (pif_p (by decide) ?_)))
  rw [show (mxw C G) 46 14 = nI b from hb, nI_clamp (by omega), show (mxw C G) 59 b = nI l from hl]
  refine ⟨vp_n hb2 (by decide), s11_in ?_⟩
  by_cases c2 : 0 ≤ v ∧ v ≤ nI l
  · rw [hH, if_pos c2] at hk
    rw [bi_T c2]
    refine pif_n (by decide) ?_
    rw [show (mxw C G) 46 14 = nI b from hb, nI_clamp (by omega), show (mxw C G) 61 b = nI c from hc, e4, nI_clamp (by omega)]
    exact ⟨vp_n hb2 (by decide), vp_n (by omega) (by decide), ptr rfl (r_ends hf hk)⟩
  · rw [hH, if_neg c2] at hk
    rw [bi_F c2]
    exact pif_p rfl (r_fails hf hk)
theorem in_nI {v : Int32} {l : Nat} (hl : l ≤ 40) (h : 0 ≤ v ∧ v ≤ nI l) : ∃ p, p ≤ l ∧ v = nI p := by
  have := (nI_b1 (N := l + 1) (by omega) (x := v)).mp ⟨h.1, by rw [nI_pred]; exact h.2⟩
  obtain ⟨i, hi, e⟩ := this
  exact ⟨i, by omega, e⟩
theorem v_31_1 {N B : Nat} {z : Zt} {G : Gt} {x : Nat → Int32} {u e : Nat} (h : va N B z G x u 31 e 1) : eW N B z G (rS G) := by
  have hs := va_s h
  obtain ⟨f1, f2, f3, f4, f5, f6, f7, f8, f9, f10, f11, f12, f13, f14⟩ := st_f hs
  have hu := hs.2.1
  have hh := va_h h
  have hV := va_V h
  obtain ⟨v1, v2, v3⟩ := va_v h
  have kk := st_k hs
  have hun := hs.2.2.1
  have hx := va_x h (by decide)
  have c1 := st_code hs (q := 1) (w := 31) (d := -1) (by rw [cd_31]; rfl)
  have c2 := st_code hs (q := 2) (w := 40) (d := -1) (by rw [cd_31]; rfl)
  have p1 := va_p h (q := 1) (by decide) rfl
  have hl := va_l h (show lao 31 1 = 0 from rfl)
  obtain ⟨b, l, c, b2, l4, c4, t1, t2, t3, t4, t5, t6, t7, t8, t9, p, t10, t11, t12⟩ := txc (st_qU hs)
  have s1 := i_mov (cat f1 p1 c1.2.2 c1.1) t3 t4 t8 c4 t6 rfl
  rcases st_vv hs v1 with ⟨n1, n2, n3⟩ | ⟨n1, n2, n3⟩
  · rw [if_neg (by rw [n2]; decide)] at s1
    have hR := hV_31_y (H := if 0 ≤ G 84 16 ∧ G 84 16 ≤ nI l then oEn (G 84 16) (G 65 (z 6 u)) (gu G 60 (4 * b + c) (G 84 16)) else oFr (z 6 u) (-4) G) hh (by rw [v2]; exact n3) (fun C K hk => by rw [v2]; exact r_mov f5 t2 b2 t7 t9 c4 rfl hk)
    by_cases d : 0 ≤ G 84 16 ∧ G 84 16 ≤ nI l
    · rw [if_pos d] at s1 hR
      obtain ⟨q, q1, q2⟩ := in_nI l4 d
      have hst := st_fr (Gc := gu G 116 u (nI (e + 1 + 1))) (Gr := G) (sp' := 1) (fp' := 0) hs (ag1 hu (by decide) agw_rfl) agw_rfl ⟨rfl, rfl, rfl, rfl, rfl⟩ (Nat.le_refl _) (Nat.le_refl _)
      have gX : gT (20 + 5 * b) b (gu G 116 u (nI (e + 1 + 1))) G := gT_eq t5 (fun k j q => by rw [gu_oo _ (by have := tC_r b2 q; omega)]) (fun _ _ _ => rfl)
      have hT := gT_pl gX (by rw [gu_oo _ (by omega)]; exact t6) l4 c4 q1
      rw [← q2] at hT
      obtain ⟨g1, g2, g3⟩ := tx_f t4
      have hst1 := st_t (G' := mxw (gu (gu G 116 u (nI (e + 1 + 1))) (20 + 5 * b + 4) c (G 84 16)) (gu G 60 (4 * b + c) (G 84 16))) hst b2 (gT_mx b2 hT) (mx_o (fun k j q => gu_n (by unfold tC at q; omega)) (fun k j q => gu_n (by unfold tC at q; omega)))
      refine va_en (q := e + 2) (v := G 84 16) h (by decide) hst1 ?_ s1 ?_ ⟨c2.1, c2.2.2⟩ hR ?_ ?_ ?_ v1 ?_ ?_
      · funext o; rw [gu_oo _ (by omega), gu_oo _ (by decide)]
      · rw [gu_oo _ (by omega), gu_kk]
      · rfl
      · rw [gu_oo _ (by omega)]; exact v3
      · rw [gu_oo _ (by omega)]; rfl
      · exact kp_gu (by unfold kpc; omega) (kp_gu (by unfold kpc; omega) kp_rfl)
      · exact kp_gu (by unfold kpc; omega) kp_rfl
    · rw [if_neg d] at s1 hR
      exact va_er h (by decide) (by unfold isnum; decide) s1 hR rfl
  · rw [if_pos n2] at s1
    exact va_er h (by decide) (by unfold isnum; decide) s1 (hV_31_n hh (by rw [v2]; exact n3)) rfl
theorem fst4 (P : Nat → Prop) : ∃ f, f ≤ 4 ∧ (∀ k, k < f → ¬ P k) ∧ (f < 4 → P f) := by
  have D : ∀ q : Prop, q ∨ ¬ q := Classical.em
  rcases D (P 0) with a | a
  · exact ⟨0, by omega, fun k h => by omega, fun _ => a⟩
  · rcases D (P 1) with b | b
    · exact ⟨1, by omega, fun k h => by have : k = 0 := by omega
                                        rw [this]; exact a, fun _ => b⟩
    · rcases D (P 2) with c | c
      · refine ⟨2, by omega, fun k h => ?_, fun _ => c⟩
        have : k = 0 ∨ k = 1 := by omega
        rcases this with q | q <;> rw [q] <;> assumption
      · rcases D (P 3) with d | d
        · refine ⟨3, by omega, fun k h => ?_, fun _ => d⟩
          have : k = 0 ∨ k = 1 ∨ k = 2 := by omega
          rcases this with q | q | q <;> rw [q] <;> assumption
        · refine ⟨4, by omega, fun k h => ?_, fun q => by omega⟩
          have : k = 0 ∨ k = 1 ∨ k = 2 ∨ k = 3 := by omega
          rcases this with q | q | q | q <;> rw [q] <;> assumption
theorem k_fc {K : Int32 → Gt → Prop} {G R : Gt} {t f : Nat} (ht : tx t) (hf : f ≤ 4) (h1 : ∀ k, k < f → ¬ G (t + 4) k = -1) (h2 : f < 4 → G (t + 4) f = -1) (h : K (if f = 4 then -1 else nI f) (mxw G R)) : w_X8_freeCursor t K (mxw G R) := by
  obtain ⟨g1, g2, g3⟩ := tx_f ht
  have : ∀ r n, n + r = f → w_X8_freeCursor_h2 t K (r + 1) (nI n) (mxw G R) := by
    intro r
    induction r with
    | zero =>
      intro n hn
      have : n = f := by omega
      subst this
      rw [w_X8_freeCursor_h2]
      by_cases c : n = 4
      · subst c
        exact pif_p (by decide) h
      · rw [if_neg c] at h
        refine pif_n (nI_ge (b := 4) (by omega) (by decide)) ?_
        rw [rat_n (by omega) (by decide), mx_C g3]
        exact pif_p (h2 (by omega)) h
    | succ r ih =>
      intro n hn
      have hi := ih (n + 1) (by omega)
      rw [w_X8_freeCursor_h2]
      refine pif_n (nI_ge (b := 4) (by omega) (by decide)) ?_
      rw [rat_n (by omega) (by decide), mx_C g3, nI_1]
      exact pif_n (h1 n (by omega)) hi
  exact ⟨_, this f 0 (by omega)⟩
def pcn (G : Gt) (b : Nat) : Nat → Nat
  | 0 => 0
  | n + 1 => pcn G b n + (if G 60 (4 * b + n) = -1 then 0 else 1)
theorem pcn_le {G : Gt} {b : Nat} : ∀ n, pcn G b n ≤ n
  | 0 => Nat.le_refl _
  | n + 1 => by
    have := pcn_le (G := G) (b := b) n
    unfold pcn
    split <;> omega
theorem pcn_lt {G : Gt} {b f : Nat} (h : G 60 (4 * b + f) = -1) : ∀ n, f < n → pcn G b n < n
  | 0, q => by omega
  | n + 1, q => by
    unfold pcn
    by_cases c : f = n
    · subst c
      rw [if_pos h]
      have := pcn_le (G := G) (b := b) f
      omega
    · have := pcn_lt (G := G) h n (by omega)
      split <;> omega
theorem pcn_eq {G : Gt} {b : Nat} : ∀ n, (∀ k, k < n → ¬ G 60 (4 * b + k) = -1) → pcn G b n = n
  | 0, _ => rfl
  | n + 1, h => by
    unfold pcn
    rw [pcn_eq n (fun k hk => h k (by omega)), if_neg (h n (by omega))]
theorem r_plcs {K : Int32 → Gt → Prop} {C G : Gt} {b : Nat} (hb : G 46 14 = nI b) (hb2 : b < 2) (h : K (nI (pcn G b 4)) (mxw C G)) : w_X11_places K (mxw C G) := by
  have : ∀ r n, n + r = 4 → w_X11_places_h4 K (r + 1) (nI (pcn G b n)) (nI n) (mxw C G) := by
    intro r
    induction r with
    | zero =>
      intro n hn
      have : n = 4 := by omega
      subst this
      rw [w_X11_places_h4]
      exact pif_p (by decide) h
    | succ r ih =>
      intro n hn
      have hi := ih (n + 1) (by omega)
      rw [w_X11_places_h4]
      unfold w_X11_places_j32
      refine pif_n (nI_ge (b := 4) (by omega) (by decide)) ?_
      rw [show (mxw C G) 46 14 = nI b from hb, e4, nI_clamp (by omega), nI_1]
      refine ⟨vp_n (by omega) (by decide), ?_⟩
      unfold pcn at hi
      by_cases c : G 60 (4 * b + n) = -1
      · rw [if_pos c, Nat.add_zero] at hi
        refine pif_p c ?_
        rw [Int32.add_zero]
        exact hi
      · rw [if_neg c] at hi
        refine pif_n c ?_
        rw [nI_1]
        exact hi
  exact ⟨_, this 4 0 rfl⟩
theorem i_cur {G H : Gt} {u p b l f : Nat} (h : cAt G u p 35) (ht : txo 19 (G 19 7) = 20 + 5 * b) (hx : tx (20 + 5 * b)) (hl : G (20 + 5 * b) 2 = nI l) (hf : f ≤ 4) (h1 : ∀ k, k < f → ¬ G (20 + 5 * b + 4) k = -1) (h2 : f < 4 → G (20 + 5 * b + 4) f = -1)
    (hH : H = if inm (G 84 16) = 0 then oFl u (-3) (gu G 116 u (nI (p + 1))) else if (0 ≤ G 84 16 ∧ G 84 16 ≤ nI l) ∧ f < 4 then gu (gu (gu G 116 u (nI (p + 1))) (20 + 5 * b + 4) f (G 84 16)) 84 16 (nI f) else oFl u (-4) (gu G 116 u (nI (p + 1)))) : cS G H := by
  refine cS_e h (by decide) (fun R K hk => ?_)
  obtain ⟨h7, h12, h11, hu6, hp, hp2, hw0⟩ := h
  obtain ⟨g1, g2, g3⟩ := tx_f hx
  have hx' := hx
  unfold tx at hx'
  refine pif_n (by decide) (pif_n (by decide) (pif_n (by decide) (pif_n (by decide) (pif_n (by decide) (pif_n (by decide) (pif_p (by decide) ?_))))))
  rw [show txo 19 ((mxw (gu G 116 u (nI (p + 1))) R) 19 7) = 20 + 5 * b from ht]
  unfold w_X2_addCursor w_X2_addCursor_j40 w_X2_addCursor_j66
  refine k_fc (G := gu G 116 u (nI (p + 1))) hx hf (fun k hk => by rw [gu_oo _ (by omega)]; exact h1 k hk) (fun q => by rw [gu_oo _ (by omega)]; exact h2 q) ?_
  rw [show (mxw (gu G 116 u (nI (p + 1))) R) 84 16 = G 84 16 from rfl]
  by_cases c1 : inm (G 84 16) = 0
  · rw [hH, if_pos c1] at hk
    exact pif_p c1 (k_fail (G := gu G 116 u (nI (p + 1))) h11 hu6 hk)
  · rw [hH, if_neg c1] at hk
    refine pif_n c1 (k_hp (G := gu G 116 u (nI (p + 1))) (l := l) hx (by rw [gu_oo _ (by omega)]; exact hl) ?_)
    by_cases c2 : 0 ≤ G 84 16 ∧ G 84 16 ≤ nI l
    · rw [bi_T c2]
      refine pif_n (by decide) ?_
      by_cases c3 : f < 4
      · rw [if_pos ⟨c2, c3⟩] at hk
        rw [if_neg (by omega)]
        exact pif_n (nI_neg (by omega)) (pcp rfl c3 (by decide) g3 (ptc rfl hk))
      · rw [if_neg (fun q => c3 q.2)] at hk
        rw [if_pos (by omega)]
        exact pif_p rfl (k_fail (G := gu G 116 u (nI (p + 1))) h11 hu6 hk)
    · rw [if_neg (fun q => c2 q.1)] at hk
      rw [bi_F c2]
      exact pif_p rfl (k_fail (G := gu G 116 u (nI (p + 1))) h11 hu6 hk)
theorem r_cur {K : Gt → Prop} {C G H : Gt} {f b l q : Nat} {v : Int32} (hf : f < 1220) (hb : G 46 14 = nI b) (hb2 : b < 2) (hl : G 59 b = nI l) (hq : q ≤ 4) (h1 : ∀ k, k < q → ¬ G 60 (4 * b + k) = -1) (h2 : q < 4 → G 60 (4 * b + q) = -1)
    (hH : H = if (0 ≤ v ∧ v ≤ nI l) ∧ q < 4 then oEn (nI q) (G 65 f) (gu G 60 (4 * b + q) v) else oFr f (-4) G) (hk : K (mxw C H)) : w_X11_takes K (nI f) (nI 35) v (mxw C G) := by
  unfold w_X11_takes w_X11_takes_j211
  refine pif_n (by decide) (pif_n (by decide) (pif_n (by decide) (pif_n (by decide) (pif_p (by decide) ?_))))
  unfold w_X11_putsCursor w_X11_putsCursor_j25
  rw [show (mxw C G) 46 14 = nI b from hb, nI_clamp (by omega), show (mxw C G) 59 b = nI l from hl]
  refine ⟨vp_n hb2 (by decide), s11_in ?_⟩
  by_cases c2 : 0 ≤ v ∧ v ≤ nI l
  · rw [bi_T c2]
    refine pif_n (by decide) (r_plcs hb hb2 ?_)
    by_cases c3 : q < 4
    · rw [hH, if_pos ⟨c2, c3⟩] at hk
      have hlt := pcn_lt (G := G) (h2 c3) 4 c3
      refine pif_n (fun y => by have := (nI_eqL (w := pcn G b 4) (a := 4) (b := 4) rfl (by omega) (by decide)).mp y; omega) ?_
      have : ∀ r n, n + r = q → w_X11_putsCursor_h35 K (r + 1) (nI f) v (nI n) (mxw C G) := by
        intro r
        induction r with
        | zero =>
          intro n hn
          have : n = q := by omega
          subst this
          rw [w_X11_putsCursor_h35]
          rw [show (mxw C G) 46 14 = nI b from hb, e4, nI_clamp (by omega)]
          exact ⟨vp_n (by omega) (by decide), pif_p (h2 c3) ⟨vp_n (by omega) (by decide), ptr rfl (r_ends hf hk)⟩⟩
        | succ r ih =>
          intro n hn
          have hi := ih (n + 1) (by omega)
          rw [w_X11_putsCursor_h35]
          rw [show (mxw C G) 46 14 = nI b from hb, e4, nI_clamp (by omega), nI_1]
          exact ⟨vp_n (by omega) (by decide), pif_n (h1 n (by omega)) hi⟩
      exact ⟨_, this q 0 (by omega)⟩
    · rw [hH, if_neg (fun y => c3 y.2)] at hk
      have : q = 4 := by omega
      subst this
      rw [pcn_eq 4 h1]
      exact pif_p (by decide) (r_fails hf hk)
  · rw [hH, if_neg (fun y => c2 y.1)] at hk
    rw [bi_F c2]
    exact pif_p rfl (r_fails hf hk)
theorem v_35_1 {N B : Nat} {z : Zt} {G : Gt} {x : Nat → Int32} {u e : Nat} (h : va N B z G x u 35 e 1) : eW N B z G (rS G) := by
  have hs := va_s h
  obtain ⟨f1, f2, f3, f4, f5, f6, f7, f8, f9, f10, f11, f12, f13, f14⟩ := st_f hs
  have hu := hs.2.1
  have hh := va_h h
  have hV := va_V h
  obtain ⟨v1, v2, v3⟩ := va_v h
  have kk := st_k hs
  have hun := hs.2.2.1
  have hx := va_x h (by decide)
  have c1 := st_code hs (q := 1) (w := 35) (d := -1) (by rw [cd_35]; rfl)
  have c2 := st_code hs (q := 2) (w := 40) (d := -1) (by rw [cd_35]; rfl)
  have p1 := va_p h (q := 1) (by decide) rfl
  have hl := va_l h (show lao 35 1 = 0 from rfl)
  obtain ⟨b, l, c, b2, l4, c4, t1, t2, t3, t4, t5, t6, t7, t8, t9, p, t10, t11, t12⟩ := txc (st_qU hs)
  obtain ⟨f, y1, y2, y3⟩ := fst4 (fun k => G (20 + 5 * b + 4) k = -1)
  have hpl : ∀ k, k < 4 → G (20 + 5 * b + 4) k = G 60 (4 * b + k) := by
    obtain ⟨⟨_, _, _, _, _, _, _, _, _, q⟩, _⟩ := t5
    exact fun k hk => (q k hk).1
  have s1 := i_cur (cat f1 p1 c1.2.2 c1.1) t3 t4 t6 y1 y2 y3 rfl
  rcases st_vv hs v1 with ⟨n1, n2, n3⟩ | ⟨n1, n2, n3⟩
  · rw [if_neg (by rw [n2]; decide)] at s1
    have hR := hV_35_y (H := if (0 ≤ G 84 16 ∧ G 84 16 ≤ nI l) ∧ f < 4 then oEn (nI f) (G 65 (z 6 u)) (gu G 60 (4 * b + f) (G 84 16)) else oFr (z 6 u) (-4) G) hh (by rw [v2]; exact n3) (fun C K hk => by rw [v2]; exact r_cur f5 t2 b2 t7 y1 (fun k hk' => by rw [← hpl k (by omega)]; exact y2 k hk') (fun q => by rw [← hpl f q]; exact y3 q) rfl hk)
    by_cases d : (0 ≤ G 84 16 ∧ G 84 16 ≤ nI l) ∧ f < 4
    · rw [if_pos d] at s1 hR
      obtain ⟨q, q1, q2⟩ := in_nI l4 d.1
      have hst := st_fr (Gc := gu G 116 u (nI (e + 1 + 1))) (Gr := G) (sp' := 1) (fp' := 0) hs (ag1 hu (by decide) agw_rfl) agw_rfl ⟨rfl, rfl, rfl, rfl, rfl⟩ (Nat.le_refl _) (Nat.le_refl _)
      have gX : gT (20 + 5 * b) b (gu G 116 u (nI (e + 1 + 1))) G := gT_eq t5 (fun k j q => by rw [gu_oo _ (by have := tC_r b2 q; omega)]) (fun _ _ _ => rfl)
      have hT := gT_pl gX (by rw [gu_oo _ (by omega)]; exact t6) l4 d.2 q1
      rw [← q2] at hT
      have hst1 := st_t (G' := mxw (gu (gu G 116 u (nI (e + 1 + 1))) (20 + 5 * b + 4) f (G 84 16)) (gu G 60 (4 * b + f) (G 84 16))) hst b2 (gT_mx b2 hT) (mx_o (fun k j q => gu_n (by unfold tC at q; omega)) (fun k j q => gu_n (by unfold tC at q; omega)))
      have hst2 := st_u (G' := mxw (gu (gu (gu G 116 u (nI (e + 1 + 1))) (20 + 5 * b + 4) f (G 84 16)) 84 16 (nI f)) (gu G 60 (4 * b + f) (G 84 16))) (sp' := 1) (fp' := 0) hst1 (by rw [← mxw_gC (k := 84) (j := 16) rfl]; exact ag3 (by decide) agw_rfl) ⟨rfl, rfl, rfl, rfl, rfl⟩ (Nat.le_refl _) (Nat.le_refl _)
      refine va_en (q := e + 2) (v := nI f) h (by decide) hst2 ?_ s1 ?_ ⟨c2.1, c2.2.2⟩ hR ?_ ?_ ?_ (Or.inl (isn_n (by omega))) ?_ ?_
      · funext o; rw [gu_oo _ (by omega), gu_oo _ (by omega), gu_oo _ (by decide)]
      · rw [gu_oo _ (by omega), gu_oo _ (by omega), gu_kk]
      · rfl
      · rw [gu_ko _ (by decide), gu_oo _ (by omega)]; exact v3
      · rw [gu_kk]
      · exact kp_gu (by unfold kpc; omega) (kp_gu (by unfold kpc; omega) (kp_gu (by unfold kpc; omega) kp_rfl))
      · exact kp_gu (by unfold kpc; omega) kp_rfl
    · rw [if_neg d] at s1 hR
      exact va_er h (by decide) (by unfold isnum; decide) s1 hR rfl
  · rw [if_pos n2] at s1
    exact va_er h (by decide) (by unfold isnum; decide) s1 (hV_35_n hh (by rw [v2]; exact n3)) rfl
