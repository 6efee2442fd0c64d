/-! .. or has the next generator closed -/
def oCg (g r w : Nat) (G : Gt) : Gt := gu (gu (gu (gu (gu (gu G 140 g 3) 110 r (-1)) 84 11 (nI w)) 84 15 4) 116 w (G 118 w)) 118 w 0
theorem k_cl_x {K : Gt → Prop} {G R : Gt} (h15 : G 84 15 = 1) (h : K (mxw (gu G 84 7 0) R)) : w_X2_closeNext K (mxw G R) := by
  unfold w_X2_closeNext
  exact pif_p h15 (pif_p rfl (ptc rfl h))
theorem k_cl_n {K : Gt → Prop} {G R : Gt} {n : Nat} (h15 : ¬ G 84 15 = 1) (hl : ∀ (R : Gt) (K : Int32 → Gt → Prop), K (-1) (mxw G R) → w_X3_lowestResting_h2 K (n + 1) (nI 0) (mxw G R)) (h : K (mxw (gu G 84 7 0) R)) : w_X2_closeNext K (mxw G R) := by
  unfold w_X2_closeNext
  exact pif_n h15 ⟨n + 1, hl R _ (pif_p rfl (ptc rfl h))⟩
theorem k_cl_g {K : Gt → Prop} {G R : Gt} {n g r w : Nat} (h15 : ¬ G 84 15 = 1) (hg : g < 601) (hr : r < 601) (hw : w < 601) (h142 : G 142 g = nI r) (h144 : G 144 g = nI w) (hl : ∀ (R : Gt) (K : Int32 → Gt → Prop), K (nI g) (mxw G R) → w_X3_lowestResting_h2 K (n + 1) (nI 0) (mxw G R)) (h : K (mxw (oCg g r w G) R)) : w_X2_closeNext K (mxw G R) := by
  unfold w_X2_closeNext
  refine pif_n h15 ⟨n + 1, hl R _ (pif_n (nI_neg (by omega)) ?_)⟩
  refine pcp rfl hg (by decide) rfl ?_
  rw [rat_n hg (by decide), show (mxw (gu G 140 g 3) R) 142 g = nI r from h142]
  refine pcp rfl hr (by decide) rfl ?_
  rw [rat_n hg (by decide), show (mxw (gu (gu G 140 g 3) 110 r (-1)) R) 144 g = nI w from h144]
  refine ptc rfl (ptc rfl ?_)
  rw [show (mxw (gu (gu (gu (gu G 140 g 3) 110 r (-1)) 84 11 (nI w)) 84 15 4) R) 84 11 = nI w from rfl]
  exact k_land (G := gu (gu (gu (gu G 140 g 3) 110 r (-1)) 84 11 (nI w)) 84 15 4) hw h
theorem i_lv0 {G A H : Gt} {i p b : Nat} (h : cAt G i p 40) (hb : G 114 i = nI b) (hb6 : b < 2000) (hup : G 110 i = -1) (hg : 4 ≤ b → b - 4 < 601) (hb14 : b = 1 ∨ 4 ≤ b) (hA1 : b = 1 → A = gu (gu (gu G 116 i (nI (p + 1))) 84 19 (G 84 16)) 84 11 (-1)) (hA4 : 4 ≤ b → A = gu (if G 84 15 = 1 then gu (gu G 116 i (nI (p + 1))) 140 (b - 4) 4 else gu (gu (gu (gu G 116 i (nI (p + 1))) 140 (b - 4) 4) 84 15 0) 84 16 (-1)) 84 11 (-1)) (hcl : ∀ (R : Gt) (K : Gt → Prop), K (mxw H R) → w_X2_closeNext K (mxw A R)) : cS G H := by
  refine cS_f h (by decide) (fun R K hk => ?_)
  obtain ⟨h7, h12, h11, hi6, hp, hp2, hw0⟩ := h
  have e11 : (mxw (gu G 116 i (nI (p + 1))) R) 84 11 = nI i := h11
  have e114 : rat (mxw (gu G 116 i (nI (p + 1))) R) 114 601 (nI i) = nI b := by rw [rat_n hi6 (by decide)]; exact hb
  have e110 : rat (mxw (gu G 116 i (nI (p + 1))) R) 110 601 (nI i) = -1 := by rw [rat_n hi6 (by decide)]; exact hup
  have q3 := nI_eqL (w := b) (a := 3) (b := 3) rfl (by omega) (by decide)
  have q1 := nI_eqL (w := b) (a := 1) (b := 1) rfl (by omega) (by decide)
  have q4 := nI_ltL (w := b) (a := 4) (b := 4) rfl (by omega) (by decide)
  have k92 : ∀ X : Gt, A = gu X 84 11 (-1) → w_X2_leave_j92 K (-1) (mxw X R) := by
    intro X hX
    unfold w_X2_leave_j92 w_X2_leave_j124
    refine ptc rfl (pif_p rfl ?_)
    rw [← hX]
    exact hcl R _ hk
  refine pif_p rfl ?_
  unfold w_X2_leave
  rw [e11, e114, e110]
  refine pif_n (fun z => by have := q3.mp z; omega) ?_
  rcases hb14 with c1 | c4
  · refine pif_p (q4.mpr (by omega)) (pif_p (q1.mpr c1) (ptc rfl (k92 _ (hA1 c1))))
  · refine pif_n (fun z => by have := q4.mp z; omega) ?_
    have eg : nI b - 4 = nI (b - 4) := by
      have : nI b = nI (b - 4) + 4 := by
        rw [show (4 : Int32) = nI 4 from rfl, nI_add]
        have : b - 4 + 4 = b := by omega
        rw [this]
      rw [this, Int32.add_sub_cancel]
    rw [eg]
    have hA := hA4 c4
    unfold w_X2_endGenerator w_X2_endGenerator_j22 w_X2_endGenerator_j40
    refine pcp rfl (hg c4) (by decide) rfl (pif_p rfl ?_)
    rw [show (mxw (gu (gu G 116 i (nI (p + 1))) 140 (b - 4) 4) R) 84 15 = G 84 15 from rfl]
    by_cases c1 : G 84 15 = 1
    · rw [if_pos c1] at hA
      exact pif_p c1 (k92 _ hA)
    · rw [if_neg c1] at hA
      exact pif_n c1 (ptc rfl (ptc rfl (k92 _ hA)))
def oRg (g F f : Nat) (G : Gt) : Gt := gu (gu (gu (gu (gu (gu G 77 g 3) 65 F (-1)) 46 41 5) 46 43 0) 46 42 0) 46 57 (G 65 f)
theorem r_j26_n {K : Gt → Prop} {C G : Gt} {n : Nat} (h35 : G 46 35 = nI n) (h : K (mxw C (gu (gu G 46 41 0) 46 53 1))) : w_X11_closes_j26 K (nI n) (mxw C G) := by
  unfold w_X11_closes_j26
  exact pif_p h35.symm (ptr rfl (ptr rfl h))
theorem r_j26_g {K : Gt → Prop} {C G : Gt} {n g F f : Nat} (h35 : G 46 35 = nI n) (hn : n ≤ 600) (hg : g < n) (h79 : G 79 g = nI F) (hF : F < 1220) (h78 : G 78 g = nI f) (hf : f < 1220) (hne : ¬ f = F) (h : K (mxw C (oRg g F f G))) : w_X11_closes_j26 K (nI g) (mxw C G) := by
  have eg : (nI g).toNatClampNeg = g := nI_clamp (by omega)
  have eF : (nI F).toNatClampNeg = F := nI_clamp (by omega)
  have ef : (nI f).toNatClampNeg = f := nI_clamp (by omega)
  unfold w_X11_closes_j26
  rw [show (mxw C G) 46 35 = nI n from h35, eg]
  refine pif_n (fun z => by have := (nI_eq (by omega) (by omega)).mp z; omega) ⟨vp_n (by omega) (by decide), ptr rfl ⟨vp_n (by omega) (by decide), ?_⟩⟩
  rw [show (mxw C (gu G 77 g 3)) 79 g = nI F from h79, eF]
  refine ⟨vp_n hF (by decide), ptr rfl ⟨vp_n (by omega) (by decide), ?_⟩⟩
  rw [show (mxw C (gu (gu G 77 g 3) 65 F (-1))) 78 g = nI f from h78]
  unfold w_X11_leaves
  rw [ef]
  refine ptr rfl (ptr rfl (ptr rfl ⟨vp_n hf (by decide), ptr rfl ?_⟩))
  have e : (mxw C (gu (gu (gu (gu (gu G 77 g 3) 65 F (-1)) 46 41 5) 46 43 0) 46 42 0)) 65 f = G 65 f := by
    rw [mx_R rfl, gu_oo _ (by decide), gu_oo _ (by decide), gu_oo _ (by decide), gu_ko _ hne, gu_oo _ (by decide)]
  rw [e]
  exact h
theorem r_bd0 {K : Gt → Prop} {C G : Gt} {F b g : Nat} (hF : F < 1220) (h67 : G 67 F = nI (wH b)) (hb : b = 1 ∨ (4 ≤ b ∧ G 68 F = nI g ∧ g < 610 ∧ G 77 g = 3))
    (hx : G 46 41 = 2 → w_X11_stops K (mxw C (if b = 1 then G else gu G 77 g 4))) (hv : ¬ G 46 41 = 2 → w_X11_closes K (mxw C (if b = 1 then gu G 46 62 (G 46 42) else gu G 77 g 4))) : w_X11_bodyEnds K (nI F) (mxw C G) := by
  have eF : (nI F).toNatClampNeg = F := nI_clamp (by omega)
  unfold w_X11_bodyEnds w_X11_bodyEnds_j250
  rw [eF, show (mxw C G) 67 F = nI (wH b) from h67]
  refine ⟨vp_n hF (by decide), vp_n hF (by decide), ?_⟩
  rcases hb with c1 | ⟨c4, h68, hg, h77⟩
  · subst c1
    rw [show (mxw C G) 46 41 = G 46 41 from rfl]
    refine pif_p rfl ?_
    by_cases c : G 46 41 = 2
    · have := hx c
      rw [if_pos rfl] at this
      exact pif_p c this
    · have := hv c
      rw [if_pos rfl] at this
      exact pif_n c (ptr rfl this)
  · have hw : wH b = 2 := by unfold wH; rw [if_neg (by omega), if_neg (by omega), if_neg (by omega)]
    rw [hw]
    have eg : (nI g).toNatClampNeg = g := nI_clamp (by omega)
    refine pif_n (by decide) (pif_n (by decide) (pif_n (by decide) ?_))
    unfold w_X11_generatorEnds
    rw [eF, show (mxw C G) 68 F = nI g from h68, eg, show (mxw C G) 77 g = 3 from h77]
    refine ⟨vp_n hF (by decide), vp_n hg (by decide), pif_p rfl ?_⟩
    unfold w_X11_generatorEnds_j20
    rw [eF, show (mxw C G) 68 F = nI g from h68, eg]
    refine ⟨vp_n hF (by decide), vp_n hg (by decide), ptr rfl (pif_n (by decide) ?_)⟩
    rw [show (mxw C (gu G 77 g 4)) 46 41 = G 46 41 from rfl]
    by_cases c : G 46 41 = 2
    · have := hx c
      rw [if_neg (by omega)] at this
      exact pif_p c this
    · have := hv c
      rw [if_neg (by omega)] at this
      refine pif_n c (pif_n (by decide) this)
theorem agx_mx {z : Zt} {G Gc Gr : Gt} (hc : agx z G Gc) (hr : agx z G Gr) : agx z G (mxw Gc Gr) := by
  intro k j hk
  unfold mxw
  cases isR k
  · exact hc k j hk
  · exact hr k j hk
theorem kpo_gu {G G' : Gt} {c i : Nat} {v : Int32} (hf : ¬ kpd c i) (h : kpo G G') : kpo G (gu G' c i v) := fun k j hk => by
  rw [gu_n (by rintro ⟨rfl, rfl⟩; exact hf hk)]; exact h k j hk
theorem kpo_mx {G Gc Gr : Gt} (hc : kpo G Gc) (hr : kpo G Gr) : kpo G (mxw Gc Gr) := fun k j hk => by
  cases hik : isR k
  · rw [mx_C hik]; exact hc k j hk
  · rw [mx_R hik]; exact hr k j hk
theorem f_outX {N B : Nat} {z : Zt} {G Gc Gr Gp : Gt} {Rr : Gt → Prop} {x : Nat → Int32} {sp u p t : Nat} (hcl : clo Rr) (haP : aST N B z Gp x sp 0) (hx : ∀ o, o < 4 → x o = Gp 31 o) (hc : z 0 7 = u) (hct : cT t G Gc) (ht : t ≤ 9) (hec : eqc Gc Gp) (hR : Rr Gr) (her : eqr Gr Gp) (hkp : kpo G Gp) (hrv : rvk G Gp) (h116 : Gp 116 u = nI p) (h16 : Gp 16 p = 40 ∧ p < 1081) (h57 : Gp 46 57 = Gp 65 (z 6 u)) (ho : oU z Gp u u (Gp 84 15) (Gp 84 16) (Gp 84 18) (Gp 84 17) (Gp 46 41) (Gp 46 42) (Gp 46 43) (Gp 46 44) (Gp 46 45) (Gp 46 46)) (hsp : sp = 1 ∨ Gp 84 15 = 1) : eXo N B z G Rr := by
  subst hc
  obtain ⟨hS, hm, h6, h12, hFr⟩ := haP
  refine ⟨z, Gp, t, Or.inl ⟨sp, ⟨sIM_x hS (fun o ho => (hx o ho).symm), hm, h6, h12, hFr⟩, ⟨p, h16.2, h116, h16.1⟩, ho, h57, hsp⟩, cT_e hct hec, hcl _ _ hR her, hkp, hrv, by omega⟩
/-- a body that nobody waits for ends -/
theorem be_0 {N B : Nat} {z : Zt} {G : Gt} (h : eST N B z G) (hb0 : ¬ z 2 (z 0 7) = 0) (hc0 : z 4 (z 0 7) = 0) : ∃ z', mu z' + 10 ≤ mu z ∧ eXo N B z' G (rS G) := by
  obtain ⟨sp, i, b, p, hi, h8, hb, hb6, hA, hcat, h114, h110, hn6, hin, hg5, hbb, h57, hF1, h64F, h67F, h68F, hsp, ho⟩ := bz_pre h hb0 hc0
  rw [hi] at hb0 hc0
  have hh := oU_01 hb0 h8 ho
  have h41 : G 84 15 = 1 ↔ G 46 41 = 2 := by
    rcases hh with ⟨a1, a2⟩ | ⟨a1, a2, _⟩ | ⟨a1, a2, _⟩
    · exact ⟨fun _ => a2, fun _ => a1⟩
    · rw [a1, a2]; decide
    · rw [a1, a2]; decide
  have h410 : ¬ G 46 41 = 0 := by rcases hh with ⟨_, a⟩ | ⟨_, a, _⟩ | ⟨_, a, _⟩ <;> rw [a] <;> decide
  have hs := as_s hA
  have hb14 : b = 1 ∨ 4 ≤ b := by
    rcases hbb with q | q
    · exact Or.inl q
    · exact Or.inr q.1
  have hb3 : b = 1 ∨ (4 ≤ b ∧ G 68 (z 6 i - 1) = nI (b - 4) ∧ b - 4 < 610 ∧ G 77 (b - 4) = 3) := by
    rcases hbb with q | q
    · exact Or.inl q
    · exact Or.inr ⟨q.1, h68F q.1, by omega, q.2.2.2⟩
  obtain ⟨hP, hqA, hqB, hqC, hqD, hqE, hqF, hqG, hqH, hqI, hqJ, hqK, hqL, hqM, hqN, hqO, hqP, hqQ, hqR, hqS, hqT, hqU⟩ := id hA.1
  have hm := hA.2.1
  have hmu : mu (zu z 21 i 0) + 10 ≤ mu z := by
    have hL1 : z 21 i = 1 := (hqR.2.2.2 i hin).1 (by have := hA.2.2.1; rw [hi] at this; omega)
    have := sm_up (f := (zu z 21 i 0) 21) (g := z 21) (j := i) (n := z 0 0) hin (fun q _ hne => by simp [zu, hne])
    have e : (zu z 21 i 0) 21 i = 0 := by simp [zu]
    rw [e, hL1] at this
    show 20 * (601 - z 0 0) + 10 * sm ((zu z 21 i 0) 21) (z 0 0) + 10 ≤ 20 * (601 - z 0 0) + 10 * sm (z 21) (z 0 0)
    omega
  have hA1 := as_u (G' := mxw (gu G 116 i (nI (p + 1))) G) hA (by rw [← mxw_gC rfl, mxw_self]; exact agw_gu (fw1 hi (by decide)) agw_rfl) rfl (as_s hA :)
  by_cases c1 : G 84 15 = 1
  · -- by an error
    have c41 := h41.mp c1
    rcases ho with ⟨a1, _⟩ | ⟨a1, a2, a3, a4, a5, d, t, a6, a7, a8, a9, a10, a11⟩ | ⟨a1, _⟩ | ⟨a1, _⟩ | ⟨a1, _⟩
    · rw [c1] at a1; exact absurd a1 (by decide)
    · obtain ⟨l, l1, l2, l3, l4⟩ := chain hqA hqE hqM (by omega) hn6 (fun q hq => by have := hqG.2.2 q hq; have := hA.2.2.2.2; omega) t _ _ a10
      have s1 := i_lv0 (A := gu (if b = 1 then gu (gu G 116 i (nI (p + 1))) 84 19 (G 84 16) else gu (gu G 116 i (nI (p + 1))) 140 (b - 4) 4) 84 11 (-1)) (H := gu (gu (if b = 1 then gu (gu G 116 i (nI (p + 1))) 84 19 (G 84 16) else gu (gu G 116 i (nI (p + 1))) 140 (b - 4) 4) 84 11 (-1)) 84 7 0) hcat h114 hb6 h110 (fun q => by omega) hb14 (fun q => by rw [if_pos q]) (fun q => by rw [if_neg (by omega), if_pos c1]) (fun R K hk => k_cl_x (by
        by_cases e : b = 1
        · rw [if_pos e]; exact c1
        · rw [if_neg e]; exact c1) hk)
      have hC2 : ∀ a j, ¬ a = 140 → ¬ (a = 116) → ¬ (a = 84 ∧ (j = 7 ∨ j = 11 ∨ j = 19)) → (gu (gu (if b = 1 then gu (gu G 116 i (nI (p + 1))) 84 19 (G 84 16) else gu (gu G 116 i (nI (p + 1))) 140 (b - 4) 4) 84 11 (-1)) 84 7 0) a j = G a j := by
        intro a j h1 h2 h3
        rw [gu_n (by omega), gu_n (by omega)]
        by_cases e : b = 1
        · rw [if_pos e, gu_n (by omega), gu_oo _ h2]
        · rw [if_neg e, gu_oo _ h1, gu_oo _ h2]
      have hR2 : ∀ a j, ¬ a = 77 → (if b = 1 then G else gu G 77 (b - 4) 4) a j = G a j := by
        intro a j h1
        by_cases e : b = 1
        · rw [if_pos e]
        · rw [if_neg e, gu_oo _ h1]
      have hrN : rN (if b = 1 then G else gu G 77 (b - 4) 4) ((if b = 1 then G else gu G 77 (b - 4) 4) 46 46) l := by
        rw [hR2 _ _ (by decide)]
        have rk : ∀ (l : List Int32) (r : Int32), rN G r l → rN (if b = 1 then G else gu G 77 (b - 4) 4) r l := by
          intro l
          induction l with
          | nil => intro r h; exact h
          | cons y l ih =>
            rintro r ⟨g, g1, g2, g3, g4⟩
            exact ⟨g, g1, g2, by rw [hR2 _ _ (by decide)]; exact g3, by rw [hR2 _ _ (by decide)]; exact ih _ g4⟩
        exact rk l _ l3
      have hR := rS_bod (G := G) (G1 := oSt l (if b = 1 then G else gu G 77 (b - 4) 4)) h410 h57 hF1 h64F (fun C K hk => r_bd0 (g := b - 4) hF1 h67F hb3 (fun _ => r_stops hrN (by omega) hk) (fun q => absurd c41 q))
      refine ⟨zu z 21 i 0, hmu, zu z 21 i 0, mxw (gu (gu (if b = 1 then gu (gu G 116 i (nI (p + 1))) 84 19 (G 84 16) else gu (gu G 116 i (nI (p + 1))) 140 (b - 4) 4) 84 11 (-1)) 84 7 0) (oSt l (if b = 1 then G else gu G 77 (b - 4) 4)), 1, Or.inr (Or.inr ?_), cT_e (cT_1 s1) eqc_mx, clo_rS _ _ hR eqr_mx, ?_, fun _ => Or.inr ⟨by rw [mx_C rfl]; exact gu_kk _ _ _ _, by rw [mx_C rfl, hC2 _ _ (by decide) (by decide) (by decide)]; exact c1⟩, by omega⟩
      · refine mk_fE (gu_kk _ _ _ _) ?_ hqQ.2.2.2.1 ?_ ?_ (fun k hk => ?_) ?_ ?_ (d := d) (by omega) ?_ ?_ (by omega) ?_ ?_ ?_ l4
        · rw [hC2 _ _ (by decide) (by decide) (by decide)]; exact c1
        · rw [hC2 _ _ (by decide) (by decide) (by decide)]; exact hqQ.2.2.2.2.2.2.1
        · rw [hR2 _ _ (by decide)]; exact hqQ.2.2.2.2.2.2.2.1
        · rw [hC2 _ _ (by decide) (by decide) (by omega), hR2 _ _ (by decide)]; exact hqU.2.2.2.2.1 k hk
        · rw [hC2 _ _ (by decide) (by decide) (by decide), hR2 _ _ (by decide)]; exact a3
        · rw [hC2 _ _ (by decide) (by decide) (by decide), hR2 _ _ (by decide)]
          rcases a5 with q | q
          · rw [if_pos q.1]; exact q.2
          · rw [if_neg (fun y => by
              have q1 := q.1.1
              rw [y] at q1; exact absurd q1 (by decide))]; exact q.2
        · rw [hC2 _ _ (by decide) (by decide) (by decide)]; exact a7
        · rw [hC2 120 d (by decide) (by decide) (by omega)]
          exact cN_eq l G _ _ (funext (fun j => hC2 108 j (by decide) (by decide) (by omega))) (funext (fun j => hC2 120 j (by decide) (by decide) (by omega))) l2
        · rw [hC2 108 d (by decide) (by decide) (by omega), hR2 _ _ (by decide), a8]; exact (hqA d (by omega)).1.symm
        · rw [hC2 84 16 (by decide) (by decide) (by decide)]; exact a4
        · rw [hC2 108 d (by decide) (by decide) (by omega)]; exact ⟨z 1 d, (hqA d (by omega)).2, (hqA d (by omega)).1⟩
      · refine kpo_mx (fun a j q => hC2 a j ?_ ?_ ?_) (fun a j q => ?_)
        · unfold kpd at q; omega
        · unfold kpd at q; omega
        · unfold kpd at q; omega
        · unfold oSt
          rw [gu_n (by unfold kpd at q; omega), gu_n (by unfold kpd at q; omega), rsW_n (by unfold kpd at q; omega) (by unfold kpd at q; omega), wr_n _ _ _ _ _ (by unfold kpd at q; omega) (by unfold kpd at q; omega), gu_n (by unfold kpd at q; omega), gu_n (by unfold kpd at q; omega), gu_n (by unfold kpd at q; omega), gu_n (by unfold kpd at q; omega)]
          exact hR2 a j (by unfold kpd at q; omega)
    · rw [c1] at a1; exact absurd a1 (by decide)
    · rw [c1] at a1; exact absurd a1 (by decide)
    · rw [c1] at a1; exact absurd a1 (by decide)
  · -- otherwise
    have c41 : ¬ G 46 41 = 2 := fun q => c1 (h41.mpr q)
    have hsp1 : sp = 1 := by
      rcases hsp with q | q
      · exact q
      · exact absurd q c1
    have hv1 : b = 1 → G 84 16 = G 46 42 := by
      intro q
      rcases hh with ⟨a, _⟩ | ⟨_, _, a3, _⟩ | ⟨_, _, a3⟩
      · exact absurd a c1
      · exact a3
      · rw [hb] at a3
        rcases a3 with y | y <;> omega
    -- what the class has
    have hX : ∃ X Y, (∀ A, A = gu X 84 11 (-1) → (b = 1 → A = gu (gu (gu G 116 i (nI (p + 1))) 84 19 (G 84 16)) 84 11 (-1)) ∧ (4 ≤ b → A = gu (if G 84 15 = 1 then gu (gu G 116 i (nI (p + 1))) 140 (b - 4) 4 else gu (gu (gu (gu G 116 i (nI (p + 1))) 140 (b - 4) 4) 84 15 0) 84 16 (-1)) 84 11 (-1))) ∧
        (X = if b = 1 then Y else gu Y 140 (b - 4) 4) ∧ (Y = if b = 1 then gu (gu G 116 i (nI (p + 1))) 84 19 (G 84 16) else gu (gu (gu G 116 i (nI (p + 1))) 84 15 0) 84 16 (-1)) := by
      by_cases e : b = 1
      · exact ⟨_, _, fun A hA => ⟨fun _ => hA, fun q => by omega⟩, by rw [if_pos e], by rw [if_pos e]⟩
      · refine ⟨_, _, fun A hA => ⟨fun q => absurd q e, fun _ => hA⟩, ?_, by rw [if_neg e]⟩
        rw [if_neg e, if_neg c1, gu_comm (k := 140) (j := b - 4) (k' := 84) (j' := 15) (by omega), gu_comm (k := 140) (j := b - 4) (k' := 84) (j' := 16) (by omega)]
    obtain ⟨X, Y, hXA, hXY, hY⟩ := hX
    have hYn : ∀ a j, ¬ a = 116 → ¬ (a = 84 ∧ (j = 15 ∨ j = 16 ∨ j = 19)) → Y a j = G a j := by
      intro a j h1 h2
      rw [hY]
      by_cases e : b = 1
      · rw [if_pos e, gu_n (by omega), gu_oo _ h1]
      · rw [if_neg e, gu_n (by omega), gu_n (by omega), gu_oo _ h1]
    have hXn : ∀ a j, ¬ a = 116 → ¬ (a = 84 ∧ (j = 15 ∨ j = 16 ∨ j = 19)) → ¬ a = 140 → X a j = G a j := by
      intro a j h1 h2 h3
      rw [hXY]
      by_cases e : b = 1
      · rw [if_pos e]; exact hYn a j h1 h2
      · rw [if_neg e, gu_oo _ h3]; exact hYn a j h1 h2
    have hX15 : ¬ X 84 15 = 1 := by
      rw [hXY, hY]
      by_cases e : b = 1
      · rw [if_pos e, if_pos e]; exact c1
      · rw [if_neg e, if_neg e, gu_oo _ (by decide), gu_ko _ (by decide), gu_kk]; decide
    have hX140 : ∀ j, X 140 j = if ¬ b = 1 ∧ j = b - 4 then 4 else G 140 j := by
      intro j
      rw [hXY]
      by_cases e : b = 1
      · rw [if_pos e, if_neg (fun q => q.1 e)]; exact hYn 140 j (by decide) (by omega)
      · rw [if_neg e, gu_at]
        by_cases e2 : j = b - 4
        · rw [if_pos ⟨rfl, e2⟩, if_pos ⟨e, e2⟩]
        · rw [if_neg (fun q => e2 q.2), if_neg (fun q => e2 q.2)]; exact hYn 140 j (by decide) (by omega)
    -- and the reference
    have hR0n : ∀ a j, ¬ a = 77 → ¬ (a = 46 ∧ j = 62) → (if b = 1 then gu G 46 62 (G 46 42) else gu G 77 (b - 4) 4) a j = G a j := by
      intro a j h1 h2
      by_cases e : b = 1
      · rw [if_pos e, gu_n h2]
      · rw [if_neg e, gu_oo _ h1]
    have hR77 : ∀ j, (if b = 1 then gu G 46 62 (G 46 42) else gu G 77 (b - 4) 4) 77 j = if ¬ b = 1 ∧ j = b - 4 then 4 else G 77 j := by
      intro j
      by_cases e : b = 1
      · rw [if_pos e, if_neg (fun q => q.1 e), gu_oo _ (by decide)]
      · rw [if_neg e, gu_at]
        by_cases e2 : j = b - 4
        · rw [if_pos ⟨rfl, e2⟩, if_pos ⟨e, e2⟩]
        · rw [if_neg (fun q => e2 q.2), if_neg (fun q => e2 q.2)]
    generalize hR0 : (if b = 1 then gu G 46 62 (G 46 42) else gu G 77 (b - 4) 4) = R0 at *
    have hrv : ∀ G' : Gt, G' 46 62 = R0 46 62 → rvk G G' := by
      intro G' e62 hv
      left
      rw [e62, ← hR0]
      by_cases e : b = 1
      · rw [if_pos e, gu_kk]
        have hvv : vV z (G 46 42) := by
          rcases hh with ⟨a, _⟩ | ⟨_, _, a3, a4⟩ | ⟨_, _, a3⟩
          · exact absurd a c1
          · rw [← a3]; exact a4
          · rw [hb] at a3
            rcases a3 with y | y <;> omega
        have hcn : z 0 4 + z 0 5 ≤ 600 := by
          have := hqR.2.2.1
          omega
        rcases hvv with q | ⟨j, hj, q⟩ | ⟨j, hj, q⟩
        · exact Or.inl q
        · exact Or.inr (Or.inl ⟨j, by omega, q⟩)
        · exact Or.inr (Or.inr ⟨j, by omega, q⟩)
      · rw [if_neg e, gu_oo _ (by decide)]; exact hv
    have hX19 : X 84 19 = R0 46 62 := by
      rw [hXY, hY, ← hR0]
      by_cases e : b = 1
      · rw [if_pos e, if_pos e, if_pos e, gu_kk, gu_kk]; exact hv1 e
      · rw [if_neg e, if_neg e, if_neg e, gu_oo _ (by decide), gu_ko _ (by decide), gu_ko _ (by decide), gu_oo _ (by decide), gu_oo _ (by decide)]; exact hs.2.2.1
    have Q20 : G 134 6 = nI (z 0 5) := hqQ.2.2.2.2.2.2.2.2.2.2.2.2.2.2.2.2.2.2.2.2.2.1
    have Q23 : G 46 35 = nI (z 0 5) := hqQ.2.2.2.2.2.2.2.2.2.2.2.2.2.2.2.2.2.2.2.2.2.2.1
    have hlow := low (st := fun j => if ¬ b = 1 ∧ j = b - 4 then 4 else z 16 j) (n := z 0 5) (Gc := gu X 84 11 (-1)) (Gr := R0) hg5 (fun j hj => by
        show (if ¬ b = 1 ∧ j = b - 4 then 4 else z 16 j) ≤ 4
        split
        · omega
        · exact (hqP j hj).2.2.2.2.2.1) (by rw [gu_oo _ (by decide), hXn _ _ (by decide) (by decide) (by decide)]; exact Q20) (fun j hj => by
        show (gu X 84 11 (-1)) 140 j = nI (if ¬ b = 1 ∧ j = b - 4 then 4 else z 16 j)
        rw [gu_oo _ (by decide), hX140]
        split
        · rfl
        · exact (hqP j hj).2.2.2.2.2.2.1) (by rw [hR0n _ _ (by decide) (by decide)]; exact Q23) (fun j hj => by
        show R0 77 j = nI (if ¬ b = 1 ∧ j = b - 4 then 4 else z 16 j)
        rw [hR77]
        split
        · rfl
        · exact (hqP j hj).2.2.2.2.2.2.2.1) (z 0 5) 0 (by omega)
    rcases hlow with ⟨l1, l2, l3⟩ | ⟨g, l0, l1, l2, l3, l4⟩
    · -- the run ends
      have s1 := i_lv0 (A := gu X 84 11 (-1)) (H := gu (gu X 84 11 (-1)) 84 7 0) hcat h114 hb6 h110 (fun q => by omega) hb14 (hXA _ rfl).1 (hXA _ rfl).2 (fun R K hk => k_cl_n (by rw [gu_ko _ (by decide)]; exact hX15) l2 hk)
      have hR := rS_bod (G := G) (G1 := gu (gu R0 46 41 0) 46 53 1) h410 h57 hF1 h64F (fun C K hk => r_bd0 (g := b - 4) hF1 h67F hb3 (fun q => absurd q c41) (fun _ => by
        rw [hR0]
        exact ⟨z 0 5 + 1, l3 C K (r_j26_n (by rw [hR0n _ _ (by decide) (by decide)]; exact Q23) hk)⟩))
      have hc : ∀ a j, ¬ a = 116 → ¬ (a = 84 ∧ (j = 7 ∨ j = 11 ∨ j = 15 ∨ j = 16 ∨ j = 19)) → ¬ a = 140 → (gu (gu X 84 11 (-1)) 84 7 0) a j = G a j := by
        intro a j h1 h2 h3
        rw [gu_n (by omega), gu_n (by omega)]; exact hXn a j h1 (by omega) h3
      have hr : ∀ a j, ¬ a = 77 → ¬ (a = 46 ∧ (j = 41 ∨ j = 53 ∨ j = 62)) → (gu (gu R0 46 41 0) 46 53 1) a j = G a j := by
        intro a j h1 h2
        rw [gu_n (by omega), gu_n (by omega)]; exact hR0n a j h1 (by omega)
      have hU2 : qU N z (mxw (gu (gu X 84 11 (-1)) 84 7 0) (gu (gu R0 46 41 0) 46 53 1)) := by
        refine qU_eq hqU (fun k j hk => ?_)
        cases hik : isR k
        · rw [mx_C hik]; exact hc k j (by omega) (by omega) (by omega)
        · rw [mx_R hik]; exact hr k j (by omega) (by omega)
      refine ⟨zu z 21 i 0, hmu, zu z 21 i 0, mxw (gu (gu X 84 11 (-1)) 84 7 0) (gu (gu R0 46 41 0) 46 53 1), 1, Or.inr (Or.inr ⟨by rw [mx_C rfl]; exact gu_kk _ _ _ _, by rw [mx_R rfl]; exact gu_kk _ _ _ _, ?_, hqQ.2.2.2.1, ?_, ?_, hU2.2.2.2.2.1, Or.inl ⟨?_, ?_, ?_, ?_, hU2.1, hU2.2.1, hU2.2.2.1, fun k hk => ⟨(hU2.2.2.2.2.2 k hk).1, ?_⟩⟩⟩), cT_e (cT_1 s1) eqc_mx, clo_rS _ _ hR eqr_mx, kpo_mx (fun a j q => hc a j ?_ ?_ ?_) (fun a j q => hr a j ?_ ?_), hrv _ (by rw [mx_R rfl, gu_ko _ (by decide), gu_ko _ (by decide)]), by omega⟩
      · rw [mx_R rfl, gu_ko _ (by decide), gu_kk]
      · rw [mx_C rfl, hc _ _ (by decide) (by decide) (by decide)]; exact hqQ.2.2.2.2.2.2.1
      · rw [mx_R rfl, hr _ _ (by decide) (by decide)]; exact hqQ.2.2.2.2.2.2.2.1
      · rw [mx_C rfl, gu_ko _ (by decide), gu_ko _ (by decide)]; exact hX15
      · rw [mx_C rfl, mx_R rfl, gu_ko _ (by decide), gu_ko _ (by decide), gu_ko _ (by decide), gu_ko _ (by decide)]; exact hX19
      · rw [mx_R rfl, hr _ _ (by decide) (by decide)]; exact hqQ.2.2.2.2.2.2.2.2.2.2.2.2.2.2.1
      · rw [mx_R rfl, hr _ _ (by decide) (by decide)]; exact hqQ.2.2.2.2.2.2.2.2.2.2.2.2.2.2.2.1
      · rw [mx_R rfl, hr 56 k (by decide) (by omega), ← (hqU.2.2.2.2.2 k hk).1]
        obtain ⟨f, hf⟩ := hqS
        have h0 := hf k hk
        rw [hi] at h0
        have hnr := cur_nrst (N := N) hqC hqI hqK hqP (by omega)
        have h6 := hA.2.2.1
        rw [hi] at h6
        rw [hi, h8] at hnr
        have t := (hqT.1 i (by omega) (by omega)).2 hb0
        have t2 := (t.2 hnr).1 hc0
        have ei : io z i = 0 := by unfold io; rw [t.1, if_pos rfl, h8, t2]
        rw [ei] at h0
        cases f with
        | zero => exact h0.2
        | succ f => exact absurd rfl h0.1
      · unfold kpd at q; omega
      · unfold kpd at q; omega
      · unfold kpd at q; omega
      · unfold kpd at q; omega
      · unfold kpd at q; omega
    · -- a generator is to be closed
      have e16 : ¬ (¬ b = 1 ∧ g = b - 4) := by
        intro e
        rw [if_pos e] at l2; omega
      rw [if_neg e16] at l2
      obtain ⟨p1, p2, p3, p4, p5, p6, p7, p8, p9, p10⟩ := hqP g l1
      obtain ⟨r1, r2, r3, r4, r5, r6⟩ := p9 (by omega)
      obtain ⟨v1, v2, v3, v4, v5⟩ := p10 l2
      clear p9 p10 r6
      have hFr := hA.2.2.2.2
      have h6r := (hqF (z 17 g) r1 (by omega)).1
      have g61 := hqG.2.1 (z 17 g) r1
      have g62 := hqG.2.2 (z 18 g) v1
      have hne : ¬ z 6 (z 18 g) = z 6 (z 17 g) - 1 := by
        intro e
        rcases Nat.lt_trichotomy (z 18 g) (z 17 g) with q | q | q
        · have := (hqG.1 _ _ q (by omega)).2 (by omega); omega
        · rw [q] at e; omega
        · have := (hqG.1 _ _ q (by omega)).1; omega
      have s1 := i_lv0 (A := gu X 84 11 (-1)) (H := oCg g (z 17 g) (z 18 g) (gu X 84 11 (-1))) hcat h114 hb6 h110 (fun q => by omega) hb14 (hXA _ rfl).1 (hXA _ rfl).2 (fun R K hk => k_cl_g (by rw [gu_ko _ (by decide)]; exact hX15) (by omega) (by omega) (by omega) (by rw [gu_oo _ (by decide), hXn _ _ (by decide) (by omega) (by decide)]; exact r4) (by rw [gu_oo _ (by decide), hXn _ _ (by decide) (by omega) (by decide)]; exact v4) l3 hk)
      have hR := rS_bod (G := G) (G1 := oRg g (z 6 (z 17 g) - 1) (z 6 (z 18 g)) R0) h410 h57 hF1 h64F (fun C K hk => r_bd0 (g := b - 4) hF1 h67F hb3 (fun q => absurd q c41) (fun _ => by
        rw [hR0]
        exact ⟨z 0 5 + 1, l4 C K (r_j26_g (n := z 0 5) (by rw [hR0n _ _ (by decide) (by decide)]; exact Q23) hg5 l1 (by rw [hR0n _ _ (by decide) (by omega)]; exact r5) (by omega) (by rw [hR0n _ _ (by decide) (by omega)]; exact v5) (by omega) hne hk)⟩))
      have eH : oCg g (z 17 g) (z 18 g) (gu X 84 11 (-1)) = gu (gu (gu (gu (gu (gu X 140 g 3) 110 (z 17 g) (-1)) 84 11 (nI (z 18 g))) 84 15 4) 116 (z 18 g) (X 118 (z 18 g))) 118 (z 18 g) 0 := by
        unfold oCg
        rw [gu_comm (k := 84) (j := 11) (k' := 140) (j' := g) (by omega), gu_comm (k := 84) (j := 11) (k' := 110) (j' := z 17 g) (by omega), gu_gu, gu_oo (a := 118) (k := 84) _ (by decide)]
      rw [eH] at s1
      -- the state ahead of it
      have hA2 := as_ux (G' := mxw Y (if b = 1 then gu G 46 62 (G 46 42) else G)) hA (by
        refine agx_mx ?_ ?_
        · rw [hY]
          by_cases e : b = 1
          · rw [if_pos e]; exact agp_gu (Or.inl (fw84 (by decide))) (agp_gu (Or.inl (fw1 hi (by decide))) agp_rfl)
          · rw [if_neg e]; exact agp_gu (Or.inl (fw84 (by decide))) (agp_gu (Or.inl (fw84 (by decide))) (agp_gu (Or.inl (fw1 hi (by decide))) agp_rfl))
        · by_cases e : b = 1
          · rw [if_pos e]; exact agp_gu (Or.inr ⟨rfl, rfl⟩) agp_rfl
          · rw [if_neg e]; exact agp_rfl) (hYn 120 _ (by decide) (by omega)) ⟨?_, ?_, ?_, ?_⟩
      · have hz4 : (0 = 1 ∧ z 11 i = 0 ∧ z 12 (z 8 i) < 12) ∨ (0 = 0 ∧ ¬ z 2 i = 0 ∧ z 4 i = 0) := Or.inr ⟨rfl, hb0, hc0⟩
        have T := t_rs (go := 0) (G := mxw Y (if b = 1 then gu G 46 62 (G 46 42) else G)) (G' := mxw (gu (gu (gu X 140 g 3) 110 (z 17 g) (-1)) 84 11 (nI (z 18 g))) (gu (gu R0 77 g 3) 65 (z 6 (z 17 g) - 1) (-1))) hA2.1 hA2.2.1 hA2.2.2.1 hi l1 l2 rfl rfl hz4 (agp_mx ?_ ?_) rfl ⟨?_, ?_⟩ ⟨?_, ?_⟩ (fun q => absurd q (by decide)) (fun _ => ⟨?_, ?_, ?_, ?_, ?_⟩) (fun q => absurd q (by decide)) (fun q => absurd q (by decide))
        · obtain ⟨T1, T2, T3, T4, T5, T6, T7, T8, T9⟩ := T
          rw [if_neg (by decide)] at T9
          refine ⟨zRs z 0 g, T9, ?_⟩
          have zc : (zRs z 0 g) 0 7 = z 18 g := by simp [zRs]
          have zcc : (zRs z 0 g) 9 ((zRs z 0 g) 0 7) = 6 := by rw [zc]; simp [zRs]
          obtain ⟨k', e', d1, d2, d3, d4, d5, d6, d7, d8⟩ := T6
          rw [T5] at d5 d7
          have k24 : k' = 24 := by unfold kP at d5; omega
          subst k24
          have hA3 : aST N B (zRs z 0 g) (mxw (gu (gu (gu X 140 g 3) 110 (z 17 g) (-1)) 84 11 (nI (z 18 g))) (gu (gu R0 77 g 3) 65 (z 6 (z 17 g) - 1) (-1))) (G 31) sp 0 := ⟨T1, hA.2.1, zcc, by rw [mx_C rfl, gu_ko _ (by decide), gu_oo _ (by decide), gu_oo _ (by decide), hXn _ _ (by decide) (by decide) (by decide)]; exact hs.2.2.2, hA.2.2.2.2⟩
          have hA4 := as_u (G' := mxw (gu (gu (gu (gu (gu (gu X 140 g 3) 110 (z 17 g) (-1)) 84 11 (nI (z 18 g))) 84 15 4) 116 (z 18 g) (X 118 (z 18 g))) 118 (z 18 g) 0) (oRg g (z 6 (z 17 g) - 1) (z 6 (z 18 g)) R0)) hA3 (agp_mx (agp_gu (fw1 zc (by decide)) (agp_gu (fw1 zc (by decide)) (agp_gu (fw84 (by decide)) agp_rfl))) (agp_gu (fw46 (by decide)) (agp_gu (fw46 (by decide)) (agp_gu (fw46 (by decide)) (agp_gu (fw46 (by decide)) agp_rfl))))) rfl (as_s hA3 :)
          have h118 : X 118 (z 18 g) = 0 := by
            rw [hXn 118 _ (by decide) (by omega) (by decide)]
            have d7' : Y 118 (z 18 g) = 0 := d7
            rw [hYn 118 _ (by decide) (by omega)] at d7'
            exact d7'
          have hkC : kpo G (gu (gu (gu (gu (gu (gu X 140 g 3) 110 (z 17 g) (-1)) 84 11 (nI (z 18 g))) 84 15 4) 116 (z 18 g) (X 118 (z 18 g))) 118 (z 18 g) 0) := by
            repeat (refine kpo_gu (by unfold kpd; omega) ?_)
            exact fun a j q => hXn a j (by unfold kpd at q; omega) (by unfold kpd at q; omega) (by unfold kpd at q; omega)
          have hkR : kpo G (oRg g (z 6 (z 17 g) - 1) (z 6 (z 18 g)) R0) := by
            unfold oRg
            repeat (refine kpo_gu (by unfold kpd; omega) ?_)
            exact fun a j q => hR0n a j (by unfold kpd at q; omega) (by unfold kpd at q; omega)
          refine f_outX (p := 0) (t := 1) clo_rS hA4 ?_ zc (cT_1 s1) (by decide) eqc_mx hR eqr_mx (kpo_mx hkC hkR) (hrv _ (by rw [mx_R rfl]; unfold oRg; repeat (rw [gu_n (by omega)]))) ?_ ⟨?_, by decide⟩ ?_ (Or.inr (Or.inr (Or.inr (Or.inr ⟨rfl, rfl, Or.inr ?_⟩)))) (Or.inl hsp1)
          · intro o _
            show G 31 o = _
            rw [mx_C rfl, gu_oo _ (by decide), gu_oo _ (by decide), gu_oo _ (by decide), gu_oo _ (by decide), gu_oo _ (by decide), gu_oo _ (by decide), hXn _ _ (by decide) (by omega) (by decide)]
          · rw [mx_C rfl, gu_oo _ (by decide), gu_kk]; exact h118
          · rw [mx_C rfl]
            exact (hkC 16 0 (by unfold kpd; omega)).trans hP.2.2.2.1
          · rw [mx_R rfl, mx_R rfl]
            unfold oRg
            rw [gu_kk, gu_oo _ (by decide), gu_oo _ (by decide), gu_oo _ (by decide), gu_oo _ (by decide)]
            show R0 65 (z 6 (z 18 g)) = (gu (gu R0 77 g 3) 65 (z 6 (z 17 g) - 1) (-1)) 65 (z 6 (z 18 g))
            rw [gu_ko _ hne, gu_oo _ (by decide)]
          · show 4 ≤ z 2 (z 8 (z 18 g))
            rw [v3, r2]; omega
        · refine agp_gu (Or.inl ⟨rfl, by decide⟩) (agp_gu (Or.inr (Or.inr (Or.inr (Or.inl ⟨rfl, rfl⟩)))) (agp_gu (Or.inr (Or.inr (Or.inl ⟨by decide, Or.inl rfl⟩))) ?_))
          rw [hXY]
          by_cases e : b = 1
          · rw [if_pos e]; exact agp_rfl
          · rw [if_neg e]
            exact agp_gu (Or.inr (Or.inr (Or.inl ⟨by decide, Or.inr ⟨rfl, by rw [hi, hb]; omega, by rw [hi, hb]⟩⟩))) agp_rfl
        · refine agp_gu (Or.inr (Or.inr (Or.inr (Or.inr (Or.inl ⟨rfl, rfl⟩))))) (agp_gu (Or.inr (Or.inr (Or.inl ⟨by decide, Or.inl rfl⟩))) ?_)
          rw [← hR0]
          by_cases e : b = 1
          · rw [if_pos e, if_pos e]; exact agp_rfl
          · rw [if_neg e, if_neg e]
            exact agp_gu (Or.inr (Or.inr (Or.inl ⟨by decide, Or.inr ⟨rfl, by rw [hi, hb]; omega, by rw [hi, hb]⟩⟩))) agp_rfl
        · rw [mx_C rfl, gu_oo _ (by decide), gu_oo _ (by decide), gu_kk]; rfl
        · rw [mx_R rfl, gu_oo _ (by decide), gu_kk]; rfl
        · rw [mx_C rfl, gu_oo _ (by decide), gu_kk]; rfl
        · rw [mx_R rfl, gu_kk]; rfl
        · rw [mx_C rfl, mx_C rfl, gu_ko _ (by decide), gu_oo _ (by decide), gu_oo _ (by decide), hXn _ _ (by decide) (by decide) (by decide), hYn _ _ (by decide) (by decide)]
        · rw [mx_C rfl, mx_C rfl, gu_ko _ (by decide), gu_oo _ (by decide), gu_oo _ (by decide), hXn _ _ (by decide) (by decide) (by decide), hYn _ _ (by decide) (by decide)]
        · rw [mx_R rfl, mx_R rfl, gu_oo _ (by decide), gu_oo _ (by decide), hR0n _ _ (by decide) (by decide)]
          by_cases e : b = 1
          · rw [if_pos e, gu_ko _ (by decide)]
          · rw [if_neg e]
        · rw [mx_R rfl, mx_R rfl, gu_oo _ (by decide), gu_oo _ (by decide), hR0n _ _ (by decide) (by decide)]
          by_cases e : b = 1
          · rw [if_pos e, gu_ko _ (by decide)]
          · rw [if_neg e]
        · intro h4
          rw [hb] at h4 ⊢
          have nb : ¬ b = 1 := by omega
          have nj : ¬ b - 4 = g := fun e => e16 ⟨nb, e.symm⟩
          rw [mx_C rfl, mx_R rfl, gu_oo _ (by decide), gu_oo _ (by decide), gu_ko _ nj, hX140, if_pos ⟨nb, rfl⟩, gu_oo _ (by decide), gu_ko _ nj, hR77, if_pos ⟨nb, rfl⟩]
          exact ⟨rfl, rfl⟩
      · rw [mx_C rfl, mx_R rfl, hYn _ _ (by decide) (by decide)]
        by_cases e : b = 1
        · rw [if_pos e, gu_ko _ (by decide)]; exact hs.1
        · rw [if_neg e]; exact hs.1
      · rw [mx_R rfl]
        by_cases e : b = 1
        · rw [if_pos e, gu_ko _ (by decide)]; exact hs.2.1
        · rw [if_neg e]; exact hs.2.1
      · rw [mx_C rfl, mx_R rfl, hY]
        by_cases e : b = 1
        · rw [if_pos e, if_pos e, gu_kk, gu_kk]; exact hv1 e
        · rw [if_neg e, if_neg e, gu_ko _ (by decide), gu_ko _ (by decide), gu_oo _ (by decide)]; exact hs.2.2.1
      · rw [mx_C rfl, hYn _ _ (by decide) (by decide)]; exact hs.2.2.2
