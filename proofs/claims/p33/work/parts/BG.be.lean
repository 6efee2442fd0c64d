/-! A BODY ENDS, and who called it ends, or calls -/
theorem eW_m {N B : Nat} {z z' : Zt} {G : Gt} {Rr : Gt → Prop} (hm : mu z' ≤ mu z) (h : eW N B z' G Rr) : eW N B z G Rr := by
  obtain ⟨z1, G1, t, a, b, c, d, e⟩ := h
  exact ⟨z1, G1, t, a, b, c, d, by omega⟩
/-- .. it ends in some way, whatever it called -/
theorem f_outA {N B : Nat} {z : Zt} {G Gc Gr Gp : Gt} {Rr : Gt → Prop} {x : Nat → Int32} {sp u p t : Nat} (hcl : clo Rr) (haP : aST N B z Gp x sp 0) (hx : ∀ o, o < 4 → x o = Gp 31 o) (hc : z 0 7 = u) (hct : cT t G Gc) (ht : t ≤ 9) (hec : eqc Gc Gp) (hR : Rr Gr) (her : eqr Gr Gp) (hkp : kp G Gp) (h116 : Gp 116 u = nI p) (h16 : Gp 16 p = 40 ∧ p < 1081) (h57 : Gp 46 57 = Gp 65 (z 6 u)) (ho : oU z Gp u u (Gp 84 15) (Gp 84 16) (Gp 84 18) (Gp 84 17) (Gp 46 41) (Gp 46 42) (Gp 46 43) (Gp 46 44) (Gp 46 45) (Gp 46 46)) (hsp : sp = 1 ∨ Gp 84 15 = 1) : eW N B z G Rr := by
  subst hc
  obtain ⟨hS, hm, h6, h12, hFr⟩ := haP
  refine ⟨z, Gp, t, Or.inl ⟨sp, ⟨sIM_x hS (fun o ho => (hx o ho).symm), hm, h6, h12, hFr⟩, ⟨p, h16.2, h116, h16.1⟩, ho, h57, hsp⟩, cT_e hct hec, hcl _ _ hR her, hkp, by omega⟩
theorem as_u {N B : Nat} {z : Zt} {G G' : Gt} {x : Nat → Int32} {sp : Nat} (h : aST N B z G x sp 0) (ha : agw z G G') (h120 : G' 120 (z 0 7) = G 120 (z 0 7)) (hs : G' 84 14 = G' 46 51 ∧ bz (G' 46 51) ∧ G' 84 19 = G' 46 62 ∧ G' 84 12 = 0) : aST N B z G' x sp 0 := by
  obtain ⟨hS, hm, h6, h12, hFr⟩ := h
  have hcn : z 0 7 < z 0 0 := by have := hS.2.2.2.2.2.2.2.2.2.2.2.1.2.2.2.1; omega
  exact ⟨(u_fr hS h6 hcn ha (Nat.le_refl _) (Nat.le_refl _) (Or.inr h120) ⟨hs.1, hs.2.1⟩ hs.2.2.1).1, hm, h6, hs.2.2.2, hFr⟩
theorem as_ux {N B : Nat} {z : Zt} {G G' : Gt} {x : Nat → Int32} {sp : Nat} (h : aST N B z G x sp 0) (ha : agx z G G') (h120 : G' 120 (z 0 7) = G 120 (z 0 7)) (hs : G' 84 14 = G' 46 51 ∧ bz (G' 46 51) ∧ G' 84 19 = G' 46 62 ∧ G' 84 12 = 0) : aST N B z G' x sp 0 := by
  obtain ⟨hS, hm, h6, h12, hFr⟩ := h
  have hcn : z 0 7 < z 0 0 := by have := hS.2.2.2.2.2.2.2.2.2.2.2.1.2.2.2.1; omega
  exact ⟨(u_frx hS h6 hcn ha (Nat.le_refl _) (Nat.le_refl _) (Or.inr h120) ⟨hs.1, hs.2.1⟩ hs.2.2.1).1, hm, h6, hs.2.2.2, hFr⟩
theorem as_s {N B : Nat} {z : Zt} {G : Gt} {x : Nat → Int32} {sp fp : Nat} (h : aST N B z G x sp fp) : G 84 14 = G 46 51 ∧ bz (G 46 51) ∧ G 84 19 = G 46 62 ∧ G 84 12 = 0 := by
  have hQ := h.1.2.2.2.2.2.2.2.2.2.2.2.2.2.2.2.2.2.1
  exact ⟨hQ.2.2.2.2.2.2.2.2.2.2.2.1, hQ.2.2.2.2.2.2.2.2.2.2.2.2.1, hQ.2.2.2.2.2.2.2.2.2.2.2.2.2.1, h.2.2.2.1⟩
/-- the class leaves a body that was called -/
def oEC (c d : Nat) (G : Gt) : Gt := gu (gu G 84 13 (G 120 c)) 84 8 (nI d)
def oLd (c : Nat) (G : Gt) : Gt := gu (gu G 116 c (G 118 c)) 118 c 0
theorem k_land {K : Gt → Prop} {G R : Gt} {c : Nat} (hc : c < 601) (h : K (mxw (oLd c G) R)) : w_X1_land K (nI c) (mxw G R) := by
  unfold w_X1_land
  rw [rat_n hc (by decide)]
  exact pcp rfl hc (by decide) rfl (pcp rfl hc (by decide) rfl h)
theorem k_ec {K : Gt → Prop} {G R : Gt} {c d : Nat} (hc : c < 601) (h8 : G 84 8 = nI (d + 1)) (h : K (mxw (oEC c d G) R)) : w_X2_endCall K (nI c) (mxw G R) := by
  unfold w_X2_endCall
  rw [rat_n hc (by decide)]
  refine ptc rfl ?_
  have e : (mxw (gu G 84 13 ((mxw G R) 120 c)) R) 84 8 - 1 = nI d := by
    rw [show (mxw (gu G 84 13 ((mxw G R) 120 c)) R) 84 8 = nI (d + 1) from h8, nI_pred]
  rw [e]
  exact ptc rfl h
theorem k_j92 {K : Gt → Prop} {G R : Gt} {c : Nat} (hc : c < 601) (h : K (mxw (if G 84 15 = 0 then gu G 84 11 (nI c) else oLd c (gu G 84 11 (nI c))) R)) : w_X2_leave_j92 K (nI c) (mxw G R) := by
  unfold w_X2_leave_j92 w_X2_leave_j124
  refine ptc rfl (pif_n (nI_neg (by omega)) ?_)
  rw [show (mxw (gu G 84 11 (nI c)) R) 84 15 = G 84 15 from rfl]
  by_cases e : G 84 15 = 0
  · rw [if_pos e] at h; exact pif_p e h
  · rw [if_neg e] at h; exact pif_n e (k_land hc h)
theorem i_lvb {G H : Gt} {i p c b d : Nat} (h : cAt G i p 40) (hb : G 114 i = nI b) (hb2 : 2 ≤ b) (hb6 : b < 2000) (hup : G 110 i = nI c) (hc : c < 601) (hg : 4 ≤ b → b - 4 < 601) (h8 : ¬ b = 2 → G 84 8 = nI (d + 1))
    (hH2 : b = 2 → H = if G 84 15 = 0 then gu (gu G 116 i (nI (p + 1))) 84 11 (nI c) else oLd c (gu (gu G 116 i (nI (p + 1))) 84 11 (nI c)))
    (hH3 : b = 3 → H = if G 84 15 = 1 then oLd c (gu (gu (oEC c d (gu G 116 i (nI (p + 1)))) 84 15 1) 84 11 (nI c)) else gu (gu (oEC c d (gu G 116 i (nI (p + 1)))) 84 15 0) 84 11 (nI c))
    (h15 : b = 3 → G 84 15 = 0 ∨ G 84 15 = 1 ∨ G 84 15 = 4)
    (hH4 : 4 ≤ b → H = if G 84 15 = 1 then oLd c (gu (oEC c d (gu (gu G 116 i (nI (p + 1))) 140 (b - 4) 4)) 84 11 (nI c)) else gu (gu (gu (oEC c d (gu (gu G 116 i (nI (p + 1))) 140 (b - 4) 4)) 84 15 0) 84 16 (-1)) 84 11 (nI c)) : cS G H := by
  refine cS_f h (by decide) (fun R K hk => ?_)
  obtain ⟨h7, h12, h11, hi6, hp, hp2, hw0⟩ := h
  have e11 : (mxw (gu G 116 i (nI (p + 1))) R) 84 11 = nI i := h11
  have e114 : rat (mxw (gu G 116 i (nI (p + 1))) R) 114 601 (nI i) = nI b := by rw [rat_n hi6 (by decide)]; exact hb
  have e110 : rat (mxw (gu G 116 i (nI (p + 1))) R) 110 601 (nI i) = nI c := by rw [rat_n hi6 (by decide)]; exact hup
  have q3 := nI_eqL (w := b) (a := 3) (b := 3) rfl (by omega) (by decide)
  have q1 := nI_eqL (w := b) (a := 1) (b := 1) rfl (by omega) (by decide)
  have q4 := nI_ltL (w := b) (a := 4) (b := 4) rfl (by omega) (by decide)
  refine pif_p rfl ?_
  unfold w_X2_leave
  rw [e11, e114, e110]
  by_cases c3 : b = 3
  · refine pif_p (q3.mpr c3) (k_ec (d := d) hc (h8 (by omega)) ?_)
    have hH := hH3 c3
    have hx := h15 c3
    rw [show (mxw (oEC c d (gu G 116 i (nI (p + 1)))) R) 84 15 = G 84 15 from rfl]
    unfold w_X2_leave_j57
    by_cases c4 : G 84 15 = 4
    · refine pif_p c4 (ptc rfl (k_j92 hc ?_))
      rw [if_pos (by rw [gu_kk])]
      rw [hH, if_neg (by rw [c4]; decide)] at hk
      exact hk
    · refine pif_n c4 (ptc rfl (k_j92 hc ?_))
      by_cases c1 : G 84 15 = 1
      · rw [hH, if_pos c1] at hk
        rw [if_neg (by rw [gu_kk, c1]; decide), c1]
        exact hk
      · have c0 : G 84 15 = 0 := by
          rcases hx with q | q | q
          · exact q
          · exact absurd q c1
          · exact absurd q c4
        rw [hH, if_neg c1] at hk
        rw [if_pos (by rw [gu_kk, c0]), c0]
        exact hk
  · refine pif_n (fun z => c3 (q3.mp z)) ?_
    by_cases c2 : b = 2
    · refine pif_p (q4.mpr (by omega)) (pif_n (fun z => by have := q1.mp z; omega) (k_j92 hc ?_))
      rw [hH2 c2] at hk
      exact hk
    · refine pif_n (fun z => by have := q4.mp z; omega) ?_
      have eg : nI b - 4 = nI (b - 4) := by
        have : nI b = nI (b - 4) + 4 := by
          rw [show (4 : Int32) = nI 4 from rfl, nI_add]
          have : b - 4 + 4 = b := by omega
          rw [this]
        rw [this, Int32.add_sub_cancel]
      rw [eg]
      unfold w_X2_endGenerator w_X2_endGenerator_j22 w_X2_endGenerator_j40
      refine pcp rfl (hg (by omega)) (by decide) rfl (pif_n (nI_neg (by omega)) (k_ec (d := d) hc (h8 c2) ?_))
      rw [show (mxw (oEC c d (gu (gu G 116 i (nI (p + 1))) 140 (b - 4) 4)) R) 84 15 = G 84 15 from rfl]
      rw [hH4 (by omega)] at hk
      by_cases c1 : G 84 15 = 1
      · rw [if_pos c1] at hk
        refine pif_p c1 (k_j92 hc ?_)
        rw [if_neg (show ¬ (oEC c d (gu (gu G 116 i (nI (p + 1))) 140 (b - 4) 4)) 84 15 = 0 from fun z => by
          have z' : G 84 15 = 0 := z
          rw [c1] at z'; exact absurd z' (by decide))]
        exact hk
      · rw [if_neg c1] at hk
        refine pif_n c1 (ptc rfl (ptc rfl (k_j92 hc ?_)))
        rw [if_pos (by rw [gu_ko _ (by decide), gu_kk])]
        exact hk
/-! the reference -/
def oCb (f d : Nat) (G : Gt) : Gt := gu (gu G 46 49 (G 70 f)) 46 50 (nI d)
theorem r_cb {K : Gt → Prop} {C G : Gt} {f d : Nat} (hf : f < 1220) (h50 : G 46 50 = nI (d + 1)) (h : K (mxw C (oCb f d G))) : w_X11_comesBack K (nI f) (mxw C G) := by
  have e : (nI f).toNatClampNeg = f := nI_clamp (by omega)
  unfold w_X11_comesBack
  rw [e]
  refine ⟨vp_n hf (by decide), ptr rfl ?_⟩
  have e2 : (mxw C (gu G 46 49 ((mxw C G) 70 f))) 46 50 - 1 = nI d := by
    rw [show (mxw C (gu G 46 49 ((mxw C G) 70 f))) 46 50 = nI (d + 1) from h50, nI_pred]
  rw [e2]
  exact ptr rfl h
/-- a function's body ends, as the reference has it -/
theorem r_b3 {K : Gt → Prop} {C G H : Gt} {F f m k d : Nat} (hF : F < 1220) (h67 : G 67 F = 1) (h65 : G 65 F = nI f) (hf : f < 1220) (h64 : G 64 f = nI m) (hm : m < 120) (h47 : G 47 m = nI k) (hk : k < 40) (hb : bz (G 46 51)) (h50 : G 46 50 = nI (d + 1))
    (hH : H = if G 46 41 = 2 then gu (oCb f d (gu G 46 51 (if k = 29 then 0 else G 46 51))) 46 57 (G 65 f) else oEn (if k = 29 then G 68 f else G 46 42) (G 65 f) (gu (oCb f d (gu G 46 51 (if k = 29 then 0 else G 46 51))) 46 57 (G 65 f))) (h : K (mxw C H)) : w_X11_bodyEnds K (nI F) (mxw C G) := by
  have eF : (nI F).toNatClampNeg = F := nI_clamp (by omega)
  have e : (nI f).toNatClampNeg = f := nI_clamp (by omega)
  have em : (nI m).toNatClampNeg = m := nI_clamp (by omega)
  unfold w_X11_bodyEnds
  rw [eF, show (mxw C G) 67 F = 1 from h67, show (mxw C G) 65 F = nI f from h65, e, show (mxw C G) 64 f = nI m from h64, em, show (mxw C G) 47 m = nI k from h47]
  refine ⟨vp_n hF (by decide), vp_n hF (by decide), pif_n (by decide) (pif_p rfl ⟨vp_n hf (by decide), vp_n hm (by decide), ?_⟩)⟩
  have q := nI_eqL (w := k) (a := 29) (b := 29) rfl (by omega) (by decide)
  have h113 : ∀ y3 y1 : Int32, (y3 = 0 ↔ ¬ k = 29) → bz y1 → y1 = (if k = 29 then 0 else G 46 51) → w_X11_bodyEnds_j113 K (nI f) y3 y1 (mxw C G) := by
    intro y3 y1 h3 hbz hy
    unfold w_X11_bodyEnds_j113 w_X11_bodyEnds_j256 w_X11_bodyEnds_j158
    rw [e]
    refine ⟨hbz, ptr rfl (r_cb (d := d) hf h50 ⟨vp_n hf (by decide), ptr rfl ?_⟩)⟩
    rw [← hy] at hH
    rw [show (mxw C (gu (oCb f d (gu G 46 51 y1)) 46 57 ((mxw C (oCb f d (gu G 46 51 y1))) 65 f))) 46 41 = G 46 41 from rfl]
    by_cases c : G 46 41 = 2
    · rw [hH, if_pos c] at h; exact pif_p c h
    · rw [hH, if_neg c] at h
      refine pif_n c ?_
      by_cases c2 : k = 29
      · rw [if_pos c2] at h
        exact pif_n (fun z => (h3.mp z) c2) ⟨vp_n hf (by decide), r_ends hf h⟩
      · rw [if_neg c2] at h
        exact pif_p (h3.mpr c2) (r_ends hf h)
  have h95 : ∀ y : Int32, (y = 0 ↔ ¬ k = 29) → w_X11_bodyEnds_j95 K (nI f) y (mxw C G) := by
    intro y hy
    unfold w_X11_bodyEnds_j95 w_X11_bodyEnds_j112
    rw [show (mxw C G) 46 51 = G 46 51 from rfl]
    by_cases c1 : G 46 51 = 0
    · refine pif_p c1 (h113 y 0 hy bz_0 ?_)
      by_cases c2 : k = 29
      · rw [if_pos c2]
      · rw [if_neg c2, c1]
    · refine pif_n c1 ?_
      by_cases c2 : k = 29
      · exact pif_n (fun z => (hy.mp z) c2) (h113 y 0 hy bz_0 (by rw [if_pos c2]))
      · refine pif_p (hy.mpr c2) (h113 y 1 hy bz_1 ?_)
        rw [if_neg c2]
        rcases hb with z | z
        · exact absurd z c1
        · exact z.symm
  by_cases c2 : k = 29
  · exact pif_p (q.mpr c2) (h95 1 ⟨fun z => absurd z (by decide), fun z => absurd c2 z⟩)
  · exact pif_n (fun z => c2 (q.mp z)) (h95 0 ⟨fun _ => c2, fun _ => rfl⟩)
/-- a standard ends -/
theorem r_b2_x {K : Gt → Prop} {C G : Gt} {F f m k : Nat} (hF : F < 1220) (h67 : G 67 F = 3) (h65 : G 65 F = nI f) (hf : f < 1220) (h64 : G 64 f = nI m) (hm : m < 120) (h47 : G 47 m = nI k) (hk : k < 40) (hb : bz (G 46 51)) (h41 : G 46 41 = 2) (h : K (mxw C (gu (gu G 46 51 (if k = 29 then 0 else G 46 51)) 46 57 (G 65 f)))) : w_X11_bodyEnds K (nI F) (mxw C G) := by
  have eF : (nI F).toNatClampNeg = F := nI_clamp (by omega)
  have e : (nI f).toNatClampNeg = f := nI_clamp (by omega)
  have em : (nI m).toNatClampNeg = m := nI_clamp (by omega)
  unfold w_X11_bodyEnds w_X11_bodyEnds_j200 w_X11_bodyEnds_j201
  rw [eF, show (mxw C G) 67 F = 3 from h67, show (mxw C G) 65 F = nI f from h65, e, show (mxw C G) 64 f = nI m from h64, em, show (mxw C G) 47 m = nI k from h47, show (mxw C G) 46 41 = 2 from h41, show (mxw C G) 46 51 = G 46 51 from rfl]
  refine ⟨vp_n hF (by decide), vp_n hF (by decide), pif_n (by decide) (pif_n (by decide) (pif_p rfl (pif_p rfl ?_)))⟩
  have q := nI_eqL (w := k) (a := 29) (b := 29) rfl (by omega) (by decide)
  by_cases c1 : G 46 51 = 0
  · refine pif_p c1 ⟨bz_0, ptr rfl ⟨vp_n hf (by decide), ptr rfl ?_⟩⟩
    have : (if k = 29 then 0 else G 46 51) = 0 := by
      by_cases c2 : k = 29
      · rw [if_pos c2]
      · rw [if_neg c2, c1]
    rw [this] at h; exact h
  · refine pif_n c1 ⟨vp_n hf (by decide), vp_n hm (by decide), ?_⟩
    by_cases c2 : k = 29
    · rw [if_pos c2] at h
      exact pif_p (q.mpr c2) ⟨bz_0, ptr rfl ⟨vp_n hf (by decide), ptr rfl h⟩⟩
    · rw [if_neg c2] at h
      refine pif_n (fun z => c2 (q.mp z)) ⟨bz_1, ptr rfl ⟨vp_n hf (by decide), ptr rfl ?_⟩⟩
      rcases hb with z | z
      · exact absurd z c1
      · rw [z] at h; exact h
theorem r_b2_v {K : Gt → Prop} {C G H : Gt} {F f m k s l : Nat} (hF : F < 1220) (h67 : G 67 F = 3) (h65 : G 65 F = nI f) (hf : f < 1220) (h64 : G 64 f = nI m) (hm : m < 120) (h47 : G 47 m = nI k) (hk : k < 40) (h41 : ¬ G 46 41 = 2) (h69 : G 69 f = nI s) (hs : s < 620) (h18 : k = 18 → G 48 m = nI l) (h29 : ¬ k = 18 → G 67 f = nI (10 + l)) (hl : l < 6) (h : w_X11_enters K (nI f) (nI l) (mxw C (gu G 72 (8 * s + 1) (G 46 42)))) : w_X11_bodyEnds K (nI F) (mxw C G) := by
  have eF : (nI F).toNatClampNeg = F := nI_clamp (by omega)
  have e : (nI f).toNatClampNeg = f := nI_clamp (by omega)
  have em : (nI m).toNatClampNeg = m := nI_clamp (by omega)
  have e81 : (8 : Int32) * nI s + 1 = nI (8 * s + 1) := by rw [show (8 : Int32) = nI 8 from rfl, nI_mulx, nI_1]
  unfold w_X11_bodyEnds
  rw [eF, show (mxw C G) 67 F = 3 from h67, show (mxw C G) 65 F = nI f from h65, e, show (mxw C G) 69 f = nI s from h69, e81, show (mxw C G) 46 41 = G 46 41 from rfl, show (mxw C G) 46 42 = G 46 42 from rfl]
  refine ⟨vp_n hF (by decide), vp_n hF (by decide), pif_n (by decide) (pif_n (by decide) (pif_p rfl (pif_n h41 ⟨vp_n hf (by decide), ptri rfl (by omega) (by decide) rfl ?_⟩)))⟩
  unfold w_X11_slotOf w_X11_slotOf_j39
  rw [e, show (mxw C (gu G 72 (8 * s + 1) (G 46 42))) 64 f = nI m from h64, em, show (mxw C (gu G 72 (8 * s + 1) (G 46 42))) 47 m = nI k from h47]
  refine ⟨vp_n hf (by decide), vp_n hm (by decide), ?_⟩
  have q := nI_eqL (w := k) (a := 18) (b := 18) rfl (by omega) (by decide)
  by_cases c : k = 18
  · refine pif_p (q.mpr c) ⟨vp_n hf (by decide), vp_n hm (by decide), ?_⟩
    rw [show (mxw C (gu G 72 (8 * s + 1) (G 46 42))) 48 m = nI l from h18 c]
    exact h
  · refine pif_n (fun z => c (q.mp z)) ⟨vp_n hf (by decide), ?_⟩
    have el : (mxw C (gu G 72 (8 * s + 1) (G 46 42))) 67 f - 10 = nI l := by
      rw [show (mxw C (gu G 72 (8 * s + 1) (G 46 42))) 67 f = nI (10 + l) from h29 c]
      have : nI (10 + l) = nI l + 10 := by
        rw [show (10 : Int32) = nI 10 from rfl, nI_add, Nat.add_comm]
      rw [this, Int32.add_sub_cancel]
    rw [el]
    exact h
theorem oCb_51 {f d : Nat} {y : Int32} {G : Gt} : oCb f d (gu G 46 51 y) = gu (oCb f d G) 46 51 y := by
  unfold oCb
  rw [gu_comm (k := 46) (j := 51) (k' := 46) (j' := 49) (by decide), gu_comm (k := 46) (j := 51) (k' := 46) (j' := 50) (by decide)]
  rfl
/-- where who called stands, behind the body -/
theorem pl4 {N k e m : Nat} {G : Gt} (hP : gP N G G) (hm : m < N) (h47 : G 47 m = nI k) (h13 : G 13 m = nI e) (hk : k < 40) (he : e < 1081) (hk4 : k = 17 ∨ k = 18 ∨ k = 25) : G 16 (e + plo k 4 (cO (G 49 m) (G 50 m))) = 40 ∧ e + plo k 4 (cO (G 49 m) (G 50 m)) < 1081 := by
  have key : ∀ q, (codeOf (nI k) (G 48 m) (G 49 m) (G 50 m) (nI e))[q]? = some (40, -1) → G 16 (e + q) = 40 ∧ e + q < 1081 := fun q hq => by
    have := code_at hP hm h47 h13 hk (by omega) hq
    exact ⟨this.1, this.2.2⟩
  rcases hk4 with rfl | rfl | rfl
  · exact key 4 (by rw [cd_17]; rfl)
  · by_cases c1 : G 49 m = -1
    · have : cO (G 49 m) (G 50 m) = 0 := by unfold cO; rw [if_pos c1]
      rw [this]
      exact key 3 (by rw [cd_18, if_pos c1]; rfl)
    · by_cases c2 : G 50 m = -1
      · have : cO (G 49 m) (G 50 m) = 1 := by unfold cO; rw [if_neg c1, if_pos c2]
        rw [this]
        exact key 4 (by rw [cd_18, if_neg c1, if_pos c2]; rfl)
      · have : cO (G 49 m) (G 50 m) = 3 := by unfold cO; rw [if_neg c1, if_neg c2]
        rw [this]
        exact key 6 (by rw [cd_18, if_neg c1, if_neg c2]; rfl)
  · exact key 2 (by rw [cd_25]; rfl)
theorem cd29 {N e m : Nat} {G : Gt} (hP : gP N G G) (hm : m < N) (h47 : G 47 m = nI 29) (h13 : G 13 m = nI e) (he : e < 1081) : G 16 (e + 2) = 57 ∧ G 16 (e + 3) = 58 ∧ G 16 (e + 4) = 59 ∧ G 16 (e + 5) = 60 ∧ G 16 (e + 6) = 40 ∧ e + 6 < 1081 := by
  have key : ∀ q w d, (codeOf (nI 29) (G 48 m) (G 49 m) (G 50 m) (nI e))[q]? = some (w, d) → G 16 (e + q) = w ∧ e + q < 1081 := fun q w d hq => by
    have := code_at hP hm h47 h13 (by decide) (by omega) hq
    exact ⟨this.1, this.2.2⟩
  have k6 := key 6 40 (-1) (by rw [cd_29]; rfl)
  exact ⟨(key 2 57 (-1) (by rw [cd_29]; rfl)).1, (key 3 58 (-1) (by rw [cd_29]; rfl)).1, (key 4 59 (-1) (by rw [cd_29]; rfl)).1, (key 5 60 (-1) (by rw [cd_29]; rfl)).1, k6.1, k6.2⟩
theorem i_rec {G : Gt} {u p : Nat} (h : cAt G u p 59) : cS G (gu (gu G 116 u (nI (p + 1))) 84 16 (G 122 u)) := by
  refine cS_b h (by decide) (fun R K hk => ?_)
  obtain ⟨h7, h12, h11, hu6, hp, hp2, hw0⟩ := h
  refine pif_n (by decide) (pif_n (by decide) (pif_n (by decide) (pif_n (by decide) (pif_n (by decide) (pif_n (by decide) (pif_n (by decide) (pif_n (by decide) (pif_n (by decide) (pif_n (by decide) (pif_n (by decide) (pif_p (by decide) ?_)))))))))))
  rw [rat_u (G := gu G 116 u (nI (p + 1))) h11 hu6, show (mxw (gu G 116 u (nI (p + 1))) R) 122 u = G 122 u from rfl]
  exact ptc rfl hk
/-- what is known of a body that ends, and of who called it -/
theorem be_pre {N B : Nat} {z : Zt} {G : Gt} (h : eST N B z G) (hb0 : ¬ z 2 (z 0 7) = 0) (hc0 : ¬ z 4 (z 0 7) = 0) : ∃ sp i c b p k e, z 0 7 = i ∧ z 8 i = i ∧ z 4 i = c + 1 ∧ z 2 i = b ∧ 2 ≤ b ∧ b < 2000 ∧ aST N B z G (G 31) sp 0 ∧ cAt G i p 40 ∧ G 114 i = nI b ∧ G 110 i = nI c ∧ c < z 0 0 ∧ ¬ c = i ∧ z 0 0 ≤ 600 ∧ i < z 0 0 ∧ N ≤ 120 ∧ gP N G G ∧
    G 46 57 = nI (z 6 i - 1) ∧ z 6 i - 1 < 1220 ∧ G 64 (z 6 i - 1) = -1 ∧ G 67 (z 6 i - 1) = nI (wH b) ∧ G 65 (z 6 i - 1) = nI (z 6 c) ∧ (4 ≤ b → G 68 (z 6 i - 1) = nI (b - 4)) ∧ z 6 c < 1220 ∧ G 64 (z 6 c) = nI (z 1 c) ∧ z 1 c < N ∧
    k < 40 ∧ e < 1081 ∧ G 47 (z 1 c) = nI k ∧ G 13 (z 1 c) = nI e ∧ kP k (if b = 2 then 3 else 4) ∧ G 116 c = nI (e + plo k (if b = 2 then 3 else 4) (cO (G 49 (z 1 c)) (G 50 (z 1 c)))) ∧ G 118 c = (if lao k (if b = 2 then 3 else 4) = 0 then 0 else nI (e + lao k (if b = 2 then 3 else 4))) ∧ xV z G c k (if b = 2 then 3 else 4) ∧ z 9 c = (if b = 2 then 3 else 4) ∧
    (¬ b = 2 → ∃ d, z 12 i = d + 1 ∧ G 84 8 = nI (d + 1) ∧ G 46 50 = nI (d + 1)) ∧ (4 ≤ b → b - 4 < z 0 5 ∧ G 77 (b - 4) = 2 ∧ k = 25 ∧ z 16 (b - 4) = 2) ∧ (sp = 1 ∨ G 84 15 = 1) ∧
    oU z G i i (G 84 15) (G 84 16) (G 84 18) (G 84 17) (G 46 41) (G 46 42) (G 46 43) (G 46 44) (G 46 45) (G 46 46) := by
  obtain ⟨sp, hA0, ⟨p, hp, e116, e16⟩, ho, h57, hsp⟩ := h
  obtain ⟨⟨hP, hA, hB, hC, hD, hE, hF, hG, hH, hI, hJ, hK, hL, hM, hN, hO, hPg, hQ, hR, hS, hT, hU⟩, hm, h6, h12, hFr⟩ := id hA0
  obtain ⟨k1, k2, k3, k4, k5⟩ := id hK
  have hnr := cur_nrst (N := N) hC hI hK hPg (by omega)
  obtain ⟨i, hi⟩ : ∃ i, z 0 7 = i := ⟨_, rfl⟩
  rw [hi] at hb0 hc0 e116 ho h57 h6 k3 k4 k5 hnr
  rw [hm] at k4
  have hn6 : z 0 0 ≤ 600 := by have := hQ.1; have := hQ.2.2.2.1; omega
  have hCi := hC i (by omega)
  have h8 := (hCi.2.2.1 hb0).1
  rw [h8] at hnr
  obtain ⟨ir1, ir2, ir3, ir4, ir5⟩ := hI i (by omega) (by omega)
  obtain ⟨c, hc⟩ : ∃ c, z 4 i = c + 1 := ⟨z 4 i - 1, by omega⟩
  have hcr := ir2 hb0 hc0 hnr
  rw [hc, Nat.add_sub_cancel] at hcr
  have hcn : c < z 0 0 := by have := (hCi.2.2.1 hb0).2; omega
  have hci : ¬ c = i := by
    intro e; rw [e] at hcr
    have := hcr.1
    split at this <;> omega
  have hc35 : z 9 c = 3 ∨ z 9 c = 4 := by
    have := hcr.1
    split at this <;> omega
  obtain ⟨k, e, d1, d2, d3, d4, d5, d6, d7, d8⟩ := hH c (by omega) (by omega) (by omega)
  obtain ⟨g1, g2, g3, g4, g5⟩ := hF i (by omega) hb0
  have hEi := (hE i (by omega)).2.2.2 hb0
  have hEc := (hE c (by omega)).1
  have hg3i := hG.2.2 i (by omega)
  have hg3c := hG.2.2 c (by omega)
  have hQ9 := hQ.2.2.2.2.2.2.2.2.1
  have hQ10 := hQ.2.2.2.2.2.2.2.2.2.1
  have hb1 : ¬ z 2 i = 1 := fun q => hc0 (ir3 q)
  rw [hcr.1] at d5 d6 d7 d8
  refine ⟨sp, i, c, z 2 i, p, k, e, hi, h8, hc, rfl, by omega, by have := hCi.2.2.2.1; omega, hA0, ⟨hQ10, h12, by rw [hQ9, hi], by omega, e116, hp, e16⟩, hCi.1, ?_, hcn, hci, hn6, by omega, hP.1, hP, by rw [h57, hEi], by omega, g2, g3, ?_, g5, by omega, hEc, (hA c (by omega)).2, d1, d2, d3, d4, d5, ?_, d7, d8, hcr.1, ?_, ?_, hsp, ho⟩
  · rw [(hD i (by omega)).2 hb0, hc]
    unfold oM; rw [if_neg (by omega), Nat.add_sub_cancel]
  · rw [g4, hc]
    unfold oM; rw [if_neg (by omega), Nat.add_sub_cancel]
  · rcases d6 with q | q
    · exact q
    · have := q.2.1
      split at this <;> omega
  · intro hb2
    obtain ⟨d, l1, l2, l3, l4, l5⟩ := hL.2
    rw [hi, h8] at l2
    have hLr := (hL.1 i (by omega) (by omega) hb0 hnr).2 hc0
    have := (hLr.2 hb2).2
    refine ⟨d - 1, by omega, ?_, ?_⟩
    · have e : d - 1 + 1 = d := by omega
      rw [e]; exact l3
    · have e : d - 1 + 1 = d := by omega
      rw [e]; exact l4
  · intro hb4
    obtain ⟨w1, w2, w3⟩ := ir5 hb4
    have w16 : z 16 (z 2 i - 4) = 2 := by
      rcases w3 with q | q | q
      · exact absurd ⟨hb4, q⟩ hnr
      · exact q.1
      · exact absurd q.2 hc0
    obtain ⟨q1, q2, q3, q4, q5, q6, q7, q8, q9, q10⟩ := hPg _ w1
    have k25 := ((q9 (by omega)).2.2.2.2.2 w16).2
    rw [w2, hc, Nat.add_sub_cancel, d3] at k25
    refine ⟨w1, ?_, (nI_eqL (w := k) (a := 25) (b := 25) rfl (by omega) (by decide)).mp k25, w16⟩
    rw [q8, w16]; rfl
