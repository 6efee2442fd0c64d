/-! OPTION's last part begins; FINALLY -/
set_option maxRecDepth 100000 in
theorem v_26_1 {N B : Nat} {z : Zt} {G : Gt} {x : Nat → Int32} {u e : Nat} (h : va N B z G x u 26 e 1) : eW N B z G (rS G) := by
  have hs := va_s h
  obtain ⟨f1, f2, f3, f4, f5, f6, f7, f8, f9, f10, f11, f12, f13, f14⟩ := st_f hs
  have hu := hs.2.1
  have hh := va_h h
  have hV := va_V h
  obtain ⟨v1, v2, v3⟩ := va_v h
  have kk := st_k hs
  have hun := hs.2.2.1
  obtain ⟨hP, hA, hB, hC, hD, hE, hF, hG, hH, hI, hJ, hK, hL, hM, hN, hO, hPg, hQ, hR', hS, hT, hU⟩ := hs.1.1
  obtain ⟨Q1, Q2, Q3, Q4, Q5, Q6, Q7, Q8, Q9, Q10, Q11, Q12, Q13, Q14, Q15, Q16, Q17, Q18, Q19, Q20, Q21, Q22, Q23, Q24, Q25⟩ := hQ
  have hR1 := hR'.1
  have hR2 := hR'.2.1
  have hR3 := hR'.2.2.1
  obtain ⟨o, ho, eo⟩ := prq (k := 26) (w := 0) (d := 2) (n := 4) (by decide) (by decide) (by decide) (by omega) (Or.inr (Or.inl ⟨rfl, rfl⟩)) kk.1
  obtain ⟨y, hy, ey⟩ := prt (k := 26) (w := 2) (by decide) (by decide) (by decide) (by omega) kk.2.2
  have c1 := st_code hs (q := 1) (w := 47) (d := nI e + 4) (by rw [cd_26]; rfl)
  have c2 := st_code hs (q := 2) (w := 26) (d := G 48 (z 1 u)) (by rw [cd_26]; rfl)
  have c3 := st_code hs (q := 3) (w := 41) (d := G 50 (z 1 u)) (by rw [cd_26]; rfl)
  have e4 : nI e + 4 = nI (e + 4) := nI_add e 4
  have p1 := va_p h (q := 1) (by decide) rfl
  have hV56 := hU.2.2.2.2.2 o ho
  have s1 := i_guard (cat f1 p1 c1.2.2 c1.1)
  rw [c1.2.1, e4] at s1
  have s2 := i_opt (G := gu (gu G 116 u (nI (e + 1 + 1))) 118 u (nI (e + 4))) (u := u) (p := e + 2) (o := o) ⟨f1.1, f1.2.1, f1.2.2.1, f1.2.2.2, by rw [gu_oo _ (by decide), gu_kk], c2.2.2, c2.1⟩ (c2.2.1.trans eo) ho
  rw [show (gu (gu G 116 u (nI (e + 1 + 1))) 118 u (nI (e + 4))) 31 o = G 31 o from rfl, show (gu (gu G 116 u (nI (e + 1 + 1))) 118 u (nI (e + 4))) 84 16 = G 84 16 from rfl] at s2
  have s3 := i_do (G := gu (gu (gu (gu (gu (gu G 116 u (nI (e + 1 + 1))) 118 u (nI (e + 4))) 116 u (nI (e + 2 + 1))) 122 u (G 31 o)) 124 u 1) 31 o (G 84 16)) (u := u) (p := e + 3) (n := z 0 0) (m := y) ⟨f1.1, f1.2.1, f1.2.2.1, f1.2.2.2, by rw [gu_oo _ (by decide), gu_oo _ (by decide), gu_oo _ (by decide), gu_kk], c3.2.2, c3.1⟩ f10 (by omega) (c3.2.1.trans ey) (by omega)
  have hR := hV_26_0 hh (xV_67a hV (by decide)) eo ho
  rw [ey, f7, v2, ← hV56.1] at hR
  -- the state
  have t0 := st_fr (Gc := gu (gu (gu (gu (gu G 116 u (nI (e + 1 + 1))) 118 u (nI (e + 4))) 116 u (nI (e + 2 + 1))) 122 u (G 31 o)) 124 u 1) (Gr := gu G 68 (z 6 u) (G 31 o)) (sp' := 1) (fp' := 0) hs (ag1 hu (by decide) (ag1 hu (by decide) (ag1 hu (by decide) (ag1 hu (by decide) (ag1 hu (by decide) agw_rfl))))) (ag2 hu (by decide) agw_rfl) ⟨rfl, rfl, rfl, rfl, rfl⟩ (Nat.le_refl _) (Nat.le_refl _)
  have t1 := st_w (G' := gu (gu (mxw (gu (gu (gu (gu (gu G 116 u (nI (e + 1 + 1))) 118 u (nI (e + 4))) 116 u (nI (e + 2 + 1))) 122 u (G 31 o)) 124 u 1) (gu G 68 (z 6 u) (G 31 o))) 31 o (G 84 16)) 56 o (G 84 16)) (x' := x) t0 (ag5 (by decide) (ag5 (by decide) agr_rfl)) (st_s t0 :) (fun _ _ q => q) (qU_op (st_qU t0) v1) (Or.inl (fun _ _ => rfl))
  rw [mxw_gC rfl, mxw_gR rfl] at t1
  have t2 := st_u (G' := gu (gu (mxw (gu (gu (gu (gu (gu (gu G 116 u (nI (e + 1 + 1))) 118 u (nI (e + 4))) 116 u (nI (e + 2 + 1))) 122 u (G 31 o)) 124 u 1) 31 o (G 84 16)) (gu (gu G 68 (z 6 u) (G 31 o)) 56 o (G 84 16))) 116 u (nI (e + 3 + 1))) 67 (z 6 u) 1) (sp' := 1) (fp' := 0) t1 (ag2 hu (by decide) (ag1 hu (by decide) agw_rfl)) ⟨rfl, rfl, rfl, rfl, rfl⟩ (Nat.le_refl _) (Nat.le_refl _)
  rw [mxw_gC rfl, mxw_gR rfl] at t2
  obtain ⟨f, hf⟩ := hS
  have t3 := st_od (v := f + 1) t2
  have hfx := fX_of hA hC (by omega)
  have hne : ¬ u = z 0 0 := by omega
  refine eW_z (z' := zu z 24 u (f + 1)) (mu_eq rfl rfl) ?_
  refine ev_dn (y := y) (s := z 5 u) (p' := 2) (t := 3) (oi := u + 1) (k := 26) (e := e) clo_rS t3.2.1 t3.2.2.1 t3.2.2.2.1 hy f8 (Or.inr rfl) ⟨_, s1, _, s2, _, s3, ?_⟩ (by decide) hR eqc_mx eqr_mx (kp_mx ?_ ?_) t3.1 (by decide) hs.2.2.2.2.2.1 hs.2.2.2.2.2.2.1 hs.2.2.2.2.2.2.2 (by unfold kP; omega) (Or.inl ?_) ?_ ?_ (by rw [if_pos ⟨rfl, rfl⟩]) ?_
  · have : (gu (gu (gu (gu (gu (gu G 116 u (nI (e + 1 + 1))) 118 u (nI (e + 4))) 116 u (nI (e + 2 + 1))) 122 u (G 31 o)) 124 u 1) 31 o (G 84 16)) 112 u = nI (z 13 (z 5 u)) := f9
    rw [this]
    exact eqc_rfl
  · exact kp_gu (by unfold kpc; omega) (kp_gu (by unfold kpc; omega) (kp_agw (ag1 hu (by decide) (ag1 hu (by decide) (ag1 hu (by decide) (ag1 hu (by decide) (ag1 hu (by decide) agw_rfl)))))))
  · exact kp_gu (by unfold kpc; omega) (kp_gu (by unfold kpc; omega) (kp_gu (by unfold kpc; omega) kp_rfl))
  · rw [mx_C rfl, gu_kk]; rfl
  · rw [mx_C rfl, gu_oo _ (by decide), gu_oo _ (by decide), gu_oo _ (by decide), gu_oo _ (by decide), gu_oo _ (by decide), gu_kk, e4.symm]
    exact e4
  · refine ⟨⟨fun q => by omega, fun _ => ?_⟩, fun q => by omega, fun _ _ => ⟨?_, ?_⟩, fun _ => ⟨fun q => by omega, fun _ => ?_⟩, fun q => by omega, fun q => by omega, fun q => by omega, fun q => by omega, fun q => by omega⟩
    · rw [mx_R rfl]; exact gu_kk _ _ _ _
    · rw [mx_C rfl, mx_R rfl, gu_oo _ (by decide), gu_oo _ (by decide), gu_oo _ (by decide), gu_kk]
      show _ = (gu (gu (gu G 68 (z 6 u) (G 31 o)) 56 o (G 84 16)) 67 (z 6 u) 1) 68 (z 6 u)
      rw [gu_oo _ (by decide), gu_oo _ (by decide), gu_kk]
    · rw [mx_C rfl, gu_oo _ (by decide), gu_oo _ (by decide), gu_oo _ (by decide), gu_kk]
      exact hV56.2
    · rw [mx_C rfl, gu_oo _ (by decide), gu_oo _ (by decide), gu_kk]
  · refine ⟨f + 1, fun o' ho' => ?_⟩
    rw [if_neg (by omega)]
    refine ⟨by omega, by rw [Nat.add_sub_cancel]; exact t3.2.2.1, ?_, ?_, ?_, ?_⟩
    · rw [Nat.add_sub_cancel]; simp [zDn, zu, hne, hu]
    · rw [Nat.add_sub_cancel]
      have : (zDn (zu z 24 u (f + 1)) y (z 5 u) 2 (u + 1)) 1 u = z 1 u := by simp [zDn, zu, hne]
      rw [this]
      exact hs.2.2.2.2.2.2.1
    · rw [Nat.add_sub_cancel]; simp [zDn, zu]
    · rw [Nat.add_sub_cancel]
      have e1 : (zDn (zu z 24 u (f + 1)) y (z 5 u) 2 (u + 1)) 1 u = z 1 u := by simp [zDn, zu, hne]
      have e2 : io (zDn (zu z 24 u (f + 1)) y (z 5 u) 2 (u + 1)) u = io z u := by
        have n3 : ¬ z 8 u = z 0 0 := by have := hfx.2.2 u hun; omega
        simp [io, zDn, zu, hne]
      rw [e1, e2]
      have h0 := hf o' ho'
      rw [hu] at h0
      have key : oK (zDn (zu z 24 u (f + 1)) y (z 5 u) 2 (u + 1)) (oAk (nI y) (nI ((zu z 24 u (f + 1)) 6 u)) (nI (z 5 u)) (oBg ((zu z 24 u (f + 1)) 0 0) (nI u) (nI y) (nI ((zu z 24 u (f + 1)) 13 (z 5 u))) 0 (G 13 y) (mxw (gu (gu (gu (gu (gu (gu (gu G 116 u (nI (e + 1 + 1))) 118 u (nI (e + 4))) 116 u (nI (e + 2 + 1))) 122 u (G 31 o)) 124 u 1) 31 o (G 84 16)) 116 u (nI (e + 3 + 1))) (gu (gu (gu G 68 (z 6 u) (G 31 o)) 56 o (G 84 16)) 67 (z 6 u) 1)))) o' f (x o') (io z u) := by
        refine oK_ext (N := N) (z := z) (G := G) (z' := zDn (zu z 24 u (f + 1)) y (z 5 u) 2 (u + 1)) (G' := (oAk (nI y) (nI ((zu z 24 u (f + 1)) 6 u)) (nI (z 5 u)) (oBg ((zu z 24 u (f + 1)) 0 0) (nI u) (nI y) (nI ((zu z 24 u (f + 1)) 13 (z 5 u))) 0 (G 13 y) (mxw (gu (gu (gu (gu (gu (gu (gu G 116 u (nI (e + 1 + 1))) 118 u (nI (e + 4))) 116 u (nI (e + 2 + 1))) 122 u (G 31 o)) 124 u 1) 31 o (G 84 16)) 116 u (nI (e + 3 + 1))) (gu (gu (gu G 68 (z 6 u) (G 31 o)) 56 o (G 84 16)) 67 (z 6 u) 1))))) (Nat.le_refl _) hfx.1 (fun i hi => ?_) (fun m _ => ⟨rfl, rfl⟩) f (fun q q1 q2 q3 q4 => ?_) _ _ h0
        · have : ¬ i = z 0 0 := by omega
          simp [zDn, zu, this]
        · have n1 : ¬ q = z 0 0 := by omega
          have n2 : ¬ q = u := by intro e; subst e; have := hs.1.2.2.1; rw [hu] at this; omega
          have n3 : ¬ z 8 q = z 0 0 := by have := hfx.2.2 q q1; omega
          refine ⟨?_, ?_, ?_, ?_⟩
          · simp [zDn, zu, n1, n2, q2, hu]
          · rw [ak_n (by decide), bg_n (by exact n1) (by decide), mx_C rfl, gu_oo _ (by decide), gu_oo _ (by decide), gu_oo _ (by decide), gu_ko _ n2]; rfl
          · simp [io, zDn, zu, n1]
          · simp [zDn, zu, n2]
      refine (congrArg (fun t => oK _ _ o' f t (io z u)) (Eq.trans ?_ (h.1.2.2.2.2.2.2.2.2.2.2.2 o').symm)).mpr key
      rw [if_neg (c := 26 = 26 ∧ 1 = 2 ∧ G 48 (z 1 u) = nI o') (fun q => by omega)]
      have e3 : (oAk (nI y) (nI ((zu z 24 u (f + 1)) 6 u)) (nI (z 5 u)) (oBg ((zu z 24 u (f + 1)) 0 0) (nI u) (nI y) (nI ((zu z 24 u (f + 1)) 13 (z 5 u))) 0 (G 13 y) (mxw (gu (gu (gu (gu (gu (gu (gu G 116 u (nI (e + 1 + 1))) 118 u (nI (e + 4))) 116 u (nI (e + 2 + 1))) 122 u (G 31 o)) 124 u 1) 31 o (G 84 16)) 116 u (nI (e + 3 + 1))) (gu (gu (gu G 68 (z 6 u) (G 31 o)) 56 o (G 84 16)) 67 (z 6 u) 1)))) 48 (z 1 u) = nI o := eo
      have e4' : (oAk (nI y) (nI ((zu z 24 u (f + 1)) 6 u)) (nI (z 5 u)) (oBg ((zu z 24 u (f + 1)) 0 0) (nI u) (nI y) (nI ((zu z 24 u (f + 1)) 13 (z 5 u))) 0 (G 13 y) (mxw (gu (gu (gu (gu (gu (gu (gu G 116 u (nI (e + 1 + 1))) 118 u (nI (e + 4))) 116 u (nI (e + 2 + 1))) 122 u (G 31 o)) 124 u 1) 31 o (G 84 16)) 116 u (nI (e + 3 + 1))) (gu (gu (gu G 68 (z 6 u) (G 31 o)) 56 o (G 84 16)) 67 (z 6 u) 1)))) 122 u = G 31 o := by
        rw [ak_n (by decide), bg_n (by exact hne) (by decide), mx_C rfl, gu_oo _ (by decide), gu_oo _ (by decide), gu_oo _ (by decide), gu_kk]
      rw [e3, e4']
      by_cases c : o' = o
      · subst c; rw [if_pos rfl]
      · rw [if_neg (fun q => c ((nI_eq (by omega) (by omega)).mp q).symm), mx_C rfl, gu_oo _ (by decide), gu_ko _ c]; rfl
/-! FINALLY -/
def zWt (z : Zt) (u : Nat) : Zt := zu (zu z 0 6 (z 0 6 + 1)) 20 u 0
theorem st_wt {N B : Nat} {z : Zt} {G : Gt} {x : Nat → Int32} {sp fp u k e : Nat} (h : st N B z G x sp fp u k e) (h20 : z 20 u = 1) : st N B (zWt z u) (gu G 46 47 (nI (z 0 6 + 1))) x sp fp u k e ∧ eX N z G (zWt z u) (gu G 46 47 (nI (z 0 6 + 1))) := by
  obtain ⟨⟨⟨hP, hA, hB, hC, hD, hE, hF, hG, hH, hI, hJ, hK, hL, hM, hN, hO, hPg, hQ, hR, hS, hT, hU⟩, hm, h6, h12, hFr⟩, hu, hn, hd, hk, he, h47, h13⟩ := h
  have hX : eX N z G (zWt z u) (gu G 46 47 (nI (z 0 6 + 1))) := ⟨⟨Nat.le_refl _, Nat.le_refl _, Nat.le_refl _, Nat.le_refl _, Nat.le_succ _⟩, fun _ _ => ⟨rfl, rfl, rfl, rfl, rfl⟩, fun _ _ _ => rfl, fun _ _ h0 => ⟨h0, rfl⟩, fun _ hs => rfl, fun _ _ => ⟨rfl, rfl, rfl, rfl, rfl⟩, fun _ _ => rfl, fun _ _ h => h⟩
  have hf := fX_of hA hC (by omega)
  obtain ⟨r1, r2, r3, r4⟩ := hR
  obtain ⟨b1, b2, b3, b4, b5, b6, b7, b8, b9, b10, b11, b12, b13, b14, b15, b16, b17, b18, b19, b20, b21, b22, b23, b24, b25⟩ := hQ
  have hH' : qH (zWt z u) (gu G 46 47 (nI (z 0 6 + 1))) := fun i hi h1 h2 => by
    have ne : ¬ i = u := by
      intro e; subst e
      have h2' : z 9 i ≤ 5 := h2
      rw [hu] at h6; omega
    exact dV_ext hX hf hi (by omega) rfl rfl (by simp [zWt, zu, ne]) rfl rfl rfl rfl rfl rfl rfl rfl rfl (hH i hi h1 h2)
  have hS' : qS (zWt z u) (gu G 46 47 (nI (z 0 6 + 1))) x := by
    obtain ⟨f', hf'⟩ := hS
    refine ⟨f', fun o ho => ?_⟩
    exact oK_ext (N := N) (z := z) (G := G) (G' := gu G 46 47 (nI (z 0 6 + 1))) (z' := zWt z u) (Nat.le_refl _) hf.1 (fun _ _ => rfl) (fun _ _ => ⟨rfl, rfl⟩) f' (fun q _ q2 _ _ => ⟨q2, rfl, rfl, rfl⟩) _ _ (hf' o ho)
  have hsm : sm ((zWt z u) 20) (z 0 0) + 1 = sm (z 20) (z 0 0) := by
    have := sm_up (f := (zWt z u) 20) (g := z 20) (j := u) (n := z 0 0) hn (fun i _ hne => by simp [zWt, zu, hne])
    have e : (zWt z u) 20 u = 0 := by simp [zWt, zu]
    rw [e, h20] at this
    omega
  have hQ' : qQ B (zWt z u) (gu G 46 47 (nI (z 0 6 + 1))) := by
    refine ⟨b1, b2, b3, b4, b5, b6, b7, b8, b9, b10, b11, b12, b13, b14, b15, b16, b17, b18, b19, b20, b21, b22, b23, ?_, b25⟩
    rw [gu_kk]; rfl
  exact ⟨⟨⟨⟨hP, hA, hB, hC, hD, hE, hF, hG, hH', hI, hJ, hK, hL, hM, hN, hO, hPg, hQ', ⟨r1, by show z 0 6 + 1 + sm ((zWt z u) 20) (z 0 0) ≤ z 0 0; omega, r3, r4⟩, hS', hT, hU⟩, hm, h6, h12, hFr⟩, hu, hn, hd, hk, he, h47, h13⟩, hX⟩
def oWt (w f : Nat) (G : Gt) : Gt := gu (gu (gu (gu (gu (gu (gu (gu G 80 (6 * w) (G 46 41)) 80 (6 * w + 1) (G 46 42)) 80 (6 * w + 2) (G 46 43)) 80 (6 * w + 3) (G 46 44)) 80 (6 * w + 4) (G 46 45)) 80 (6 * w + 5) (G 46 46)) 68 f (nI (6 * w))) 46 47 (nI (w + 1))
def oHo (u : Nat) (G : Gt) : Gt := gu (gu (gu (gu (gu G 124 u (G 84 15)) 122 u (G 84 16)) 126 u (G 84 18)) 128 u (G 84 17)) 84 15 0
theorem nI_a (a b : Nat) (x : Int32) (e : x = nI b) : nI a + x = nI (a + b) := by rw [e]; exact nI_add a b
theorem r_waits {K : Gt → Prop} {C G : Gt} {f m w : Nat} (hf : f < 1220) (hm : m < 120) (hw : G 46 47 = nI w) (hw6 : w < 610) (h : K (mxw C (oAk (G 49 m) (nI f) (G 66 f) (gu (oWt w f G) 67 f 1)))) : w_X11_waits K (nI f) (nI m) (mxw C G) := by
  have e : (nI f).toNatClampNeg = f := nI_clamp (by omega)
  have em : (nI m).toNatClampNeg = m := nI_clamp (by omega)
  have e6 : (6 : Int32) * (mxw C G) 46 47 = nI (6 * w) := by rw [show (mxw C G) 46 47 = nI w from hw]; exact nI_mulx 6 w
  unfold w_X11_waits
  rw [e6, e, em, nI_a _ 1 1 rfl, nI_a _ 2 2 rfl, nI_a _ 3 3 rfl, nI_a _ 4 4 rfl, nI_a _ 5 5 rfl]
  refine ptri rfl (by omega) (by decide) rfl (ptri rfl (by omega) (by decide) rfl (ptri rfl (by omega) (by decide) rfl (ptri rfl (by omega) (by decide) rfl (ptri rfl (by omega) (by decide) rfl (ptri rfl (by omega) (by decide) rfl ⟨vp_n hf (by decide), ptr rfl ?_⟩)))))
  have e47 : (mxw C (gu (gu (gu (gu (gu (gu (gu G 80 (6 * w) (G 46 41)) 80 (6 * w + 1) (G 46 42)) 80 (6 * w + 2) (G 46 43)) 80 (6 * w + 3) (G 46 44)) 80 (6 * w + 4) (G 46 45)) 80 (6 * w + 5) (G 46 46)) 68 f (nI (6 * w)))) 46 47 + 1 = nI (w + 1) := by
    rw [show (mxw C (gu (gu (gu (gu (gu (gu (gu G 80 (6 * w) (G 46 41)) 80 (6 * w + 1) (G 46 42)) 80 (6 * w + 2) (G 46 43)) 80 (6 * w + 3) (G 46 44)) 80 (6 * w + 4) (G 46 45)) 80 (6 * w + 5) (G 46 46)) 68 f (nI (6 * w)))) 46 47 = nI w from hw, nI_1]
  have hgoal : pt (gu (mxw C (gu (gu (gu (gu (gu (gu (gu G 80 (6 * w) (G 46 41)) 80 (6 * w + 1) (G 46 42)) 80 (6 * w + 2) (G 46 43)) 80 (6 * w + 3) (G 46 44)) 80 (6 * w + 4) (G 46 45)) 80 (6 * w + 5) (G 46 46)) 68 f (nI (6 * w)))) 46 47 ((mxw C (gu (gu (gu (gu (gu (gu (gu G 80 (6 * w) (G 46 41)) 80 (6 * w + 1) (G 46 42)) 80 (6 * w + 2) (G 46 43)) 80 (6 * w + 3) (G 46 44)) 80 (6 * w + 4) (G 46 45)) 80 (6 * w + 5) (G 46 46)) 68 f (nI (6 * w)))) 46 47 + 1)) (fun G8 => vp_in (nI m) 120 ∧ w_X11_parts (fun G9 => K G9) (G8 49 m) (nI f) 1 G8) := by
    rw [e47]
    exact ptr rfl ⟨vp_n hm (by decide), r_parts hf h⟩
  exact hgoal
theorem i_hold {G : Gt} {u p : Nat} (h : cAt G u p 50) : cS G (oHo u (gu G 116 u (nI (p + 1)))) := by
  refine cS_b h (by decide) (fun R K hk => ?_)
  obtain ⟨h7, h12, h11, hu6, hp, hp2, hw0⟩ := h
  refine pif_n (by decide) (pif_n (by decide) (pif_p (by decide) ?_))
  exact pcp h11 hu6 (by decide) rfl (pcp h11 hu6 (by decide) rfl (pcp h11 hu6 (by decide) rfl (pcp h11 hu6 (by decide) rfl (ptc rfl hk))))
theorem i_rev {G : Gt} {u p : Nat} (h : cAt G u p 51) : cS G (gu (gu (gu (gu (gu G 116 u (nI (p + 1))) 84 15 (G 124 u)) 84 16 (G 122 u)) 84 18 (G 126 u)) 84 17 (G 128 u)) := by
  refine cS_b h (by decide) (fun R K hk => ?_)
  obtain ⟨h7, h12, h11, hu6, hp, hp2, hw0⟩ := h
  refine pif_n (by decide) (pif_n (by decide) (pif_n (by decide) (pif_p (by decide) ?_)))
  unfold w_X2_revive
  rw [rat_u (G := gu G 116 u (nI (p + 1))) h11 hu6, show (mxw (gu G 116 u (nI (p + 1))) R) 124 u = G 124 u from rfl]
  refine ptc rfl ?_
  rw [rat_u (G := gu (gu G 116 u (nI (p + 1))) 84 15 (G 124 u)) h11 hu6, show (mxw (gu (gu G 116 u (nI (p + 1))) 84 15 (G 124 u)) R) 122 u = G 122 u from rfl]
  refine ptc rfl ?_
  rw [rat_u (G := gu (gu (gu G 116 u (nI (p + 1))) 84 15 (G 124 u)) 84 16 (G 122 u)) h11 hu6, show (mxw (gu (gu (gu G 116 u (nI (p + 1))) 84 15 (G 124 u)) 84 16 (G 122 u)) R) 126 u = G 126 u from rfl]
  refine ptc rfl ?_
  rw [rat_u (G := gu (gu (gu (gu G 116 u (nI (p + 1))) 84 15 (G 124 u)) 84 16 (G 122 u)) 84 18 (G 126 u)) h11 hu6, show (mxw (gu (gu (gu (gu G 116 u (nI (p + 1))) 84 15 (G 124 u)) 84 16 (G 122 u)) 84 18 (G 126 u)) R) 128 u = G 128 u from rfl]
  exact ptc rfl hk
theorem fin_w {N B : Nat} {z : Zt} {G Gq : Gt} {x : Nat → Int32} {sp u e : Nat} (hs : st N B z G x sp 0 u 21 e) (hx : ∀ o, o < 4 → x o = G 31 o) (h116 : G 116 u = nI (e + 2)) (hV : xV z G u 21 1) (ho : oU z G u 100000 (G 84 15) (G 84 16) (G 84 18) (G 84 17) (G 46 41) (G 46 42) (G 46 43) (G 46 44) (G 46 45) (G 46 46)) (hq : Gq = G ∨ ∃ v, Gq = gu G 46 57 v)
    (hR0 : ∀ H, (∀ (C : Gt) (K : Gt → Prop), K (mxw C H) → w_X11_waits K (nI (z 6 u)) (nI (z 1 u)) (mxw C Gq)) → rS G H) : eW N B z G (rS G) := by
  obtain ⟨f1, f2, f3, f4, f5, f6, f7, f8, f9, f10, f11, f12, f13, f14⟩ := st_f hs
  have hu := hs.2.1
  have hun := hs.2.2.1
  have kk := st_k hs
  obtain ⟨hP, hA, hB, hC, hD, hE, hF, hG, hH, hI, hJ, hK, hL, hM, hN, hO, hPg, hQ, hR', hS, hT, hU⟩ := hs.1.1
  obtain ⟨Q1, Q2, Q3, Q4, Q5, Q6, Q7, Q8, Q9, Q10, Q11, Q12, Q13, Q14, Q15, Q16, Q17, Q18, Q19, Q20, Q21, Q22, Q23, Q24, Q25⟩ := hQ
  have hR1 := hR'.1
  have hR2 := hR'.2.1
  have hR3 := hR'.2.2.1
  have hf := fX_of hA hC (by omega)
  obtain ⟨y, hy, ey⟩ := prt (k := 21) (w := 1) (by decide) (by decide) (by decide) (by omega) kk.2.1
  have c2 := st_code hs (q := 2) (w := 50) (d := -1) (by rw [cd_21]; rfl)
  have c3 := st_code hs (q := 3) (w := 47) (d := nI e + 7) (by rw [cd_21]; rfl)
  have c4 := st_code hs (q := 4) (w := 41) (d := G 49 (z 1 u)) (by rw [cd_21]; rfl)
  have e7 : nI e + 7 = nI (e + 7) := nI_add e 7
  have h20 : z 20 u = 1 := hV.2.2.2.2.2.2.1 rfl rfl
  have s1 := i_hold (cat f1 h116 c2.2.2 c2.1)
  have s2 := i_guard (G := oHo u (gu G 116 u (nI (e + 2 + 1)))) (u := u) (p := e + 3) ⟨f1.1, f1.2.1, f1.2.2.1, f1.2.2.2, by unfold oHo; rw [gu_oo _ (by decide), gu_oo _ (by decide), gu_oo _ (by decide), gu_oo _ (by decide), gu_oo _ (by decide), gu_kk], c3.2.2, c3.1⟩
  rw [show (oHo u (gu G 116 u (nI (e + 2 + 1)))) 18 (e + 3) = nI (e + 7) from c3.2.1.trans e7] at s2
  have g57 : ∀ a b, ¬ (a = 46 ∧ b = 57) → Gq a b = G a b := by
    intro a b hab
    rcases hq with rfl | ⟨v, rfl⟩
    · rfl
    · exact gu_n hab
  have gw57 : agw z G Gq := by
    rcases hq with rfl | ⟨v, rfl⟩
    · exact agw_rfl
    · exact ag4 (by decide) agw_rfl
  have hR := hR0 _ (fun C K hk => r_waits f5 (by omega) ((g57 46 47 (by decide)).trans Q24) (by omega) hk)
  rw [g57 49 _ (by omega), g57 66 _ (by omega), ey, f7] at hR
  -- the state
  have t0 := st_fr (Gc := gu (gu (oHo u (gu G 116 u (nI (e + 2 + 1)))) 116 u (nI (e + 3 + 1))) 118 u (nI (e + 7))) (Gr := gu (gu (gu (gu (gu (gu (gu Gq 80 (6 * z 0 6) (Gq 46 41)) 80 (6 * z 0 6 + 1) (Gq 46 42)) 80 (6 * z 0 6 + 2) (Gq 46 43)) 80 (6 * z 0 6 + 3) (Gq 46 44)) 80 (6 * z 0 6 + 4) (Gq 46 45)) 80 (6 * z 0 6 + 5) (Gq 46 46)) 68 (z 6 u) (nI (6 * z 0 6))) (sp' := sp) (fp' := 0) hs (ag1 hu (by decide) (ag1 hu (by decide) (ag3 (by decide) (ag1 hu (by decide) (ag1 hu (by decide) (ag1 hu (by decide) (ag1 hu (by decide) (ag1 hu (by decide) agw_rfl)))))))) (ag2 hu (by decide) (agw_gu (Or.inr (Or.inr (Or.inr (Or.inr ⟨rfl, by omega⟩)))) (agw_gu (Or.inr (Or.inr (Or.inr (Or.inr ⟨rfl, by omega⟩)))) (agw_gu (Or.inr (Or.inr (Or.inr (Or.inr ⟨rfl, by omega⟩)))) (agw_gu (Or.inr (Or.inr (Or.inr (Or.inr ⟨rfl, by omega⟩)))) (agw_gu (Or.inr (Or.inr (Or.inr (Or.inr ⟨rfl, by omega⟩)))) (agw_gu (Or.inr (Or.inr (Or.inr (Or.inr ⟨rfl, by omega⟩)))) gw57))))))) ⟨rfl, g57 46 51 (by decide), rfl, g57 46 62 (by decide), rfl⟩ (Nat.le_refl _) (Nat.le_refl _)
  obtain ⟨t1, tX⟩ := st_wt t0 h20
  rw [mxw_gR rfl] at t1 tX
  have t2 := st_u (G' := gu (mxw (gu (gu (oHo u (gu G 116 u (nI (e + 2 + 1)))) 116 u (nI (e + 3 + 1))) 118 u (nI (e + 7))) (oWt (z 0 6) (z 6 u) Gq)) 67 (z 6 u) 1) (sp' := sp) (fp' := 0) t1 (ag2 (z := zWt z u) hu (by decide) agw_rfl) ⟨rfl, rfl, rfl, rfl, rfl⟩ (Nat.le_refl _) (Nat.le_refl _)
  rw [mxw_gR rfl] at t2
  have hao : oU (zWt z u) (mxw (gu (gu (oHo u (gu G 116 u (nI (e + 2 + 1)))) 116 u (nI (e + 3 + 1))) 118 u (nI (e + 7))) (gu (oWt (z 0 6) (z 6 u) Gq) 67 (z 6 u) 1)) u 100000 (G 84 15) (G 84 16) (G 84 18) (G 84 17) (G 46 41) (G 46 42) (G 46 43) (G 46 44) (G 46 45) (G 46 46) := by
    have hXX : eX N z G (zWt z u) (mxw (gu (gu (oHo u (gu G 116 u (nI (e + 2 + 1)))) 116 u (nI (e + 3 + 1))) 118 u (nI (e + 7))) (gu (oWt (z 0 6) (z 6 u) Gq) 67 (z 6 u) 1)) := by
      refine ⟨⟨Nat.le_refl _, Nat.le_refl _, Nat.le_refl _, Nat.le_refl _, Nat.le_succ _⟩, fun _ _ => ⟨rfl, rfl, rfl, rfl, rfl⟩, fun _ _ _ => rfl, fun _ _ h0 => ⟨h0, rfl⟩, fun _ hs => rfl, fun _ _ => ⟨rfl, g57 47 _ (by omega), g57 48 _ (by omega), g57 49 _ (by omega), g57 50 _ (by omega)⟩, fun j hj => ?_, fun l _ h => ?_⟩
      · rw [mx_R rfl, gu_oo _ (by decide)]
        unfold oWt
        rw [gu_oo _ (by decide), gu_oo _ (by decide), gu_ko _ (by omega), gu_ko _ (by omega), gu_ko _ (by omega), gu_ko _ (by omega), gu_ko _ (by omega), gu_ko _ (by omega)]
        exact g57 80 _ (by omega)
      · rw [mx_R rfl]
        show ¬ Gq 54 l = -1
        rw [g57 54 _ (by omega)]; exact h
    exact oU_ext hXX hf hun (fun q => absurd q (by omega)) ho
  refine eW_z (z' := zWt z u) (mu_eq rfl rfl) ?_
  refine f_do (p := e + 4) (y := y) (p' := 2) (t := 2) clo_rS t2 hx ⟨_, s1, _, s2, eqc_rfl⟩ (by decide) (by rw [gu_oo _ (by decide), gu_kk]) ⟨c4.1, c4.2.1.trans ey, c4.2.2⟩ hy hR ?_ ?_ (Or.inr rfl) (by unfold kP; omega) (by omega) (Or.inl rfl) (by rw [gu_kk]; rfl) ?_
  · exact kp_agw (ag1 hu (by decide) (ag1 hu (by decide) (ag3 (by decide) (ag1 hu (by decide) (ag1 hu (by decide) (ag1 hu (by decide) (ag1 hu (by decide) (ag1 hu (by decide) agw_rfl))))))))
  · unfold oWt
    repeat (refine kp_gu (by unfold kpc; omega) ?_)
    exact kp_agw gw57
  · refine ⟨⟨fun q => by omega, fun _ => ?_⟩, fun q => by omega, fun _ q => by omega, fun q => by omega, fun _ _ => ⟨z 0 6, Nat.lt_succ_self _, ?_, ?_⟩, fun q => by omega, fun _ q => by omega, fun q => by omega, fun q => by omega⟩
    · rw [mx_R rfl]; exact gu_kk _ _ _ _
    · rw [mx_R rfl]
      show (gu (oWt (z 0 6) (z 6 u) Gq) 67 (z 6 u) 1) 68 (z 6 u) = _
      unfold oWt
      rw [gu_oo _ (by decide), gu_oo _ (by decide), gu_kk]
    · have rd : ∀ c, ¬ c = 67 → ¬ c = 68 → ¬ c = 46 → ∀ j, isR c = true → (mxw (gu (gu (oHo u (gu G 116 u (nI (e + 2 + 1)))) 116 u (nI (e + 3 + 1))) 118 u (nI (e + 7))) (gu (oWt (z 0 6) (z 6 u) Gq) 67 (z 6 u) 1)) c j = (gu (gu (gu (gu (gu (gu Gq 80 (6 * z 0 6) (Gq 46 41)) 80 (6 * z 0 6 + 1) (Gq 46 42)) 80 (6 * z 0 6 + 2) (Gq 46 43)) 80 (6 * z 0 6 + 3) (Gq 46 44)) 80 (6 * z 0 6 + 4) (Gq 46 45)) 80 (6 * z 0 6 + 5) (Gq 46 46)) c j := by
        intro c h1 h2 h3 j hr
        rw [mx_R hr, gu_oo _ h1]
        unfold oWt
        rw [gu_oo _ h3, gu_oo _ h2]
      rw [rd 80 (by decide) (by decide) (by decide) _ rfl, rd 80 (by decide) (by decide) (by decide) _ rfl, rd 80 (by decide) (by decide) (by decide) _ rfl, rd 80 (by decide) (by decide) (by decide) _ rfl, rd 80 (by decide) (by decide) (by decide) _ rfl, rd 80 (by decide) (by decide) (by decide) _ rfl]
      rw [gu_ko _ (by omega), gu_ko _ (by omega), gu_ko _ (by omega), gu_ko _ (by omega), gu_ko _ (by omega), gu_kk]
      rw [gu_ko _ (by omega), gu_ko _ (by omega), gu_ko _ (by omega), gu_ko _ (by omega), gu_kk]
      rw [gu_ko _ (by omega), gu_ko _ (by omega), gu_ko _ (by omega), gu_kk]
      rw [gu_ko _ (by omega), gu_ko _ (by omega), gu_kk]
      rw [gu_ko _ (by omega), gu_kk, gu_kk]
      rw [g57 46 41 (by decide), g57 46 42 (by decide), g57 46 43 (by decide), g57 46 44 (by decide), g57 46 45 (by decide), g57 46 46 (by decide)]
      have k4 : ∀ c, c = 122 ∨ c = 124 ∨ c = 126 ∨ c = 128 → (mxw (gu (gu (oHo u (gu G 116 u (nI (e + 2 + 1)))) 116 u (nI (e + 3 + 1))) 118 u (nI (e + 7))) (gu (oWt (z 0 6) (z 6 u) Gq) 67 (z 6 u) 1)) c u = (oHo u (gu G 116 u (nI (e + 2 + 1)))) c u := by
        intro c hc
        rcases hc with rfl | rfl | rfl | rfl <;> rfl
      rw [k4 122 (by decide), k4 124 (by decide), k4 126 (by decide), k4 128 (by decide)]
      have o4 : (oHo u (gu G 116 u (nI (e + 2 + 1)))) 122 u = G 84 16 ∧ (oHo u (gu G 116 u (nI (e + 2 + 1)))) 124 u = G 84 15 ∧ (oHo u (gu G 116 u (nI (e + 2 + 1)))) 126 u = G 84 18 ∧ (oHo u (gu G 116 u (nI (e + 2 + 1)))) 128 u = G 84 17 := by simp [oHo, gu]
      rw [o4.1, o4.2.1, o4.2.2.1, o4.2.2.2]
      exact hao
theorem v_21_1 {N B : Nat} {z : Zt} {G : Gt} {x : Nat → Int32} {u e : Nat} (h : va N B z G x u 21 e 1) : eW N B z G (rS G) := by
  have hs := va_s h
  obtain ⟨f1, f2, f3, f4, f5, f6, f7, f8, f9, f10, f11, f12, f13, f14⟩ := st_f hs
  have hu := hs.2.1
  have hh := va_h h
  have hV := va_V h
  obtain ⟨v1, v2, v3⟩ := va_v h
  have kk := st_k hs
  have hun := hs.2.2.1
  have hx := va_x h (by decide)
  refine fin_w hs hx (va_p h (q := 2) (by decide) rfl) hV (Or.inl ⟨v3, h.2.2.2.2.2.1, v2.symm, v1⟩) (Or.inl rfl) (fun H hH => ?_)
  exact hV_21_0 hh (xV_67a hV (by decide)) hH
