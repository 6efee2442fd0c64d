/-! A FRAME THAT GOES ON COMES TO: a part that waits, an end -/
/-- the run has ended: class not yet settled -/
def cN (G : Gt) : Int32 → List Int32 → Prop
  | c, [] => c = -1
  | c, x :: l => ∃ i, i < 601 ∧ c = nI i ∧ G 108 i = x ∧ cN G (G 120 i) l
/-- the reference's world as kept -/
def rsd (G : Gt) : Prop := (∀ k, k < 80 → G 58 k = G 62 k) ∧ (∀ b, b < 2 → G 59 b = G 62 (80 + b) ∧ G 61 b = G 62 (90 + b)) ∧ (∀ k, k < 8 → G 60 k = G 62 (82 + k)) ∧ (∀ k, k < 4 → G 56 k = G 62 (92 + k)) ∧ (∀ s, s < 6 → G 54 s = G 62 (96 + s)) ∧ G 46 12 = G 62 102 ∧ G 46 14 = G 62 103
def fST (N B : Nat) (z : Zt) (G : Gt) : Prop := G 84 7 = 0 ∧ G 46 53 = 1 ∧ G 46 41 = 0 ∧ z 0 0 ≤ B ∧ G 84 10 = nI (z 0 0) ∧ G 46 58 = nI (z 0 0) ∧ gRg G G ∧
  ((¬ G 84 15 = 1 ∧ G 84 19 = G 46 62 ∧ G 46 63 = 50000 ∧ G 46 64 = 0 ∧ gT 20 0 G G ∧ gT 25 1 G G ∧ gS0 N G G ∧ gOp G G) ∨
   (G 84 15 = 1 ∧ G 46 62 = 50000 + G 84 16 ∧ G 46 63 = G 84 17 ∧ rsd G ∧ ∃ d l, d < 601 ∧ G 84 18 = nI d ∧ cN G (G 120 d) l ∧ l.length ≤ 12 ∧ G 46 64 = nI (l.length + 1) ∧ G 81 0 = G 108 d ∧ (∀ i x, l[i]? = some x → G 81 (i + 1) = x) ∧ isnum (G 84 16) ∧ (∃ v, v < N ∧ G 108 d = nI v) ∧ ∀ x, x ∈ l → ∃ v, v < N ∧ x = nI v))
def oST (N B : Nat) (z : Zt) (G : Gt) : Prop := eST N B z G ∨ wST N B z G ∨ fST N B z G
/-- what the reference makes of it does not hang on the class's cells -/
def clo (Rr : Gt → Prop) : Prop := ∀ G G', Rr G → eqr G G' → Rr G'
def eW (N B : Nat) (z : Zt) (G : Gt) (Rr : Gt → Prop) : Prop := ∃ z' G' t, oST N B z' G' ∧ cT t G G' ∧ Rr G' ∧ kp G G' ∧ mu z' + t ≤ mu z + 9
def eXo (N B : Nat) (z : Zt) (G : Gt) (Rr : Gt → Prop) : Prop := ∃ z' G' t, oST N B z' G' ∧ cT t G G' ∧ Rr G' ∧ kpo G G' ∧ rvk G G' ∧ mu z' + t ≤ mu z + 9
theorem eXo_of {N B : Nat} {z : Zt} {G : Gt} {Rr : Gt → Prop} (h : eW N B z G Rr) : eXo N B z G Rr := by
  obtain ⟨z', G', t, a, b, c, d, e⟩ := h
  exact ⟨z', G', t, a, b, c, kp_o d, kp_r d, e⟩
/-! congruence -/
theorem eqc_cg {G G' : Gt} {c i : Nat} {v : Int32} (h : eqc G G') : eqc (gu G c i v) (gu G' c i v) := by
  intro k hk
  funext j
  rw [gu_at, gu_at, congrFun (h k hk) j]
theorem eqr_cg {G G' : Gt} {c i : Nat} {v : Int32} (h : eqr G G') : eqr (gu G c i v) (gu G' c i v) := by
  intro k hk
  funext j
  rw [gu_at, gu_at, congrFun (h k hk) j]
theorem eqc_bg {G G' : Gt} {n : Nat} {u x s b e : Int32} (h : eqc G G') : eqc (oBg n u x s b e G) (oBg n u x s b e G') := eqc_cg (eqc_cg (eqc_cg (eqc_cg (eqc_cg (eqc_cg (eqc_cg (eqc_cg (eqc_cg (eqc_cg h)))))))))
theorem eqr_bg {G G' : Gt} {n : Nat} {u x s b e : Int32} (h : eqr G G') : eqr G (oBg n u x s b e G') := eqr_gu rfl (eqr_gu rfl (eqr_gu rfl (eqr_gu rfl (eqr_gu rfl (eqr_gu rfl (eqr_gu rfl (eqr_gu rfl (eqr_gu rfl (eqr_gu rfl h)))))))))
theorem eqc_ak {G G' : Gt} {x o s : Int32} (h : eqc G G') : eqc G (oAk x o s G') := eqc_gu rfl (eqc_gu rfl (eqc_gu rfl (eqc_gu rfl h)))
theorem eqr_ak {G G' : Gt} {x o s : Int32} (h : eqr G G') : eqr (oAk x o s G) (oAk x o s G') := eqr_cg (eqr_cg (eqr_cg (eqr_cg h)))
theorem kp_bg {G G' : Gt} {n : Nat} {u x s b e : Int32} (h : kp G G') : kp G (oBg n u x s b e G') := by
  unfold oBg
  repeat (refine kp_gu (by unfold kpc; omega) ?_)
  exact h
theorem kp_ak {G G' : Gt} {x o s : Int32} (h : kp G G') : kp G (oAk x o s G') := by
  unfold oAk
  repeat (refine kp_gu (by unfold kpc; omega) ?_)
  exact h
theorem cT_e {G G' G'' : Gt} {t : Nat} (h : cT t G G') (e : eqc G' G'') : cT t G G'' := by
  have := cT_tr (t := 0) h e
  rw [Nat.zero_add] at this
  exact this
theorem eX_dn {N : Nat} {z : Zt} {G : Gt} {x s p oi : Nat} {xi : Int32} (h6 : z 9 (z 0 7) = 6) (hcn : z 0 7 < z 0 0) : eX N z G (zDn z x s p oi) (oAk xi (nI (z 6 (z 0 7))) (nI s) (oBg (z 0 0) (nI (z 0 7)) xi (nI (z 13 s)) 0 (G 13 x) G)) := by
  have hl : ∀ i, i < z 0 0 → ¬ i = z 0 0 := fun i hi => by omega
  refine ⟨⟨Nat.le_refl _, Nat.le_refl _, Nat.le_refl _, Nat.le_refl _, Nat.le_refl _⟩, fun i hi => ?_, fun i hi _ => ?_, fun i hi h0 => ?_, fun i hi => rfl, fun i hi => ⟨rfl, rfl, rfl, rfl, rfl⟩, fun i hi => rfl, fun l hl hh => hh⟩
  · have := hl i hi
    refine ⟨?_, ?_, ?_, ?_, ?_⟩ <;> simp [zDn, zu, this]
  · have := hl i hi
    simp [zDn, zu, this]
  · have h1 := hl i hi
    have h2 : ¬ i = z 0 7 := by intro e; subst e; omega
    refine ⟨?_, ?_⟩
    · simp [zDn, zu, h1, h2, h0]
    · simp [oAk, oBg, gu, h1]
/-- it asks for a part -/
theorem ev_dn {N B : Nat} {z : Zt} {G Gc Gr Gp : Gt} {Rr : Gt → Prop} {xv : Nat → Int32} {sp u k e y s p' t oi : Nat} (hcl : clo Rr) (hc : z 0 7 = u) (hu : u < z 0 0) (hd0 : z 11 u = 0) (hy : y < N) (hs : s < z 0 2) (hp' : p' = 1 ∨ p' = 2)
    (hct : cT t G (oBg (z 0 0) (nI u) (nI y) (nI (z 13 s)) 0 (G 13 y) Gc)) (ht : t ≤ 9) (hrs : Rr (oAk (nI y) (nI (z 6 u)) (nI s) Gr)) (hec : eqc Gc Gp) (her : eqr Gr Gp) (hkp : kp G Gp) (haP : aST N B z Gp xv sp 0)
    (hk : k < 40) (hke : e < 1081) (h47 : G 47 (z 1 u) = nI k) (h13 : G 13 (z 1 u) = nI e) (hkP : kP k p')
    (hpl : Gp 116 u = nI (e + plo k p' (cO (G 49 (z 1 u)) (G 50 (z 1 u)))) ∨ (k = 10 ∧ p' = 2 ∧ Gp 116 u = nI (e + 5))) (hla : Gp 118 u = (if lao k p' = 0 then 0 else nI (e + lao k p'))) (hx : xV z Gp u k p')
    (hoi : oi = if k = 26 ∧ p' = 2 then u + 1 else z 22 u)
    (hq : ∃ f, ∀ o, o < 4 → oK (zDn z y s p' oi) (oAk (nI y) (nI (z 6 u)) (nI s) (oBg (z 0 0) (nI u) (nI y) (nI (z 13 s)) 0 (G 13 y) Gp)) o f (Gp 31 o) (if oi = 0 then z 23 (z 8 u) else oi)) (h15 : Gp 84 15 = 0 := by first | rfl | assumption) : eW N B z G Rr := by
  subst hc
  obtain ⟨hS, hm, h6, h12, hFr⟩ := id haP
  have hA := hS.2.1
  have hC := hS.2.2.2.1
  have hQ := hS.2.2.2.2.2.2.2.2.2.2.2.2.2.2.2.2.2.1
  have hf := fX_of hA hC (by omega)
  have hn6 : z 0 0 ≤ 600 := by have := hQ.1; have := hQ.2.2.2.1; omega
  have g13 : Gp 13 = G 13 := funext (fun j => hkp 13 j (by unfold kpc; omega))
  have g47 : Gp 47 = G 47 := funext (fun j => hkp 47 j (by unfold kpc; omega))
  have g49 : Gp 49 = G 49 := funext (fun j => hkp 49 j (by unfold kpc; omega))
  have g50 : Gp 50 = G 50 := funext (fun j => hkp 50 j (by unfold kpc; omega))
  have hne : ¬ z 0 7 = z 0 0 := by omega
  have hX := eX_dn (N := N) (x := y) (s := s) (p := p') (oi := oi) (xi := nI y) (G := Gp) h6 hu
  rw [g13] at hX
  have hzl : ∀ c, ¬ c = 0 → ¬ c = 9 → ¬ c = 10 → (zDn z y s p' oi) c (z 0 7) = z c (z 0 7) := by
    intro c h1 h2 h3
    simp [zDn, zu, hne, h1, h2, h3]
  have z9 : (zDn z y s p' oi) 9 (z 0 7) = p' := by simp [zDn, zu, hne]
  have hdV : dV (zDn z y s p' oi) (oAk (nI y) (nI (z 6 (z 0 7))) (nI s) (oBg (z 0 0) (nI (z 0 7)) (nI y) (nI (z 13 s)) 0 (G 13 y) Gp)) (z 0 7) := by
    have gd : ∀ c, ¬ c = 46 → ¬ c = 84 → (oAk (nI y) (nI (z 6 (z 0 7))) (nI s) (oBg (z 0 0) (nI (z 0 7)) (nI y) (nI (z 13 s)) 0 (G 13 y) Gp)) c (z 0 7) = Gp c (z 0 7) := by
      intro c h1 h2
      simp [oAk, oBg, gu, h1, h2, hne]
    refine ⟨k, e, hk, hke, ?_, ?_, ?_, ?_, ?_, ?_⟩
    · rw [hzl 1 (by decide) (by decide) (by decide)]
      show Gp 47 _ = _
      rw [g47]; exact h47
    · rw [hzl 1 (by decide) (by decide) (by decide)]
      show Gp 13 _ = _
      rw [g13]; exact h13
    · rw [z9]; exact hkP
    · rw [z9, gd 116 (by decide) (by decide), hzl 1 (by decide) (by decide) (by decide)]
      show Gp 116 _ = nI (e + plo k p' (cO (Gp 49 _) (Gp 50 _))) ∨ _
      rw [g49, g50]; exact hpl
    · rw [z9, gd 118 (by decide) (by decide)]; exact hla
    · rw [z9]
      exact xV_ext hX hf hu hn6 (hzl 19 (by decide) (by decide) (by decide)) (hzl 20 (by decide) (by decide) (by decide)) (gd _ (by decide) (by decide)) (gd _ (by decide) (by decide)) (gd _ (by decide) (by decide)) (gd _ (by decide) (by decide)) rfl rfl rfl hx
  have hoi' : oi = if Gp 47 (z 1 (z 0 7)) = 26 ∧ p' = 2 then z 0 7 + 1 else z 22 (z 0 7) := by
    rw [hoi, g47, h47]
    have q : nI k = 26 ↔ k = 26 := nI_eqL rfl (by omega) (by decide)
    by_cases c : k = 26 ∧ p' = 2
    · rw [if_pos c, if_pos ⟨q.mpr c.1, c.2⟩]
    · rw [if_neg c, if_neg (fun y => c ⟨q.mp y.1, y.2⟩)]
  have hW := t_dn (x := y) (s := s) (p := p') (oi := oi) haP hy hs hp' hd0 hoi' (by rw [g13]; exact hdV) (by rw [g13]; exact hq) h15
  rw [g13] at hW
  refine ⟨_, _, t, Or.inr (Or.inl hW.1), ?_, ?_, ?_, ?_⟩
  · exact cT_e hct (eqc_ak (eqc_bg hec))
  · exact hcl _ _ hrs (eqr_ak (eqr_bg her))
  · exact kp_ak (kp_bg hkp)
  · show mu z + t ≤ mu z + 9
    omega
/-- it ends with a value -/
theorem ev_end {N B : Nat} {z : Zt} {G Gc Gr Gp : Gt} {Rr : Gt → Prop} {u t : Nat} {v : Int32} (hcl : clo Rr) (haP : aST N B z Gp (Gp 31) 1 0) (hc : z 0 7 = u) (hu : u < z 0 0) (hct : cT t G Gc) (ht : t ≤ 9) (hrs : Rr (oEn v (G 65 (z 6 u)) Gr)) (hec : eqc Gc Gp) (her : eqr Gr Gp) (hkp : kp G Gp)
    (h65 : Gp 65 (z 6 u) = G 65 (z 6 u)) (h15 : Gp 84 15 = 0) (h16 : Gp 84 16 = v) (hv : vV z v) (hpl : ∃ p, p < 1081 ∧ Gp 116 u = nI p ∧ Gp 16 p = 40) : eW N B z G Rr := by
  subst hc
  obtain ⟨hS, hm, h6, h12, hFr⟩ := id haP
  have hQ := hS.2.2.2.2.2.2.2.2.2.2.2.2.2.2.2.2.2.1
  have f1 := u_fr (G' := oEn v (G 65 (z 6 (z 0 7))) Gp) (sp' := 1) (fp' := 0) hS h6 hu (agw_gu (by unfold frw; omega) (agw_gu (by unfold frw; omega) (agw_gu (by unfold frw; omega) agw_rfl))) (Nat.le_refl _) (Nat.le_refl _) (Or.inr rfl) ⟨hQ.2.2.2.2.2.2.2.2.2.2.2.1, hQ.2.2.2.2.2.2.2.2.2.2.2.2.1⟩ hQ.2.2.2.2.2.2.2.2.2.2.2.2.2.1
  refine ⟨z, oEn v (G 65 (z 6 (z 0 7))) Gp, t, Or.inl ⟨1, ⟨f1.1, hm, h6, h12, hFr⟩, hpl, Or.inl ⟨h15, rfl, h16, by rw [show (oEn v (G 65 (z 6 (z 0 7))) Gp) 84 16 = v from h16]; exact hv⟩, h65.symm, Or.inl rfl⟩, ?_, ?_, ?_, by omega⟩
  · exact cT_e hct (eqc_tr hec (eqc_gu rfl (eqc_gu rfl (eqc_gu rfl eqc_rfl))))
  · exact hcl _ _ hrs (eqr_cg (eqr_cg (eqr_cg her)))
  · exact kp_gu (by unfold kpc; omega) (kp_gu (by unfold kpc; omega) (kp_gu (by unfold kpc; omega) hkp))

set_option maxRecDepth 100000 in
theorem ev_err {N B : Nat} {z : Zt} {G Gc Gr Gp : Gt} {Rr : Gt → Prop} {x : Nat → Int32} {sp u t : Nat} {er : Int32} (hcl : clo Rr) (haP : aST N B z Gp x sp 0) (hx : ∀ o, o < 4 → x o = Gp 31 o) (hc : z 0 7 = u) (hu : u < z 0 0) (hd0 : z 11 u = 0) (her0 : isnum er) (hct : cT t G (oFl u er Gc)) (ht : t ≤ 9) (hrs : Rr (oFr (z 6 u) er Gr)) (hec : eqc Gc Gp) (her : eqr Gr Gp) (hkp : kp G Gp)
    (h118 : Gp 118 u = 0) : eW N B z G Rr := by
  subst hc
  obtain ⟨hS, hm, h6, h12, hFr⟩ := id haP
  have hQ := hS.2.2.2.2.2.2.2.2.2.2.2.2.2.2.2.2.2.1
  have hL := hS.2.2.2.2.2.2.2.2.2.2.2.2.1
  have hP := hS.1
  have hE := hS.2.2.2.2.2.1
  have f1 := u_fr (G' := oFr (z 6 (z 0 7)) er (oFl (z 0 7) er Gp)) (sp' := 0) (fp' := 0) hS h6 hu (by
    unfold oFr oFl
    repeat (refine agw_gu (by unfold frw; omega) ?_)
    exact agw_rfl) (Nat.zero_le _) (Nat.le_refl _) (Or.inl hd0) ⟨hQ.2.2.2.2.2.2.2.2.2.2.2.1, hQ.2.2.2.2.2.2.2.2.2.2.2.2.1⟩ hQ.2.2.2.2.2.2.2.2.2.2.2.2.2.1
  have hS' : sIM N B z (oFr (z 6 (z 0 7)) er (oFl (z 0 7) er Gp)) ((oFr (z 6 (z 0 7)) er (oFl (z 0 7) er Gp)) 31) 0 0 := by
    have := f1.1
    obtain ⟨q1, q2, q3, q4, q5, q6, q7, q8, q9, q10, q11, q12, q13, q14, q15, q16, q17, q18, q19, ⟨f, q20⟩, q21, q22⟩ := this
    refine ⟨q1, q2, q3, q4, q5, q6, q7, q8, q9, q10, q11, q12, q13, q14, q15, q16, q17, q18, q19, ⟨f, fun o ho => ?_⟩, q21, q22⟩
    have := q20 o ho
    rw [hx o ho] at this
    exact this
  obtain ⟨d, d1, d2, d3, d4, d5⟩ := hL.2
  refine ⟨z, oFr (z 6 (z 0 7)) er (oFl (z 0 7) er Gp), t, Or.inl ⟨0, ⟨hS', hm, h6, h12, hFr⟩, ⟨0, by omega, ?_, hP.2.2.2.1⟩, Or.inr (Or.inl ⟨rfl, rfl, rfl, her0, Or.inl ⟨rfl, rfl⟩, z 0 7, d, hu, rfl, ?_, d1, ?_, Or.inr rfl⟩), ?_, Or.inr rfl⟩, ?_, ?_, ?_, by omega⟩
  · show (oFl (z 0 7) er Gp) 116 (z 0 7) = nI 0
    unfold oFl
    rw [gu_oo _ (by decide), gu_kk]
    exact h118
  · exact (hE (z 0 7) hu).1
  · have e1 : (oFr (z 6 (z 0 7)) er (oFl (z 0 7) er Gp)) 120 (z 0 7) = Gp 84 13 := by
      show (oFl (z 0 7) er Gp) 120 (z 0 7) = _
      unfold oFl
      rw [gu_oo _ (by decide), gu_oo _ (by decide), gu_kk]
    rw [e1]
    exact d5
  · rfl
  · refine cT_e hct (eqc_tr ?_ (eqc_gu rfl (eqc_gu rfl (eqc_gu rfl (eqc_gu rfl (eqc_gu rfl (eqc_gu rfl eqc_rfl)))))))
    have e13 : Gc 84 13 = Gp 84 13 := (congrFun (hec 84 rfl) 13).symm
    have e118 : Gc 118 (z 0 7) = Gp 118 (z 0 7) := (congrFun (hec 118 rfl) _).symm
    unfold oFl
    rw [e13, e118]
    exact eqc_cg (eqc_cg (eqc_cg (eqc_cg (eqc_cg (eqc_cg (eqc_cg hec))))))
  · refine hcl _ _ hrs ?_
    have e64 : Gr 64 (z 6 (z 0 7)) = Gp 64 (z 6 (z 0 7)) := (congrFun (her 64 rfl) _).symm
    have e65 : Gr 65 (z 6 (z 0 7)) = Gp 65 (z 6 (z 0 7)) := (congrFun (her 65 rfl) _).symm
    have e49 : Gr 46 49 = Gp 46 49 := (congrFun (her 46 rfl) _).symm
    show eqr (oFr (z 6 (z 0 7)) er Gr) (oFr (z 6 (z 0 7)) er (oFl (z 0 7) er Gp))
    have e1 : oFr (z 6 (z 0 7)) er Gr = gu (gu (gu (gu (gu (gu Gr 46 41 2) 46 42 er) 46 44 (-100000)) 46 45 (Gp 64 (z 6 (z 0 7)))) 46 46 (Gp 46 49)) 46 57 (Gp 65 (z 6 (z 0 7))) := by
      unfold oFr
      rw [e64, e65, e49]
    rw [e1]
    refine eqr_cg (eqr_cg (eqr_cg (eqr_cg (eqr_cg (eqr_cg (eqr_tr her ?_))))))
    exact eqr_gu rfl (eqr_gu rfl (eqr_gu rfl (eqr_gu rfl (eqr_gu rfl (eqr_gu rfl (eqr_gu rfl eqr_rfl))))))
  · unfold oFr oFl
    repeat (refine kp_gu (by unfold kpc; omega) ?_)
    exact hkp
