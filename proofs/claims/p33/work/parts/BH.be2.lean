/-! .. with a value; with an error -/
theorem be_val {N B : Nat} {z : Zt} {G C2 R2 : Gt} {c k e : Nat} {w : Int32} (hA : aST N B z (mxw C2 R2) (C2 31) 1 0) (hc : z 0 7 = c) (hcn : c < z 0 0) (hc6 : c < 601) (hk : k < 40) (he : e < 1081) (hkP : kP k 4) (h47 : R2 47 (z 1 c) = nI k) (h13 : C2 13 (z 1 c) = nI e) (hmN : z 1 c < N) (s1 : cS G C2) (h15 : C2 84 15 = 0) (h16 : C2 84 16 = w) (hw : vV z w) (h116 : C2 116 c = nI (e + plo k 4 (cO (R2 49 (z 1 c)) (R2 50 (z 1 c))))) (h65 : R2 65 = G 65) (hx : k = 29 → C2 122 c = R2 68 (z 6 c) ∧ isnum (C2 122 c)) (hk1 : kp G C2) (hk2 : kp G R2)
    (hR : rS G (oEn (if k = 29 then R2 68 (z 6 c) else w) (R2 65 (z 6 c)) (gu (gu R2 46 51 (if k = 29 then 0 else R2 46 51)) 46 57 (R2 65 (z 6 c))))) : eW N B z G (rS G) := by
  have hP := hA.1.1
  have hQ := hA.1.2.2.2.2.2.2.2.2.2.2.2.2.2.2.2.2.2.1
  have c7 : C2 84 7 = 1 := hQ.2.2.2.2.2.2.2.2.2.1
  have c11 : C2 84 11 = nI c := by have := hQ.2.2.2.2.2.2.2.2.1; rw [hc] at this; exact this
  have c12 : C2 84 12 = 0 := hA.2.2.2.1
  by_cases ck : k = 29
  · subst ck
    rw [if_pos rfl, if_pos rfl] at hR
    obtain ⟨d2, d3, d4, d5, d6, d7⟩ := cd29 (G := mxw C2 R2) hP hmN h47 h13 he
    obtain ⟨x1, x2⟩ := hx rfl
    have s2 := i_rec (G := C2) (u := c) (p := e + 4) ⟨c7, c12, c11, hc6, h116, by omega, d4⟩
    have s3 := i_unh (G := gu (gu C2 116 c (nI (e + 4 + 1))) 84 16 (C2 122 c)) (u := c) (p := e + 5) ⟨c7, c12, c11, hc6, by rw [gu_oo _ (by decide), gu_kk], by omega, d5⟩
    have t1 := as_u (G' := mxw (gu (gu (gu (gu C2 116 c (nI (e + 4 + 1))) 84 16 (C2 122 c)) 116 c (nI (e + 5 + 1))) 84 14 0) (gu (gu R2 46 51 0) 46 57 (R2 65 (z 6 c)))) hA (agp_mx (agp_gu (fw84 (by decide)) (agp_gu (fw1 hc (by decide)) (agp_gu (fw84 (by decide)) (agp_gu (fw1 hc (by decide)) agp_rfl)))) (agp_gu (fw46 (by decide)) (agp_gu (fw46 (by decide)) agp_rfl))) rfl ⟨rfl, bz_0, (as_s hA).2.2.1, (as_s hA).2.2.2⟩
    refine ev_end (Gr := gu (gu R2 46 51 0) 46 57 (R2 65 (z 6 c))) (Gp := mxw (gu (gu (gu (gu C2 116 c (nI (e + 4 + 1))) 84 16 (C2 122 c)) 116 c (nI (e + 5 + 1))) 84 14 0) (gu (gu R2 46 51 0) 46 57 (R2 65 (z 6 c)))) (t := 3) (v := C2 122 c) clo_rS t1 hc hcn ⟨_, s1, _, s2, _, s3, eqc_rfl⟩ (by decide) ?_ eqc_mx eqr_mx ?_ ?_ ?_ ?_ (Or.inl x2) ⟨e + 6, d7, ?_, d6⟩
    · rw [x1, ← h65]; exact hR
    · refine kp_mx ?_ ?_
      · exact kp_gu (by unfold kpc; omega) (kp_gu (by unfold kpc; omega) (kp_gu (by unfold kpc; omega) (kp_gu (by unfold kpc; omega) hk1)))
      · exact kp_gu (by unfold kpc; omega) (kp_gu (by unfold kpc; omega) hk2)
    · show R2 65 (z 6 c) = _
      rw [h65]
    · exact h15
    · rw [mx_C rfl, gu_ko _ (by decide), gu_oo _ (by decide), gu_kk]
    · rw [mx_C rfl, gu_oo _ (by decide), gu_kk]
  · rw [if_neg ck, if_neg ck, gu_sf (G := R2) (k := 46) (j := 51) rfl] at hR
    have hk4 : k = 17 ∨ k = 18 ∨ k = 25 := by unfold kP at hkP; omega
    obtain ⟨q1, q2⟩ := pl4 (G := mxw C2 R2) hP hmN h47 h13 hk he hk4
    have t1 := as_u (G' := mxw C2 (gu R2 46 57 (R2 65 (z 6 c)))) hA (agp_mx agp_rfl (agp_gu (fw46 (by decide)) agp_rfl)) rfl (as_s hA :)
    refine ev_end (Gr := gu R2 46 57 (R2 65 (z 6 c))) (Gp := mxw C2 (gu R2 46 57 (R2 65 (z 6 c)))) (t := 1) (v := w) clo_rS t1 hc hcn (cT_1 s1) (by decide) ?_ eqc_mx eqr_mx (kp_mx hk1 (kp_gu (by unfold kpc; omega) hk2)) ?_ h15 h16 hw ⟨_, q2, h116, q1⟩
    · rw [← h65]; exact hR
    · show R2 65 (z 6 c) = _
      rw [h65]
theorem be_err {N B : Nat} {z : Zt} {G C2 R2 : Gt} {sp c k e : Nat} (hA : aST N B z (mxw C2 R2) (C2 31) sp 0) (hc : z 0 7 = c) (hcn : c < z 0 0) (hc6 : c < 601) (he : e < 1081) (h47 : R2 47 (z 1 c) = nI k) (h13 : C2 13 (z 1 c) = nI e) (hmN : z 1 c < N) (s1 : cS G C2) (h15 : C2 84 15 = 1) (h116 : C2 116 c = if k = 29 then nI (e + 5) else 0) (hk1 : kp G C2) (hk2 : kp G R2)
    (ho : oU z (mxw C2 R2) c c (C2 84 15) (C2 84 16) (C2 84 18) (C2 84 17) (R2 46 41) (R2 46 42) (R2 46 43) (R2 46 44) (R2 46 45) (R2 46 46)) (hR : rS G (gu (gu R2 46 51 (if k = 29 then 0 else R2 46 51)) 46 57 (R2 65 (z 6 c)))) : eW N B z G (rS G) := by
  have hP := hA.1.1
  have hQ := hA.1.2.2.2.2.2.2.2.2.2.2.2.2.2.2.2.2.2.1
  have c7 : C2 84 7 = 1 := hQ.2.2.2.2.2.2.2.2.2.1
  have c11 : C2 84 11 = nI c := by have := hQ.2.2.2.2.2.2.2.2.1; rw [hc] at this; exact this
  have c12 : C2 84 12 = 0 := hA.2.2.2.1
  have hf := fX_of hA.1.2.1 hA.1.2.2.2.1 hQ.2.2.2.2.1
  have hoo : ∀ (A R : Gt), (A 120 = C2 120) → (A 13 = C2 13) → (R 47 = R2 47) → (R 48 = R2 48) → (R 49 = R2 49) → (R 50 = R2 50) → (R 54 = R2 54) → (R 80 = R2 80) → oU z (mxw A R) c c (C2 84 15) (C2 84 16) (C2 84 18) (C2 84 17) (R2 46 41) (R2 46 42) (R2 46 43) (R2 46 44) (R2 46 45) (R2 46 46) := by
    intro A R a1 a2 a3 a4 a5 a6 a7 a8
    have hX : eX N z (mxw C2 R2) z (mxw A R) := by
      refine ⟨⟨Nat.le_refl _, Nat.le_refl _, Nat.le_refl _, Nat.le_refl _, Nat.le_refl _⟩, fun _ _ => ⟨rfl, rfl, rfl, rfl, rfl⟩, fun _ _ _ => rfl, fun q _ h0 => ⟨h0, ?_⟩, fun _ _ => rfl, fun m _ => ?_, fun q _ => ?_, fun l _ h => ?_⟩
      · show A 120 q = C2 120 q
        rw [a1]
      · show A 13 m = C2 13 m ∧ R 47 m = R2 47 m ∧ R 48 m = R2 48 m ∧ R 49 m = R2 49 m ∧ R 50 m = R2 50 m
        rw [a2, a3, a4, a5, a6]; exact ⟨rfl, rfl, rfl, rfl, rfl⟩
      · show R 80 q = R2 80 q
        rw [a8]
      · show ¬ R 54 l = -1
        rw [a7]; exact h
    refine oU_ext (c := c) (c' := c) hX hf hcn (fun _ => Or.inr ⟨rfl, ?_⟩) ho
    show A 120 c = C2 120 c
    rw [a1]
  by_cases ck : k = 29
  · subst ck
    rw [if_pos rfl] at hR h116
    obtain ⟨d2, d3, d4, d5, d6, d7⟩ := cd29 (G := mxw C2 R2) hP hmN h47 h13 he
    have s3 := i_unh (G := C2) (u := c) (p := e + 5) ⟨c7, c12, c11, hc6, h116, by omega, d5⟩
    have t1 := as_u (G' := mxw (gu (gu C2 116 c (nI (e + 5 + 1))) 84 14 0) (gu (gu R2 46 51 0) 46 57 (R2 65 (z 6 c)))) hA (agp_mx (agp_gu (fw84 (by decide)) (agp_gu (fw1 hc (by decide)) agp_rfl)) (agp_gu (fw46 (by decide)) (agp_gu (fw46 (by decide)) agp_rfl))) rfl ⟨rfl, bz_0, (as_s hA).2.2.1, (as_s hA).2.2.2⟩
    refine f_outA (p := e + 6) (t := 2) clo_rS t1 (fun _ _ => rfl) hc ⟨_, s1, _, s3, eqc_rfl⟩ (by decide) eqc_mx hR eqr_mx ?_ ?_ ⟨d6, d7⟩ rfl (hoo _ _ rfl rfl rfl rfl rfl rfl rfl rfl) (Or.inr h15)
    · refine kp_mx ?_ ?_
      · exact kp_gu (by unfold kpc; omega) (kp_gu (by unfold kpc; omega) hk1)
      · exact kp_gu (by unfold kpc; omega) (kp_gu (by unfold kpc; omega) hk2)
    · rw [mx_C rfl, gu_oo _ (by decide), gu_kk]
  · rw [if_neg ck, gu_sf (G := R2) (k := 46) (j := 51) rfl] at hR
    rw [if_neg ck] at h116
    have t1 := as_u (G' := mxw C2 (gu R2 46 57 (R2 65 (z 6 c)))) hA (agp_mx agp_rfl (agp_gu (fw46 (by decide)) agp_rfl)) rfl (as_s hA :)
    refine f_outA (p := 0) (t := 1) clo_rS t1 (fun _ _ => rfl) hc (cT_1 s1) (by decide) eqc_mx hR eqr_mx ?_ h116 ⟨hP.2.2.2.1, by omega⟩ rfl (hoo _ _ rfl rfl rfl rfl rfl rfl rfl rfl) (Or.inr h15)
    exact kp_mx hk1 (kp_gu (by unfold kpc; omega) hk2)
/-- an error that comes out of a body -/
theorem oU_bk {N : Nat} {z z' : Zt} {G G' : Gt} {i c : Nat} {c15 c16 c18 c17 r41 r42 r43 r44 r45 r46 : Int32} (hX : eX N z G z' G') (h1 : c15 = 1) (hn : z' 0 0 = z 0 0) (hi : z' 9 i = 0) (h120 : G' 120 i = G 120 i) (ho : oU z G i i c15 c16 c18 c17 r41 r42 r43 r44 r45 r46) : oU z' G' c c c15 c16 c18 c17 r41 r42 r43 r44 r45 r46 := by
  rcases ho with ⟨a1, _⟩ | ⟨a1, a2, a3, a4, a5, d, t, a6, a7, a8, a9, a10, a11⟩ | ⟨a1, _⟩ | ⟨a1, _⟩ | ⟨a1, _⟩
  · rw [h1] at a1; exact absurd a1 (by decide)
  · refine Or.inr (Or.inl ⟨a1, a2, a3, a4, a5, d, t, by omega, a7, by rw [(hX.2.1 d a6).1]; exact a8, a9, ?_, Or.inl ?_⟩)
    · have e : G' 120 d = G 120 d := by
        rcases a11 with q | q
        · exact (hX.2.2.2.1 d a6 q).2
        · rw [q]; exact h120
      rw [e]; exact cH_ext hX a10
    · rcases a11 with q | q
      · exact (hX.2.2.2.1 d a6 q).1
      · rw [q]; exact hi
  · rw [h1] at a1; exact absurd a1 (by decide)
  · rw [h1] at a1; exact absurd a1 (by decide)
  · rw [h1] at a1; exact absurd a1 (by decide)
theorem oU_01 {z : Zt} {G : Gt} {i c : Nat} {c15 c16 c18 c17 r41 r42 r43 r44 r45 r46 : Int32} (hb : ¬ z 2 i = 0) (h8 : z 8 i = i) (ho : oU z G i c c15 c16 c18 c17 r41 r42 r43 r44 r45 r46) : (c15 = 1 ∧ r41 = 2) ∨ (c15 = 0 ∧ r41 = 1 ∧ c16 = r42 ∧ vV z c16) ∨ (c15 = 4 ∧ r41 = 5 ∧ ((z 2 i = 3 ∧ c16 = r42 ∧ vV z c16) ∨ 4 ≤ z 2 i)) := by
  rcases ho with ⟨a1, a2, a3, a4⟩ | ⟨a1, a2, _⟩ | ⟨a1, a2, a3, a4, a5, _⟩ | ⟨a1, a2, a3, _⟩ | ⟨a1, a2, a3⟩
  · exact Or.inr (Or.inl ⟨a1, a2, a3, a4⟩)
  · exact Or.inl ⟨a1, a2⟩
  · exact absurd a5 hb
  · exact absurd a3 hb
  · rw [h8] at a3; exact Or.inr (Or.inr ⟨a1, a2, a3⟩)
/-- a function's body ends -/
theorem be_3 {N B : Nat} {z : Zt} {G : Gt} (h : eST N B z G) (hb3 : z 2 (z 0 7) = 3) (hc0 : ¬ z 4 (z 0 7) = 0) : ∃ z', mu z' + 10 ≤ mu z ∧ eW N B z' G (rS G) := by
  obtain ⟨sp, i, c, b, p, k, e, hi, h8, hc, hb, hb2, hb6, hA, hcat, h114, h110, hcn, hci, hn6, hin, hN, hP, h57, hF1, h64F, h67F, h65F, h68F, h6c, h64c, hmN, hk, he, h47, h13, hkP, h116, h118, hxV, hz9c, hd, hg, hsp, ho⟩ := be_pre h (by omega) hc0
  rw [hi, hb] at hb3
  subst hb3
  have e34 : (if (3 : Nat) = 2 then (3 : Nat) else 4) = 4 := rfl
  rw [e34] at hkP h116 h118 hxV hz9c
  obtain ⟨d, hd1, hd2, hd3⟩ := hd (by decide)
  have hh := oU_01 (by rw [hb]; decide) h8 ho
  have h014 : G 84 15 = 0 ∨ G 84 15 = 1 ∨ G 84 15 = 4 := by
    rcases hh with ⟨a, _⟩ | ⟨a, _⟩ | ⟨a, _⟩
    · exact Or.inr (Or.inl a)
    · exact Or.inl a
    · exact Or.inr (Or.inr a)
  have h41 : G 84 15 = 1 ↔ G 46 41 = 2 := by
    rcases hh with ⟨a1, a2⟩ | ⟨a1, a2, _⟩ | ⟨a1, a2, _⟩
    · exact ⟨fun _ => a2, fun _ => a1⟩
    · rw [a1, a2]; decide
    · rw [a1, a2]; decide
  have hs := as_s hA
  -- the reference
  have hR : ∀ H, (H = if G 46 41 = 2 then gu (oCb (z 6 c) d (gu G 46 51 (if k = 29 then 0 else G 46 51))) 46 57 (G 65 (z 6 c)) else oEn (if k = 29 then G 68 (z 6 c) else G 46 42) (G 65 (z 6 c)) (gu (oCb (z 6 c) d (gu G 46 51 (if k = 29 then 0 else G 46 51))) 46 57 (G 65 (z 6 c)))) → rS G H := fun H hH =>
    rS_bod (by rcases hh with ⟨_, a⟩ | ⟨_, a, _⟩ | ⟨_, a, _⟩ <;> rw [a] <;> decide) h57 hF1 h64F (fun C K hk' => r_b3 hF1 (h67F.trans rfl) h65F h6c h64c (by omega) h47 hk hs.2.1 hd3 hH hk')
  have hR := hR _ rfl
  rw [oCb_51] at hR
  -- the class
  have s1 := i_lvb (d := d) hcat h114 hb2 hb6 h110 (by omega) (fun q => by omega) (fun _ => hd2) (fun q => absurd q (by decide)) (fun _ => rfl) (fun _ => h014) (fun q => absurd q (by decide))
  have hA1 := as_u (G' := mxw (gu G 116 i (nI (p + 1))) G) hA (by rw [← mxw_gC rfl, mxw_self]; exact agw_gu (fw1 hi (by decide)) agw_rfl) rfl (as_s hA :)
  have hkc : kp G (gu (gu (gu (oEC c d (gu G 116 i (nI (p + 1)))) 84 11 (nI c)) 84 15 0) 84 11 (nI c)) := by
    unfold oEC
    repeat (refine kp_gu (by unfold kpc; omega) ?_)
    exact kp_rfl
  have hkr : kp G (oCb (z 6 c) d G) := by
    unfold oCb
    repeat (refine kp_gu (by unfold kpc; omega) ?_)
    exact kp_rfl
  have T := t_bk (G := mxw (gu G 116 i (nI (p + 1))) G) (G' := mxw (gu (oEC c d (gu G 116 i (nI (p + 1)))) 84 11 (nI c)) (oCb (z 6 c) d G)) (pi := 0) (b := 3) hA1.1 hA1.2.1 hA1.2.2.1 hi h8 hc hb (Or.inl ⟨rfl, rfl⟩) (agp_mx ?_ ?_) rfl (fun q => absurd q (by decide)) (fun _ => ⟨d, hd1, ?_, ?_, rfl, rfl⟩) (fun q => absurd q (by decide)) (fun q => absurd q (by decide)) (fun q => absurd q (by decide))
  · obtain ⟨T1, T2, T3, T4, T5, T6, T7⟩ := T
    rw [if_pos rfl] at T7
    refine ⟨zBk z 0, T7, ?_⟩
    have zc : (zBk z 0) 0 7 = c := by simp [zBk, hi, h8, hc]
    have zcc : (zBk z 0) 9 ((zBk z 0) 0 7) = 6 := by rw [zc]; simp [zBk, hi, h8, hc]
    have zi : (zBk z 0) 9 i = 0 := by
      have : ¬ i = c := fun q => hci q.symm
      simp [zBk, hi, h8, hc, this]
    have hA2 : aST N B (zBk z 0) (mxw (gu (oEC c d (gu G 116 i (nI (p + 1)))) 84 11 (nI c)) (oCb (z 6 c) d G)) (G 31) sp 0 := ⟨T1, hA.2.1, zcc, hA.2.2.2.1, hA.2.2.2.2⟩
    by_cases c1 : G 84 15 = 1
    · rw [if_pos c1] at s1
      rw [if_pos (h41.mp c1)] at hR
      have e1 : oLd c (gu (gu (oEC c d (gu G 116 i (nI (p + 1)))) 84 15 1) 84 11 (nI c)) = gu (gu (gu (gu (oEC c d (gu G 116 i (nI (p + 1)))) 84 11 (nI c)) 84 15 1) 116 c (G 118 c)) 118 c 0 := by
        rw [gu_comm (k := 84) (j := 15) (k' := 84) (j' := 11) (by decide)]; rfl
      rw [e1] at s1
      have hA3 := as_u (G' := mxw (gu (gu (gu (gu (oEC c d (gu G 116 i (nI (p + 1)))) 84 11 (nI c)) 84 15 1) 116 c (G 118 c)) 118 c 0) (oCb (z 6 c) d G)) hA2 (agp_mx (agp_gu (fw1 zc (by decide)) (agp_gu (fw1 zc (by decide)) (agp_gu (fw84 (by decide)) agp_rfl))) agp_rfl) rfl (as_s hA2 :)
      refine be_err (k := k) (e := e) hA3 zc (by exact hcn) (by omega) he h47 h13 hmN s1 rfl ?_ ?_ hkr ?_ hR
      · rw [gu_oo _ (by decide), gu_kk, h118]
        by_cases ck : k = 29
        · subst ck; rfl
        · rw [if_neg ck]
          have : lao k 4 = 0 := by unfold kP at hkP; unfold lao; rw [if_neg (by decide), if_neg (by decide), if_neg ck]
          rw [this]; rfl
      · unfold oEC
        repeat (refine kp_gu (by unfold kpc; omega) ?_)
        exact kp_rfl
      · have hX3 : eX N z G (zBk z 0) (mxw (gu (gu (gu (gu (oEC c d (gu G 116 i (nI (p + 1)))) 84 11 (nI c)) 84 15 1) 116 c (G 118 c)) 118 c 0) (oCb (z 6 c) d G)) := T2
        have := oU_bk (c := c) hX3 c1 rfl zi rfl ho
        rw [c1] at this
        exact this
    · rw [if_neg c1] at s1
      rw [if_neg (fun q => c1 (h41.mpr q))] at hR
      have hw : G 84 16 = G 46 42 ∧ vV z (G 84 16) := by
        rcases hh with ⟨a, _⟩ | ⟨_, _, a3, a4⟩ | ⟨_, _, a3⟩
        · exact absurd a c1
        · exact ⟨a3, a4⟩
        · rcases a3 with q | q
          · exact q.2
          · rw [hb] at q; exact absurd q (by decide)
      rw [gu_comm (k := 84) (j := 15) (k' := 84) (j' := 11) (by decide)] at s1
      have hA3 := as_u (G' := mxw (gu (gu (oEC c d (gu G 116 i (nI (p + 1)))) 84 11 (nI c)) 84 15 0) (oCb (z 6 c) d G)) hA2 (agp_mx (agp_gu (fw84 (by decide)) agp_rfl) agp_rfl) rfl (as_s hA2 :)
      have hsp1 : sp = 1 := by rcases hsp with q | q
                               · exact q
                               · exact absurd q c1
      rw [hsp1] at hA3
      refine be_val (k := k) (e := e) (w := G 84 16) hA3 zc (by exact hcn) (by omega) hk he hkP h47 h13 hmN s1 rfl rfl (vV_ext T2 hw.2) ?_ rfl (fun q => ?_) ?_ hkr ?_
      · rw [gu_oo _ (by decide), gu_oo _ (by decide)]
        unfold oEC
        rw [gu_oo _ (by decide), gu_oo _ (by decide), gu_ko _ hci]; exact h116
      · exact hxV.2.2.2.2.2.2.2.2 q (by decide)
      · unfold oEC
        repeat (refine kp_gu (by unfold kpc; omega) ?_)
        exact kp_rfl
      · rw [hw.1]; exact hR
  · unfold oEC
    exact agp_gu (Or.inl ⟨rfl, by decide⟩) (agp_gu (Or.inl ⟨rfl, by decide⟩) (agp_gu (Or.inl ⟨rfl, by decide⟩) agp_rfl))
  · unfold oCb
    exact agp_gu (Or.inr (Or.inl ⟨rfl, by decide⟩)) (agp_gu (Or.inr (Or.inl ⟨rfl, by decide⟩)) agp_rfl)
  · rfl
  · rfl
