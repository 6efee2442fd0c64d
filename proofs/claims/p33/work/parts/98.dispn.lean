def nH (G : Gt) (f m k : Nat) : Prop := ¬ G 46 41 = 0 ∧ ¬ G 46 41 = 1 ∧ G 46 57 = nI f ∧ f < 1220 ∧ G 64 f = nI m ∧ m < 120 ∧ G 47 m = nI k
theorem hX_2 {G : Gt} {f m : Nat} (hv : nH G f m 2) : rS G (gu G 46 57 (G 65 f)) := by
  obtain ⟨h0, h41, h57, hf, h64, hm, h47⟩ := hv
  refine rS_non h0 h41 h57 hf h64 (by omega) (fun C K hk => ?_)
  have efl : (nI f).toNatClampNeg = f := nI_clamp (by omega)
  have ecl : (nI m).toNatClampNeg = m := nI_clamp (by omega)
  unfold w_X11_hasNone
  rw [efl, show (mxw C G) 64 f = nI m from h64, ecl]
  refine ⟨vp_n hf (by decide), vp_n hf (by decide), ptr rfl ?_⟩
  rw [show (mxw C (gu G 46 57 ((mxw C G) 65 f))) 47 m = nI 2 from h47]
  refine ⟨vp_n hm (by decide), pif_n (by decide) (pif_n (by decide) (pif_n (by decide) (pif_n (by decide) (pif_n (by decide) (?_)))))⟩
  exact hk
theorem hX_3 {G : Gt} {f m : Nat} (hv : nH G f m 3) : rS G (gu G 46 57 (G 65 f)) := by
  obtain ⟨h0, h41, h57, hf, h64, hm, h47⟩ := hv
  refine rS_non h0 h41 h57 hf h64 (by omega) (fun C K hk => ?_)
  have efl : (nI f).toNatClampNeg = f := nI_clamp (by omega)
  have ecl : (nI m).toNatClampNeg = m := nI_clamp (by omega)
  unfold w_X11_hasNone
  rw [efl, show (mxw C G) 64 f = nI m from h64, ecl]
  refine ⟨vp_n hf (by decide), vp_n hf (by decide), ptr rfl ?_⟩
  rw [show (mxw C (gu G 46 57 ((mxw C G) 65 f))) 47 m = nI 3 from h47]
  refine ⟨vp_n hm (by decide), pif_n (by decide) (pif_n (by decide) (pif_n (by decide) (pif_n (by decide) (pif_n (by decide) (?_)))))⟩
  exact hk
theorem hX_4 {G : Gt} {f m : Nat} (hv : nH G f m 4) : rS G (gu G 46 57 (G 65 f)) := by
  obtain ⟨h0, h41, h57, hf, h64, hm, h47⟩ := hv
  refine rS_non h0 h41 h57 hf h64 (by omega) (fun C K hk => ?_)
  have efl : (nI f).toNatClampNeg = f := nI_clamp (by omega)
  have ecl : (nI m).toNatClampNeg = m := nI_clamp (by omega)
  unfold w_X11_hasNone
  rw [efl, show (mxw C G) 64 f = nI m from h64, ecl]
  refine ⟨vp_n hf (by decide), vp_n hf (by decide), ptr rfl ?_⟩
  rw [show (mxw C (gu G 46 57 ((mxw C G) 65 f))) 47 m = nI 4 from h47]
  refine ⟨vp_n hm (by decide), pif_n (by decide) (pif_n (by decide) (pif_n (by decide) (pif_n (by decide) (pif_n (by decide) (?_)))))⟩
  exact hk
theorem hX_5 {G : Gt} {f m : Nat} (hv : nH G f m 5) : rS G (gu G 46 57 (G 65 f)) := by
  obtain ⟨h0, h41, h57, hf, h64, hm, h47⟩ := hv
  refine rS_non h0 h41 h57 hf h64 (by omega) (fun C K hk => ?_)
  have efl : (nI f).toNatClampNeg = f := nI_clamp (by omega)
  have ecl : (nI m).toNatClampNeg = m := nI_clamp (by omega)
  unfold w_X11_hasNone
  rw [efl, show (mxw C G) 64 f = nI m from h64, ecl]
  refine ⟨vp_n hf (by decide), vp_n hf (by decide), ptr rfl ?_⟩
  rw [show (mxw C (gu G 46 57 ((mxw C G) 65 f))) 47 m = nI 5 from h47]
  refine ⟨vp_n hm (by decide), pif_n (by decide) (pif_n (by decide) (pif_n (by decide) (pif_n (by decide) (pif_n (by decide) (?_)))))⟩
  exact hk
theorem hX_6 {G : Gt} {f m : Nat} (hv : nH G f m 6) : rS G (gu G 46 57 (G 65 f)) := by
  obtain ⟨h0, h41, h57, hf, h64, hm, h47⟩ := hv
  refine rS_non h0 h41 h57 hf h64 (by omega) (fun C K hk => ?_)
  have efl : (nI f).toNatClampNeg = f := nI_clamp (by omega)
  have ecl : (nI m).toNatClampNeg = m := nI_clamp (by omega)
  unfold w_X11_hasNone
  rw [efl, show (mxw C G) 64 f = nI m from h64, ecl]
  refine ⟨vp_n hf (by decide), vp_n hf (by decide), ptr rfl ?_⟩
  rw [show (mxw C (gu G 46 57 ((mxw C G) 65 f))) 47 m = nI 6 from h47]
  refine ⟨vp_n hm (by decide), pif_n (by decide) (pif_n (by decide) (pif_n (by decide) (pif_n (by decide) (pif_n (by decide) (?_)))))⟩
  exact hk
theorem hX_7 {G : Gt} {f m : Nat} (hv : nH G f m 7) : rS G (gu G 46 57 (G 65 f)) := by
  obtain ⟨h0, h41, h57, hf, h64, hm, h47⟩ := hv
  refine rS_non h0 h41 h57 hf h64 (by omega) (fun C K hk => ?_)
  have efl : (nI f).toNatClampNeg = f := nI_clamp (by omega)
  have ecl : (nI m).toNatClampNeg = m := nI_clamp (by omega)
  unfold w_X11_hasNone
  rw [efl, show (mxw C G) 64 f = nI m from h64, ecl]
  refine ⟨vp_n hf (by decide), vp_n hf (by decide), ptr rfl ?_⟩
  rw [show (mxw C (gu G 46 57 ((mxw C G) 65 f))) 47 m = nI 7 from h47]
  refine ⟨vp_n hm (by decide), pif_n (by decide) (pif_n (by decide) (pif_n (by decide) (pif_n (by decide) (pif_n (by decide) (?_)))))⟩
  exact hk
theorem hX_8 {G : Gt} {f m : Nat} (hv : nH G f m 8) : rS G (gu G 46 57 (G 65 f)) := by
  obtain ⟨h0, h41, h57, hf, h64, hm, h47⟩ := hv
  refine rS_non h0 h41 h57 hf h64 (by omega) (fun C K hk => ?_)
  have efl : (nI f).toNatClampNeg = f := nI_clamp (by omega)
  have ecl : (nI m).toNatClampNeg = m := nI_clamp (by omega)
  unfold w_X11_hasNone
  rw [efl, show (mxw C G) 64 f = nI m from h64, ecl]
  refine ⟨vp_n hf (by decide), vp_n hf (by decide), ptr rfl ?_⟩
  rw [show (mxw C (gu G 46 57 ((mxw C G) 65 f))) 47 m = nI 8 from h47]
  refine ⟨vp_n hm (by decide), pif_n (by decide) (pif_n (by decide) (pif_n (by decide) (pif_n (by decide) (pif_n (by decide) (?_)))))⟩
  exact hk
theorem hX_9 {G : Gt} {f m : Nat} (hv : nH G f m 9) : rS G (gu G 46 57 (G 65 f)) := by
  obtain ⟨h0, h41, h57, hf, h64, hm, h47⟩ := hv
  refine rS_non h0 h41 h57 hf h64 (by omega) (fun C K hk => ?_)
  have efl : (nI f).toNatClampNeg = f := nI_clamp (by omega)
  have ecl : (nI m).toNatClampNeg = m := nI_clamp (by omega)
  unfold w_X11_hasNone
  rw [efl, show (mxw C G) 64 f = nI m from h64, ecl]
  refine ⟨vp_n hf (by decide), vp_n hf (by decide), ptr rfl ?_⟩
  rw [show (mxw C (gu G 46 57 ((mxw C G) 65 f))) 47 m = nI 9 from h47]
  refine ⟨vp_n hm (by decide), pif_n (by decide) (pif_n (by decide) (pif_n (by decide) (pif_n (by decide) (pif_n (by decide) (?_)))))⟩
  exact hk
theorem hX_10 {G : Gt} {f m : Nat} (hv : nH G f m 10) : rS G (gu G 46 57 (G 65 f)) := by
  obtain ⟨h0, h41, h57, hf, h64, hm, h47⟩ := hv
  refine rS_non h0 h41 h57 hf h64 (by omega) (fun C K hk => ?_)
  have efl : (nI f).toNatClampNeg = f := nI_clamp (by omega)
  have ecl : (nI m).toNatClampNeg = m := nI_clamp (by omega)
  unfold w_X11_hasNone
  rw [efl, show (mxw C G) 64 f = nI m from h64, ecl]
  refine ⟨vp_n hf (by decide), vp_n hf (by decide), ptr rfl ?_⟩
  rw [show (mxw C (gu G 46 57 ((mxw C G) 65 f))) 47 m = nI 10 from h47]
  refine ⟨vp_n hm (by decide), pif_n (by decide) (pif_n (by decide) (pif_n (by decide) (pif_n (by decide) (pif_n (by decide) (?_)))))⟩
  exact hk
theorem hX_11 {G : Gt} {f m : Nat} (hv : nH G f m 11) : rS G (gu G 46 57 (G 65 f)) := by
  obtain ⟨h0, h41, h57, hf, h64, hm, h47⟩ := hv
  refine rS_non h0 h41 h57 hf h64 (by omega) (fun C K hk => ?_)
  have efl : (nI f).toNatClampNeg = f := nI_clamp (by omega)
  have ecl : (nI m).toNatClampNeg = m := nI_clamp (by omega)
  unfold w_X11_hasNone
  rw [efl, show (mxw C G) 64 f = nI m from h64, ecl]
  refine ⟨vp_n hf (by decide), vp_n hf (by decide), ptr rfl ?_⟩
  rw [show (mxw C (gu G 46 57 ((mxw C G) 65 f))) 47 m = nI 11 from h47]
  refine ⟨vp_n hm (by decide), pif_n (by decide) (pif_n (by decide) (pif_n (by decide) (pif_n (by decide) (pif_n (by decide) (?_)))))⟩
  exact hk
theorem hX_12 {G : Gt} {f m : Nat} (hv : nH G f m 12) : rS G (gu G 46 57 (G 65 f)) := by
  obtain ⟨h0, h41, h57, hf, h64, hm, h47⟩ := hv
  refine rS_non h0 h41 h57 hf h64 (by omega) (fun C K hk => ?_)
  have efl : (nI f).toNatClampNeg = f := nI_clamp (by omega)
  have ecl : (nI m).toNatClampNeg = m := nI_clamp (by omega)
  unfold w_X11_hasNone
  rw [efl, show (mxw C G) 64 f = nI m from h64, ecl]
  refine ⟨vp_n hf (by decide), vp_n hf (by decide), ptr rfl ?_⟩
  rw [show (mxw C (gu G 46 57 ((mxw C G) 65 f))) 47 m = nI 12 from h47]
  refine ⟨vp_n hm (by decide), pif_n (by decide) (pif_n (by decide) (pif_n (by decide) (pif_n (by decide) (pif_n (by decide) (?_)))))⟩
  exact hk
theorem hX_14 {G : Gt} {f m : Nat} (hv : nH G f m 14) : rS G (gu G 46 57 (G 65 f)) := by
  obtain ⟨h0, h41, h57, hf, h64, hm, h47⟩ := hv
  refine rS_non h0 h41 h57 hf h64 (by omega) (fun C K hk => ?_)
  have efl : (nI f).toNatClampNeg = f := nI_clamp (by omega)
  have ecl : (nI m).toNatClampNeg = m := nI_clamp (by omega)
  unfold w_X11_hasNone
  rw [efl, show (mxw C G) 64 f = nI m from h64, ecl]
  refine ⟨vp_n hf (by decide), vp_n hf (by decide), ptr rfl ?_⟩
  rw [show (mxw C (gu G 46 57 ((mxw C G) 65 f))) 47 m = nI 14 from h47]
  refine ⟨vp_n hm (by decide), pif_n (by decide) (pif_n (by decide) (pif_n (by decide) (pif_n (by decide) (pif_n (by decide) (?_)))))⟩
  exact hk
theorem hX_17 {G : Gt} {f m : Nat} (hv : nH G f m 17) : rS G (gu G 46 57 (G 65 f)) := by
  obtain ⟨h0, h41, h57, hf, h64, hm, h47⟩ := hv
  refine rS_non h0 h41 h57 hf h64 (by omega) (fun C K hk => ?_)
  have efl : (nI f).toNatClampNeg = f := nI_clamp (by omega)
  have ecl : (nI m).toNatClampNeg = m := nI_clamp (by omega)
  unfold w_X11_hasNone
  rw [efl, show (mxw C G) 64 f = nI m from h64, ecl]
  refine ⟨vp_n hf (by decide), vp_n hf (by decide), ptr rfl ?_⟩
  rw [show (mxw C (gu G 46 57 ((mxw C G) 65 f))) 47 m = nI 17 from h47]
  refine ⟨vp_n hm (by decide), pif_n (by decide) (pif_n (by decide) (pif_n (by decide) (pif_n (by decide) (pif_n (by decide) (?_)))))⟩
  exact hk
theorem hX_18 {G : Gt} {f m : Nat} (hv : nH G f m 18) : rS G (gu G 46 57 (G 65 f)) := by
  obtain ⟨h0, h41, h57, hf, h64, hm, h47⟩ := hv
  refine rS_non h0 h41 h57 hf h64 (by omega) (fun C K hk => ?_)
  have efl : (nI f).toNatClampNeg = f := nI_clamp (by omega)
  have ecl : (nI m).toNatClampNeg = m := nI_clamp (by omega)
  unfold w_X11_hasNone
  rw [efl, show (mxw C G) 64 f = nI m from h64, ecl]
  refine ⟨vp_n hf (by decide), vp_n hf (by decide), ptr rfl ?_⟩
  rw [show (mxw C (gu G 46 57 ((mxw C G) 65 f))) 47 m = nI 18 from h47]
  refine ⟨vp_n hm (by decide), pif_n (by decide) (pif_n (by decide) (pif_n (by decide) (pif_n (by decide) (pif_n (by decide) (?_)))))⟩
  exact hk
theorem hX_19 {G : Gt} {f m : Nat} (hv : nH G f m 19) : rS G (gu G 46 57 (G 65 f)) := by
  obtain ⟨h0, h41, h57, hf, h64, hm, h47⟩ := hv
  refine rS_non h0 h41 h57 hf h64 (by omega) (fun C K hk => ?_)
  have efl : (nI f).toNatClampNeg = f := nI_clamp (by omega)
  have ecl : (nI m).toNatClampNeg = m := nI_clamp (by omega)
  unfold w_X11_hasNone
  rw [efl, show (mxw C G) 64 f = nI m from h64, ecl]
  refine ⟨vp_n hf (by decide), vp_n hf (by decide), ptr rfl ?_⟩
  rw [show (mxw C (gu G 46 57 ((mxw C G) 65 f))) 47 m = nI 19 from h47]
  refine ⟨vp_n hm (by decide), pif_n (by decide) (pif_n (by decide) (pif_n (by decide) (pif_n (by decide) (pif_n (by decide) (?_)))))⟩
  exact hk
theorem hX_22 {G : Gt} {f m : Nat} (hv : nH G f m 22) : rS G (gu G 46 57 (G 65 f)) := by
  obtain ⟨h0, h41, h57, hf, h64, hm, h47⟩ := hv
  refine rS_non h0 h41 h57 hf h64 (by omega) (fun C K hk => ?_)
  have efl : (nI f).toNatClampNeg = f := nI_clamp (by omega)
  have ecl : (nI m).toNatClampNeg = m := nI_clamp (by omega)
  unfold w_X11_hasNone
  rw [efl, show (mxw C G) 64 f = nI m from h64, ecl]
  refine ⟨vp_n hf (by decide), vp_n hf (by decide), ptr rfl ?_⟩
  rw [show (mxw C (gu G 46 57 ((mxw C G) 65 f))) 47 m = nI 22 from h47]
  refine ⟨vp_n hm (by decide), pif_n (by decide) (pif_n (by decide) (pif_n (by decide) (pif_n (by decide) (pif_n (by decide) (?_)))))⟩
  exact hk
theorem hX_24 {G : Gt} {f m : Nat} (hv : nH G f m 24) : rS G (gu G 46 57 (G 65 f)) := by
  obtain ⟨h0, h41, h57, hf, h64, hm, h47⟩ := hv
  refine rS_non h0 h41 h57 hf h64 (by omega) (fun C K hk => ?_)
  have efl : (nI f).toNatClampNeg = f := nI_clamp (by omega)
  have ecl : (nI m).toNatClampNeg = m := nI_clamp (by omega)
  unfold w_X11_hasNone
  rw [efl, show (mxw C G) 64 f = nI m from h64, ecl]
  refine ⟨vp_n hf (by decide), vp_n hf (by decide), ptr rfl ?_⟩
  rw [show (mxw C (gu G 46 57 ((mxw C G) 65 f))) 47 m = nI 24 from h47]
  refine ⟨vp_n hm (by decide), pif_n (by decide) (pif_n (by decide) (pif_n (by decide) (pif_n (by decide) (pif_n (by decide) (?_)))))⟩
  exact hk
theorem hX_25 {G : Gt} {f m : Nat} (hv : nH G f m 25) : rS G (gu G 46 57 (G 65 f)) := by
  obtain ⟨h0, h41, h57, hf, h64, hm, h47⟩ := hv
  refine rS_non h0 h41 h57 hf h64 (by omega) (fun C K hk => ?_)
  have efl : (nI f).toNatClampNeg = f := nI_clamp (by omega)
  have ecl : (nI m).toNatClampNeg = m := nI_clamp (by omega)
  unfold w_X11_hasNone
  rw [efl, show (mxw C G) 64 f = nI m from h64, ecl]
  refine ⟨vp_n hf (by decide), vp_n hf (by decide), ptr rfl ?_⟩
  rw [show (mxw C (gu G 46 57 ((mxw C G) 65 f))) 47 m = nI 25 from h47]
  refine ⟨vp_n hm (by decide), pif_n (by decide) (pif_n (by decide) (pif_n (by decide) (pif_n (by decide) (pif_n (by decide) (?_)))))⟩
  exact hk
theorem hX_28 {G : Gt} {f m : Nat} (hv : nH G f m 28) : rS G (gu G 46 57 (G 65 f)) := by
  obtain ⟨h0, h41, h57, hf, h64, hm, h47⟩ := hv
  refine rS_non h0 h41 h57 hf h64 (by omega) (fun C K hk => ?_)
  have efl : (nI f).toNatClampNeg = f := nI_clamp (by omega)
  have ecl : (nI m).toNatClampNeg = m := nI_clamp (by omega)
  unfold w_X11_hasNone
  rw [efl, show (mxw C G) 64 f = nI m from h64, ecl]
  refine ⟨vp_n hf (by decide), vp_n hf (by decide), ptr rfl ?_⟩
  rw [show (mxw C (gu G 46 57 ((mxw C G) 65 f))) 47 m = nI 28 from h47]
  refine ⟨vp_n hm (by decide), pif_n (by decide) (pif_n (by decide) (pif_n (by decide) (pif_n (by decide) (pif_n (by decide) (?_)))))⟩
  exact hk
theorem hX_29 {G : Gt} {f m : Nat} (hv : nH G f m 29) : rS G (gu G 46 57 (G 65 f)) := by
  obtain ⟨h0, h41, h57, hf, h64, hm, h47⟩ := hv
  refine rS_non h0 h41 h57 hf h64 (by omega) (fun C K hk => ?_)
  have efl : (nI f).toNatClampNeg = f := nI_clamp (by omega)
  have ecl : (nI m).toNatClampNeg = m := nI_clamp (by omega)
  unfold w_X11_hasNone
  rw [efl, show (mxw C G) 64 f = nI m from h64, ecl]
  refine ⟨vp_n hf (by decide), vp_n hf (by decide), ptr rfl ?_⟩
  rw [show (mxw C (gu G 46 57 ((mxw C G) 65 f))) 47 m = nI 29 from h47]
  refine ⟨vp_n hm (by decide), pif_n (by decide) (pif_n (by decide) (pif_n (by decide) (pif_n (by decide) (pif_n (by decide) (?_)))))⟩
  exact hk
theorem hX_31 {G : Gt} {f m : Nat} (hv : nH G f m 31) : rS G (gu G 46 57 (G 65 f)) := by
  obtain ⟨h0, h41, h57, hf, h64, hm, h47⟩ := hv
  refine rS_non h0 h41 h57 hf h64 (by omega) (fun C K hk => ?_)
  have efl : (nI f).toNatClampNeg = f := nI_clamp (by omega)
  have ecl : (nI m).toNatClampNeg = m := nI_clamp (by omega)
  unfold w_X11_hasNone
  rw [efl, show (mxw C G) 64 f = nI m from h64, ecl]
  refine ⟨vp_n hf (by decide), vp_n hf (by decide), ptr rfl ?_⟩
  rw [show (mxw C (gu G 46 57 ((mxw C G) 65 f))) 47 m = nI 31 from h47]
  refine ⟨vp_n hm (by decide), pif_n (by decide) (pif_n (by decide) (pif_n (by decide) (pif_n (by decide) (pif_n (by decide) (?_)))))⟩
  exact hk
theorem hX_35 {G : Gt} {f m : Nat} (hv : nH G f m 35) : rS G (gu G 46 57 (G 65 f)) := by
  obtain ⟨h0, h41, h57, hf, h64, hm, h47⟩ := hv
  refine rS_non h0 h41 h57 hf h64 (by omega) (fun C K hk => ?_)
  have efl : (nI f).toNatClampNeg = f := nI_clamp (by omega)
  have ecl : (nI m).toNatClampNeg = m := nI_clamp (by omega)
  unfold w_X11_hasNone
  rw [efl, show (mxw C G) 64 f = nI m from h64, ecl]
  refine ⟨vp_n hf (by decide), vp_n hf (by decide), ptr rfl ?_⟩
  rw [show (mxw C (gu G 46 57 ((mxw C G) 65 f))) 47 m = nI 35 from h47]
  refine ⟨vp_n hm (by decide), pif_n (by decide) (pif_n (by decide) (pif_n (by decide) (pif_n (by decide) (pif_n (by decide) (?_)))))⟩
  exact hk
theorem hX_37 {G : Gt} {f m : Nat} (hv : nH G f m 37) : rS G (gu G 46 57 (G 65 f)) := by
  obtain ⟨h0, h41, h57, hf, h64, hm, h47⟩ := hv
  refine rS_non h0 h41 h57 hf h64 (by omega) (fun C K hk => ?_)
  have efl : (nI f).toNatClampNeg = f := nI_clamp (by omega)
  have ecl : (nI m).toNatClampNeg = m := nI_clamp (by omega)
  unfold w_X11_hasNone
  rw [efl, show (mxw C G) 64 f = nI m from h64, ecl]
  refine ⟨vp_n hf (by decide), vp_n hf (by decide), ptr rfl ?_⟩
  rw [show (mxw C (gu G 46 57 ((mxw C G) 65 f))) 47 m = nI 37 from h47]
  refine ⟨vp_n hm (by decide), pif_n (by decide) (pif_n (by decide) (pif_n (by decide) (pif_n (by decide) (pif_n (by decide) (?_)))))⟩
  exact hk
theorem hX_13_v {G : Gt} {f m : Nat} (hv : nH G f m 13) (h1 : G 46 41 = 3) (h2 : G 46 43 = G 48 m) : rS G (oEn (G 46 42) (G 65 f) (gu G 46 57 (G 65 f))) := by
  obtain ⟨h0, h41, h57, hf, h64, hm, h47⟩ := hv
  refine rS_non h0 h41 h57 hf h64 (by omega) (fun C K hk => ?_)
  have efl : (nI f).toNatClampNeg = f := nI_clamp (by omega)
  have ecl : (nI m).toNatClampNeg = m := nI_clamp (by omega)
  unfold w_X11_hasNone
  rw [efl, show (mxw C G) 64 f = nI m from h64, ecl]
  refine ⟨vp_n hf (by decide), vp_n hf (by decide), ptr rfl ?_⟩
  rw [show (mxw C (gu G 46 57 ((mxw C G) 65 f))) 47 m = nI 13 from h47]
  refine ⟨vp_n hm (by decide), pif_p (by decide) (?_)⟩
  exact pif_p h1 ⟨vp_n hm (by decide), pif_p h2 (r_ends hf hk)⟩
theorem hX_13_o {G : Gt} {f m : Nat} (hv : nH G f m 13) {s : Nat} (hs : G 46 29 = nI s) (hs2 : s < 620) (h1 : G 46 41 = 4) (h2 : G 46 43 = G 48 m) : rS G (oAk (G 49 m) (nI f) (nI s) (oOr s (G 66 f) (gu G 46 57 (G 65 f)))) := by
  obtain ⟨h0, h41, h57, hf, h64, hm, h47⟩ := hv
  refine rS_non h0 h41 h57 hf h64 (by omega) (fun C K hk => ?_)
  have efl : (nI f).toNatClampNeg = f := nI_clamp (by omega)
  have ecl : (nI m).toNatClampNeg = m := nI_clamp (by omega)
  unfold w_X11_hasNone
  rw [efl, show (mxw C G) 64 f = nI m from h64, ecl]
  refine ⟨vp_n hf (by decide), vp_n hf (by decide), ptr rfl ?_⟩
  rw [show (mxw C (gu G 46 57 ((mxw C G) 65 f))) 47 m = nI 13 from h47]
  refine ⟨vp_n hm (by decide), pif_p (by decide) (?_)⟩
  refine pif_n (show ¬ G 46 41 = 3 by rw [h1]; decide) ?_
  unfold w_X11_hasNone_j105
  rw [efl, ecl]
  exact pif_p h1 ⟨vp_n hm (by decide), pif_p h2 ⟨vp_n hm (by decide), vp_n hf (by decide), r_opens (G := gu G 46 57 (G 65 f)) hs hs2 (r_asks hk)⟩⟩
theorem hX_13_p {G : Gt} {f m : Nat} (hv : nH G f m 13) (h1 : ¬ (G 46 41 = 3 ∧ G 46 43 = G 48 m)) (h2 : ¬ (G 46 41 = 4 ∧ G 46 43 = G 48 m)) : rS G (gu G 46 57 (G 65 f)) := by
  obtain ⟨h0, h41, h57, hf, h64, hm, h47⟩ := hv
  refine rS_non h0 h41 h57 hf h64 (by omega) (fun C K hk => ?_)
  have efl : (nI f).toNatClampNeg = f := nI_clamp (by omega)
  have ecl : (nI m).toNatClampNeg = m := nI_clamp (by omega)
  unfold w_X11_hasNone
  rw [efl, show (mxw C G) 64 f = nI m from h64, ecl]
  refine ⟨vp_n hf (by decide), vp_n hf (by decide), ptr rfl ?_⟩
  rw [show (mxw C (gu G 46 57 ((mxw C G) 65 f))) 47 m = nI 13 from h47]
  refine ⟨vp_n hm (by decide), pif_p (by decide) (?_)⟩
  have hj : w_X11_hasNone_j105 K (nI f) (nI m) (mxw C (gu G 46 57 ((mxw C G) 65 f))) := by
    unfold w_X11_hasNone_j105
    rw [efl, ecl]
    by_cases c : G 46 41 = 4
    · exact pif_p c ⟨vp_n hm (by decide), pif_n (fun e => h2 ⟨c, e⟩) hk⟩
    · exact pif_n c hk
  by_cases c : G 46 41 = 3
  · exact pif_p c ⟨vp_n hm (by decide), pif_n (fun e => h1 ⟨c, e⟩) hj⟩
  · exact pif_n c hj
theorem hX_20_c {G : Gt} {f m : Nat} (hv : nH G f m 20) {s j : Nat} (hs : G 46 29 = nI s) (hs2 : s < 620) (hj : G 48 m = nI j) (hj2 : j < 8) (h1 : G 46 41 = 2) (h67 : G 67 f = 0) : rS G (oAk (G 50 m) (nI f) (nI s) (gu (gu (oOr s (G 66 f) (gu G 46 57 (G 65 f))) 72 (8 * s + j) (G 46 42)) 67 f 1)) := by
  obtain ⟨h0, h41, h57, hf, h64, hm, h47⟩ := hv
  refine rS_non h0 h41 h57 hf h64 (by omega) (fun C K hk => ?_)
  have efl : (nI f).toNatClampNeg = f := nI_clamp (by omega)
  have ecl : (nI m).toNatClampNeg = m := nI_clamp (by omega)
  unfold w_X11_hasNone
  rw [efl, show (mxw C G) 64 f = nI m from h64, ecl]
  refine ⟨vp_n hf (by decide), vp_n hf (by decide), ptr rfl ?_⟩
  rw [show (mxw C (gu G 46 57 ((mxw C G) 65 f))) 47 m = nI 20 from h47]
  refine ⟨vp_n hm (by decide), pif_n (by decide) (pif_p (by decide) (?_))⟩
  refine pif_p h1 ⟨vp_n hf (by decide), pif_p h67 ⟨vp_n hf (by decide), r_opens (G := gu G 46 57 (G 65 f)) hs hs2 ?_⟩⟩
  have e1 : (8 : Int32) * nI s + (mxw C (oOr s ((mxw C (gu G 46 57 ((mxw C G) 65 f))) 66 f) (gu G 46 57 (G 65 f)))) 48 m = nI (8 * s + j) := by
    show (8 : Int32) * nI s + G 48 m = _
    rw [hj, show (8 : Int32) = nI 8 from rfl, nI_mulx, nI_add]
  rw [e1, nI_clamp (show 8 * s + j < 2 ^ 31 by omega)]
  exact ⟨vp_n hm (by decide), vp_n (by omega) (by decide), ptr rfl ⟨vp_n hf (by decide), ptr rfl ⟨vp_n hm (by decide), r_asks hk⟩⟩⟩
theorem hX_20_p {G : Gt} {f m : Nat} (hv : nH G f m 20) (h1 : ¬ (G 46 41 = 2 ∧ G 67 f = 0)) : rS G (gu G 46 57 (G 65 f)) := by
  obtain ⟨h0, h41, h57, hf, h64, hm, h47⟩ := hv
  refine rS_non h0 h41 h57 hf h64 (by omega) (fun C K hk => ?_)
  have efl : (nI f).toNatClampNeg = f := nI_clamp (by omega)
  have ecl : (nI m).toNatClampNeg = m := nI_clamp (by omega)
  unfold w_X11_hasNone
  rw [efl, show (mxw C G) 64 f = nI m from h64, ecl]
  refine ⟨vp_n hf (by decide), vp_n hf (by decide), ptr rfl ?_⟩
  rw [show (mxw C (gu G 46 57 ((mxw C G) 65 f))) 47 m = nI 20 from h47]
  refine ⟨vp_n hm (by decide), pif_n (by decide) (pif_p (by decide) (?_))⟩
  by_cases c : G 46 41 = 2
  · exact pif_p c ⟨vp_n hf (by decide), pif_n (fun e => h1 ⟨c, e⟩) hk⟩
  · exact pif_n c hk
theorem hX_21_0 {G H : Gt} {f m : Nat} (hv : nH G f m 21) (h67 : G 67 f = 0) (h : ∀ (C : Gt) (K : Gt → Prop), K (mxw C H) → w_X11_waits K (nI f) (nI m) (mxw C (gu G 46 57 (G 65 f)))) : rS G (H) := by
  obtain ⟨h0, h41, h57, hf, h64, hm, h47⟩ := hv
  refine rS_non h0 h41 h57 hf h64 (by omega) (fun C K hk => ?_)
  have efl : (nI f).toNatClampNeg = f := nI_clamp (by omega)
  have ecl : (nI m).toNatClampNeg = m := nI_clamp (by omega)
  unfold w_X11_hasNone
  rw [efl, show (mxw C G) 64 f = nI m from h64, ecl]
  refine ⟨vp_n hf (by decide), vp_n hf (by decide), ptr rfl ?_⟩
  rw [show (mxw C (gu G 46 57 ((mxw C G) 65 f))) 47 m = nI 21 from h47]
  refine ⟨vp_n hm (by decide), pif_n (by decide) (pif_n (by decide) (pif_p (by decide) (?_)))⟩
  exact ⟨vp_n hf (by decide), pif_p h67 (h C _ hk)⟩
theorem hX_21_1 {G : Gt} {f m : Nat} (hv : nH G f m 21) (h67 : ¬ G 67 f = 0) {w : Nat} (hw : G 68 f = nI w) (hw2 : w + 1 < 3660) (h1 : G 46 41 = 2) (h2 : G 80 w = 2) : rS G (gu (gu G 46 57 (G 65 f)) 46 44 (G 80 (w + 1))) := by
  obtain ⟨h0, h41, h57, hf, h64, hm, h47⟩ := hv
  refine rS_non h0 h41 h57 hf h64 (by omega) (fun C K hk => ?_)
  have efl : (nI f).toNatClampNeg = f := nI_clamp (by omega)
  have ecl : (nI m).toNatClampNeg = m := nI_clamp (by omega)
  unfold w_X11_hasNone
  rw [efl, show (mxw C G) 64 f = nI m from h64, ecl]
  refine ⟨vp_n hf (by decide), vp_n hf (by decide), ptr rfl ?_⟩
  rw [show (mxw C (gu G 46 57 ((mxw C G) 65 f))) 47 m = nI 21 from h47]
  refine ⟨vp_n hm (by decide), pif_n (by decide) (pif_n (by decide) (pif_p (by decide) (?_)))⟩
  refine ⟨vp_n hf (by decide), pif_n h67 (pif_p h1 ?_)⟩
  rw [show (mxw C (gu G 46 57 ((mxw C G) 65 f))) 68 f = nI w from hw, nI_1, nI_clamp (show w < 2 ^ 31 by omega), nI_clamp (show w + 1 < 2 ^ 31 by omega)]
  exact ⟨vp_n hf (by decide), vp_n (by omega) (by decide), pif_p h2 ⟨vp_n hf (by decide), vp_n (by omega) (by decide), ptr rfl hk⟩⟩
theorem hX_21_p {G : Gt} {f m : Nat} (hv : nH G f m 21) (h67 : ¬ G 67 f = 0) {w : Nat} (hw : G 68 f = nI w) (hw2 : w + 1 < 3660) (h1 : ¬ (G 46 41 = 2 ∧ G 80 w = 2)) : rS G (gu G 46 57 (G 65 f)) := by
  obtain ⟨h0, h41, h57, hf, h64, hm, h47⟩ := hv
  refine rS_non h0 h41 h57 hf h64 (by omega) (fun C K hk => ?_)
  have efl : (nI f).toNatClampNeg = f := nI_clamp (by omega)
  have ecl : (nI m).toNatClampNeg = m := nI_clamp (by omega)
  unfold w_X11_hasNone
  rw [efl, show (mxw C G) 64 f = nI m from h64, ecl]
  refine ⟨vp_n hf (by decide), vp_n hf (by decide), ptr rfl ?_⟩
  rw [show (mxw C (gu G 46 57 ((mxw C G) 65 f))) 47 m = nI 21 from h47]
  refine ⟨vp_n hm (by decide), pif_n (by decide) (pif_n (by decide) (pif_p (by decide) (?_)))⟩
  refine ⟨vp_n hf (by decide), pif_n h67 ?_⟩
  rw [show (mxw C (gu G 46 57 ((mxw C G) 65 f))) 68 f = nI w from hw, nI_clamp (show w < 2 ^ 31 by omega)]
  by_cases c : G 46 41 = 2
  · exact pif_p c ⟨vp_n hf (by decide), vp_n (by omega) (by decide), pif_n (fun e => h1 ⟨c, e⟩) hk⟩
  · exact pif_n c hk
theorem hX_26_0 {G : Gt} {f m : Nat} (hv : nH G f m 26) (h67 : ¬ G 67 f = 1) {o : Nat} (ho : G 48 m = nI o) (ho2 : o < 4) : rS G (gu (gu G 46 57 (G 65 f)) 56 o (G 56 o)) := by
  obtain ⟨h0, h41, h57, hf, h64, hm, h47⟩ := hv
  refine rS_non h0 h41 h57 hf h64 (by omega) (fun C K hk => ?_)
  have efl : (nI f).toNatClampNeg = f := nI_clamp (by omega)
  have ecl : (nI m).toNatClampNeg = m := nI_clamp (by omega)
  unfold w_X11_hasNone
  rw [efl, show (mxw C G) 64 f = nI m from h64, ecl]
  refine ⟨vp_n hf (by decide), vp_n hf (by decide), ptr rfl ?_⟩
  rw [show (mxw C (gu G 46 57 ((mxw C G) 65 f))) 47 m = nI 26 from h47]
  refine ⟨vp_n hm (by decide), pif_n (by decide) (pif_n (by decide) (pif_n (by decide) (pif_p (by decide) (?_))))⟩
  have eo : (nI o).toNatClampNeg = o := nI_clamp (by omega)
  rw [show (mxw C (gu G 46 57 ((mxw C G) 65 f))) 48 m = nI o from ho, eo]
  refine ⟨vp_n hm (by decide), vp_n hf (by decide), pif_n h67 ⟨vp_n hm (by decide), vp_n ho2 (by decide), ?_⟩⟩
  unfold w_X11_hasNone_j321
  rw [eo]
  exact ⟨vp_n ho2 (by decide), ptr rfl hk⟩
theorem hX_26_1 {G : Gt} {f m : Nat} (hv : nH G f m 26) (h67 : G 67 f = 1) {o : Nat} (ho : G 48 m = nI o) (ho2 : o < 4) : rS G (gu (gu G 46 57 (G 65 f)) 56 o (G 68 f)) := by
  obtain ⟨h0, h41, h57, hf, h64, hm, h47⟩ := hv
  refine rS_non h0 h41 h57 hf h64 (by omega) (fun C K hk => ?_)
  have efl : (nI f).toNatClampNeg = f := nI_clamp (by omega)
  have ecl : (nI m).toNatClampNeg = m := nI_clamp (by omega)
  unfold w_X11_hasNone
  rw [efl, show (mxw C G) 64 f = nI m from h64, ecl]
  refine ⟨vp_n hf (by decide), vp_n hf (by decide), ptr rfl ?_⟩
  rw [show (mxw C (gu G 46 57 ((mxw C G) 65 f))) 47 m = nI 26 from h47]
  refine ⟨vp_n hm (by decide), pif_n (by decide) (pif_n (by decide) (pif_n (by decide) (pif_p (by decide) (?_))))⟩
  have eo : (nI o).toNatClampNeg = o := nI_clamp (by omega)
  rw [show (mxw C (gu G 46 57 ((mxw C G) 65 f))) 48 m = nI o from ho, eo]
  refine ⟨vp_n hm (by decide), vp_n hf (by decide), pif_p h67 ⟨vp_n hf (by decide), ?_⟩⟩
  unfold w_X11_hasNone_j321
  rw [eo]
  exact ⟨vp_n ho2 (by decide), ptr rfl hk⟩
theorem hX_36 {G H : Gt} {f m : Nat} (hv : nH G f m 36) (h : ∀ (C : Gt) (K : Gt → Prop), K (mxw C H) → w_X11_setsBack K (nI f) (mxw C (gu G 46 57 (G 65 f)))) : rS G (H) := by
  obtain ⟨h0, h41, h57, hf, h64, hm, h47⟩ := hv
  refine rS_non h0 h41 h57 hf h64 (by omega) (fun C K hk => ?_)
  have efl : (nI f).toNatClampNeg = f := nI_clamp (by omega)
  have ecl : (nI m).toNatClampNeg = m := nI_clamp (by omega)
  unfold w_X11_hasNone
  rw [efl, show (mxw C G) 64 f = nI m from h64, ecl]
  refine ⟨vp_n hf (by decide), vp_n hf (by decide), ptr rfl ?_⟩
  rw [show (mxw C (gu G 46 57 ((mxw C G) 65 f))) 47 m = nI 36 from h47]
  refine ⟨vp_n hm (by decide), pif_n (by decide) (pif_n (by decide) (pif_n (by decide) (pif_n (by decide) (pif_p (by decide) (?_)))))⟩
  exact h C _ hk
