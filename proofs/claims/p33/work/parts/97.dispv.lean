theorem hV_2 {G : Gt} {f m : Nat} (hv : vH G f m 2) {s j : Nat} (hs : G 66 f = nI s) (hj : G 48 m = nI j) (hs2 : s < 620) (hj2 : j < 8) : rS G (oEn (G 46 42) (G 65 f) (gu G 72 (8 * s + j) (G 46 42))) := by
  obtain ⟨h41, h57, hf, h64, hm, h47⟩ := hv
  refine rS_val h41 h57 hf h64 (by omega) (fun C K hk => ?_)
  have efl : (nI f).toNatClampNeg = f := nI_clamp (by omega)
  have ecl : (nI m).toNatClampNeg = m := nI_clamp (by omega)
  unfold w_X11_hasValue
  rw [efl, show (mxw C G) 64 f = nI m from h64, ecl, show (mxw C G) 47 m = nI 2 from h47]
  refine ⟨vp_n hf (by decide), vp_n hf (by decide), vp_n hm (by decide), pif_p (by decide) (?_)⟩
  have e1 : (8 : Int32) * (mxw C G) 66 f + (mxw C G) 48 m = nI (8 * s + j) := by
    show (8 : Int32) * G 66 f + G 48 m = _
    rw [hs, hj, show (8 : Int32) = nI 8 from rfl, nI_mulx, nI_add]
  rw [e1, nI_clamp (show 8 * s + j < 2 ^ 31 by omega)]
  exact ⟨vp_n hf (by decide), vp_n hm (by decide), vp_n (by omega) (by decide), ptr rfl (r_ends hf hk)⟩
theorem hV_3 {G H : Gt} {f m : Nat} (hv : vH G f m 3) (h : ∀ (C : Gt) (K : Gt → Prop), K (mxw C H) → w_X11_cellOf (fun v4 G3 => w_X11_puts K (nI f) v4 (G 46 42) G3) (G 66 f) (G 48 m) (mxw C G)) : rS G (H) := by
  obtain ⟨h41, h57, hf, h64, hm, h47⟩ := hv
  refine rS_val h41 h57 hf h64 (by omega) (fun C K hk => ?_)
  have efl : (nI f).toNatClampNeg = f := nI_clamp (by omega)
  have ecl : (nI m).toNatClampNeg = m := nI_clamp (by omega)
  unfold w_X11_hasValue
  rw [efl, show (mxw C G) 64 f = nI m from h64, ecl, show (mxw C G) 47 m = nI 3 from h47]
  refine ⟨vp_n hf (by decide), vp_n hf (by decide), vp_n hm (by decide), pif_n (by decide) (pif_p (by decide) (?_))⟩
  exact ⟨vp_n hf (by decide), vp_n hm (by decide), h C _ hk⟩
theorem hV_4_0 {G : Gt} {f m : Nat} (hv : vH G f m 4) (h67 : G 67 f = 0) : rS G (oAk (G 49 m) (nI f) (G 66 f) (gu (gu G 68 f (G 46 42)) 67 f 1)) := by
  obtain ⟨h41, h57, hf, h64, hm, h47⟩ := hv
  refine rS_val h41 h57 hf h64 (by omega) (fun C K hk => ?_)
  have efl : (nI f).toNatClampNeg = f := nI_clamp (by omega)
  have ecl : (nI m).toNatClampNeg = m := nI_clamp (by omega)
  unfold w_X11_hasValue
  rw [efl, show (mxw C G) 64 f = nI m from h64, ecl, show (mxw C G) 47 m = nI 4 from h47]
  refine ⟨vp_n hf (by decide), vp_n hf (by decide), vp_n hm (by decide), pif_n (by decide) (pif_n (by decide) (pif_p (by decide) (?_)))⟩
  unfold w_X11_hasValue_j236
  rw [efl, ecl]
  exact pif_p h67 ⟨vp_n hf (by decide), ptr rfl ⟨vp_n hm (by decide), r_parts hf hk⟩⟩
theorem hV_5_0 {G : Gt} {f m : Nat} (hv : vH G f m 5) (h67 : G 67 f = 0) : rS G (oAk (G 49 m) (nI f) (G 66 f) (gu (gu G 68 f (G 46 42)) 67 f 1)) := by
  obtain ⟨h41, h57, hf, h64, hm, h47⟩ := hv
  refine rS_val h41 h57 hf h64 (by omega) (fun C K hk => ?_)
  have efl : (nI f).toNatClampNeg = f := nI_clamp (by omega)
  have ecl : (nI m).toNatClampNeg = m := nI_clamp (by omega)
  unfold w_X11_hasValue
  rw [efl, show (mxw C G) 64 f = nI m from h64, ecl, show (mxw C G) 47 m = nI 5 from h47]
  refine ⟨vp_n hf (by decide), vp_n hf (by decide), vp_n hm (by decide), pif_n (by decide) (pif_n (by decide) (pif_n (by decide) (pif_p (by decide) (?_))))⟩
  unfold w_X11_hasValue_j236
  rw [efl, ecl]
  exact pif_p h67 ⟨vp_n hf (by decide), ptr rfl ⟨vp_n hm (by decide), r_parts hf hk⟩⟩
theorem hV_6_0 {G : Gt} {f m : Nat} (hv : vH G f m 6) (h67 : G 67 f = 0) : rS G (oAk (G 49 m) (nI f) (G 66 f) (gu (gu G 68 f (G 46 42)) 67 f 1)) := by
  obtain ⟨h41, h57, hf, h64, hm, h47⟩ := hv
  refine rS_val h41 h57 hf h64 (by omega) (fun C K hk => ?_)
  have efl : (nI f).toNatClampNeg = f := nI_clamp (by omega)
  have ecl : (nI m).toNatClampNeg = m := nI_clamp (by omega)
  unfold w_X11_hasValue
  rw [efl, show (mxw C G) 64 f = nI m from h64, ecl, show (mxw C G) 47 m = nI 6 from h47]
  refine ⟨vp_n hf (by decide), vp_n hf (by decide), vp_n hm (by decide), pif_n (by decide) (pif_n (by decide) (pif_n (by decide) (pif_n (by decide) (pif_p (by decide) (?_)))))⟩
  unfold w_X11_hasValue_j236
  rw [efl, ecl]
  exact pif_p h67 ⟨vp_n hf (by decide), ptr rfl ⟨vp_n hm (by decide), r_parts hf hk⟩⟩
theorem hV_7_0 {G : Gt} {f m : Nat} (hv : vH G f m 7) (h67 : G 67 f = 0) : rS G (oAk (G 49 m) (nI f) (G 66 f) (gu (gu G 68 f (G 46 42)) 67 f 1)) := by
  obtain ⟨h41, h57, hf, h64, hm, h47⟩ := hv
  refine rS_val h41 h57 hf h64 (by omega) (fun C K hk => ?_)
  have efl : (nI f).toNatClampNeg = f := nI_clamp (by omega)
  have ecl : (nI m).toNatClampNeg = m := nI_clamp (by omega)
  unfold w_X11_hasValue
  rw [efl, show (mxw C G) 64 f = nI m from h64, ecl, show (mxw C G) 47 m = nI 7 from h47]
  refine ⟨vp_n hf (by decide), vp_n hf (by decide), vp_n hm (by decide), pif_n (by decide) (pif_n (by decide) (pif_n (by decide) (pif_n (by decide) (pif_n (by decide) (pif_p (by decide) (?_))))))⟩
  unfold w_X11_hasValue_j236
  rw [efl, ecl]
  exact pif_p h67 ⟨vp_n hf (by decide), ptr rfl ⟨vp_n hm (by decide), r_parts hf hk⟩⟩
theorem hV_8_0 {G : Gt} {f m : Nat} (hv : vH G f m 8) (h67 : G 67 f = 0) : rS G (oAk (G 49 m) (nI f) (G 66 f) (gu (gu G 68 f (G 46 42)) 67 f 1)) := by
  obtain ⟨h41, h57, hf, h64, hm, h47⟩ := hv
  refine rS_val h41 h57 hf h64 (by omega) (fun C K hk => ?_)
  have efl : (nI f).toNatClampNeg = f := nI_clamp (by omega)
  have ecl : (nI m).toNatClampNeg = m := nI_clamp (by omega)
  unfold w_X11_hasValue
  rw [efl, show (mxw C G) 64 f = nI m from h64, ecl, show (mxw C G) 47 m = nI 8 from h47]
  refine ⟨vp_n hf (by decide), vp_n hf (by decide), vp_n hm (by decide), pif_n (by decide) (pif_n (by decide) (pif_n (by decide) (pif_n (by decide) (pif_n (by decide) (pif_n (by decide) (pif_p (by decide) (?_)))))))⟩
  unfold w_X11_hasValue_j236
  rw [efl, ecl]
  exact pif_p h67 ⟨vp_n hf (by decide), ptr rfl ⟨vp_n hm (by decide), r_parts hf hk⟩⟩
theorem hV_9_0 {G : Gt} {f m : Nat} (hv : vH G f m 9) (h67 : G 67 f = 0) : rS G (oAk (G 49 m) (nI f) (G 66 f) (gu (gu G 68 f (G 46 42)) 67 f 1)) := by
  obtain ⟨h41, h57, hf, h64, hm, h47⟩ := hv
  refine rS_val h41 h57 hf h64 (by omega) (fun C K hk => ?_)
  have efl : (nI f).toNatClampNeg = f := nI_clamp (by omega)
  have ecl : (nI m).toNatClampNeg = m := nI_clamp (by omega)
  unfold w_X11_hasValue
  rw [efl, show (mxw C G) 64 f = nI m from h64, ecl, show (mxw C G) 47 m = nI 9 from h47]
  refine ⟨vp_n hf (by decide), vp_n hf (by decide), vp_n hm (by decide), pif_n (by decide) (pif_n (by decide) (pif_n (by decide) (pif_n (by decide) (pif_n (by decide) (pif_n (by decide) (pif_n (by decide) (pif_p (by decide) (?_))))))))⟩
  unfold w_X11_hasValue_j236
  rw [efl, ecl]
  exact pif_p h67 ⟨vp_n hf (by decide), ptr rfl ⟨vp_n hm (by decide), r_parts hf hk⟩⟩
theorem hV_4_1 {G H : Gt} {f m : Nat} (hv : vH G f m 4) (h67 : ¬ G 67 f = 0) (h : ∀ (C : Gt) (K : Gt → Prop), K (mxw C H) → w_X11_reckons K (nI f) (nI 4) (G 68 f) (G 46 42) (mxw C G)) : rS G (H) := by
  obtain ⟨h41, h57, hf, h64, hm, h47⟩ := hv
  refine rS_val h41 h57 hf h64 (by omega) (fun C K hk => ?_)
  have efl : (nI f).toNatClampNeg = f := nI_clamp (by omega)
  have ecl : (nI m).toNatClampNeg = m := nI_clamp (by omega)
  unfold w_X11_hasValue
  rw [efl, show (mxw C G) 64 f = nI m from h64, ecl, show (mxw C G) 47 m = nI 4 from h47]
  refine ⟨vp_n hf (by decide), vp_n hf (by decide), vp_n hm (by decide), pif_n (by decide) (pif_n (by decide) (pif_p (by decide) (?_)))⟩
  unfold w_X11_hasValue_j236
  rw [efl]
  exact pif_n h67 ⟨vp_n hf (by decide), h C _ hk⟩
theorem hV_5_1 {G H : Gt} {f m : Nat} (hv : vH G f m 5) (h67 : ¬ G 67 f = 0) (h : ∀ (C : Gt) (K : Gt → Prop), K (mxw C H) → w_X11_reckons K (nI f) (nI 5) (G 68 f) (G 46 42) (mxw C G)) : rS G (H) := by
  obtain ⟨h41, h57, hf, h64, hm, h47⟩ := hv
  refine rS_val h41 h57 hf h64 (by omega) (fun C K hk => ?_)
  have efl : (nI f).toNatClampNeg = f := nI_clamp (by omega)
  have ecl : (nI m).toNatClampNeg = m := nI_clamp (by omega)
  unfold w_X11_hasValue
  rw [efl, show (mxw C G) 64 f = nI m from h64, ecl, show (mxw C G) 47 m = nI 5 from h47]
  refine ⟨vp_n hf (by decide), vp_n hf (by decide), vp_n hm (by decide), pif_n (by decide) (pif_n (by decide) (pif_n (by decide) (pif_p (by decide) (?_))))⟩
  unfold w_X11_hasValue_j236
  rw [efl]
  exact pif_n h67 ⟨vp_n hf (by decide), h C _ hk⟩
theorem hV_6_1 {G H : Gt} {f m : Nat} (hv : vH G f m 6) (h67 : ¬ G 67 f = 0) (h : ∀ (C : Gt) (K : Gt → Prop), K (mxw C H) → w_X11_reckons K (nI f) (nI 6) (G 68 f) (G 46 42) (mxw C G)) : rS G (H) := by
  obtain ⟨h41, h57, hf, h64, hm, h47⟩ := hv
  refine rS_val h41 h57 hf h64 (by omega) (fun C K hk => ?_)
  have efl : (nI f).toNatClampNeg = f := nI_clamp (by omega)
  have ecl : (nI m).toNatClampNeg = m := nI_clamp (by omega)
  unfold w_X11_hasValue
  rw [efl, show (mxw C G) 64 f = nI m from h64, ecl, show (mxw C G) 47 m = nI 6 from h47]
  refine ⟨vp_n hf (by decide), vp_n hf (by decide), vp_n hm (by decide), pif_n (by decide) (pif_n (by decide) (pif_n (by decide) (pif_n (by decide) (pif_p (by decide) (?_)))))⟩
  unfold w_X11_hasValue_j236
  rw [efl]
  exact pif_n h67 ⟨vp_n hf (by decide), h C _ hk⟩
theorem hV_7_1 {G H : Gt} {f m : Nat} (hv : vH G f m 7) (h67 : ¬ G 67 f = 0) (h : ∀ (C : Gt) (K : Gt → Prop), K (mxw C H) → w_X11_reckons K (nI f) (nI 7) (G 68 f) (G 46 42) (mxw C G)) : rS G (H) := by
  obtain ⟨h41, h57, hf, h64, hm, h47⟩ := hv
  refine rS_val h41 h57 hf h64 (by omega) (fun C K hk => ?_)
  have efl : (nI f).toNatClampNeg = f := nI_clamp (by omega)
  have ecl : (nI m).toNatClampNeg = m := nI_clamp (by omega)
  unfold w_X11_hasValue
  rw [efl, show (mxw C G) 64 f = nI m from h64, ecl, show (mxw C G) 47 m = nI 7 from h47]
  refine ⟨vp_n hf (by decide), vp_n hf (by decide), vp_n hm (by decide), pif_n (by decide) (pif_n (by decide) (pif_n (by decide) (pif_n (by decide) (pif_n (by decide) (pif_p (by decide) (?_))))))⟩
  unfold w_X11_hasValue_j236
  rw [efl]
  exact pif_n h67 ⟨vp_n hf (by decide), h C _ hk⟩
theorem hV_8_1 {G H : Gt} {f m : Nat} (hv : vH G f m 8) (h67 : ¬ G 67 f = 0) (h : ∀ (C : Gt) (K : Gt → Prop), K (mxw C H) → w_X11_reckons K (nI f) (nI 8) (G 68 f) (G 46 42) (mxw C G)) : rS G (H) := by
  obtain ⟨h41, h57, hf, h64, hm, h47⟩ := hv
  refine rS_val h41 h57 hf h64 (by omega) (fun C K hk => ?_)
  have efl : (nI f).toNatClampNeg = f := nI_clamp (by omega)
  have ecl : (nI m).toNatClampNeg = m := nI_clamp (by omega)
  unfold w_X11_hasValue
  rw [efl, show (mxw C G) 64 f = nI m from h64, ecl, show (mxw C G) 47 m = nI 8 from h47]
  refine ⟨vp_n hf (by decide), vp_n hf (by decide), vp_n hm (by decide), pif_n (by decide) (pif_n (by decide) (pif_n (by decide) (pif_n (by decide) (pif_n (by decide) (pif_n (by decide) (pif_p (by decide) (?_)))))))⟩
  unfold w_X11_hasValue_j236
  rw [efl]
  exact pif_n h67 ⟨vp_n hf (by decide), h C _ hk⟩
theorem hV_9_1 {G H : Gt} {f m : Nat} (hv : vH G f m 9) (h67 : ¬ G 67 f = 0) (h : ∀ (C : Gt) (K : Gt → Prop), K (mxw C H) → w_X11_reckons K (nI f) (nI 9) (G 68 f) (G 46 42) (mxw C G)) : rS G (H) := by
  obtain ⟨h41, h57, hf, h64, hm, h47⟩ := hv
  refine rS_val h41 h57 hf h64 (by omega) (fun C K hk => ?_)
  have efl : (nI f).toNatClampNeg = f := nI_clamp (by omega)
  have ecl : (nI m).toNatClampNeg = m := nI_clamp (by omega)
  unfold w_X11_hasValue
  rw [efl, show (mxw C G) 64 f = nI m from h64, ecl, show (mxw C G) 47 m = nI 9 from h47]
  refine ⟨vp_n hf (by decide), vp_n hf (by decide), vp_n hm (by decide), pif_n (by decide) (pif_n (by decide) (pif_n (by decide) (pif_n (by decide) (pif_n (by decide) (pif_n (by decide) (pif_n (by decide) (pif_p (by decide) (?_))))))))⟩
  unfold w_X11_hasValue_j236
  rw [efl]
  exact pif_n h67 ⟨vp_n hf (by decide), h C _ hk⟩
theorem hV_10_0 {G : Gt} {f m : Nat} (hv : vH G f m 10) (h67 : G 67 f = 0) : rS G (oAk (if G 46 42 = 0 then G 50 m else G 49 m) (nI f) (G 66 f) (gu G 67 f 1)) := by
  obtain ⟨h41, h57, hf, h64, hm, h47⟩ := hv
  refine rS_val h41 h57 hf h64 (by omega) (fun C K hk => ?_)
  have efl : (nI f).toNatClampNeg = f := nI_clamp (by omega)
  have ecl : (nI m).toNatClampNeg = m := nI_clamp (by omega)
  unfold w_X11_hasValue
  rw [efl, show (mxw C G) 64 f = nI m from h64, ecl, show (mxw C G) 47 m = nI 10 from h47]
  refine ⟨vp_n hf (by decide), vp_n hf (by decide), vp_n hm (by decide), pif_n (by decide) (pif_n (by decide) (pif_n (by decide) (pif_n (by decide) (pif_n (by decide) (pif_n (by decide) (pif_n (by decide) (pif_n (by decide) (pif_p (by decide) (?_)))))))))⟩
  refine pif_p h67 ?_
  by_cases c : G 46 42 = 0
  · rw [if_pos c] at hk
    exact pif_p c ⟨vp_n hm (by decide), r_parts hf hk⟩
  · rw [if_neg c] at hk
    exact pif_n c ⟨vp_n hm (by decide), r_parts hf hk⟩
theorem hV_10_1 {G : Gt} {f m : Nat} (hv : vH G f m 10) (h67 : ¬ G 67 f = 0) : rS G (oEn (G 46 42) (G 65 f) G) := by
  obtain ⟨h41, h57, hf, h64, hm, h47⟩ := hv
  refine rS_val h41 h57 hf h64 (by omega) (fun C K hk => ?_)
  have efl : (nI f).toNatClampNeg = f := nI_clamp (by omega)
  have ecl : (nI m).toNatClampNeg = m := nI_clamp (by omega)
  unfold w_X11_hasValue
  rw [efl, show (mxw C G) 64 f = nI m from h64, ecl, show (mxw C G) 47 m = nI 10 from h47]
  refine ⟨vp_n hf (by decide), vp_n hf (by decide), vp_n hm (by decide), pif_n (by decide) (pif_n (by decide) (pif_n (by decide) (pif_n (by decide) (pif_n (by decide) (pif_n (by decide) (pif_n (by decide) (pif_n (by decide) (pif_p (by decide) (?_)))))))))⟩
  exact pif_n h67 (r_ends hf hk)
theorem hV_11_1 {G : Gt} {f m : Nat} (hv : vH G f m 11) (h67 : ¬ G 67 f = 0) : rS G (oEn (G 46 42) (G 65 f) G) := by
  obtain ⟨h41, h57, hf, h64, hm, h47⟩ := hv
  refine rS_val h41 h57 hf h64 (by omega) (fun C K hk => ?_)
  have efl : (nI f).toNatClampNeg = f := nI_clamp (by omega)
  have ecl : (nI m).toNatClampNeg = m := nI_clamp (by omega)
  unfold w_X11_hasValue
  rw [efl, show (mxw C G) 64 f = nI m from h64, ecl, show (mxw C G) 47 m = nI 11 from h47]
  refine ⟨vp_n hf (by decide), vp_n hf (by decide), vp_n hm (by decide), pif_n (by decide) (pif_n (by decide) (pif_n (by decide) (pif_n (by decide) (pif_n (by decide) (pif_n (by decide) (pif_n (by decide) (pif_n (by decide) (pif_n (by decide) (pif_p (by decide) (?_))))))))))⟩
  exact pif_n h67 (r_ends hf hk)
theorem hV_11_0 {G : Gt} {f m : Nat} (hv : vH G f m 11) (h67 : G 67 f = 0) : rS G (oAk (G 49 m) (nI f) (G 66 f) (gu G 67 f 1)) := by
  obtain ⟨h41, h57, hf, h64, hm, h47⟩ := hv
  refine rS_val h41 h57 hf h64 (by omega) (fun C K hk => ?_)
  have efl : (nI f).toNatClampNeg = f := nI_clamp (by omega)
  have ecl : (nI m).toNatClampNeg = m := nI_clamp (by omega)
  unfold w_X11_hasValue
  rw [efl, show (mxw C G) 64 f = nI m from h64, ecl, show (mxw C G) 47 m = nI 11 from h47]
  refine ⟨vp_n hf (by decide), vp_n hf (by decide), vp_n hm (by decide), pif_n (by decide) (pif_n (by decide) (pif_n (by decide) (pif_n (by decide) (pif_n (by decide) (pif_n (by decide) (pif_n (by decide) (pif_n (by decide) (pif_n (by decide) (pif_p (by decide) (?_))))))))))⟩
  exact pif_p h67 ⟨vp_n hm (by decide), r_parts hf hk⟩
theorem hV_12 {G : Gt} {f m : Nat} (hv : vH G f m 12) : rS G (oEn (G 46 42) (G 65 f) G) := by
  obtain ⟨h41, h57, hf, h64, hm, h47⟩ := hv
  refine rS_val h41 h57 hf h64 (by omega) (fun C K hk => ?_)
  have efl : (nI f).toNatClampNeg = f := nI_clamp (by omega)
  have ecl : (nI m).toNatClampNeg = m := nI_clamp (by omega)
  unfold w_X11_hasValue
  rw [efl, show (mxw C G) 64 f = nI m from h64, ecl, show (mxw C G) 47 m = nI 12 from h47]
  refine ⟨vp_n hf (by decide), vp_n hf (by decide), vp_n hm (by decide), pif_n (by decide) (pif_n (by decide) (pif_n (by decide) (pif_n (by decide) (pif_n (by decide) (pif_n (by decide) (pif_n (by decide) (pif_n (by decide) (pif_n (by decide) (pif_n (by decide) (pif_p (by decide) (?_)))))))))))⟩
  exact r_ends hf hk
theorem hV_20 {G : Gt} {f m : Nat} (hv : vH G f m 20) : rS G (oEn (G 46 42) (G 65 f) G) := by
  obtain ⟨h41, h57, hf, h64, hm, h47⟩ := hv
  refine rS_val h41 h57 hf h64 (by omega) (fun C K hk => ?_)
  have efl : (nI f).toNatClampNeg = f := nI_clamp (by omega)
  have ecl : (nI m).toNatClampNeg = m := nI_clamp (by omega)
  unfold w_X11_hasValue
  rw [efl, show (mxw C G) 64 f = nI m from h64, ecl, show (mxw C G) 47 m = nI 20 from h47]
  refine ⟨vp_n hf (by decide), vp_n hf (by decide), vp_n hm (by decide), pif_n (by decide) (pif_n (by decide) (pif_n (by decide) (pif_n (by decide) (pif_n (by decide) (pif_n (by decide) (pif_n (by decide) (pif_n (by decide) (pif_n (by decide) (pif_n (by decide) (pif_n (by decide) (pif_n (by decide) (pif_n (by decide) (pif_n (by decide) (pif_n (by decide) (pif_n (by decide) (pif_p (by decide) (?_)))))))))))))))))⟩
  exact r_ends hf hk
theorem hV_13 {G : Gt} {f m : Nat} (hv : vH G f m 13) {s : Nat} (hs : G 46 29 = nI s) (hs2 : s < 620) : rS G (oAk (G 49 m) (nI f) (nI s) (oOr s (G 66 f) G)) := by
  obtain ⟨h41, h57, hf, h64, hm, h47⟩ := hv
  refine rS_val h41 h57 hf h64 (by omega) (fun C K hk => ?_)
  have efl : (nI f).toNatClampNeg = f := nI_clamp (by omega)
  have ecl : (nI m).toNatClampNeg = m := nI_clamp (by omega)
  unfold w_X11_hasValue
  rw [efl, show (mxw C G) 64 f = nI m from h64, ecl, show (mxw C G) 47 m = nI 13 from h47]
  refine ⟨vp_n hf (by decide), vp_n hf (by decide), vp_n hm (by decide), pif_n (by decide) (pif_n (by decide) (pif_n (by decide) (pif_n (by decide) (pif_n (by decide) (pif_n (by decide) (pif_n (by decide) (pif_n (by decide) (pif_n (by decide) (pif_n (by decide) (pif_n (by decide) (pif_p (by decide) (?_))))))))))))⟩
  exact ⟨vp_n hm (by decide), vp_n hf (by decide), r_opens hs hs2 (r_asks hk)⟩
theorem hV_14 {G H : Gt} {f m : Nat} (hv : vH G f m 14) (h : ∀ (C : Gt) (K : Gt → Prop), K (mxw C H) → w_X11_leavesTo K (nI f) 3 (G 48 m) (G 46 42) (mxw C G)) : rS G (H) := by
  obtain ⟨h41, h57, hf, h64, hm, h47⟩ := hv
  refine rS_val h41 h57 hf h64 (by omega) (fun C K hk => ?_)
  have efl : (nI f).toNatClampNeg = f := nI_clamp (by omega)
  have ecl : (nI m).toNatClampNeg = m := nI_clamp (by omega)
  unfold w_X11_hasValue
  rw [efl, show (mxw C G) 64 f = nI m from h64, ecl, show (mxw C G) 47 m = nI 14 from h47]
  refine ⟨vp_n hf (by decide), vp_n hf (by decide), vp_n hm (by decide), pif_n (by decide) (pif_n (by decide) (pif_n (by decide) (pif_n (by decide) (pif_n (by decide) (pif_n (by decide) (pif_n (by decide) (pif_n (by decide) (pif_n (by decide) (pif_n (by decide) (pif_n (by decide) (pif_n (by decide) (pif_p (by decide) (?_)))))))))))))⟩
  exact ⟨vp_n hm (by decide), h C _ hk⟩
theorem hV_17_0 {G : Gt} {f m : Nat} (hv : vH G f m 17) (h67 : G 67 f = 0) : rS G (oAk (G 49 m) (nI f) (G 66 f) (gu (gu G 68 f (G 46 42)) 67 f 1)) := by
  obtain ⟨h41, h57, hf, h64, hm, h47⟩ := hv
  refine rS_val h41 h57 hf h64 (by omega) (fun C K hk => ?_)
  have efl : (nI f).toNatClampNeg = f := nI_clamp (by omega)
  have ecl : (nI m).toNatClampNeg = m := nI_clamp (by omega)
  unfold w_X11_hasValue
  rw [efl, show (mxw C G) 64 f = nI m from h64, ecl, show (mxw C G) 47 m = nI 17 from h47]
  refine ⟨vp_n hf (by decide), vp_n hf (by decide), vp_n hm (by decide), pif_n (by decide) (pif_n (by decide) (pif_n (by decide) (pif_n (by decide) (pif_n (by decide) (pif_n (by decide) (pif_n (by decide) (pif_n (by decide) (pif_n (by decide) (pif_n (by decide) (pif_n (by decide) (pif_n (by decide) (pif_n (by decide) (pif_p (by decide) (?_))))))))))))))⟩
  exact pif_p h67 ⟨vp_n hf (by decide), ptr rfl ⟨vp_n hm (by decide), r_parts hf hk⟩⟩
theorem hV_17_1 {G H : Gt} {f m : Nat} (hv : vH G f m 17) (h67 : ¬ G 67 f = 0) (h : ∀ (C : Gt) (K : Gt → Prop), K (mxw C H) → w_X11_applies K (nI f) (G 68 f) (G 46 42) (mxw C G)) : rS G (H) := by
  obtain ⟨h41, h57, hf, h64, hm, h47⟩ := hv
  refine rS_val h41 h57 hf h64 (by omega) (fun C K hk => ?_)
  have efl : (nI f).toNatClampNeg = f := nI_clamp (by omega)
  have ecl : (nI m).toNatClampNeg = m := nI_clamp (by omega)
  unfold w_X11_hasValue
  rw [efl, show (mxw C G) 64 f = nI m from h64, ecl, show (mxw C G) 47 m = nI 17 from h47]
  refine ⟨vp_n hf (by decide), vp_n hf (by decide), vp_n hm (by decide), pif_n (by decide) (pif_n (by decide) (pif_n (by decide) (pif_n (by decide) (pif_n (by decide) (pif_n (by decide) (pif_n (by decide) (pif_n (by decide) (pif_n (by decide) (pif_n (by decide) (pif_n (by decide) (pif_n (by decide) (pif_n (by decide) (pif_p (by decide) (?_))))))))))))))⟩
  exact pif_n h67 ⟨vp_n hf (by decide), h C _ hk⟩
theorem hV_18_2 {G H : Gt} {f m : Nat} (hv : vH G f m 18) (h67 : G 67 f = 1) (h : ∀ (C : Gt) (K : Gt → Prop), K (mxw C H) → w_X11_callsSlot K (nI f) (G 48 m) 2 (G 68 f) (G 46 42) (mxw C G)) : rS G (H) := by
  obtain ⟨h41, h57, hf, h64, hm, h47⟩ := hv
  refine rS_val h41 h57 hf h64 (by omega) (fun C K hk => ?_)
  have efl : (nI f).toNatClampNeg = f := nI_clamp (by omega)
  have ecl : (nI m).toNatClampNeg = m := nI_clamp (by omega)
  unfold w_X11_hasValue
  rw [efl, show (mxw C G) 64 f = nI m from h64, ecl, show (mxw C G) 47 m = nI 18 from h47]
  refine ⟨vp_n hf (by decide), vp_n hf (by decide), vp_n hm (by decide), pif_n (by decide) (pif_n (by decide) (pif_n (by decide) (pif_n (by decide) (pif_n (by decide) (pif_n (by decide) (pif_n (by decide) (pif_n (by decide) (pif_n (by decide) (pif_n (by decide) (pif_n (by decide) (pif_n (by decide) (pif_n (by decide) (pif_n (by decide) (pif_p (by decide) (?_)))))))))))))))⟩
  unfold w_X11_hasArgument
  rw [efl, ecl]
  exact pif_p h67 ⟨vp_n hm (by decide), vp_n hf (by decide), h C _ hk⟩
theorem hV_18_1 {G H : Gt} {f m : Nat} (hv : vH G f m 18) (h67 : ¬ G 67 f = 1) (h50 : G 50 m = -1) (h : ∀ (C : Gt) (K : Gt → Prop), K (mxw C H) → w_X11_callsSlot K (nI f) (G 48 m) 1 (G 46 42) 0 (mxw C (gu G 68 f (G 46 42)))) : rS G (H) := by
  obtain ⟨h41, h57, hf, h64, hm, h47⟩ := hv
  refine rS_val h41 h57 hf h64 (by omega) (fun C K hk => ?_)
  have efl : (nI f).toNatClampNeg = f := nI_clamp (by omega)
  have ecl : (nI m).toNatClampNeg = m := nI_clamp (by omega)
  unfold w_X11_hasValue
  rw [efl, show (mxw C G) 64 f = nI m from h64, ecl, show (mxw C G) 47 m = nI 18 from h47]
  refine ⟨vp_n hf (by decide), vp_n hf (by decide), vp_n hm (by decide), pif_n (by decide) (pif_n (by decide) (pif_n (by decide) (pif_n (by decide) (pif_n (by decide) (pif_n (by decide) (pif_n (by decide) (pif_n (by decide) (pif_n (by decide) (pif_n (by decide) (pif_n (by decide) (pif_n (by decide) (pif_n (by decide) (pif_n (by decide) (pif_p (by decide) (?_)))))))))))))))⟩
  unfold w_X11_hasArgument
  rw [efl, ecl]
  exact pif_n h67 ⟨vp_n hf (by decide), ptr rfl ⟨vp_n hm (by decide), pif_p h50 ⟨vp_n hm (by decide), h C _ hk⟩⟩⟩
theorem hV_18_0 {G : Gt} {f m : Nat} (hv : vH G f m 18) (h67 : ¬ G 67 f = 1) (h50 : ¬ G 50 m = -1) : rS G (oAk (G 50 m) (nI f) (G 66 f) (gu (gu G 68 f (G 46 42)) 67 f 1)) := by
  obtain ⟨h41, h57, hf, h64, hm, h47⟩ := hv
  refine rS_val h41 h57 hf h64 (by omega) (fun C K hk => ?_)
  have efl : (nI f).toNatClampNeg = f := nI_clamp (by omega)
  have ecl : (nI m).toNatClampNeg = m := nI_clamp (by omega)
  unfold w_X11_hasValue
  rw [efl, show (mxw C G) 64 f = nI m from h64, ecl, show (mxw C G) 47 m = nI 18 from h47]
  refine ⟨vp_n hf (by decide), vp_n hf (by decide), vp_n hm (by decide), pif_n (by decide) (pif_n (by decide) (pif_n (by decide) (pif_n (by decide) (pif_n (by decide) (pif_n (by decide) (pif_n (by decide) (pif_n (by decide) (pif_n (by decide) (pif_n (by decide) (pif_n (by decide) (pif_n (by decide) (pif_n (by decide) (pif_n (by decide) (pif_p (by decide) (?_)))))))))))))))⟩
  unfold w_X11_hasArgument
  rw [efl, ecl]
  exact pif_n h67 ⟨vp_n hf (by decide), ptr rfl ⟨vp_n hm (by decide), pif_n h50 ⟨vp_n hm (by decide), r_parts hf hk⟩⟩⟩
theorem hV_19_y {G : Gt} {f m : Nat} (hv : vH G f m 19) {b : Nat} (hb : b < 1220) (hbo : ∀ (C : Gt) (K : Int32 → Gt → Prop), K (nI b) (mxw C G) → w_X11_bodyOf K (nI f) (mxw C G)) (h67 : G 67 b = 1 ∨ G 67 b = 2) : rS G (oLv 5 0 (G 46 42) (G 65 f) G) := by
  obtain ⟨h41, h57, hf, h64, hm, h47⟩ := hv
  refine rS_val h41 h57 hf h64 (by omega) (fun C K hk => ?_)
  have efl : (nI f).toNatClampNeg = f := nI_clamp (by omega)
  have ecl : (nI m).toNatClampNeg = m := nI_clamp (by omega)
  unfold w_X11_hasValue
  rw [efl, show (mxw C G) 64 f = nI m from h64, ecl, show (mxw C G) 47 m = nI 19 from h47]
  refine ⟨vp_n hf (by decide), vp_n hf (by decide), vp_n hm (by decide), pif_n (by decide) (pif_n (by decide) (pif_n (by decide) (pif_n (by decide) (pif_n (by decide) (pif_n (by decide) (pif_n (by decide) (pif_n (by decide) (pif_n (by decide) (pif_n (by decide) (pif_n (by decide) (pif_n (by decide) (pif_n (by decide) (pif_n (by decide) (pif_n (by decide) (pif_p (by decide) (?_))))))))))))))))⟩
  have ebl : (nI b).toNatClampNeg = b := nI_clamp (by omega)
  refine hbo C _ ?_
  rw [ebl]
  refine ⟨vp_n hb (by decide), ?_⟩
  by_cases c : G 67 b = 1
  · exact pif_p c (r_leaves hf hk)
  · refine pif_n c (hbo C _ ?_)
    rw [ebl]
    exact ⟨vp_n hb (by decide), pif_p (h67.resolve_left c) (r_leaves hf hk)⟩
theorem hV_19_n {G : Gt} {f m : Nat} (hv : vH G f m 19) {b : Nat} (hb : b < 1220) (hbo : ∀ (C : Gt) (K : Int32 → Gt → Prop), K (nI b) (mxw C G) → w_X11_bodyOf K (nI f) (mxw C G)) (h67 : ¬ G 67 b = 1 ∧ ¬ G 67 b = 2) : rS G (oFr f (-6) G) := by
  obtain ⟨h41, h57, hf, h64, hm, h47⟩ := hv
  refine rS_val h41 h57 hf h64 (by omega) (fun C K hk => ?_)
  have efl : (nI f).toNatClampNeg = f := nI_clamp (by omega)
  have ecl : (nI m).toNatClampNeg = m := nI_clamp (by omega)
  unfold w_X11_hasValue
  rw [efl, show (mxw C G) 64 f = nI m from h64, ecl, show (mxw C G) 47 m = nI 19 from h47]
  refine ⟨vp_n hf (by decide), vp_n hf (by decide), vp_n hm (by decide), pif_n (by decide) (pif_n (by decide) (pif_n (by decide) (pif_n (by decide) (pif_n (by decide) (pif_n (by decide) (pif_n (by decide) (pif_n (by decide) (pif_n (by decide) (pif_n (by decide) (pif_n (by decide) (pif_n (by decide) (pif_n (by decide) (pif_n (by decide) (pif_n (by decide) (pif_p (by decide) (?_))))))))))))))))⟩
  have ebl : (nI b).toNatClampNeg = b := nI_clamp (by omega)
  refine hbo C _ ?_
  rw [ebl]
  refine ⟨vp_n hb (by decide), pif_n h67.1 (hbo C _ ?_)⟩
  rw [ebl]
  exact ⟨vp_n hb (by decide), pif_n h67.2 (r_fails hf hk)⟩
theorem hV_21_0 {G H : Gt} {f m : Nat} (hv : vH G f m 21) (h67 : G 67 f = 0) (h : ∀ (C : Gt) (K : Gt → Prop), K (mxw C H) → w_X11_waits K (nI f) (nI m) (mxw C G)) : rS G (H) := by
  obtain ⟨h41, h57, hf, h64, hm, h47⟩ := hv
  refine rS_val h41 h57 hf h64 (by omega) (fun C K hk => ?_)
  have efl : (nI f).toNatClampNeg = f := nI_clamp (by omega)
  have ecl : (nI m).toNatClampNeg = m := nI_clamp (by omega)
  unfold w_X11_hasValue
  rw [efl, show (mxw C G) 64 f = nI m from h64, ecl, show (mxw C G) 47 m = nI 21 from h47]
  refine ⟨vp_n hf (by decide), vp_n hf (by decide), vp_n hm (by decide), pif_n (by decide) (pif_n (by decide) (pif_n (by decide) (pif_n (by decide) (pif_n (by decide) (pif_n (by decide) (pif_n (by decide) (pif_n (by decide) (pif_n (by decide) (pif_n (by decide) (pif_n (by decide) (pif_n (by decide) (pif_n (by decide) (pif_n (by decide) (pif_n (by decide) (pif_n (by decide) (pif_n (by decide) (pif_p (by decide) (?_))))))))))))))))))⟩
  exact pif_p h67 (h C _ hk)
theorem hV_21_1 {G H : Gt} {f m : Nat} (hv : vH G f m 21) (h67 : ¬ G 67 f = 0) (h : ∀ (C : Gt) (K : Gt → Prop), K (mxw C H) → w_X11_isOver K (nI f) (mxw C G)) : rS G (H) := by
  obtain ⟨h41, h57, hf, h64, hm, h47⟩ := hv
  refine rS_val h41 h57 hf h64 (by omega) (fun C K hk => ?_)
  have efl : (nI f).toNatClampNeg = f := nI_clamp (by omega)
  have ecl : (nI m).toNatClampNeg = m := nI_clamp (by omega)
  unfold w_X11_hasValue
  rw [efl, show (mxw C G) 64 f = nI m from h64, ecl, show (mxw C G) 47 m = nI 21 from h47]
  refine ⟨vp_n hf (by decide), vp_n hf (by decide), vp_n hm (by decide), pif_n (by decide) (pif_n (by decide) (pif_n (by decide) (pif_n (by decide) (pif_n (by decide) (pif_n (by decide) (pif_n (by decide) (pif_n (by decide) (pif_n (by decide) (pif_n (by decide) (pif_n (by decide) (pif_n (by decide) (pif_n (by decide) (pif_n (by decide) (pif_n (by decide) (pif_n (by decide) (pif_n (by decide) (pif_p (by decide) (?_))))))))))))))))))⟩
  exact pif_n h67 (h C _ hk)
theorem hV_24 {G H : Gt} {f m : Nat} (hv : vH G f m 24) (h : ∀ (C : Gt) (K : Gt → Prop), K (mxw C H) → w_X11_yields K (nI f) (G 46 42) (mxw C G)) : rS G (H) := by
  obtain ⟨h41, h57, hf, h64, hm, h47⟩ := hv
  refine rS_val h41 h57 hf h64 (by omega) (fun C K hk => ?_)
  have efl : (nI f).toNatClampNeg = f := nI_clamp (by omega)
  have ecl : (nI m).toNatClampNeg = m := nI_clamp (by omega)
  unfold w_X11_hasValue
  rw [efl, show (mxw C G) 64 f = nI m from h64, ecl, show (mxw C G) 47 m = nI 24 from h47]
  refine ⟨vp_n hf (by decide), vp_n hf (by decide), vp_n hm (by decide), pif_n (by decide) (pif_n (by decide) (pif_n (by decide) (pif_n (by decide) (pif_n (by decide) (pif_n (by decide) (pif_n (by decide) (pif_n (by decide) (pif_n (by decide) (pif_n (by decide) (pif_n (by decide) (pif_n (by decide) (pif_n (by decide) (pif_n (by decide) (pif_n (by decide) (pif_n (by decide) (pif_n (by decide) (pif_n (by decide) (pif_p (by decide) (?_)))))))))))))))))))⟩
  exact h C _ hk
theorem hV_25 {G H : Gt} {f m : Nat} (hv : vH G f m 25) (h : ∀ (C : Gt) (K : Gt → Prop), K (mxw C H) → w_X11_asksOf K (nI f) (G 46 42) (mxw C G)) : rS G (H) := by
  obtain ⟨h41, h57, hf, h64, hm, h47⟩ := hv
  refine rS_val h41 h57 hf h64 (by omega) (fun C K hk => ?_)
  have efl : (nI f).toNatClampNeg = f := nI_clamp (by omega)
  have ecl : (nI m).toNatClampNeg = m := nI_clamp (by omega)
  unfold w_X11_hasValue
  rw [efl, show (mxw C G) 64 f = nI m from h64, ecl, show (mxw C G) 47 m = nI 25 from h47]
  refine ⟨vp_n hf (by decide), vp_n hf (by decide), vp_n hm (by decide), pif_n (by decide) (pif_n (by decide) (pif_n (by decide) (pif_n (by decide) (pif_n (by decide) (pif_n (by decide) (pif_n (by decide) (pif_n (by decide) (pif_n (by decide) (pif_n (by decide) (pif_n (by decide) (pif_n (by decide) (pif_n (by decide) (pif_n (by decide) (pif_n (by decide) (pif_n (by decide) (pif_n (by decide) (pif_n (by decide) (pif_n (by decide) (pif_p (by decide) (?_))))))))))))))))))))⟩
  exact h C _ hk
theorem hV_26_0 {G : Gt} {f m : Nat} (hv : vH G f m 26) (h67 : G 67 f = 0) {o : Nat} (ho : G 48 m = nI o) (ho2 : o < 4) : rS G (oAk (G 50 m) (nI f) (G 66 f) (gu (gu (gu G 68 f (G 56 o)) 56 o (G 46 42)) 67 f 1)) := by
  obtain ⟨h41, h57, hf, h64, hm, h47⟩ := hv
  refine rS_val h41 h57 hf h64 (by omega) (fun C K hk => ?_)
  have efl : (nI f).toNatClampNeg = f := nI_clamp (by omega)
  have ecl : (nI m).toNatClampNeg = m := nI_clamp (by omega)
  unfold w_X11_hasValue
  rw [efl, show (mxw C G) 64 f = nI m from h64, ecl, show (mxw C G) 47 m = nI 26 from h47]
  refine ⟨vp_n hf (by decide), vp_n hf (by decide), vp_n hm (by decide), pif_n (by decide) (pif_n (by decide) (pif_n (by decide) (pif_n (by decide) (pif_n (by decide) (pif_n (by decide) (pif_n (by decide) (pif_n (by decide) (pif_n (by decide) (pif_n (by decide) (pif_n (by decide) (pif_n (by decide) (pif_n (by decide) (pif_n (by decide) (pif_n (by decide) (pif_n (by decide) (pif_n (by decide) (pif_n (by decide) (pif_n (by decide) (pif_n (by decide) (pif_p (by decide) (?_)))))))))))))))))))))⟩
  have eo : (nI o).toNatClampNeg = o := nI_clamp (by omega)
  rw [show (mxw C G) 48 m = nI o from ho, eo]
  refine pif_p h67 ⟨vp_n hm (by decide), vp_n ho2 (by decide), vp_n hf (by decide), ptr rfl ⟨vp_n hm (by decide), ?_⟩⟩
  rw [show (mxw C (gu G 68 f ((mxw C G) 56 o))) 48 m = nI o from ho, eo]
  exact ⟨vp_n ho2 (by decide), ptr rfl ⟨vp_n hm (by decide), r_parts hf hk⟩⟩
theorem hV_26_1 {G : Gt} {f m : Nat} (hv : vH G f m 26) (h67 : ¬ G 67 f = 0) {o : Nat} (ho : G 48 m = nI o) (ho2 : o < 4) : rS G (oEn (G 46 42) (G 65 f) (gu G 56 o (G 68 f))) := by
  obtain ⟨h41, h57, hf, h64, hm, h47⟩ := hv
  refine rS_val h41 h57 hf h64 (by omega) (fun C K hk => ?_)
  have efl : (nI f).toNatClampNeg = f := nI_clamp (by omega)
  have ecl : (nI m).toNatClampNeg = m := nI_clamp (by omega)
  unfold w_X11_hasValue
  rw [efl, show (mxw C G) 64 f = nI m from h64, ecl, show (mxw C G) 47 m = nI 26 from h47]
  refine ⟨vp_n hf (by decide), vp_n hf (by decide), vp_n hm (by decide), pif_n (by decide) (pif_n (by decide) (pif_n (by decide) (pif_n (by decide) (pif_n (by decide) (pif_n (by decide) (pif_n (by decide) (pif_n (by decide) (pif_n (by decide) (pif_n (by decide) (pif_n (by decide) (pif_n (by decide) (pif_n (by decide) (pif_n (by decide) (pif_n (by decide) (pif_n (by decide) (pif_n (by decide) (pif_n (by decide) (pif_n (by decide) (pif_n (by decide) (pif_p (by decide) (?_)))))))))))))))))))))⟩
  have eo : (nI o).toNatClampNeg = o := nI_clamp (by omega)
  rw [show (mxw C G) 48 m = nI o from ho, eo]
  exact pif_n h67 ⟨vp_n hm (by decide), vp_n hf (by decide), vp_n ho2 (by decide), ptr rfl (r_ends hf hk)⟩
theorem hV_36 {G H : Gt} {f m : Nat} (hv : vH G f m 36) (h : ∀ (C : Gt) (K : Gt → Prop), K (mxw C H) → w_X11_goesOn K (nI f) (mxw C (gu G 67 f (G 67 f + 1)))) : rS G (H) := by
  obtain ⟨h41, h57, hf, h64, hm, h47⟩ := hv
  refine rS_val h41 h57 hf h64 (by omega) (fun C K hk => ?_)
  have efl : (nI f).toNatClampNeg = f := nI_clamp (by omega)
  have ecl : (nI m).toNatClampNeg = m := nI_clamp (by omega)
  unfold w_X11_hasValue
  rw [efl, show (mxw C G) 64 f = nI m from h64, ecl, show (mxw C G) 47 m = nI 36 from h47]
  refine ⟨vp_n hf (by decide), vp_n hf (by decide), vp_n hm (by decide), pif_n (by decide) (pif_n (by decide) (pif_n (by decide) (pif_n (by decide) (pif_n (by decide) (pif_n (by decide) (pif_n (by decide) (pif_n (by decide) (pif_n (by decide) (pif_n (by decide) (pif_n (by decide) (pif_n (by decide) (pif_n (by decide) (pif_n (by decide) (pif_n (by decide) (pif_n (by decide) (pif_n (by decide) (pif_n (by decide) (pif_n (by decide) (pif_n (by decide) (pif_n (by decide) (pif_p (by decide) (?_))))))))))))))))))))))⟩
  exact ⟨vp_n hf (by decide), vp_n hf (by decide), ptr rfl (h C _ hk)⟩
theorem hV_22_n {G : Gt} {f m : Nat} (hv : vH G f m 22) (hn : 20000 ≤ G 46 42) : rS G (oFr f (-3) G) := by
  obtain ⟨h41, h57, hf, h64, hm, h47⟩ := hv
  refine rS_val h41 h57 hf h64 (by omega) (fun C K hk => ?_)
  have efl : (nI f).toNatClampNeg = f := nI_clamp (by omega)
  have ecl : (nI m).toNatClampNeg = m := nI_clamp (by omega)
  unfold w_X11_hasValue
  rw [efl, show (mxw C G) 64 f = nI m from h64, ecl, show (mxw C G) 47 m = nI 22 from h47]
  refine ⟨vp_n hf (by decide), vp_n hf (by decide), vp_n hm (by decide), pif_n (by decide) (pif_n (by decide) (pif_n (by decide) (pif_n (by decide) (pif_n (by decide) (pif_n (by decide) (pif_n (by decide) (pif_n (by decide) (pif_n (by decide) (pif_n (by decide) (pif_n (by decide) (pif_n (by decide) (pif_n (by decide) (pif_n (by decide) (pif_n (by decide) (pif_n (by decide) (pif_n (by decide) (pif_n (by decide) (pif_n (by decide) (pif_n (by decide) (pif_n (by decide) (pif_n (by decide) (?_))))))))))))))))))))))⟩
  exact pif_p hn ⟨bz_0, pif_p rfl (r_fails hf hk)⟩
theorem hV_28_n {G : Gt} {f m : Nat} (hv : vH G f m 28) (hn : 20000 ≤ G 46 42) : rS G (oFr f (-3) G) := by
  obtain ⟨h41, h57, hf, h64, hm, h47⟩ := hv
  refine rS_val h41 h57 hf h64 (by omega) (fun C K hk => ?_)
  have efl : (nI f).toNatClampNeg = f := nI_clamp (by omega)
  have ecl : (nI m).toNatClampNeg = m := nI_clamp (by omega)
  unfold w_X11_hasValue
  rw [efl, show (mxw C G) 64 f = nI m from h64, ecl, show (mxw C G) 47 m = nI 28 from h47]
  refine ⟨vp_n hf (by decide), vp_n hf (by decide), vp_n hm (by decide), pif_n (by decide) (pif_n (by decide) (pif_n (by decide) (pif_n (by decide) (pif_n (by decide) (pif_n (by decide) (pif_n (by decide) (pif_n (by decide) (pif_n (by decide) (pif_n (by decide) (pif_n (by decide) (pif_n (by decide) (pif_n (by decide) (pif_n (by decide) (pif_n (by decide) (pif_n (by decide) (pif_n (by decide) (pif_n (by decide) (pif_n (by decide) (pif_n (by decide) (pif_n (by decide) (pif_n (by decide) (?_))))))))))))))))))))))⟩
  exact pif_p hn ⟨bz_0, pif_p rfl (r_fails hf hk)⟩
theorem hV_29_n {G : Gt} {f m : Nat} (hv : vH G f m 29) (hn : 20000 ≤ G 46 42) : rS G (oFr f (-3) G) := by
  obtain ⟨h41, h57, hf, h64, hm, h47⟩ := hv
  refine rS_val h41 h57 hf h64 (by omega) (fun C K hk => ?_)
  have efl : (nI f).toNatClampNeg = f := nI_clamp (by omega)
  have ecl : (nI m).toNatClampNeg = m := nI_clamp (by omega)
  unfold w_X11_hasValue
  rw [efl, show (mxw C G) 64 f = nI m from h64, ecl, show (mxw C G) 47 m = nI 29 from h47]
  refine ⟨vp_n hf (by decide), vp_n hf (by decide), vp_n hm (by decide), pif_n (by decide) (pif_n (by decide) (pif_n (by decide) (pif_n (by decide) (pif_n (by decide) (pif_n (by decide) (pif_n (by decide) (pif_n (by decide) (pif_n (by decide) (pif_n (by decide) (pif_n (by decide) (pif_n (by decide) (pif_n (by decide) (pif_n (by decide) (pif_n (by decide) (pif_n (by decide) (pif_n (by decide) (pif_n (by decide) (pif_n (by decide) (pif_n (by decide) (pif_n (by decide) (pif_n (by decide) (?_))))))))))))))))))))))⟩
  exact pif_p hn ⟨bz_0, pif_p rfl (r_fails hf hk)⟩
theorem hV_31_n {G : Gt} {f m : Nat} (hv : vH G f m 31) (hn : 20000 ≤ G 46 42) : rS G (oFr f (-3) G) := by
  obtain ⟨h41, h57, hf, h64, hm, h47⟩ := hv
  refine rS_val h41 h57 hf h64 (by omega) (fun C K hk => ?_)
  have efl : (nI f).toNatClampNeg = f := nI_clamp (by omega)
  have ecl : (nI m).toNatClampNeg = m := nI_clamp (by omega)
  unfold w_X11_hasValue
  rw [efl, show (mxw C G) 64 f = nI m from h64, ecl, show (mxw C G) 47 m = nI 31 from h47]
  refine ⟨vp_n hf (by decide), vp_n hf (by decide), vp_n hm (by decide), pif_n (by decide) (pif_n (by decide) (pif_n (by decide) (pif_n (by decide) (pif_n (by decide) (pif_n (by decide) (pif_n (by decide) (pif_n (by decide) (pif_n (by decide) (pif_n (by decide) (pif_n (by decide) (pif_n (by decide) (pif_n (by decide) (pif_n (by decide) (pif_n (by decide) (pif_n (by decide) (pif_n (by decide) (pif_n (by decide) (pif_n (by decide) (pif_n (by decide) (pif_n (by decide) (pif_n (by decide) (?_))))))))))))))))))))))⟩
  exact pif_p hn ⟨bz_0, pif_p rfl (r_fails hf hk)⟩
theorem hV_35_n {G : Gt} {f m : Nat} (hv : vH G f m 35) (hn : 20000 ≤ G 46 42) : rS G (oFr f (-3) G) := by
  obtain ⟨h41, h57, hf, h64, hm, h47⟩ := hv
  refine rS_val h41 h57 hf h64 (by omega) (fun C K hk => ?_)
  have efl : (nI f).toNatClampNeg = f := nI_clamp (by omega)
  have ecl : (nI m).toNatClampNeg = m := nI_clamp (by omega)
  unfold w_X11_hasValue
  rw [efl, show (mxw C G) 64 f = nI m from h64, ecl, show (mxw C G) 47 m = nI 35 from h47]
  refine ⟨vp_n hf (by decide), vp_n hf (by decide), vp_n hm (by decide), pif_n (by decide) (pif_n (by decide) (pif_n (by decide) (pif_n (by decide) (pif_n (by decide) (pif_n (by decide) (pif_n (by decide) (pif_n (by decide) (pif_n (by decide) (pif_n (by decide) (pif_n (by decide) (pif_n (by decide) (pif_n (by decide) (pif_n (by decide) (pif_n (by decide) (pif_n (by decide) (pif_n (by decide) (pif_n (by decide) (pif_n (by decide) (pif_n (by decide) (pif_n (by decide) (pif_n (by decide) (?_))))))))))))))))))))))⟩
  exact pif_p hn ⟨bz_0, pif_p rfl (r_fails hf hk)⟩
theorem hV_37_n {G : Gt} {f m : Nat} (hv : vH G f m 37) (hn : 20000 ≤ G 46 42) : rS G (oFr f (-3) G) := by
  obtain ⟨h41, h57, hf, h64, hm, h47⟩ := hv
  refine rS_val h41 h57 hf h64 (by omega) (fun C K hk => ?_)
  have efl : (nI f).toNatClampNeg = f := nI_clamp (by omega)
  have ecl : (nI m).toNatClampNeg = m := nI_clamp (by omega)
  unfold w_X11_hasValue
  rw [efl, show (mxw C G) 64 f = nI m from h64, ecl, show (mxw C G) 47 m = nI 37 from h47]
  refine ⟨vp_n hf (by decide), vp_n hf (by decide), vp_n hm (by decide), pif_n (by decide) (pif_n (by decide) (pif_n (by decide) (pif_n (by decide) (pif_n (by decide) (pif_n (by decide) (pif_n (by decide) (pif_n (by decide) (pif_n (by decide) (pif_n (by decide) (pif_n (by decide) (pif_n (by decide) (pif_n (by decide) (pif_n (by decide) (pif_n (by decide) (pif_n (by decide) (pif_n (by decide) (pif_n (by decide) (pif_n (by decide) (pif_n (by decide) (pif_n (by decide) (pif_n (by decide) (?_))))))))))))))))))))))⟩
  exact pif_p hn ⟨bz_0, pif_p rfl (r_fails hf hk)⟩
theorem hV_22_y {G H : Gt} {f m : Nat} (hv : vH G f m 22) (hn : ¬ 20000 ≤ G 46 42) (h : ∀ (C : Gt) (K : Gt → Prop), K (mxw C H) → w_X11_takes K (nI f) (nI 22) (G 46 42) (mxw C G)) : rS G (H) := by
  obtain ⟨h41, h57, hf, h64, hm, h47⟩ := hv
  refine rS_val h41 h57 hf h64 (by omega) (fun C K hk => ?_)
  have efl : (nI f).toNatClampNeg = f := nI_clamp (by omega)
  have ecl : (nI m).toNatClampNeg = m := nI_clamp (by omega)
  unfold w_X11_hasValue
  rw [efl, show (mxw C G) 64 f = nI m from h64, ecl, show (mxw C G) 47 m = nI 22 from h47]
  refine ⟨vp_n hf (by decide), vp_n hf (by decide), vp_n hm (by decide), pif_n (by decide) (pif_n (by decide) (pif_n (by decide) (pif_n (by decide) (pif_n (by decide) (pif_n (by decide) (pif_n (by decide) (pif_n (by decide) (pif_n (by decide) (pif_n (by decide) (pif_n (by decide) (pif_n (by decide) (pif_n (by decide) (pif_n (by decide) (pif_n (by decide) (pif_n (by decide) (pif_n (by decide) (pif_n (by decide) (pif_n (by decide) (pif_n (by decide) (pif_n (by decide) (pif_n (by decide) (?_))))))))))))))))))))))⟩
  exact pif_n hn ⟨bz_1, pif_n (by decide) (h C _ hk)⟩
theorem hV_28_y {G H : Gt} {f m : Nat} (hv : vH G f m 28) (hn : ¬ 20000 ≤ G 46 42) (h : ∀ (C : Gt) (K : Gt → Prop), K (mxw C H) → w_X11_takes K (nI f) (nI 28) (G 46 42) (mxw C G)) : rS G (H) := by
  obtain ⟨h41, h57, hf, h64, hm, h47⟩ := hv
  refine rS_val h41 h57 hf h64 (by omega) (fun C K hk => ?_)
  have efl : (nI f).toNatClampNeg = f := nI_clamp (by omega)
  have ecl : (nI m).toNatClampNeg = m := nI_clamp (by omega)
  unfold w_X11_hasValue
  rw [efl, show (mxw C G) 64 f = nI m from h64, ecl, show (mxw C G) 47 m = nI 28 from h47]
  refine ⟨vp_n hf (by decide), vp_n hf (by decide), vp_n hm (by decide), pif_n (by decide) (pif_n (by decide) (pif_n (by decide) (pif_n (by decide) (pif_n (by decide) (pif_n (by decide) (pif_n (by decide) (pif_n (by decide) (pif_n (by decide) (pif_n (by decide) (pif_n (by decide) (pif_n (by decide) (pif_n (by decide) (pif_n (by decide) (pif_n (by decide) (pif_n (by decide) (pif_n (by decide) (pif_n (by decide) (pif_n (by decide) (pif_n (by decide) (pif_n (by decide) (pif_n (by decide) (?_))))))))))))))))))))))⟩
  exact pif_n hn ⟨bz_1, pif_n (by decide) (h C _ hk)⟩
theorem hV_29_y {G H : Gt} {f m : Nat} (hv : vH G f m 29) (hn : ¬ 20000 ≤ G 46 42) (h : ∀ (C : Gt) (K : Gt → Prop), K (mxw C H) → w_X11_takes K (nI f) (nI 29) (G 46 42) (mxw C G)) : rS G (H) := by
  obtain ⟨h41, h57, hf, h64, hm, h47⟩ := hv
  refine rS_val h41 h57 hf h64 (by omega) (fun C K hk => ?_)
  have efl : (nI f).toNatClampNeg = f := nI_clamp (by omega)
  have ecl : (nI m).toNatClampNeg = m := nI_clamp (by omega)
  unfold w_X11_hasValue
  rw [efl, show (mxw C G) 64 f = nI m from h64, ecl, show (mxw C G) 47 m = nI 29 from h47]
  refine ⟨vp_n hf (by decide), vp_n hf (by decide), vp_n hm (by decide), pif_n (by decide) (pif_n (by decide) (pif_n (by decide) (pif_n (by decide) (pif_n (by decide) (pif_n (by decide) (pif_n (by decide) (pif_n (by decide) (pif_n (by decide) (pif_n (by decide) (pif_n (by decide) (pif_n (by decide) (pif_n (by decide) (pif_n (by decide) (pif_n (by decide) (pif_n (by decide) (pif_n (by decide) (pif_n (by decide) (pif_n (by decide) (pif_n (by decide) (pif_n (by decide) (pif_n (by decide) (?_))))))))))))))))))))))⟩
  exact pif_n hn ⟨bz_1, pif_n (by decide) (h C _ hk)⟩
theorem hV_31_y {G H : Gt} {f m : Nat} (hv : vH G f m 31) (hn : ¬ 20000 ≤ G 46 42) (h : ∀ (C : Gt) (K : Gt → Prop), K (mxw C H) → w_X11_takes K (nI f) (nI 31) (G 46 42) (mxw C G)) : rS G (H) := by
  obtain ⟨h41, h57, hf, h64, hm, h47⟩ := hv
  refine rS_val h41 h57 hf h64 (by omega) (fun C K hk => ?_)
  have efl : (nI f).toNatClampNeg = f := nI_clamp (by omega)
  have ecl : (nI m).toNatClampNeg = m := nI_clamp (by omega)
  unfold w_X11_hasValue
  rw [efl, show (mxw C G) 64 f = nI m from h64, ecl, show (mxw C G) 47 m = nI 31 from h47]
  refine ⟨vp_n hf (by decide), vp_n hf (by decide), vp_n hm (by decide), pif_n (by decide) (pif_n (by decide) (pif_n (by decide) (pif_n (by decide) (pif_n (by decide) (pif_n (by decide) (pif_n (by decide) (pif_n (by decide) (pif_n (by decide) (pif_n (by decide) (pif_n (by decide) (pif_n (by decide) (pif_n (by decide) (pif_n (by decide) (pif_n (by decide) (pif_n (by decide) (pif_n (by decide) (pif_n (by decide) (pif_n (by decide) (pif_n (by decide) (pif_n (by decide) (pif_n (by decide) (?_))))))))))))))))))))))⟩
  exact pif_n hn ⟨bz_1, pif_n (by decide) (h C _ hk)⟩
theorem hV_35_y {G H : Gt} {f m : Nat} (hv : vH G f m 35) (hn : ¬ 20000 ≤ G 46 42) (h : ∀ (C : Gt) (K : Gt → Prop), K (mxw C H) → w_X11_takes K (nI f) (nI 35) (G 46 42) (mxw C G)) : rS G (H) := by
  obtain ⟨h41, h57, hf, h64, hm, h47⟩ := hv
  refine rS_val h41 h57 hf h64 (by omega) (fun C K hk => ?_)
  have efl : (nI f).toNatClampNeg = f := nI_clamp (by omega)
  have ecl : (nI m).toNatClampNeg = m := nI_clamp (by omega)
  unfold w_X11_hasValue
  rw [efl, show (mxw C G) 64 f = nI m from h64, ecl, show (mxw C G) 47 m = nI 35 from h47]
  refine ⟨vp_n hf (by decide), vp_n hf (by decide), vp_n hm (by decide), pif_n (by decide) (pif_n (by decide) (pif_n (by decide) (pif_n (by decide) (pif_n (by decide) (pif_n (by decide) (pif_n (by decide) (pif_n (by decide) (pif_n (by decide) (pif_n (by decide) (pif_n (by decide) (pif_n (by decide) (pif_n (by decide) (pif_n (by decide) (pif_n (by decide) (pif_n (by decide) (pif_n (by decide) (pif_n (by decide) (pif_n (by decide) (pif_n (by decide) (pif_n (by decide) (pif_n (by decide) (?_))))))))))))))))))))))⟩
  exact pif_n hn ⟨bz_1, pif_n (by decide) (h C _ hk)⟩
theorem hV_37_y {G H : Gt} {f m : Nat} (hv : vH G f m 37) (hn : ¬ 20000 ≤ G 46 42) (h : ∀ (C : Gt) (K : Gt → Prop), K (mxw C H) → w_X11_takes K (nI f) (nI 37) (G 46 42) (mxw C G)) : rS G (H) := by
  obtain ⟨h41, h57, hf, h64, hm, h47⟩ := hv
  refine rS_val h41 h57 hf h64 (by omega) (fun C K hk => ?_)
  have efl : (nI f).toNatClampNeg = f := nI_clamp (by omega)
  have ecl : (nI m).toNatClampNeg = m := nI_clamp (by omega)
  unfold w_X11_hasValue
  rw [efl, show (mxw C G) 64 f = nI m from h64, ecl, show (mxw C G) 47 m = nI 37 from h47]
  refine ⟨vp_n hf (by decide), vp_n hf (by decide), vp_n hm (by decide), pif_n (by decide) (pif_n (by decide) (pif_n (by decide) (pif_n (by decide) (pif_n (by decide) (pif_n (by decide) (pif_n (by decide) (pif_n (by decide) (pif_n (by decide) (pif_n (by decide) (pif_n (by decide) (pif_n (by decide) (pif_n (by decide) (pif_n (by decide) (pif_n (by decide) (pif_n (by decide) (pif_n (by decide) (pif_n (by decide) (pif_n (by decide) (pif_n (by decide) (pif_n (by decide) (pif_n (by decide) (?_))))))))))))))))))))))⟩
  exact pif_n hn ⟨bz_1, pif_n (by decide) (h C _ hk)⟩
