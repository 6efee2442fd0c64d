/-! THE REFERENCE, node by node -/
def bS (G0 H : Gt) : Prop := ∀ (C : Gt) (K : Gt → Prop), K (mxw C H) → w_X11_beginsNode K (mxw C G0)
theorem clo_bS {G : Gt} : clo (bS G) := fun _ _ h e C K hk => h C K (by rw [mxw_r e] at hk; exact hk)
def bH (G0 G1 : Gt) (m F : Nat) : Prop := m < 120 ∧ F < 1220 ∧ G0 46 54 = nI m ∧ G0 46 21 = nI F ∧ eqr (oLa F (nI m) (G0 46 56) (G0 46 55) 0 G0) G1
def vH (G : Gt) (f m k : Nat) : Prop := G 46 41 = 1 ∧ G 46 57 = nI f ∧ f < 1220 ∧ G 64 f = nI m ∧ m < 120 ∧ G 47 m = nI k
theorem bN_0 {G0 G1 : Gt} {m F : Nat} (hb : bH G0 G1 m F) (h47 : G1 47 m = nI 0) : bS G0 (oEn (G1 48 m) (G1 65 F) G1) := by
  intro C K hk
  obtain ⟨hm, hF, h54, h21, he⟩ := hb
  have ecl : (nI m).toNatClampNeg = m := nI_clamp (by omega)
  unfold w_X11_beginsNode
  rw [show (mxw C G0) 46 54 = nI m from h54, ecl]
  refine r_lays h21 hF ?_
  rw [show mxw C (oLa F (nI m) ((mxw C G0) 46 56) ((mxw C G0) 46 55) 0 G0) = mxw C G1 from (mxw_r he).symm, show (mxw C G1) 47 m = nI 0 from h47]
  refine ⟨vp_n hm (by decide), vp_n hm (by decide), pif_p (by decide) (?_)⟩
  exact r_ends hF hk
theorem bN_1 {G0 G1 H : Gt} {m F : Nat} (hb : bH G0 G1 m F) (h47 : G1 47 m = nI 1) (h : ∀ (C : Gt) (K : Gt → Prop), K (mxw C H) → w_X11_cellOf (fun v5 G4 => w_X11_names K (nI F) v5 G4) (G1 46 55) (G1 48 m) (mxw C G1)) : bS G0 (H) := by
  intro C K hk
  obtain ⟨hm, hF, h54, h21, he⟩ := hb
  have ecl : (nI m).toNatClampNeg = m := nI_clamp (by omega)
  unfold w_X11_beginsNode
  rw [show (mxw C G0) 46 54 = nI m from h54, ecl]
  refine r_lays h21 hF ?_
  rw [show mxw C (oLa F (nI m) ((mxw C G0) 46 56) ((mxw C G0) 46 55) 0 G0) = mxw C G1 from (mxw_r he).symm, show (mxw C G1) 47 m = nI 1 from h47]
  refine ⟨vp_n hm (by decide), vp_n hm (by decide), pif_n (by decide) (pif_p (by decide) (?_))⟩
  exact h C _ hk
theorem bN_2 {G0 G1 : Gt} {m F : Nat} (hb : bH G0 G1 m F) (h47 : G1 47 m = nI 2) : bS G0 (oAk (G1 49 m) (nI F) (G1 66 F) (gu G1 67 F 0)) := by
  intro C K hk
  obtain ⟨hm, hF, h54, h21, he⟩ := hb
  have ecl : (nI m).toNatClampNeg = m := nI_clamp (by omega)
  unfold w_X11_beginsNode
  rw [show (mxw C G0) 46 54 = nI m from h54, ecl]
  refine r_lays h21 hF ?_
  rw [show mxw C (oLa F (nI m) ((mxw C G0) 46 56) ((mxw C G0) 46 55) 0 G0) = mxw C G1 from (mxw_r he).symm, show (mxw C G1) 47 m = nI 2 from h47]
  refine ⟨vp_n hm (by decide), vp_n hm (by decide), pif_n (by decide) (pif_n (by decide) (pif_p (by decide) (?_)))⟩
  unfold w_X11_beginsNode_j234
  rw [ecl]
  exact ⟨vp_n hm (by decide), r_parts hF hk⟩
theorem bN_3 {G0 G1 : Gt} {m F : Nat} (hb : bH G0 G1 m F) (h47 : G1 47 m = nI 3) : bS G0 (oAk (G1 49 m) (nI F) (G1 66 F) (gu G1 67 F 0)) := by
  intro C K hk
  obtain ⟨hm, hF, h54, h21, he⟩ := hb
  have ecl : (nI m).toNatClampNeg = m := nI_clamp (by omega)
  unfold w_X11_beginsNode
  rw [show (mxw C G0) 46 54 = nI m from h54, ecl]
  refine r_lays h21 hF ?_
  rw [show mxw C (oLa F (nI m) ((mxw C G0) 46 56) ((mxw C G0) 46 55) 0 G0) = mxw C G1 from (mxw_r he).symm, show (mxw C G1) 47 m = nI 3 from h47]
  refine ⟨vp_n hm (by decide), vp_n hm (by decide), pif_n (by decide) (pif_n (by decide) (pif_n (by decide) (pif_p (by decide) (?_))))⟩
  unfold w_X11_beginsNode_j234
  rw [ecl]
  exact ⟨vp_n hm (by decide), r_parts hF hk⟩
theorem bN_14 {G0 G1 : Gt} {m F : Nat} (hb : bH G0 G1 m F) (h47 : G1 47 m = nI 14) : bS G0 (oAk (G1 49 m) (nI F) (G1 66 F) (gu G1 67 F 0)) := by
  intro C K hk
  obtain ⟨hm, hF, h54, h21, he⟩ := hb
  have ecl : (nI m).toNatClampNeg = m := nI_clamp (by omega)
  unfold w_X11_beginsNode
  rw [show (mxw C G0) 46 54 = nI m from h54, ecl]
  refine r_lays h21 hF ?_
  rw [show mxw C (oLa F (nI m) ((mxw C G0) 46 56) ((mxw C G0) 46 55) 0 G0) = mxw C G1 from (mxw_r he).symm, show (mxw C G1) 47 m = nI 14 from h47]
  refine ⟨vp_n hm (by decide), vp_n hm (by decide), pif_n (by decide) (pif_n (by decide) (pif_n (by decide) (pif_n (by decide) (pif_n (by decide) (pif_n (by decide) (pif_p (by decide) (?_)))))))⟩
  unfold w_X11_beginsNode_j234
  rw [ecl]
  exact ⟨vp_n hm (by decide), r_parts hF hk⟩
theorem bN_20 {G0 G1 : Gt} {m F : Nat} (hb : bH G0 G1 m F) (h47 : G1 47 m = nI 20) : bS G0 (oAk (G1 49 m) (nI F) (G1 66 F) (gu G1 67 F 0)) := by
  intro C K hk
  obtain ⟨hm, hF, h54, h21, he⟩ := hb
  have ecl : (nI m).toNatClampNeg = m := nI_clamp (by omega)
  unfold w_X11_beginsNode
  rw [show (mxw C G0) 46 54 = nI m from h54, ecl]
  refine r_lays h21 hF ?_
  rw [show mxw C (oLa F (nI m) ((mxw C G0) 46 56) ((mxw C G0) 46 55) 0 G0) = mxw C G1 from (mxw_r he).symm, show (mxw C G1) 47 m = nI 20 from h47]
  refine ⟨vp_n hm (by decide), vp_n hm (by decide), pif_n (by decide) (pif_n (by decide) (pif_n (by decide) (pif_n (by decide) (pif_n (by decide) (pif_n (by decide) (pif_n (by decide) (pif_n (by decide) (pif_n (by decide) (pif_n (by decide) (pif_p (by decide) (?_)))))))))))⟩
  unfold w_X11_beginsNode_j234
  rw [ecl]
  exact ⟨vp_n hm (by decide), r_parts hF hk⟩
theorem bN_26 {G0 G1 : Gt} {m F : Nat} (hb : bH G0 G1 m F) (h47 : G1 47 m = nI 26) : bS G0 (oAk (G1 49 m) (nI F) (G1 66 F) (gu G1 67 F 0)) := by
  intro C K hk
  obtain ⟨hm, hF, h54, h21, he⟩ := hb
  have ecl : (nI m).toNatClampNeg = m := nI_clamp (by omega)
  unfold w_X11_beginsNode
  rw [show (mxw C G0) 46 54 = nI m from h54, ecl]
  refine r_lays h21 hF ?_
  rw [show mxw C (oLa F (nI m) ((mxw C G0) 46 56) ((mxw C G0) 46 55) 0 G0) = mxw C G1 from (mxw_r he).symm, show (mxw C G1) 47 m = nI 26 from h47]
  refine ⟨vp_n hm (by decide), vp_n hm (by decide), pif_n (by decide) (pif_n (by decide) (pif_n (by decide) (pif_n (by decide) (pif_n (by decide) (pif_n (by decide) (pif_n (by decide) (pif_n (by decide) (pif_n (by decide) (pif_n (by decide) (pif_n (by decide) (pif_n (by decide) (pif_p (by decide) (?_)))))))))))))⟩
  unfold w_X11_beginsNode_j234
  rw [ecl]
  exact ⟨vp_n hm (by decide), r_parts hF hk⟩
theorem bN_28 {G0 G1 : Gt} {m F : Nat} (hb : bH G0 G1 m F) (h47 : G1 47 m = nI 28) : bS G0 (oAk (G1 49 m) (nI F) (G1 66 F) (gu G1 67 F 0)) := by
  intro C K hk
  obtain ⟨hm, hF, h54, h21, he⟩ := hb
  have ecl : (nI m).toNatClampNeg = m := nI_clamp (by omega)
  unfold w_X11_beginsNode
  rw [show (mxw C G0) 46 54 = nI m from h54, ecl]
  refine r_lays h21 hF ?_
  rw [show mxw C (oLa F (nI m) ((mxw C G0) 46 56) ((mxw C G0) 46 55) 0 G0) = mxw C G1 from (mxw_r he).symm, show (mxw C G1) 47 m = nI 28 from h47]
  refine ⟨vp_n hm (by decide), vp_n hm (by decide), pif_n (by decide) (pif_n (by decide) (pif_n (by decide) (pif_n (by decide) (pif_n (by decide) (pif_n (by decide) (pif_n (by decide) (pif_n (by decide) (pif_n (by decide) (pif_n (by decide) (pif_n (by decide) (pif_n (by decide) (pif_n (by decide) (pif_n (by decide) (pif_p (by decide) (?_)))))))))))))))⟩
  unfold w_X11_beginsNode_j234
  rw [ecl]
  exact ⟨vp_n hm (by decide), r_parts hF hk⟩
theorem bN_4 {G0 G1 : Gt} {m F : Nat} (hb : bH G0 G1 m F) (h47 : G1 47 m = nI 4) : bS G0 (oAk (G1 48 m) (nI F) (G1 66 F) (gu G1 67 F 0)) := by
  intro C K hk
  obtain ⟨hm, hF, h54, h21, he⟩ := hb
  have ecl : (nI m).toNatClampNeg = m := nI_clamp (by omega)
  unfold w_X11_beginsNode
  rw [show (mxw C G0) 46 54 = nI m from h54, ecl]
  refine r_lays h21 hF ?_
  rw [show mxw C (oLa F (nI m) ((mxw C G0) 46 56) ((mxw C G0) 46 55) 0 G0) = mxw C G1 from (mxw_r he).symm, show (mxw C G1) 47 m = nI 4 from h47]
  refine ⟨vp_n hm (by decide), vp_n hm (by decide), pif_n (by decide) (pif_n (by decide) (pif_n (by decide) (pif_n (by decide) (pif_n (by decide) (pif_n (by decide) (pif_n (by decide) (pif_n (by decide) (pif_n (by decide) (pif_n (by decide) (pif_n (by decide) (pif_n (by decide) (pif_n (by decide) (pif_n (by decide) (pif_n (by decide) (pif_n (by decide) (pif_n (by decide) (pif_n (by decide) (pif_n (by decide) (pif_n (by decide) (pif_n (by decide) (pif_n (by decide) (?_))))))))))))))))))))))⟩
  exact r_parts hF hk
theorem bN_5 {G0 G1 : Gt} {m F : Nat} (hb : bH G0 G1 m F) (h47 : G1 47 m = nI 5) : bS G0 (oAk (G1 48 m) (nI F) (G1 66 F) (gu G1 67 F 0)) := by
  intro C K hk
  obtain ⟨hm, hF, h54, h21, he⟩ := hb
  have ecl : (nI m).toNatClampNeg = m := nI_clamp (by omega)
  unfold w_X11_beginsNode
  rw [show (mxw C G0) 46 54 = nI m from h54, ecl]
  refine r_lays h21 hF ?_
  rw [show mxw C (oLa F (nI m) ((mxw C G0) 46 56) ((mxw C G0) 46 55) 0 G0) = mxw C G1 from (mxw_r he).symm, show (mxw C G1) 47 m = nI 5 from h47]
  refine ⟨vp_n hm (by decide), vp_n hm (by decide), pif_n (by decide) (pif_n (by decide) (pif_n (by decide) (pif_n (by decide) (pif_n (by decide) (pif_n (by decide) (pif_n (by decide) (pif_n (by decide) (pif_n (by decide) (pif_n (by decide) (pif_n (by decide) (pif_n (by decide) (pif_n (by decide) (pif_n (by decide) (pif_n (by decide) (pif_n (by decide) (pif_n (by decide) (pif_n (by decide) (pif_n (by decide) (pif_n (by decide) (pif_n (by decide) (pif_n (by decide) (?_))))))))))))))))))))))⟩
  exact r_parts hF hk
theorem bN_6 {G0 G1 : Gt} {m F : Nat} (hb : bH G0 G1 m F) (h47 : G1 47 m = nI 6) : bS G0 (oAk (G1 48 m) (nI F) (G1 66 F) (gu G1 67 F 0)) := by
  intro C K hk
  obtain ⟨hm, hF, h54, h21, he⟩ := hb
  have ecl : (nI m).toNatClampNeg = m := nI_clamp (by omega)
  unfold w_X11_beginsNode
  rw [show (mxw C G0) 46 54 = nI m from h54, ecl]
  refine r_lays h21 hF ?_
  rw [show mxw C (oLa F (nI m) ((mxw C G0) 46 56) ((mxw C G0) 46 55) 0 G0) = mxw C G1 from (mxw_r he).symm, show (mxw C G1) 47 m = nI 6 from h47]
  refine ⟨vp_n hm (by decide), vp_n hm (by decide), pif_n (by decide) (pif_n (by decide) (pif_n (by decide) (pif_n (by decide) (pif_n (by decide) (pif_n (by decide) (pif_n (by decide) (pif_n (by decide) (pif_n (by decide) (pif_n (by decide) (pif_n (by decide) (pif_n (by decide) (pif_n (by decide) (pif_n (by decide) (pif_n (by decide) (pif_n (by decide) (pif_n (by decide) (pif_n (by decide) (pif_n (by decide) (pif_n (by decide) (pif_n (by decide) (pif_n (by decide) (?_))))))))))))))))))))))⟩
  exact r_parts hF hk
theorem bN_7 {G0 G1 : Gt} {m F : Nat} (hb : bH G0 G1 m F) (h47 : G1 47 m = nI 7) : bS G0 (oAk (G1 48 m) (nI F) (G1 66 F) (gu G1 67 F 0)) := by
  intro C K hk
  obtain ⟨hm, hF, h54, h21, he⟩ := hb
  have ecl : (nI m).toNatClampNeg = m := nI_clamp (by omega)
  unfold w_X11_beginsNode
  rw [show (mxw C G0) 46 54 = nI m from h54, ecl]
  refine r_lays h21 hF ?_
  rw [show mxw C (oLa F (nI m) ((mxw C G0) 46 56) ((mxw C G0) 46 55) 0 G0) = mxw C G1 from (mxw_r he).symm, show (mxw C G1) 47 m = nI 7 from h47]
  refine ⟨vp_n hm (by decide), vp_n hm (by decide), pif_n (by decide) (pif_n (by decide) (pif_n (by decide) (pif_n (by decide) (pif_n (by decide) (pif_n (by decide) (pif_n (by decide) (pif_n (by decide) (pif_n (by decide) (pif_n (by decide) (pif_n (by decide) (pif_n (by decide) (pif_n (by decide) (pif_n (by decide) (pif_n (by decide) (pif_n (by decide) (pif_n (by decide) (pif_n (by decide) (pif_n (by decide) (pif_n (by decide) (pif_n (by decide) (pif_n (by decide) (?_))))))))))))))))))))))⟩
  exact r_parts hF hk
theorem bN_8 {G0 G1 : Gt} {m F : Nat} (hb : bH G0 G1 m F) (h47 : G1 47 m = nI 8) : bS G0 (oAk (G1 48 m) (nI F) (G1 66 F) (gu G1 67 F 0)) := by
  intro C K hk
  obtain ⟨hm, hF, h54, h21, he⟩ := hb
  have ecl : (nI m).toNatClampNeg = m := nI_clamp (by omega)
  unfold w_X11_beginsNode
  rw [show (mxw C G0) 46 54 = nI m from h54, ecl]
  refine r_lays h21 hF ?_
  rw [show mxw C (oLa F (nI m) ((mxw C G0) 46 56) ((mxw C G0) 46 55) 0 G0) = mxw C G1 from (mxw_r he).symm, show (mxw C G1) 47 m = nI 8 from h47]
  refine ⟨vp_n hm (by decide), vp_n hm (by decide), pif_n (by decide) (pif_n (by decide) (pif_n (by decide) (pif_n (by decide) (pif_n (by decide) (pif_n (by decide) (pif_n (by decide) (pif_n (by decide) (pif_n (by decide) (pif_n (by decide) (pif_n (by decide) (pif_n (by decide) (pif_n (by decide) (pif_n (by decide) (pif_n (by decide) (pif_n (by decide) (pif_n (by decide) (pif_n (by decide) (pif_n (by decide) (pif_n (by decide) (pif_n (by decide) (pif_n (by decide) (?_))))))))))))))))))))))⟩
  exact r_parts hF hk
theorem bN_9 {G0 G1 : Gt} {m F : Nat} (hb : bH G0 G1 m F) (h47 : G1 47 m = nI 9) : bS G0 (oAk (G1 48 m) (nI F) (G1 66 F) (gu G1 67 F 0)) := by
  intro C K hk
  obtain ⟨hm, hF, h54, h21, he⟩ := hb
  have ecl : (nI m).toNatClampNeg = m := nI_clamp (by omega)
  unfold w_X11_beginsNode
  rw [show (mxw C G0) 46 54 = nI m from h54, ecl]
  refine r_lays h21 hF ?_
  rw [show mxw C (oLa F (nI m) ((mxw C G0) 46 56) ((mxw C G0) 46 55) 0 G0) = mxw C G1 from (mxw_r he).symm, show (mxw C G1) 47 m = nI 9 from h47]
  refine ⟨vp_n hm (by decide), vp_n hm (by decide), pif_n (by decide) (pif_n (by decide) (pif_n (by decide) (pif_n (by decide) (pif_n (by decide) (pif_n (by decide) (pif_n (by decide) (pif_n (by decide) (pif_n (by decide) (pif_n (by decide) (pif_n (by decide) (pif_n (by decide) (pif_n (by decide) (pif_n (by decide) (pif_n (by decide) (pif_n (by decide) (pif_n (by decide) (pif_n (by decide) (pif_n (by decide) (pif_n (by decide) (pif_n (by decide) (pif_n (by decide) (?_))))))))))))))))))))))⟩
  exact r_parts hF hk
theorem bN_10 {G0 G1 : Gt} {m F : Nat} (hb : bH G0 G1 m F) (h47 : G1 47 m = nI 10) : bS G0 (oAk (G1 48 m) (nI F) (G1 66 F) (gu G1 67 F 0)) := by
  intro C K hk
  obtain ⟨hm, hF, h54, h21, he⟩ := hb
  have ecl : (nI m).toNatClampNeg = m := nI_clamp (by omega)
  unfold w_X11_beginsNode
  rw [show (mxw C G0) 46 54 = nI m from h54, ecl]
  refine r_lays h21 hF ?_
  rw [show mxw C (oLa F (nI m) ((mxw C G0) 46 56) ((mxw C G0) 46 55) 0 G0) = mxw C G1 from (mxw_r he).symm, show (mxw C G1) 47 m = nI 10 from h47]
  refine ⟨vp_n hm (by decide), vp_n hm (by decide), pif_n (by decide) (pif_n (by decide) (pif_n (by decide) (pif_n (by decide) (pif_n (by decide) (pif_n (by decide) (pif_n (by decide) (pif_n (by decide) (pif_n (by decide) (pif_n (by decide) (pif_n (by decide) (pif_n (by decide) (pif_n (by decide) (pif_n (by decide) (pif_n (by decide) (pif_n (by decide) (pif_n (by decide) (pif_n (by decide) (pif_n (by decide) (pif_n (by decide) (pif_n (by decide) (pif_n (by decide) (?_))))))))))))))))))))))⟩
  exact r_parts hF hk
theorem bN_11 {G0 G1 : Gt} {m F : Nat} (hb : bH G0 G1 m F) (h47 : G1 47 m = nI 11) : bS G0 (oAk (G1 48 m) (nI F) (G1 66 F) (gu G1 67 F 0)) := by
  intro C K hk
  obtain ⟨hm, hF, h54, h21, he⟩ := hb
  have ecl : (nI m).toNatClampNeg = m := nI_clamp (by omega)
  unfold w_X11_beginsNode
  rw [show (mxw C G0) 46 54 = nI m from h54, ecl]
  refine r_lays h21 hF ?_
  rw [show mxw C (oLa F (nI m) ((mxw C G0) 46 56) ((mxw C G0) 46 55) 0 G0) = mxw C G1 from (mxw_r he).symm, show (mxw C G1) 47 m = nI 11 from h47]
  refine ⟨vp_n hm (by decide), vp_n hm (by decide), pif_n (by decide) (pif_n (by decide) (pif_n (by decide) (pif_n (by decide) (pif_n (by decide) (pif_n (by decide) (pif_n (by decide) (pif_n (by decide) (pif_n (by decide) (pif_n (by decide) (pif_n (by decide) (pif_n (by decide) (pif_n (by decide) (pif_n (by decide) (pif_n (by decide) (pif_n (by decide) (pif_n (by decide) (pif_n (by decide) (pif_n (by decide) (pif_n (by decide) (pif_n (by decide) (pif_n (by decide) (?_))))))))))))))))))))))⟩
  exact r_parts hF hk
theorem bN_17 {G0 G1 : Gt} {m F : Nat} (hb : bH G0 G1 m F) (h47 : G1 47 m = nI 17) : bS G0 (oAk (G1 48 m) (nI F) (G1 66 F) (gu G1 67 F 0)) := by
  intro C K hk
  obtain ⟨hm, hF, h54, h21, he⟩ := hb
  have ecl : (nI m).toNatClampNeg = m := nI_clamp (by omega)
  unfold w_X11_beginsNode
  rw [show (mxw C G0) 46 54 = nI m from h54, ecl]
  refine r_lays h21 hF ?_
  rw [show mxw C (oLa F (nI m) ((mxw C G0) 46 56) ((mxw C G0) 46 55) 0 G0) = mxw C G1 from (mxw_r he).symm, show (mxw C G1) 47 m = nI 17 from h47]
  refine ⟨vp_n hm (by decide), vp_n hm (by decide), pif_n (by decide) (pif_n (by decide) (pif_n (by decide) (pif_n (by decide) (pif_n (by decide) (pif_n (by decide) (pif_n (by decide) (pif_n (by decide) (pif_n (by decide) (pif_n (by decide) (pif_n (by decide) (pif_n (by decide) (pif_n (by decide) (pif_n (by decide) (pif_n (by decide) (pif_n (by decide) (pif_n (by decide) (pif_n (by decide) (pif_n (by decide) (pif_n (by decide) (pif_n (by decide) (pif_n (by decide) (?_))))))))))))))))))))))⟩
  exact r_parts hF hk
theorem bN_19 {G0 G1 : Gt} {m F : Nat} (hb : bH G0 G1 m F) (h47 : G1 47 m = nI 19) : bS G0 (oAk (G1 48 m) (nI F) (G1 66 F) (gu G1 67 F 0)) := by
  intro C K hk
  obtain ⟨hm, hF, h54, h21, he⟩ := hb
  have ecl : (nI m).toNatClampNeg = m := nI_clamp (by omega)
  unfold w_X11_beginsNode
  rw [show (mxw C G0) 46 54 = nI m from h54, ecl]
  refine r_lays h21 hF ?_
  rw [show mxw C (oLa F (nI m) ((mxw C G0) 46 56) ((mxw C G0) 46 55) 0 G0) = mxw C G1 from (mxw_r he).symm, show (mxw C G1) 47 m = nI 19 from h47]
  refine ⟨vp_n hm (by decide), vp_n hm (by decide), pif_n (by decide) (pif_n (by decide) (pif_n (by decide) (pif_n (by decide) (pif_n (by decide) (pif_n (by decide) (pif_n (by decide) (pif_n (by decide) (pif_n (by decide) (pif_n (by decide) (pif_n (by decide) (pif_n (by decide) (pif_n (by decide) (pif_n (by decide) (pif_n (by decide) (pif_n (by decide) (pif_n (by decide) (pif_n (by decide) (pif_n (by decide) (pif_n (by decide) (pif_n (by decide) (pif_n (by decide) (?_))))))))))))))))))))))⟩
  exact r_parts hF hk
theorem bN_21 {G0 G1 : Gt} {m F : Nat} (hb : bH G0 G1 m F) (h47 : G1 47 m = nI 21) : bS G0 (oAk (G1 48 m) (nI F) (G1 66 F) (gu G1 67 F 0)) := by
  intro C K hk
  obtain ⟨hm, hF, h54, h21, he⟩ := hb
  have ecl : (nI m).toNatClampNeg = m := nI_clamp (by omega)
  unfold w_X11_beginsNode
  rw [show (mxw C G0) 46 54 = nI m from h54, ecl]
  refine r_lays h21 hF ?_
  rw [show mxw C (oLa F (nI m) ((mxw C G0) 46 56) ((mxw C G0) 46 55) 0 G0) = mxw C G1 from (mxw_r he).symm, show (mxw C G1) 47 m = nI 21 from h47]
  refine ⟨vp_n hm (by decide), vp_n hm (by decide), pif_n (by decide) (pif_n (by decide) (pif_n (by decide) (pif_n (by decide) (pif_n (by decide) (pif_n (by decide) (pif_n (by decide) (pif_n (by decide) (pif_n (by decide) (pif_n (by decide) (pif_n (by decide) (pif_n (by decide) (pif_n (by decide) (pif_n (by decide) (pif_n (by decide) (pif_n (by decide) (pif_n (by decide) (pif_n (by decide) (pif_n (by decide) (pif_n (by decide) (pif_n (by decide) (pif_n (by decide) (?_))))))))))))))))))))))⟩
  exact r_parts hF hk
theorem bN_22 {G0 G1 : Gt} {m F : Nat} (hb : bH G0 G1 m F) (h47 : G1 47 m = nI 22) : bS G0 (oAk (G1 48 m) (nI F) (G1 66 F) (gu G1 67 F 0)) := by
  intro C K hk
  obtain ⟨hm, hF, h54, h21, he⟩ := hb
  have ecl : (nI m).toNatClampNeg = m := nI_clamp (by omega)
  unfold w_X11_beginsNode
  rw [show (mxw C G0) 46 54 = nI m from h54, ecl]
  refine r_lays h21 hF ?_
  rw [show mxw C (oLa F (nI m) ((mxw C G0) 46 56) ((mxw C G0) 46 55) 0 G0) = mxw C G1 from (mxw_r he).symm, show (mxw C G1) 47 m = nI 22 from h47]
  refine ⟨vp_n hm (by decide), vp_n hm (by decide), pif_n (by decide) (pif_n (by decide) (pif_n (by decide) (pif_n (by decide) (pif_n (by decide) (pif_n (by decide) (pif_n (by decide) (pif_n (by decide) (pif_n (by decide) (pif_n (by decide) (pif_n (by decide) (pif_n (by decide) (pif_n (by decide) (pif_n (by decide) (pif_n (by decide) (pif_n (by decide) (pif_n (by decide) (pif_n (by decide) (pif_n (by decide) (pif_n (by decide) (pif_n (by decide) (pif_n (by decide) (?_))))))))))))))))))))))⟩
  exact r_parts hF hk
theorem bN_24 {G0 G1 : Gt} {m F : Nat} (hb : bH G0 G1 m F) (h47 : G1 47 m = nI 24) : bS G0 (oAk (G1 48 m) (nI F) (G1 66 F) (gu G1 67 F 0)) := by
  intro C K hk
  obtain ⟨hm, hF, h54, h21, he⟩ := hb
  have ecl : (nI m).toNatClampNeg = m := nI_clamp (by omega)
  unfold w_X11_beginsNode
  rw [show (mxw C G0) 46 54 = nI m from h54, ecl]
  refine r_lays h21 hF ?_
  rw [show mxw C (oLa F (nI m) ((mxw C G0) 46 56) ((mxw C G0) 46 55) 0 G0) = mxw C G1 from (mxw_r he).symm, show (mxw C G1) 47 m = nI 24 from h47]
  refine ⟨vp_n hm (by decide), vp_n hm (by decide), pif_n (by decide) (pif_n (by decide) (pif_n (by decide) (pif_n (by decide) (pif_n (by decide) (pif_n (by decide) (pif_n (by decide) (pif_n (by decide) (pif_n (by decide) (pif_n (by decide) (pif_n (by decide) (pif_n (by decide) (pif_n (by decide) (pif_n (by decide) (pif_n (by decide) (pif_n (by decide) (pif_n (by decide) (pif_n (by decide) (pif_n (by decide) (pif_n (by decide) (pif_n (by decide) (pif_n (by decide) (?_))))))))))))))))))))))⟩
  exact r_parts hF hk
theorem bN_25 {G0 G1 : Gt} {m F : Nat} (hb : bH G0 G1 m F) (h47 : G1 47 m = nI 25) : bS G0 (oAk (G1 48 m) (nI F) (G1 66 F) (gu G1 67 F 0)) := by
  intro C K hk
  obtain ⟨hm, hF, h54, h21, he⟩ := hb
  have ecl : (nI m).toNatClampNeg = m := nI_clamp (by omega)
  unfold w_X11_beginsNode
  rw [show (mxw C G0) 46 54 = nI m from h54, ecl]
  refine r_lays h21 hF ?_
  rw [show mxw C (oLa F (nI m) ((mxw C G0) 46 56) ((mxw C G0) 46 55) 0 G0) = mxw C G1 from (mxw_r he).symm, show (mxw C G1) 47 m = nI 25 from h47]
  refine ⟨vp_n hm (by decide), vp_n hm (by decide), pif_n (by decide) (pif_n (by decide) (pif_n (by decide) (pif_n (by decide) (pif_n (by decide) (pif_n (by decide) (pif_n (by decide) (pif_n (by decide) (pif_n (by decide) (pif_n (by decide) (pif_n (by decide) (pif_n (by decide) (pif_n (by decide) (pif_n (by decide) (pif_n (by decide) (pif_n (by decide) (pif_n (by decide) (pif_n (by decide) (pif_n (by decide) (pif_n (by decide) (pif_n (by decide) (pif_n (by decide) (?_))))))))))))))))))))))⟩
  exact r_parts hF hk
theorem bN_29 {G0 G1 : Gt} {m F : Nat} (hb : bH G0 G1 m F) (h47 : G1 47 m = nI 29) : bS G0 (oAk (G1 48 m) (nI F) (G1 66 F) (gu G1 67 F 0)) := by
  intro C K hk
  obtain ⟨hm, hF, h54, h21, he⟩ := hb
  have ecl : (nI m).toNatClampNeg = m := nI_clamp (by omega)
  unfold w_X11_beginsNode
  rw [show (mxw C G0) 46 54 = nI m from h54, ecl]
  refine r_lays h21 hF ?_
  rw [show mxw C (oLa F (nI m) ((mxw C G0) 46 56) ((mxw C G0) 46 55) 0 G0) = mxw C G1 from (mxw_r he).symm, show (mxw C G1) 47 m = nI 29 from h47]
  refine ⟨vp_n hm (by decide), vp_n hm (by decide), pif_n (by decide) (pif_n (by decide) (pif_n (by decide) (pif_n (by decide) (pif_n (by decide) (pif_n (by decide) (pif_n (by decide) (pif_n (by decide) (pif_n (by decide) (pif_n (by decide) (pif_n (by decide) (pif_n (by decide) (pif_n (by decide) (pif_n (by decide) (pif_n (by decide) (pif_n (by decide) (pif_n (by decide) (pif_n (by decide) (pif_n (by decide) (pif_n (by decide) (pif_n (by decide) (pif_n (by decide) (?_))))))))))))))))))))))⟩
  exact r_parts hF hk
theorem bN_31 {G0 G1 : Gt} {m F : Nat} (hb : bH G0 G1 m F) (h47 : G1 47 m = nI 31) : bS G0 (oAk (G1 48 m) (nI F) (G1 66 F) (gu G1 67 F 0)) := by
  intro C K hk
  obtain ⟨hm, hF, h54, h21, he⟩ := hb
  have ecl : (nI m).toNatClampNeg = m := nI_clamp (by omega)
  unfold w_X11_beginsNode
  rw [show (mxw C G0) 46 54 = nI m from h54, ecl]
  refine r_lays h21 hF ?_
  rw [show mxw C (oLa F (nI m) ((mxw C G0) 46 56) ((mxw C G0) 46 55) 0 G0) = mxw C G1 from (mxw_r he).symm, show (mxw C G1) 47 m = nI 31 from h47]
  refine ⟨vp_n hm (by decide), vp_n hm (by decide), pif_n (by decide) (pif_n (by decide) (pif_n (by decide) (pif_n (by decide) (pif_n (by decide) (pif_n (by decide) (pif_n (by decide) (pif_n (by decide) (pif_n (by decide) (pif_n (by decide) (pif_n (by decide) (pif_n (by decide) (pif_n (by decide) (pif_n (by decide) (pif_n (by decide) (pif_n (by decide) (pif_n (by decide) (pif_n (by decide) (pif_n (by decide) (pif_n (by decide) (pif_n (by decide) (pif_n (by decide) (?_))))))))))))))))))))))⟩
  exact r_parts hF hk
theorem bN_35 {G0 G1 : Gt} {m F : Nat} (hb : bH G0 G1 m F) (h47 : G1 47 m = nI 35) : bS G0 (oAk (G1 48 m) (nI F) (G1 66 F) (gu G1 67 F 0)) := by
  intro C K hk
  obtain ⟨hm, hF, h54, h21, he⟩ := hb
  have ecl : (nI m).toNatClampNeg = m := nI_clamp (by omega)
  unfold w_X11_beginsNode
  rw [show (mxw C G0) 46 54 = nI m from h54, ecl]
  refine r_lays h21 hF ?_
  rw [show mxw C (oLa F (nI m) ((mxw C G0) 46 56) ((mxw C G0) 46 55) 0 G0) = mxw C G1 from (mxw_r he).symm, show (mxw C G1) 47 m = nI 35 from h47]
  refine ⟨vp_n hm (by decide), vp_n hm (by decide), pif_n (by decide) (pif_n (by decide) (pif_n (by decide) (pif_n (by decide) (pif_n (by decide) (pif_n (by decide) (pif_n (by decide) (pif_n (by decide) (pif_n (by decide) (pif_n (by decide) (pif_n (by decide) (pif_n (by decide) (pif_n (by decide) (pif_n (by decide) (pif_n (by decide) (pif_n (by decide) (pif_n (by decide) (pif_n (by decide) (pif_n (by decide) (pif_n (by decide) (pif_n (by decide) (pif_n (by decide) (?_))))))))))))))))))))))⟩
  exact r_parts hF hk
theorem bN_37 {G0 G1 : Gt} {m F : Nat} (hb : bH G0 G1 m F) (h47 : G1 47 m = nI 37) : bS G0 (oAk (G1 48 m) (nI F) (G1 66 F) (gu G1 67 F 0)) := by
  intro C K hk
  obtain ⟨hm, hF, h54, h21, he⟩ := hb
  have ecl : (nI m).toNatClampNeg = m := nI_clamp (by omega)
  unfold w_X11_beginsNode
  rw [show (mxw C G0) 46 54 = nI m from h54, ecl]
  refine r_lays h21 hF ?_
  rw [show mxw C (oLa F (nI m) ((mxw C G0) 46 56) ((mxw C G0) 46 55) 0 G0) = mxw C G1 from (mxw_r he).symm, show (mxw C G1) 47 m = nI 37 from h47]
  refine ⟨vp_n hm (by decide), vp_n hm (by decide), pif_n (by decide) (pif_n (by decide) (pif_n (by decide) (pif_n (by decide) (pif_n (by decide) (pif_n (by decide) (pif_n (by decide) (pif_n (by decide) (pif_n (by decide) (pif_n (by decide) (pif_n (by decide) (pif_n (by decide) (pif_n (by decide) (pif_n (by decide) (pif_n (by decide) (pif_n (by decide) (pif_n (by decide) (pif_n (by decide) (pif_n (by decide) (pif_n (by decide) (pif_n (by decide) (pif_n (by decide) (?_))))))))))))))))))))))⟩
  exact r_parts hF hk
theorem bN_12 {G0 G1 : Gt} {m F : Nat} (hb : bH G0 G1 m F) (h47 : G1 47 m = nI 12) {s : Nat} (hs : G1 46 29 = nI s) (hs2 : s < 620) : bS G0 (oAk (G1 48 m) (nI F) (nI s) (oOr s (G1 46 55) G1)) := by
  intro C K hk
  obtain ⟨hm, hF, h54, h21, he⟩ := hb
  have ecl : (nI m).toNatClampNeg = m := nI_clamp (by omega)
  unfold w_X11_beginsNode
  rw [show (mxw C G0) 46 54 = nI m from h54, ecl]
  refine r_lays h21 hF ?_
  rw [show mxw C (oLa F (nI m) ((mxw C G0) 46 56) ((mxw C G0) 46 55) 0 G0) = mxw C G1 from (mxw_r he).symm, show (mxw C G1) 47 m = nI 12 from h47]
  refine ⟨vp_n hm (by decide), vp_n hm (by decide), pif_n (by decide) (pif_n (by decide) (pif_n (by decide) (pif_n (by decide) (pif_p (by decide) (?_)))))⟩
  exact r_opens hs hs2 (r_asks hk)
theorem bN_13 {G0 G1 : Gt} {m F : Nat} (hb : bH G0 G1 m F) (h47 : G1 47 m = nI 13) {s : Nat} (hs : G1 46 29 = nI s) (hs2 : s < 620) : bS G0 (oAk (G1 49 m) (nI F) (nI s) (oOr s (G1 46 55) G1)) := by
  intro C K hk
  obtain ⟨hm, hF, h54, h21, he⟩ := hb
  have ecl : (nI m).toNatClampNeg = m := nI_clamp (by omega)
  unfold w_X11_beginsNode
  rw [show (mxw C G0) 46 54 = nI m from h54, ecl]
  refine r_lays h21 hF ?_
  rw [show mxw C (oLa F (nI m) ((mxw C G0) 46 56) ((mxw C G0) 46 55) 0 G0) = mxw C G1 from (mxw_r he).symm, show (mxw C G1) 47 m = nI 13 from h47]
  refine ⟨vp_n hm (by decide), vp_n hm (by decide), pif_n (by decide) (pif_n (by decide) (pif_n (by decide) (pif_n (by decide) (pif_n (by decide) (pif_p (by decide) (?_))))))⟩
  exact ⟨vp_n hm (by decide), r_opens hs hs2 (r_asks hk)⟩
theorem bN_15 {G0 G1 H : Gt} {m F : Nat} (hb : bH G0 G1 m F) (h47 : G1 47 m = nI 15) (h : ∀ (C : Gt) (K : Gt → Prop), K (mxw C H) → w_X11_leavesTo K (nI F) 4 (G1 48 m) 0 (mxw C G1)) : bS G0 (H) := by
  intro C K hk
  obtain ⟨hm, hF, h54, h21, he⟩ := hb
  have ecl : (nI m).toNatClampNeg = m := nI_clamp (by omega)
  unfold w_X11_beginsNode
  rw [show (mxw C G0) 46 54 = nI m from h54, ecl]
  refine r_lays h21 hF ?_
  rw [show mxw C (oLa F (nI m) ((mxw C G0) 46 56) ((mxw C G0) 46 55) 0 G0) = mxw C G1 from (mxw_r he).symm, show (mxw C G1) 47 m = nI 15 from h47]
  refine ⟨vp_n hm (by decide), vp_n hm (by decide), pif_n (by decide) (pif_n (by decide) (pif_n (by decide) (pif_n (by decide) (pif_n (by decide) (pif_n (by decide) (pif_n (by decide) (pif_p (by decide) (?_))))))))⟩
  exact h C _ hk
theorem bN_16 {G0 G1 : Gt} {m F : Nat} (hb : bH G0 G1 m F) (h47 : G1 47 m = nI 16) {j : Nat} (hj : G1 46 32 = nI j) (hj2 : j < 610) : bS G0 (oEn (nI (20000 + j)) (G1 65 F) (gu (gu (gu G1 73 j (nI m)) 74 j (G1 46 55)) 46 32 (nI (j + 1)))) := by
  intro C K hk
  obtain ⟨hm, hF, h54, h21, he⟩ := hb
  have ecl : (nI m).toNatClampNeg = m := nI_clamp (by omega)
  unfold w_X11_beginsNode
  rw [show (mxw C G0) 46 54 = nI m from h54, ecl]
  refine r_lays h21 hF ?_
  rw [show mxw C (oLa F (nI m) ((mxw C G0) 46 56) ((mxw C G0) 46 55) 0 G0) = mxw C G1 from (mxw_r he).symm, show (mxw C G1) 47 m = nI 16 from h47]
  refine ⟨vp_n hm (by decide), vp_n hm (by decide), pif_n (by decide) (pif_n (by decide) (pif_n (by decide) (pif_n (by decide) (pif_n (by decide) (pif_n (by decide) (pif_n (by decide) (pif_n (by decide) (pif_p (by decide) (?_)))))))))⟩
  have e1 : (mxw C G1) 46 32 = nI j := hj
  have ej : (nI j).toNatClampNeg = j := nI_clamp (by omega)
  rw [e1, ej]
  refine ⟨vp_n hj2 (by decide), ptr rfl ?_⟩
  rw [show (mxw C (gu G1 73 j (nI m))) 46 32 = nI j from hj, ej]
  refine ⟨vp_n hj2 (by decide), ptr rfl ?_⟩
  rw [show (mxw C (gu (gu G1 73 j (nI m)) 74 j ((mxw C (gu G1 73 j (nI m))) 46 55))) 46 32 = nI j from hj, nI_1]
  refine ptr rfl ?_
  refine r_ends hF ?_
  have e2 : (20000 : Int32) + (mxw C (gu (gu (gu G1 73 j (nI m)) 74 j ((mxw C (gu G1 73 j (nI m))) 46 55)) 46 32 (nI (j + 1)))) 46 32 - 1 = nI (20000 + j) := by
    show (20000 : Int32) + nI (j + 1) - 1 = _
    rw [show (20000 : Int32) = nI 20000 from rfl, nI_add, ← Nat.add_assoc, nI_pred]
  rw [e2]
  exact hk
theorem bN_18_0 {G0 G1 H : Gt} {m F : Nat} (hb : bH G0 G1 m F) (h47 : G1 47 m = nI 18) (h : G1 49 m = -1) (hh : ∀ (C : Gt) (K : Gt → Prop), K (mxw C H) → w_X11_callsSlot K (nI F) (G1 48 m) 0 0 0 (mxw C G1)) : bS G0 (H) := by
  intro C K hk
  obtain ⟨hm, hF, h54, h21, he⟩ := hb
  have ecl : (nI m).toNatClampNeg = m := nI_clamp (by omega)
  unfold w_X11_beginsNode
  rw [show (mxw C G0) 46 54 = nI m from h54, ecl]
  refine r_lays h21 hF ?_
  rw [show mxw C (oLa F (nI m) ((mxw C G0) 46 56) ((mxw C G0) 46 55) 0 G0) = mxw C G1 from (mxw_r he).symm, show (mxw C G1) 47 m = nI 18 from h47]
  refine ⟨vp_n hm (by decide), vp_n hm (by decide), pif_n (by decide) (pif_n (by decide) (pif_n (by decide) (pif_n (by decide) (pif_n (by decide) (pif_n (by decide) (pif_n (by decide) (pif_n (by decide) (pif_n (by decide) (pif_p (by decide) (?_))))))))))⟩
  exact ⟨vp_n hm (by decide), pif_p h (hh C _ hk)⟩
theorem bN_18_1 {G0 G1 : Gt} {m F : Nat} (hb : bH G0 G1 m F) (h47 : G1 47 m = nI 18) (h : ¬ G1 49 m = -1) : bS G0 (oAk (G1 49 m) (nI F) (G1 66 F) (gu G1 67 F 0)) := by
  intro C K hk
  obtain ⟨hm, hF, h54, h21, he⟩ := hb
  have ecl : (nI m).toNatClampNeg = m := nI_clamp (by omega)
  unfold w_X11_beginsNode
  rw [show (mxw C G0) 46 54 = nI m from h54, ecl]
  refine r_lays h21 hF ?_
  rw [show mxw C (oLa F (nI m) ((mxw C G0) 46 56) ((mxw C G0) 46 55) 0 G0) = mxw C G1 from (mxw_r he).symm, show (mxw C G1) 47 m = nI 18 from h47]
  refine ⟨vp_n hm (by decide), vp_n hm (by decide), pif_n (by decide) (pif_n (by decide) (pif_n (by decide) (pif_n (by decide) (pif_n (by decide) (pif_n (by decide) (pif_n (by decide) (pif_n (by decide) (pif_n (by decide) (pif_p (by decide) (?_))))))))))⟩
  exact ⟨vp_n hm (by decide), pif_n h (r_parts hF hk)⟩
theorem bN_23 {G0 G1 : Gt} {m F : Nat} (hb : bH G0 G1 m F) (h47 : G1 47 m = nI 23) {j : Nat} (hj : G1 46 35 = nI j) (hj2 : j < 610) : bS G0 (oEn (nI (30000 + j)) (G1 65 F) (gu (gu (gu (gu G1 75 j (nI m)) 76 j (G1 46 55)) 77 j 0) 46 35 (nI (j + 1)))) := by
  intro C K hk
  obtain ⟨hm, hF, h54, h21, he⟩ := hb
  have ecl : (nI m).toNatClampNeg = m := nI_clamp (by omega)
  unfold w_X11_beginsNode
  rw [show (mxw C G0) 46 54 = nI m from h54, ecl]
  refine r_lays h21 hF ?_
  rw [show mxw C (oLa F (nI m) ((mxw C G0) 46 56) ((mxw C G0) 46 55) 0 G0) = mxw C G1 from (mxw_r he).symm, show (mxw C G1) 47 m = nI 23 from h47]
  refine ⟨vp_n hm (by decide), vp_n hm (by decide), pif_n (by decide) (pif_n (by decide) (pif_n (by decide) (pif_n (by decide) (pif_n (by decide) (pif_n (by decide) (pif_n (by decide) (pif_n (by decide) (pif_n (by decide) (pif_n (by decide) (pif_n (by decide) (pif_p (by decide) (?_))))))))))))⟩
  have e1 : (mxw C G1) 46 35 = nI j := hj
  have ej : (nI j).toNatClampNeg = j := nI_clamp (by omega)
  rw [e1, ej]
  refine ⟨vp_n hj2 (by decide), ptr rfl ?_⟩
  rw [show (mxw C (gu G1 75 j (nI m))) 46 35 = nI j from hj, ej]
  refine ⟨vp_n hj2 (by decide), ptr rfl ?_⟩
  rw [show (mxw C (gu (gu G1 75 j (nI m)) 76 j ((mxw C (gu G1 75 j (nI m))) 46 55))) 46 35 = nI j from hj, ej]
  refine ⟨vp_n hj2 (by decide), ptr rfl ?_⟩
  rw [show (mxw C (gu (gu (gu G1 75 j (nI m)) 76 j ((mxw C (gu G1 75 j (nI m))) 46 55)) 77 j 0)) 46 35 = nI j from hj, nI_1]
  refine ptr rfl ?_
  refine r_ends hF ?_
  have e2 : (30000 : Int32) + (mxw C (gu (gu (gu (gu G1 75 j (nI m)) 76 j ((mxw C (gu G1 75 j (nI m))) 46 55)) 77 j 0) 46 35 (nI (j + 1)))) 46 35 - 1 = nI (30000 + j) := by
    show (30000 : Int32) + nI (j + 1) - 1 = _
    rw [show (30000 : Int32) = nI 30000 from rfl, nI_add, ← Nat.add_assoc, nI_pred]
  rw [e2]
  exact hk
theorem bN_27 {G0 G1 : Gt} {m F : Nat} (hb : bH G0 G1 m F) (h47 : G1 47 m = nI 27) {o : Nat} (ho : G1 48 m = nI o) (ho2 : o < 4) : bS G0 (oEn (G1 56 o) (G1 65 F) G1) := by
  intro C K hk
  obtain ⟨hm, hF, h54, h21, he⟩ := hb
  have ecl : (nI m).toNatClampNeg = m := nI_clamp (by omega)
  unfold w_X11_beginsNode
  rw [show (mxw C G0) 46 54 = nI m from h54, ecl]
  refine r_lays h21 hF ?_
  rw [show mxw C (oLa F (nI m) ((mxw C G0) 46 56) ((mxw C G0) 46 55) 0 G0) = mxw C G1 from (mxw_r he).symm, show (mxw C G1) 47 m = nI 27 from h47]
  refine ⟨vp_n hm (by decide), vp_n hm (by decide), pif_n (by decide) (pif_n (by decide) (pif_n (by decide) (pif_n (by decide) (pif_n (by decide) (pif_n (by decide) (pif_n (by decide) (pif_n (by decide) (pif_n (by decide) (pif_n (by decide) (pif_n (by decide) (pif_n (by decide) (pif_n (by decide) (pif_p (by decide) (?_))))))))))))))⟩
  rw [show (mxw C G1) 48 m = nI o from ho, nI_clamp (show o < 2 ^ 31 by omega)]
  exact ⟨vp_n ho2 (by decide), r_ends hF hk⟩
theorem bN_30 {G0 G1 H : Gt} {m F : Nat} (hb : bH G0 G1 m F) (h47 : G1 47 m = nI 30) (h : ∀ (C : Gt) (K : Gt → Prop), K (mxw C H) → w_X11_looks K (nI F) (nI 30) (mxw C G1)) : bS G0 (H) := by
  intro C K hk
  obtain ⟨hm, hF, h54, h21, he⟩ := hb
  have ecl : (nI m).toNatClampNeg = m := nI_clamp (by omega)
  unfold w_X11_beginsNode
  rw [show (mxw C G0) 46 54 = nI m from h54, ecl]
  refine r_lays h21 hF ?_
  rw [show mxw C (oLa F (nI m) ((mxw C G0) 46 56) ((mxw C G0) 46 55) 0 G0) = mxw C G1 from (mxw_r he).symm, show (mxw C G1) 47 m = nI 30 from h47]
  refine ⟨vp_n hm (by decide), vp_n hm (by decide), pif_n (by decide) (pif_n (by decide) (pif_n (by decide) (pif_n (by decide) (pif_n (by decide) (pif_n (by decide) (pif_n (by decide) (pif_n (by decide) (pif_n (by decide) (pif_n (by decide) (pif_n (by decide) (pif_n (by decide) (pif_n (by decide) (pif_n (by decide) (pif_n (by decide) (pif_p (by decide) (?_))))))))))))))))⟩
  unfold w_X11_beginsNode_j469
  rw [ecl, show (mxw C G1) 47 m = nI 30 from h47]
  exact ⟨vp_n hm (by decide), h C _ hk⟩
theorem bN_32 {G0 G1 H : Gt} {m F : Nat} (hb : bH G0 G1 m F) (h47 : G1 47 m = nI 32) (h : ∀ (C : Gt) (K : Gt → Prop), K (mxw C H) → w_X11_looks K (nI F) (nI 32) (mxw C G1)) : bS G0 (H) := by
  intro C K hk
  obtain ⟨hm, hF, h54, h21, he⟩ := hb
  have ecl : (nI m).toNatClampNeg = m := nI_clamp (by omega)
  unfold w_X11_beginsNode
  rw [show (mxw C G0) 46 54 = nI m from h54, ecl]
  refine r_lays h21 hF ?_
  rw [show mxw C (oLa F (nI m) ((mxw C G0) 46 56) ((mxw C G0) 46 55) 0 G0) = mxw C G1 from (mxw_r he).symm, show (mxw C G1) 47 m = nI 32 from h47]
  refine ⟨vp_n hm (by decide), vp_n hm (by decide), pif_n (by decide) (pif_n (by decide) (pif_n (by decide) (pif_n (by decide) (pif_n (by decide) (pif_n (by decide) (pif_n (by decide) (pif_n (by decide) (pif_n (by decide) (pif_n (by decide) (pif_n (by decide) (pif_n (by decide) (pif_n (by decide) (pif_n (by decide) (pif_n (by decide) (pif_n (by decide) (pif_p (by decide) (?_)))))))))))))))))⟩
  unfold w_X11_beginsNode_j469
  rw [ecl, show (mxw C G1) 47 m = nI 32 from h47]
  exact ⟨vp_n hm (by decide), h C _ hk⟩
theorem bN_33 {G0 G1 H : Gt} {m F : Nat} (hb : bH G0 G1 m F) (h47 : G1 47 m = nI 33) (h : ∀ (C : Gt) (K : Gt → Prop), K (mxw C H) → w_X11_looks K (nI F) (nI 33) (mxw C G1)) : bS G0 (H) := by
  intro C K hk
  obtain ⟨hm, hF, h54, h21, he⟩ := hb
  have ecl : (nI m).toNatClampNeg = m := nI_clamp (by omega)
  unfold w_X11_beginsNode
  rw [show (mxw C G0) 46 54 = nI m from h54, ecl]
  refine r_lays h21 hF ?_
  rw [show mxw C (oLa F (nI m) ((mxw C G0) 46 56) ((mxw C G0) 46 55) 0 G0) = mxw C G1 from (mxw_r he).symm, show (mxw C G1) 47 m = nI 33 from h47]
  refine ⟨vp_n hm (by decide), vp_n hm (by decide), pif_n (by decide) (pif_n (by decide) (pif_n (by decide) (pif_n (by decide) (pif_n (by decide) (pif_n (by decide) (pif_n (by decide) (pif_n (by decide) (pif_n (by decide) (pif_n (by decide) (pif_n (by decide) (pif_n (by decide) (pif_n (by decide) (pif_n (by decide) (pif_n (by decide) (pif_n (by decide) (pif_n (by decide) (pif_p (by decide) (?_))))))))))))))))))⟩
  unfold w_X11_beginsNode_j469
  rw [ecl, show (mxw C G1) 47 m = nI 33 from h47]
  exact ⟨vp_n hm (by decide), h C _ hk⟩
theorem bN_34 {G0 G1 H : Gt} {m F : Nat} (hb : bH G0 G1 m F) (h47 : G1 47 m = nI 34) (h : ∀ (C : Gt) (K : Gt → Prop), K (mxw C H) → w_X11_looks K (nI F) (nI 34) (mxw C G1)) : bS G0 (H) := by
  intro C K hk
  obtain ⟨hm, hF, h54, h21, he⟩ := hb
  have ecl : (nI m).toNatClampNeg = m := nI_clamp (by omega)
  unfold w_X11_beginsNode
  rw [show (mxw C G0) 46 54 = nI m from h54, ecl]
  refine r_lays h21 hF ?_
  rw [show mxw C (oLa F (nI m) ((mxw C G0) 46 56) ((mxw C G0) 46 55) 0 G0) = mxw C G1 from (mxw_r he).symm, show (mxw C G1) 47 m = nI 34 from h47]
  refine ⟨vp_n hm (by decide), vp_n hm (by decide), pif_n (by decide) (pif_n (by decide) (pif_n (by decide) (pif_n (by decide) (pif_n (by decide) (pif_n (by decide) (pif_n (by decide) (pif_n (by decide) (pif_n (by decide) (pif_n (by decide) (pif_n (by decide) (pif_n (by decide) (pif_n (by decide) (pif_n (by decide) (pif_n (by decide) (pif_n (by decide) (pif_n (by decide) (pif_n (by decide) (pif_p (by decide) (?_)))))))))))))))))))⟩
  unfold w_X11_beginsNode_j469
  rw [ecl, show (mxw C G1) 47 m = nI 34 from h47]
  exact ⟨vp_n hm (by decide), h C _ hk⟩
theorem bN_36 {G0 G1 H : Gt} {m F : Nat} (hb : bH G0 G1 m F) (h47 : G1 47 m = nI 36) {b : Nat} (hb14 : G1 46 14 = nI b) (hb2 : b < 2) {w : Int32} (hin : ∀ (C : Gt) (K : Int32 → Gt → Prop), K w (mxw C G1) → w_X11_inOrder K (mxw C G1)) (h : ∀ (C : Gt) (K : Gt → Prop), K (mxw C H) → w_X11_goesOn K (nI F) (mxw C (gu (gu G1 68 F w) 69 F (8 * nI b + G1 61 b)))) : bS G0 (H) := by
  intro C K hk
  obtain ⟨hm, hF, h54, h21, he⟩ := hb
  have ecl : (nI m).toNatClampNeg = m := nI_clamp (by omega)
  unfold w_X11_beginsNode
  rw [show (mxw C G0) 46 54 = nI m from h54, ecl]
  refine r_lays h21 hF ?_
  rw [show mxw C (oLa F (nI m) ((mxw C G0) 46 56) ((mxw C G0) 46 55) 0 G0) = mxw C G1 from (mxw_r he).symm, show (mxw C G1) 47 m = nI 36 from h47]
  refine ⟨vp_n hm (by decide), vp_n hm (by decide), pif_n (by decide) (pif_n (by decide) (pif_n (by decide) (pif_n (by decide) (pif_n (by decide) (pif_n (by decide) (pif_n (by decide) (pif_n (by decide) (pif_n (by decide) (pif_n (by decide) (pif_n (by decide) (pif_n (by decide) (pif_n (by decide) (pif_n (by decide) (pif_n (by decide) (pif_n (by decide) (pif_n (by decide) (pif_n (by decide) (pif_n (by decide) (pif_p (by decide) (?_))))))))))))))))))))⟩
  refine hin C _ ?_
  have eF : (nI F).toNatClampNeg = F := nI_clamp (by omega)
  rw [eF]
  refine ⟨vp_n hF (by decide), ptr rfl ?_⟩
  rw [show (mxw C (gu G1 68 F w)) 46 14 = nI b from hb14, nI_clamp (show b < 2 ^ 31 by omega)]
  exact ⟨vp_n hb2 (by decide), vp_n hF (by decide), ptr rfl (h C _ hk)⟩
theorem bN_38 {G0 G1 H : Gt} {m F : Nat} (hb : bH G0 G1 m F) (h47 : G1 47 m = nI 38) (h : ∀ (C : Gt) (K : Gt → Prop), K (mxw C H) → w_X11_reloads K (nI F) (G1 48 m) (G1 49 m) (mxw C G1)) : bS G0 (H) := by
  intro C K hk
  obtain ⟨hm, hF, h54, h21, he⟩ := hb
  have ecl : (nI m).toNatClampNeg = m := nI_clamp (by omega)
  unfold w_X11_beginsNode
  rw [show (mxw C G0) 46 54 = nI m from h54, ecl]
  refine r_lays h21 hF ?_
  rw [show mxw C (oLa F (nI m) ((mxw C G0) 46 56) ((mxw C G0) 46 55) 0 G0) = mxw C G1 from (mxw_r he).symm, show (mxw C G1) 47 m = nI 38 from h47]
  refine ⟨vp_n hm (by decide), vp_n hm (by decide), pif_n (by decide) (pif_n (by decide) (pif_n (by decide) (pif_n (by decide) (pif_n (by decide) (pif_n (by decide) (pif_n (by decide) (pif_n (by decide) (pif_n (by decide) (pif_n (by decide) (pif_n (by decide) (pif_n (by decide) (pif_n (by decide) (pif_n (by decide) (pif_n (by decide) (pif_n (by decide) (pif_n (by decide) (pif_n (by decide) (pif_n (by decide) (pif_n (by decide) (pif_p (by decide) (?_)))))))))))))))))))))⟩
  exact ⟨vp_n hm (by decide), h C _ hk⟩
theorem bN_39 {G0 G1 : Gt} {m F : Nat} (hb : bH G0 G1 m F) (h47 : G1 47 m = nI 39) : bS G0 (oEn 0 (G1 65 F) (gu G1 46 12 (G1 48 m))) := by
  intro C K hk
  obtain ⟨hm, hF, h54, h21, he⟩ := hb
  have ecl : (nI m).toNatClampNeg = m := nI_clamp (by omega)
  unfold w_X11_beginsNode
  rw [show (mxw C G0) 46 54 = nI m from h54, ecl]
  refine r_lays h21 hF ?_
  rw [show mxw C (oLa F (nI m) ((mxw C G0) 46 56) ((mxw C G0) 46 55) 0 G0) = mxw C G1 from (mxw_r he).symm, show (mxw C G1) 47 m = nI 39 from h47]
  refine ⟨vp_n hm (by decide), vp_n hm (by decide), pif_n (by decide) (pif_n (by decide) (pif_n (by decide) (pif_n (by decide) (pif_n (by decide) (pif_n (by decide) (pif_n (by decide) (pif_n (by decide) (pif_n (by decide) (pif_n (by decide) (pif_n (by decide) (pif_n (by decide) (pif_n (by decide) (pif_n (by decide) (pif_n (by decide) (pif_n (by decide) (pif_n (by decide) (pif_n (by decide) (pif_n (by decide) (pif_n (by decide) (pif_n (by decide) (pif_p (by decide) (?_))))))))))))))))))))))⟩
  exact ptr rfl (r_ends hF hk)
