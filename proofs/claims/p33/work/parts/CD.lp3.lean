/-! SOME STEPS of a run -/
theorem h26_w {K : Int32 → Gt → Prop} {C G : Gt} {n : Nat} {x1 x2 : Int32} (h53 : G 46 53 = 0) (hk : K x2 (mxw C G)) : w_X11_step_h26 K (n + 1) x1 x2 0 (mxw C G) := by
  rw [w_X11_step_h26]
  exact pif_p rfl (pif_p h53 hk)
theorem h26_f {K : Int32 → Gt → Prop} {C G : Gt} {n : Nat} {x1 x2 : Int32} (h53 : G 46 53 = 1) (hk : pt (gu (mxw C G) 46 52 0) (fun G5 => w_X11_lasts (fun G6 => K x2 G6) G5)) : w_X11_step_h26 K (n + 1) x1 x2 0 (mxw C G) := by
  rw [w_X11_step_h26]
  exact pif_p rfl (pif_n (by rw [show (mxw C G) 46 53 = 1 from h53]; decide) hk)
/-- behind a node: go on, or not -/
theorem h26_n {N B S y : Nat} {z' : Zt} {G' C : Gt} {rec : Int32 → Int32 → Int32 → Gt → Prop} {K : Int32 → Gt → Prop} (hw : wST N B z' G') (hS : S ≤ 600) (hy : y + 1 ≤ 601)
    (h1 : (S ≤ y + 1 ∨ G' 11 (z' 1 (z' 0 0)) = 1) → rec (nI S) (nI (y + 1)) 0 (mxw C G')) (h2 : ¬ (S ≤ y + 1 ∨ G' 11 (z' 1 (z' 0 0)) = 1) → rec (nI S) (nI (y + 1)) 1 (mxw C G')) : w_X11_step_j43 K rec (nI S) (nI y) 1 (mxw C G') := by
  obtain ⟨a1, a2, a3, a4, a5, a6, a7, a8, a9, a10, a11, a12, a13, a14⟩ := w_cells hw
  unfold w_X11_step_j43 w_X11_step_j73 w_X11_step_j74
  rw [show (mxw C G') 46 53 = 0 from a14, nI_1, show (mxw C G') 46 54 = nI (z' 1 (z' 0 0)) from a13, nI_clamp (by omega)]
  refine pif_p rfl ?_
  by_cases c1 : S ≤ y + 1
  · exact pif_p ((nI_leL (w := S) (a := y + 1) (b := nI (y + 1)) rfl (by omega) (by omega)).mpr c1) (h1 (Or.inl c1))
  · refine pif_n (fun q => c1 ((nI_leL (w := S) (a := y + 1) (b := nI (y + 1)) rfl (by omega) (by omega)).mp q)) ⟨vp_n (by omega) (by decide), ?_⟩
    by_cases c2 : G' 52 (z' 1 (z' 0 0)) = 0
    · refine pif_p c2 (h2 (fun q => ?_))
      rcases q with q | q
      · exact c1 q
      · rw [a11, c2] at q; exact absurd q (by decide)
    · refine pif_n c2 (h1 (Or.inr ?_))
      rcases a12 with q | q
      · exact absurd q c2
      · rw [a11]; exact q
theorem step_all {N B S F0 : Nat} (hS1 : 1 ≤ S) (hS : S ≤ 600) : ∀ (M : Nat) (z : Zt) (G : Gt), mu z ≤ M → wST N B z G → F0 ≤ z 0 0 → (z 0 0 = F0 ∨ (z 0 0 - F0 < S ∧ ¬ G 11 (z 1 (z 0 0)) = 1)) →
    ∃ zf Gf, kq G Gf ∧ F0 ≤ zf 0 0 ∧
      ((fST N B zf Gf ∧ (∀ (R : Gt) (K : Int32 → Gt → Prop) (c : Nat), c + mu z + 3 ≤ 900000 → w_X2_advance_j249 K (nI F0) (mxw Gf R) → ∃ n, w_X2_advance_h8 K n (nI S) 1 (nI F0) (nI c) (mxw G R)) ∧ (∀ (C : Gt) (K : Int32 → Gt → Prop), pt (gu (mxw C Gf) 46 52 0) (fun G5 => w_X11_lasts (fun G6 => K (nI (zf 0 0 - F0)) G6) G5) → ∃ n, w_X11_step_h26 K n (nI S) (nI (z 0 0 - F0)) 1 (mxw C G))) ∨
       (wST N B zf Gf ∧ (∀ (R : Gt) (K : Int32 → Gt → Prop) (c : Nat), c + mu z + 3 ≤ 900000 → K (nI (zf 0 0 - F0)) (mxw Gf R) → ∃ n, w_X2_advance_h8 K n (nI S) 1 (nI F0) (nI c) (mxw G R)) ∧ (∀ (C : Gt) (K : Int32 → Gt → Prop), K (nI (zf 0 0 - F0)) (mxw C Gf) → ∃ n, w_X11_step_h26 K n (nI S) (nI (z 0 0 - F0)) 1 (mxw C G)))) := by
  intro M
  induction M with
  | zero =>
    intro z G hm h hF hp
    obtain ⟨a1, a2, a3, a4, a5, a6, a7, a8, a9, a10, _⟩ := w_cells h
    unfold mu at hm
    omega
  | succ M ih =>
    intro z G hm h hF hp
    obtain ⟨a1, a2, a3, a4, a5, a6, a7, a8, a9, a10, a11, a12, a13, a14⟩ := w_cells h
    have hmost : nI (z 0 0) - nI F0 < nI S := by
      rw [nI_sub hF]
      exact nI_ltx rfl (by rcases hp with q | q <;> omega) (by omega)
    have hgo : (1 : Int32) = 0 ∨ G 84 10 ≤ nI F0 ∨ ¬ G 11 (z 1 (z 0 0)) = 1 := by
      rcases hp with q | q
      · exact Or.inr (Or.inl (by rw [a4, q]; exact i_ler _))
      · exact Or.inr (Or.inr q.2)
    by_cases hB : z 0 0 = B
    · obtain ⟨Gf, p1, p2, p3, p4⟩ := w_stop h hB
      refine ⟨z, Gf, p4, hF, Or.inl ⟨p1, fun R K c hc hk => ⟨2, ?_⟩, fun C K hk => ⟨2, ?_⟩⟩⟩
      · refine w_turn h (by omega) hgo hmost (p2 R _ ?_)
        rw [nI_1]
        exact f_h8 p1.1 (by omega) hk
      · rw [w_X11_step_h26]
        refine pif_n (by decide) (p3 C _ (pif_p rfl ?_))
        unfold w_X11_step_j43 w_X11_step_j73 w_X11_step_j74
        rw [Int32.add_zero]
        exact pif_n (by rw [show (mxw C Gf) 46 53 = 1 from p1.2.1]; decide) (h26_f p1.2.1 hk)
    · obtain ⟨z', G', t, p1, p2, p3, p4, p5, p6⟩ := w_step a10 h (by omega)
      have cls : ∀ (R : Gt) (K : Int32 → Gt → Prop) (c n : Nat), c + mu z + 3 ≤ 900000 → w_X2_advance_h8 K n (nI S) 1 (nI F0) (nI (c + 1 + t)) (mxw G' R) → ∃ n, w_X2_advance_h8 K n (nI S) 1 (nI F0) (nI c) (mxw G R) := by
        intro R K c n hc hk
        refine ⟨n + t + 1, w_turn h (by omega) hgo hmost (lb_y h (by omega) ?_)⟩
        rw [nI_1]
        exact cT_h t _ _ p2 R K n (nI S) 1 (nI F0) (c + 1) (by omega) hk
      have eY : z 0 0 - F0 + 1 = z' 0 0 - F0 := by omega
      have rf : ∀ (C : Gt) (K : Int32 → Gt → Prop) (n : Nat), w_X11_step_j43 K (fun z0 z1 z2 z3 => w_X11_step_h26 K n z0 z1 z2 z3) (nI S) (nI (z 0 0 - F0)) 1 (mxw C G') → w_X11_step_h26 K (n + 1) (nI S) (nI (z 0 0 - F0)) 1 (mxw C G) := by
        intro C K n hk
        rw [w_X11_step_h26]
        exact pif_n (by decide) (p3 C _ (pif_n (by decide) hk))
      rcases p1 with p1 | p1
      · by_cases hst : S ≤ z 0 0 - F0 + 1 ∨ G' 11 (z' 1 (z' 0 0)) = 1
        · -- it stops here
          obtain ⟨b1, b2, b3, b4, b5, b6, b7, b8, b9, b10, b11, b12, b13, b14⟩ := w_cells p1
          refine ⟨z', G', p4, by omega, Or.inr ⟨p1, fun R K c hc hk => cls R K c 1 hc (w_hold p1 (by omega) ?_ (by rw [nI_sub (by omega)]; exact hk)), fun C K hk => ⟨2, rf C K 1 (h26_n p1 hS (by omega) (fun _ => h26_w b14 (by rw [eY]; exact hk)) (fun q => absurd hst q))⟩⟩⟩
          rcases hst with q | q
          · left
            rw [nI_sub (by omega)]
            exact nI_nltx rfl (by omega) (by omega)
          · exact Or.inr ⟨by decide, nI_ge (by omega) (by omega), q⟩
        · -- it goes on
          have hp' : z' 0 0 = F0 ∨ (z' 0 0 - F0 < S ∧ ¬ G' 11 (z' 1 (z' 0 0)) = 1) := Or.inr ⟨by
            have : ¬ S ≤ z 0 0 - F0 + 1 := fun q => hst (Or.inl q)
            omega, fun q => hst (Or.inr q)⟩
          obtain ⟨zf, Gf, q1, q2, q3⟩ := ih z' G' (by omega) p1 (by omega) hp'
          refine ⟨zf, Gf, kq_tr p4 q1, q2, ?_⟩
          have hy : z 0 0 - F0 + 1 ≤ 601 := by omega
          rcases q3 with ⟨q3, q4, q5⟩ | ⟨q3, q4, q5⟩
          · refine Or.inl ⟨q3, fun R K c hc hk => ?_, fun C K hk => ?_⟩
            · obtain ⟨n, hn⟩ := q4 R K (c + 1 + t) (by omega) hk
              exact cls R K c n hc hn
            · obtain ⟨n, hn⟩ := q5 C K hk
              rw [← eY] at hn
              exact ⟨n + 1, rf C K n (h26_n p1 hS hy (fun q => absurd q hst) (fun _ => hn))⟩
          · refine Or.inr ⟨q3, fun R K c hc hk => ?_, fun C K hk => ?_⟩
            · obtain ⟨n, hn⟩ := q4 R K (c + 1 + t) (by omega) hk
              exact cls R K c n hc hn
            · obtain ⟨n, hn⟩ := q5 C K hk
              rw [← eY] at hn
              exact ⟨n + 1, rf C K n (h26_n p1 hS hy (fun q => absurd q hst) (fun _ => hn))⟩
      · -- the run ends
        refine ⟨z', G', p4, by omega, Or.inl ⟨p1, fun R K c hc hk => cls R K c 1 hc (f_h8 p1.1 (by omega) hk), fun C K hk => ⟨2, rf C K 1 ?_⟩⟩⟩
        unfold w_X11_step_j43 w_X11_step_j73 w_X11_step_j74
        rw [nI_1, eY]
        exact pif_n (by rw [show (mxw C G') 46 53 = 1 from p1.2.1]; decide) (h26_f p1.2.1 hk)
