def cmpb (I : Gt → Prop) (v1 v98 : Int32) (G97 : Gt) : Prop := w_X11_thrown (fun v100 G99 => pif (v100 = v1) (pif (v1 = 0) (pif (v98 = 0) (pif ((G99 83 (0 : Int32).toNatClampNeg) = 0) (I G99) False) (pif ((G99 83 (0 : Int32).toNatClampNeg) = 1) (I G99) False)) (I G99)) False) G97
theorem cmpb_0 {I : Gt → Prop} {v : Int32} {G3 : Gt} (h1 : G3 46 71 = 0) (hv : bz v) (h2 : G3 83 0 = v) (h : I G3) : cmpb I 0 v G3 := by
  refine s11_thrown (pif_p h1 (pif_p rfl ?_))
  rcases hv with e | e
  · exact pif_p e (pif_p (h2.trans e) h)
  · exact pif_n (by rw [e]; decide) (pif_p (h2.trans e) h)
theorem cmpb_x {I : Gt → Prop} {v1 v : Int32} {G3 : Gt} (hv : ¬ v1 = 0) (h1 : G3 46 71 = v1) (h : I G3) : cmpb I v1 v G3 := s11_thrown (pif_p h1 (pif_n hv h))
theorem c_breakAt_A {I : Gt → Prop} {G : Gt} {x q : Int32} {N : Nat} (hq : bz q) (hN : N ≤ 120) (h1 : G 1 7 = nI N) (h2 : G 46 0 = nI N) (he : ∀ m, m < N → G 11 m = G 52 m ∧ bz (G 52 m)) (hI : ∀ i, i < N → ∀ v, I (gu (gu (gu (gu G 11 i q) 83 0 v) 46 71 0) 52 i q)) (hJ : ∀ t, I (gu G 46 71 t)) :
    w_L_breakAt_A (fun v1 s1 G2 => s1 = shA ∧ w_X11_breakAt (fun v4 G3 => cmpb I v1 v4 G3) x q G2) x q G := by
  unfold w_L_breakAt_A w_X10_breakAt_A
  by_cases h : ∃ i, i < N ∧ x = nI i
  · obtain ⟨i, hi, rfl⟩ := h
    have key : ∀ y : Int32, bz y → G 11 i = y → w_X10_breakAt_A_j41 (fun v G1 => pif (v = 0) (pt (gu G1 83 (0 : Int32).toNatClampNeg 0) fun G2 => (fun v1 s1 G2 => s1 = shA ∧ w_X11_breakAt (fun v4 G3 => cmpb I v1 v4 G3) (nI i) q G2) 0 shA G2) (pt (gu G1 83 (0 : Int32).toNatClampNeg 1) fun G2 => (fun v1 s1 G2 => s1 = shA ∧ w_X11_breakAt (fun v4 G3 => cmpb I v1 v4 G3) (nI i) q G2) 0 shA G2)) (fun k G1 => (k = 0 ∧ (fun v1 s1 G2 => s1 = shA ∧ w_X11_breakAt (fun v4 G3 => cmpb I v1 v4 G3) (nI i) q G2) 1 shA G1)) (nI i) q y G := by
      intro y hy ey
      have fin : ∀ v : Int32, v = y → w_X11_breakAt (fun v4 G3 => cmpb I 0 v4 G3) (nI i) q (gu (gu G 11 i q) 83 0 v) := by
        intro v ev
        refine node_y (N := N) h2 hN hi (goes_y (by decide) (by decide) (by decide) (pif_n (by decide) ⟨vp_n (by omega) (by decide), vp_n (by omega) (by decide), hq, pt_of ⟨?_, cmpb_0 rfl ?_ ?_ ?_⟩⟩))
        · show bz (G 52 (nI i).toNatClampNeg)
          rw [nI_clamp (by omega)]; exact (he i hi).2
        · show bz (G 52 (nI i).toNatClampNeg)
          rw [nI_clamp (by omega)]; exact (he i hi).2
        · show v = G 52 (nI i).toNatClampNeg
          rw [nI_clamp (by omega), ev, ← ey, (he i hi).1]
        · rw [nI_clamp (by omega)]; exact hI i hi v
      have mid : w_X10_breakAt_A_j59 (fun v G1 => pif (v = 0) (pt (gu G1 83 (0 : Int32).toNatClampNeg 0) fun G2 => (fun v1 s1 G2 => s1 = shA ∧ w_X11_breakAt (fun v4 G3 => cmpb I v1 v4 G3) (nI i) q G2) 0 shA G2) (pt (gu G1 83 (0 : Int32).toNatClampNeg 1) fun G2 => (fun v1 s1 G2 => s1 = shA ∧ w_X11_breakAt (fun v4 G3 => cmpb I v1 v4 G3) (nI i) q G2) 0 shA G2)) (fun k G1 => (k = 0 ∧ (fun v1 s1 G2 => s1 = shA ∧ w_X11_breakAt (fun v4 G3 => cmpb I v1 v4 G3) (nI i) q G2) 1 shA G1)) y (nI i) q G := by
        unfold w_X10_breakAt_A_j59
        rw [rput_n (by omega) (by decide)]
        refine pt_of ⟨hy, ?_⟩
        rcases hy with e | e
        · exact pif_p e (pt_of ⟨rfl, fin 0 e.symm⟩)
        · exact pif_n (by rw [e]; decide) (pt_of ⟨rfl, fin 1 e.symm⟩)
      rcases hq with e | e
      · subst e; exact pif_p rfl mid
      · subst e; exact pif_n (by decide) mid
    refine has_y h1 hN hi (pif_n (by decide) ?_)
    rw [rat_n (by omega) (by decide)]
    rcases (he i hi).2 with e | e
    · exact pif_n (by rw [(he i hi).1, e]; decide) (key 0 bz_0 (by rw [(he i hi).1, e]))
    · exact pif_p (by rw [(he i hi).1, e]) (key 1 bz_1 (by rw [(he i hi).1, e]))
  · exact has_n h1 hN h (pif_p rfl ⟨rfl, rfl, node_n h2 hN h (goes_n (thr_1 rfl) (by decide) (pif_p rfl (cmpb_x (by decide) rfl (hJ _))))⟩)
theorem c_define_A {I : Gt → Prop} {G : Gt} {x y u v : Int32} {N : Nat} (hst : G 46 52 = 0) (hN : N ≤ 120) (h1 : G 1 7 = nI N) (h2 : G 46 0 = nI N) (he : ∀ m, m < 6 → G 35 m = G 54 m) (hJ : ∀ t, I (gu G 46 71 t))
    (hI : ∀ i a b, i < 6 → a < 3 → b < N → ∀ t, G 46 52 = 0 → x = nI i → y = nI a → u = nI b → (v = -1 ∨ ∃ d, d < N ∧ v = nI d) → I (gu (gu (gu (gu (gu (gu (gu (gu G 35 i u) 37 i y) 39 i v) 83 0 t) 46 71 0) 53 i y) 54 i u) 55 i v)) :
    w_L_define_A (fun v1 s1 G2 => s1 = shA ∧ w_X11_define (fun v4 G3 => cmpt I v1 v4 G3) x y u v G2) x y u v G := by
  unfold w_L_define_A w_X10_define_A w_X10_define_A_j38 w_X10_define_A_j48 w_X10_define_A_j67
  have R0 : ∀ G', G' = G → w_X11_define_j34 (fun v4 G3 => cmpt I 1 v4 G3) x y u v G' := by
    rintro G' rfl
    refine s11_in ?_
    have a : w_X11_define_j77 (fun v4 G3 => cmpt I 1 v4 G3) x y u v 0 0 0 G' ∧ w_X11_define_j77 (fun v4 G3 => cmpt I 1 v4 G3) x y u v 0 0 1 G' := ⟨goes_n (thr_1 rfl) (by decide) (pif_p rfl (cmpt_x (by decide) rfl (hJ _))), goes_n (thr_1 rfl) (by decide) (pif_p rfl (cmpt_x (by decide) rfl (hJ _)))⟩
    have b : w_X11_define_j77 (fun v4 G3 => cmpt I 1 v4 G3) x y u v 0 1 0 G' ∧ w_X11_define_j77 (fun v4 G3 => cmpt I 1 v4 G3) x y u v 0 1 1 G' := ⟨goes_n (thr_1 rfl) (by decide) (pif_p rfl (cmpt_x (by decide) rfl (hJ _))), goes_n (thr_1 rfl) (by decide) (pif_p rfl (cmpt_x (by decide) rfl (hJ _)))⟩
    exact ⟨fun _ => ⟨fun _ => a.2, fun _ => a.1⟩, fun _ => ⟨fun _ => ⟨fun _ => b.2, fun _ => b.1⟩, fun _ => ⟨fun _ => ⟨fun _ => b.2, fun _ => b.1⟩, fun _ => ⟨fun _ => a.2, fun _ => a.1⟩⟩⟩⟩
  by_cases hx : ∃ i, i < 6 ∧ x = nI i
  · refine pif_n (by obtain ⟨i, hi, e⟩ := hx; exact ibl_y (n := 6) rfl (by decide) hi e) ?_
    by_cases hu : ∃ b, b < N ∧ u = nI b
    · obtain ⟨b, hb, eu⟩ := hu
      subst eu
      refine has_y h1 hN hb (pif_n (by decide) ?_)
      have R1 : (v = -1 ∨ ∃ d, d < N ∧ v = nI d) → pif (ibl y 3 = 0) (w_X10_define_A_j67 (fun v_1 G1 => pt (gu G1 83 (0 : Int32).toNatClampNeg v_1) fun G2 => (fun v1 s1 G2 => s1 = shA ∧ w_X11_define (fun v4 G3 => cmpt I v1 v4 G3) x y (nI b) v G2) 0 shA G2) (fun k G1 => (k = 0 ∧ (fun v1 s1 G2 => s1 = shA ∧ w_X11_define (fun v4 G3 => cmpt I v1 v4 G3) x y (nI b) v G2) 1 shA G1) ∨ (k = 1 ∧ (fun v1 s1 G2 => s1 = shA ∧ w_X11_define (fun v4 G3 => cmpt I v1 v4 G3) x y (nI b) v G2) 2 shA G1) ∨ (k = 2 ∧ (fun v1 s1 G2 => s1 = shA ∧ w_X11_define (fun v4 G3 => cmpt I v1 v4 G3) x y (nI b) v G2) 3 shA G1)) G) (pif (v = -1) (w_X10_define_A_j77 (fun v_1 G1 => pt (gu G1 83 (0 : Int32).toNatClampNeg v_1) fun G2 => (fun v1 s1 G2 => s1 = shA ∧ w_X11_define (fun v4 G3 => cmpt I v1 v4 G3) x y (nI b) v G2) 0 shA G2) (fun k G1 => (k = 0 ∧ (fun v1 s1 G2 => s1 = shA ∧ w_X11_define (fun v4 G3 => cmpt I v1 v4 G3) x y (nI b) v G2) 1 shA G1) ∨ (k = 1 ∧ (fun v1 s1 G2 => s1 = shA ∧ w_X11_define (fun v4 G3 => cmpt I v1 v4 G3) x y (nI b) v G2) 2 shA G1) ∨ (k = 2 ∧ (fun v1 s1 G2 => s1 = shA ∧ w_X11_define (fun v4 G3 => cmpt I v1 v4 G3) x y (nI b) v G2) 3 shA G1)) x y (nI b) v G) (pif (y = 2) (w_X10_define_A_j77 (fun v_1 G1 => pt (gu G1 83 (0 : Int32).toNatClampNeg v_1) fun G2 => (fun v1 s1 G2 => s1 = shA ∧ w_X11_define (fun v4 G3 => cmpt I v1 v4 G3) x y (nI b) v G2) 0 shA G2) (fun k G1 => (k = 0 ∧ (fun v1 s1 G2 => s1 = shA ∧ w_X11_define (fun v4 G3 => cmpt I v1 v4 G3) x y (nI b) v G2) 1 shA G1) ∨ (k = 1 ∧ (fun v1 s1 G2 => s1 = shA ∧ w_X11_define (fun v4 G3 => cmpt I v1 v4 G3) x y (nI b) v G2) 2 shA G1) ∨ (k = 2 ∧ (fun v1 s1 G2 => s1 = shA ∧ w_X11_define (fun v4 G3 => cmpt I v1 v4 G3) x y (nI b) v G2) 3 shA G1)) x y (nI b) v G) (w_X10_define_A_j67 (fun v_1 G1 => pt (gu G1 83 (0 : Int32).toNatClampNeg v_1) fun G2 => (fun v1 s1 G2 => s1 = shA ∧ w_X11_define (fun v4 G3 => cmpt I v1 v4 G3) x y (nI b) v G2) 0 shA G2) (fun k G1 => (k = 0 ∧ (fun v1 s1 G2 => s1 = shA ∧ w_X11_define (fun v4 G3 => cmpt I v1 v4 G3) x y (nI b) v G2) 1 shA G1) ∨ (k = 1 ∧ (fun v1 s1 G2 => s1 = shA ∧ w_X11_define (fun v4 G3 => cmpt I v1 v4 G3) x y (nI b) v G2) 2 shA G1) ∨ (k = 2 ∧ (fun v1 s1 G2 => s1 = shA ∧ w_X11_define (fun v4 G3 => cmpt I v1 v4 G3) x y (nI b) v G2) 3 shA G1)) G))) := by
        intro hv
        -- what the reference does once slot and nodes are there
        have R2 : ∀ K0 G', G' 46 0 = nI N → w_X11_define_j30 K0 x y (nI b) v G' → w_X11_define K0 x y (nI b) v G' := by
          intro K0 G' e46 hk
          obtain ⟨i, hi, rfl⟩ := hx
          refine slot_y hi (pif_n (by decide) (node_y (N := N) e46 hN hb (pif_n (by decide) ?_)))
          rcases hv with e | ⟨d, hd, e⟩
          · exact pif_p e hk
          · subst e
            refine pif_n ?_ (node_y (N := N) e46 hN hd (pif_n (by decide) hk))
            intro z
            have := nI_pos' (n := d) (by omega)
            rw [z] at this
            exact absurd this (by decide)
        by_cases hy : ∃ a, a < 3 ∧ y = nI a
        · obtain ⟨a, ha, ey⟩ := hy
          have hin : 0 ≤ y ∧ y ≤ 2 := (lit_b1 (N := 3) rfl (by decide)).mpr ⟨a, ha, ey⟩
          refine pif_n (ibl_y (n := 3) rfl (by decide) ha ey) ?_
          have good : (v = -1 ∨ y = 2) → w_X10_define_A_j77 (fun v_1 G1 => pt (gu G1 83 (0 : Int32).toNatClampNeg v_1) fun G2 => (fun v1 s1 G2 => s1 = shA ∧ w_X11_define (fun v4 G3 => cmpt I v1 v4 G3) x y (nI b) v G2) 0 shA G2) (fun k G1 => (k = 0 ∧ (fun v1 s1 G2 => s1 = shA ∧ w_X11_define (fun v4 G3 => cmpt I v1 v4 G3) x y (nI b) v G2) 1 shA G1) ∨ (k = 1 ∧ (fun v1 s1 G2 => s1 = shA ∧ w_X11_define (fun v4 G3 => cmpt I v1 v4 G3) x y (nI b) v G2) 2 shA G1) ∨ (k = 2 ∧ (fun v1 s1 G2 => s1 = shA ∧ w_X11_define (fun v4 G3 => cmpt I v1 v4 G3) x y (nI b) v G2) 3 shA G1)) x y (nI b) v G := by
            intro hg
            have R3 : ∀ (K0 : Int32 → Gt → Prop) G', w_X11_define_j60 K0 x y (nI b) v 1 G' → w_X11_define_j30 K0 x y (nI b) v G' := by
              intro K0 G' hk
              refine in_y hin (pif_n (by decide) ⟨fun _ => hk, fun e => pif_p (hg.resolve_left e) hk⟩)
            have hs := hst
            refine step_A (pif_p rfl ?_)
            obtain ⟨i, hi, rfl⟩ := hx
            rw [rput_n hi (by decide)]
            refine pt_of ?_
            rw [rput_n hi (by decide)]
            refine pt_of ?_
            rw [rput_n hi (by decide)]
            refine pt_of (pt_of ⟨rfl, R2 _ _ h2 (R3 _ _ (pif_p hs (goes_y (by decide) (by decide) (by decide) (pif_n (by decide) ⟨vp_n hi (by decide), vp_n hi (by decide), pt_of ⟨vp_n hi (by decide), pt_of ⟨vp_n hi (by decide), pt_of (cmpt_0 rfl ?_ ?_)⟩⟩⟩))))⟩)
            · show rat G 35 6 (nI i) = gu G 35 i (nI b) 54 (nI i).toNatClampNeg
              rw [rat_n hi (by decide), nI_clamp (by omega)]
              exact he i hi
            · rw [nI_clamp (by omega)]
              exact hI i a b hi ha hb _ hs rfl ey rfl hv
          by_cases hv1 : v = -1
          · exact pif_p hv1 (good (Or.inl hv1))
          · refine pif_n hv1 ?_
            by_cases hy2 : y = 2
            · exact pif_p hy2 (good (Or.inr hy2))
            · exact pif_n hy2 (Or.inr (Or.inl ⟨rfl, rfl, R2 _ _ h2 (in_y hin (pif_n (by decide) (pif_n hv1 (pif_n hy2 (pif_p hst (goes_n (thr_2 (by decide) rfl) (by decide) (pif_p rfl (cmpt_x (by decide) rfl (hJ _)))))))))⟩))
        · have hin : ¬ (0 ≤ y ∧ y ≤ 2) := fun z => hy ((lit_b1 (N := 3) rfl (by decide)).mp z)
          exact pif_p (ibl_n (n := 3) rfl (by decide) hy) (Or.inr (Or.inl ⟨rfl, rfl, R2 _ _ h2 (in_n hin (pif_p rfl (pif_p hst (goes_n (thr_2 (by decide) rfl) (by decide) (pif_p rfl (cmpt_x (by decide) rfl (hJ _)))))))⟩))
      by_cases hv1 : v = -1
      · exact pif_p hv1 (R1 (Or.inl hv1))
      · refine pif_n hv1 ?_
        by_cases hv2 : ∃ d, d < N ∧ v = nI d
        · have R1' := R1 (Or.inr hv2)
          obtain ⟨d, hd, e⟩ := hv2
          subst e
          exact has_y h1 hN hd (pif_n (by decide) R1')
        · obtain ⟨i, hi, rfl⟩ := hx
          exact has_n h1 hN hv2 (pif_p rfl (Or.inl ⟨rfl, rfl, slot_y hi (pif_n (by decide) (node_y (N := N) h2 hN hb (pif_n (by decide) (pif_n hv1 (node_n h2 hN hv2 (pif_p rfl (R0 G rfl)))))))⟩))
    · obtain ⟨i, hi, rfl⟩ := hx
      exact has_n h1 hN hu (pif_p rfl (Or.inl ⟨rfl, rfl, slot_y hi (pif_n (by decide) (node_n h2 hN hu (pif_p rfl (R0 G rfl))))⟩))
  · exact pif_p (ibl_n (n := 6) rfl (by decide) hx) (Or.inl ⟨rfl, rfl, slot_n hx (pif_p rfl (R0 G rfl))⟩)
theorem c_next_A {I : Gt → Prop} {G : Gt} (hst : G 46 52 = 0) (hJ : ∀ t, I (gu G 46 71 t)) : w_X10_next_A (fun v G1 => w_X11_next (fun v2 G2 => pif (v = v2) (I G2) False) G1) G := pif_p hst (s11_tells (pif_p rfl (hJ 0)))
theorem c_active_A {I : Gt → Prop} {G : Gt} (hst : G 46 52 = 0) (hJ : ∀ t, I (gu G 46 71 t)) : w_X10_active_A (fun v G1 => w_X11_active (fun v2 G2 => pif (v = v2) (I G2) False) G1) G := pif_p hst (s11_tells (pif_p rfl (hJ 0)))
theorem c_breakAt_B {I : Gt → Prop} {G : Gt} {x q : Int32} {N : Nat} (hq : bz q) (hN : N ≤ 120) (h1 : G 1 7 = nI N) (h2 : G 46 0 = nI N) (he : ∀ m, m < N → G 11 m = G 52 m ∧ bz (G 52 m)) (hI : ∀ i, i < N → ∀ v, I (gu (gu (gu (gu G 11 i q) 83 0 v) 46 71 0) 52 i q)) (hJ : ∀ t, I (gu G 46 71 t)) :
    w_L_breakAt_B (fun v1 s1 G2 => s1 = shB ∧ w_X11_breakAt (fun v4 G3 => cmpb I v1 v4 G3) x q G2) x q G := by
  unfold w_L_breakAt_B w_X10_breakAt_B
  by_cases h : ∃ i, i < N ∧ x = nI i
  · obtain ⟨i, hi, rfl⟩ := h
    have key : ∀ y : Int32, bz y → G 11 i = y → w_X10_breakAt_B_j41 (fun v G1 => pif (v = 0) (pt (gu G1 83 (0 : Int32).toNatClampNeg 0) fun G2 => (fun v1 s1 G2 => s1 = shB ∧ w_X11_breakAt (fun v4 G3 => cmpb I v1 v4 G3) (nI i) q G2) 0 shB G2) (pt (gu G1 83 (0 : Int32).toNatClampNeg 1) fun G2 => (fun v1 s1 G2 => s1 = shB ∧ w_X11_breakAt (fun v4 G3 => cmpb I v1 v4 G3) (nI i) q G2) 0 shB G2)) (fun k G1 => (k = 0 ∧ (fun v1 s1 G2 => s1 = shB ∧ w_X11_breakAt (fun v4 G3 => cmpb I v1 v4 G3) (nI i) q G2) 1 shB G1)) (nI i) q y G := by
      intro y hy ey
      have fin : ∀ v : Int32, v = y → w_X11_breakAt (fun v4 G3 => cmpb I 0 v4 G3) (nI i) q (gu (gu G 11 i q) 83 0 v) := by
        intro v ev
        refine node_y (N := N) h2 hN hi (goes_y (by decide) (by decide) (by decide) (pif_n (by decide) ⟨vp_n (by omega) (by decide), vp_n (by omega) (by decide), hq, pt_of ⟨?_, cmpb_0 rfl ?_ ?_ ?_⟩⟩))
        · show bz (G 52 (nI i).toNatClampNeg)
          rw [nI_clamp (by omega)]; exact (he i hi).2
        · show bz (G 52 (nI i).toNatClampNeg)
          rw [nI_clamp (by omega)]; exact (he i hi).2
        · show v = G 52 (nI i).toNatClampNeg
          rw [nI_clamp (by omega), ev, ← ey, (he i hi).1]
        · rw [nI_clamp (by omega)]; exact hI i hi v
      have mid : w_X10_breakAt_B_j59 (fun v G1 => pif (v = 0) (pt (gu G1 83 (0 : Int32).toNatClampNeg 0) fun G2 => (fun v1 s1 G2 => s1 = shB ∧ w_X11_breakAt (fun v4 G3 => cmpb I v1 v4 G3) (nI i) q G2) 0 shB G2) (pt (gu G1 83 (0 : Int32).toNatClampNeg 1) fun G2 => (fun v1 s1 G2 => s1 = shB ∧ w_X11_breakAt (fun v4 G3 => cmpb I v1 v4 G3) (nI i) q G2) 0 shB G2)) (fun k G1 => (k = 0 ∧ (fun v1 s1 G2 => s1 = shB ∧ w_X11_breakAt (fun v4 G3 => cmpb I v1 v4 G3) (nI i) q G2) 1 shB G1)) y (nI i) q G := by
        unfold w_X10_breakAt_B_j59
        rw [rput_n (by omega) (by decide)]
        refine pt_of ⟨hy, ?_⟩
        rcases hy with e | e
        · exact pif_p e (pt_of ⟨rfl, fin 0 e.symm⟩)
        · exact pif_n (by rw [e]; decide) (pt_of ⟨rfl, fin 1 e.symm⟩)
      rcases hq with e | e
      · subst e; exact pif_p rfl mid
      · subst e; exact pif_n (by decide) mid
    refine has_y h1 hN hi (pif_n (by decide) ?_)
    rw [rat_n (by omega) (by decide)]
    rcases (he i hi).2 with e | e
    · exact pif_n (by rw [(he i hi).1, e]; decide) (key 0 bz_0 (by rw [(he i hi).1, e]))
    · exact pif_p (by rw [(he i hi).1, e]) (key 1 bz_1 (by rw [(he i hi).1, e]))
  · exact has_n h1 hN h (pif_p rfl ⟨rfl, rfl, node_n h2 hN h (goes_n (thr_1 rfl) (by decide) (pif_p rfl (cmpb_x (by decide) rfl (hJ _))))⟩)
theorem c_define_B {I : Gt → Prop} {G : Gt} {x y u v : Int32} {N : Nat} (hst : G 84 7 = 0 ↔ G 46 52 = 0) (hN : N ≤ 120) (h1 : G 1 7 = nI N) (h2 : G 46 0 = nI N) (he : ∀ m, m < 6 → G 35 m = G 54 m) (hJ : ∀ t, I (gu G 46 71 t))
    (hI : ∀ i a b, i < 6 → a < 3 → b < N → ∀ t, G 46 52 = 0 → x = nI i → y = nI a → u = nI b → (v = -1 ∨ ∃ d, d < N ∧ v = nI d) → I (gu (gu (gu (gu (gu (gu (gu (gu G 35 i u) 37 i y) 39 i v) 83 0 t) 46 71 0) 53 i y) 54 i u) 55 i v)) :
    w_L_define_B (fun v1 s1 G2 => s1 = shB ∧ w_X11_define (fun v4 G3 => cmpt I v1 v4 G3) x y u v G2) x y u v G := by
  unfold w_L_define_B w_X10_define_B w_X10_define_B_j38 w_X10_define_B_j48 w_X10_define_B_j67
  have R0 : ∀ G', G' = G → w_X11_define_j34 (fun v4 G3 => cmpt I 1 v4 G3) x y u v G' := by
    rintro G' rfl
    refine s11_in ?_
    have a : w_X11_define_j77 (fun v4 G3 => cmpt I 1 v4 G3) x y u v 0 0 0 G' ∧ w_X11_define_j77 (fun v4 G3 => cmpt I 1 v4 G3) x y u v 0 0 1 G' := ⟨goes_n (thr_1 rfl) (by decide) (pif_p rfl (cmpt_x (by decide) rfl (hJ _))), goes_n (thr_1 rfl) (by decide) (pif_p rfl (cmpt_x (by decide) rfl (hJ _)))⟩
    have b : w_X11_define_j77 (fun v4 G3 => cmpt I 1 v4 G3) x y u v 0 1 0 G' ∧ w_X11_define_j77 (fun v4 G3 => cmpt I 1 v4 G3) x y u v 0 1 1 G' := ⟨goes_n (thr_1 rfl) (by decide) (pif_p rfl (cmpt_x (by decide) rfl (hJ _))), goes_n (thr_1 rfl) (by decide) (pif_p rfl (cmpt_x (by decide) rfl (hJ _)))⟩
    exact ⟨fun _ => ⟨fun _ => a.2, fun _ => a.1⟩, fun _ => ⟨fun _ => ⟨fun _ => b.2, fun _ => b.1⟩, fun _ => ⟨fun _ => ⟨fun _ => b.2, fun _ => b.1⟩, fun _ => ⟨fun _ => a.2, fun _ => a.1⟩⟩⟩⟩
  by_cases hx : ∃ i, i < 6 ∧ x = nI i
  · refine pif_n (by obtain ⟨i, hi, e⟩ := hx; exact ibl_y (n := 6) rfl (by decide) hi e) ?_
    by_cases hu : ∃ b, b < N ∧ u = nI b
    · obtain ⟨b, hb, eu⟩ := hu
      subst eu
      refine has_y h1 hN hb (pif_n (by decide) ?_)
      have R1 : (v = -1 ∨ ∃ d, d < N ∧ v = nI d) → pif (ibl y 3 = 0) (w_X10_define_B_j67 (fun v_1 G1 => pt (gu G1 83 (0 : Int32).toNatClampNeg v_1) fun G2 => (fun v1 s1 G2 => s1 = shB ∧ w_X11_define (fun v4 G3 => cmpt I v1 v4 G3) x y (nI b) v G2) 0 shB G2) (fun k G1 => (k = 0 ∧ (fun v1 s1 G2 => s1 = shB ∧ w_X11_define (fun v4 G3 => cmpt I v1 v4 G3) x y (nI b) v G2) 1 shB G1) ∨ (k = 1 ∧ (fun v1 s1 G2 => s1 = shB ∧ w_X11_define (fun v4 G3 => cmpt I v1 v4 G3) x y (nI b) v G2) 2 shB G1) ∨ (k = 2 ∧ (fun v1 s1 G2 => s1 = shB ∧ w_X11_define (fun v4 G3 => cmpt I v1 v4 G3) x y (nI b) v G2) 3 shB G1)) G) (pif (v = -1) (w_X10_define_B_j77 (fun v_1 G1 => pt (gu G1 83 (0 : Int32).toNatClampNeg v_1) fun G2 => (fun v1 s1 G2 => s1 = shB ∧ w_X11_define (fun v4 G3 => cmpt I v1 v4 G3) x y (nI b) v G2) 0 shB G2) (fun k G1 => (k = 0 ∧ (fun v1 s1 G2 => s1 = shB ∧ w_X11_define (fun v4 G3 => cmpt I v1 v4 G3) x y (nI b) v G2) 1 shB G1) ∨ (k = 1 ∧ (fun v1 s1 G2 => s1 = shB ∧ w_X11_define (fun v4 G3 => cmpt I v1 v4 G3) x y (nI b) v G2) 2 shB G1) ∨ (k = 2 ∧ (fun v1 s1 G2 => s1 = shB ∧ w_X11_define (fun v4 G3 => cmpt I v1 v4 G3) x y (nI b) v G2) 3 shB G1)) x y (nI b) v G) (pif (y = 2) (w_X10_define_B_j77 (fun v_1 G1 => pt (gu G1 83 (0 : Int32).toNatClampNeg v_1) fun G2 => (fun v1 s1 G2 => s1 = shB ∧ w_X11_define (fun v4 G3 => cmpt I v1 v4 G3) x y (nI b) v G2) 0 shB G2) (fun k G1 => (k = 0 ∧ (fun v1 s1 G2 => s1 = shB ∧ w_X11_define (fun v4 G3 => cmpt I v1 v4 G3) x y (nI b) v G2) 1 shB G1) ∨ (k = 1 ∧ (fun v1 s1 G2 => s1 = shB ∧ w_X11_define (fun v4 G3 => cmpt I v1 v4 G3) x y (nI b) v G2) 2 shB G1) ∨ (k = 2 ∧ (fun v1 s1 G2 => s1 = shB ∧ w_X11_define (fun v4 G3 => cmpt I v1 v4 G3) x y (nI b) v G2) 3 shB G1)) x y (nI b) v G) (w_X10_define_B_j67 (fun v_1 G1 => pt (gu G1 83 (0 : Int32).toNatClampNeg v_1) fun G2 => (fun v1 s1 G2 => s1 = shB ∧ w_X11_define (fun v4 G3 => cmpt I v1 v4 G3) x y (nI b) v G2) 0 shB G2) (fun k G1 => (k = 0 ∧ (fun v1 s1 G2 => s1 = shB ∧ w_X11_define (fun v4 G3 => cmpt I v1 v4 G3) x y (nI b) v G2) 1 shB G1) ∨ (k = 1 ∧ (fun v1 s1 G2 => s1 = shB ∧ w_X11_define (fun v4 G3 => cmpt I v1 v4 G3) x y (nI b) v G2) 2 shB G1) ∨ (k = 2 ∧ (fun v1 s1 G2 => s1 = shB ∧ w_X11_define (fun v4 G3 => cmpt I v1 v4 G3) x y (nI b) v G2) 3 shB G1)) G))) := by
        intro hv
        -- what the reference does once slot and nodes are there
        have R2 : ∀ K0 G', G' 46 0 = nI N → w_X11_define_j30 K0 x y (nI b) v G' → w_X11_define K0 x y (nI b) v G' := by
          intro K0 G' e46 hk
          obtain ⟨i, hi, rfl⟩ := hx
          refine slot_y hi (pif_n (by decide) (node_y (N := N) e46 hN hb (pif_n (by decide) ?_)))
          rcases hv with e | ⟨d, hd, e⟩
          · exact pif_p e hk
          · subst e
            refine pif_n ?_ (node_y (N := N) e46 hN hd (pif_n (by decide) hk))
            intro z
            have := nI_pos' (n := d) (by omega)
            rw [z] at this
            exact absurd this (by decide)
        by_cases hy : ∃ a, a < 3 ∧ y = nI a
        · obtain ⟨a, ha, ey⟩ := hy
          have hin : 0 ≤ y ∧ y ≤ 2 := (lit_b1 (N := 3) rfl (by decide)).mpr ⟨a, ha, ey⟩
          refine pif_n (ibl_y (n := 3) rfl (by decide) ha ey) ?_
          have good : (v = -1 ∨ y = 2) → w_X10_define_B_j77 (fun v_1 G1 => pt (gu G1 83 (0 : Int32).toNatClampNeg v_1) fun G2 => (fun v1 s1 G2 => s1 = shB ∧ w_X11_define (fun v4 G3 => cmpt I v1 v4 G3) x y (nI b) v G2) 0 shB G2) (fun k G1 => (k = 0 ∧ (fun v1 s1 G2 => s1 = shB ∧ w_X11_define (fun v4 G3 => cmpt I v1 v4 G3) x y (nI b) v G2) 1 shB G1) ∨ (k = 1 ∧ (fun v1 s1 G2 => s1 = shB ∧ w_X11_define (fun v4 G3 => cmpt I v1 v4 G3) x y (nI b) v G2) 2 shB G1) ∨ (k = 2 ∧ (fun v1 s1 G2 => s1 = shB ∧ w_X11_define (fun v4 G3 => cmpt I v1 v4 G3) x y (nI b) v G2) 3 shB G1)) x y (nI b) v G := by
            intro hg
            have R3 : ∀ (K0 : Int32 → Gt → Prop) G', w_X11_define_j60 K0 x y (nI b) v 1 G' → w_X11_define_j30 K0 x y (nI b) v G' := by
              intro K0 G' hk
              refine in_y hin (pif_n (by decide) ⟨fun _ => hk, fun e => pif_p (hg.resolve_left e) hk⟩)
            by_cases hs : G 46 52 = 0
            · refine step_By (hst.mpr hs) (pif_p rfl ?_)
              obtain ⟨i, hi, rfl⟩ := hx
              rw [rput_n hi (by decide)]
              refine pt_of ?_
              rw [rput_n hi (by decide)]
              refine pt_of ?_
              rw [rput_n hi (by decide)]
              refine pt_of (pt_of ⟨rfl, R2 _ _ h2 (R3 _ _ (pif_p hs (goes_y (by decide) (by decide) (by decide) (pif_n (by decide) ⟨vp_n hi (by decide), vp_n hi (by decide), pt_of ⟨vp_n hi (by decide), pt_of ⟨vp_n hi (by decide), pt_of (cmpt_0 rfl ?_ ?_)⟩⟩⟩))))⟩)
              · show rat G 35 6 (nI i) = gu G 35 i (nI b) 54 (nI i).toNatClampNeg
                rw [rat_n hi (by decide), nI_clamp (by omega)]
                exact he i hi
              · rw [nI_clamp (by omega)]
                exact hI i a b hi ha hb _ hs rfl ey rfl hv
            · exact step_Bn (fun z => hs (hst.mp z)) (pif_n (by decide) (Or.inr (Or.inr ⟨rfl, rfl, R2 _ _ h2 (R3 _ _ (pif_n hs (goes_n (thr_3 (by decide) (by decide) rfl) (by decide) (pif_p rfl (cmpt_x (by decide) rfl (hJ _))))))⟩)))
          by_cases hv1 : v = -1
          · exact pif_p hv1 (good (Or.inl hv1))
          · refine pif_n hv1 ?_
            by_cases hy2 : y = 2
            · exact pif_p hy2 (good (Or.inr hy2))
            · exact pif_n hy2 (Or.inr (Or.inl ⟨rfl, rfl, R2 _ _ h2 (in_y hin (pif_n (by decide) (pif_n hv1 (pif_n hy2 (⟨fun _ => goes_n (thr_2 (by decide) rfl) (by decide) (pif_p rfl (cmpt_x (by decide) rfl (hJ _))), fun _ => goes_n (thr_2 (by decide) rfl) (by decide) (pif_p rfl (cmpt_x (by decide) rfl (hJ _)))⟩)))))⟩))
        · have hin : ¬ (0 ≤ y ∧ y ≤ 2) := fun z => hy ((lit_b1 (N := 3) rfl (by decide)).mp z)
          exact pif_p (ibl_n (n := 3) rfl (by decide) hy) (Or.inr (Or.inl ⟨rfl, rfl, R2 _ _ h2 (in_n hin (pif_p rfl (⟨fun _ => goes_n (thr_2 (by decide) rfl) (by decide) (pif_p rfl (cmpt_x (by decide) rfl (hJ _))), fun _ => goes_n (thr_2 (by decide) rfl) (by decide) (pif_p rfl (cmpt_x (by decide) rfl (hJ _)))⟩)))⟩))
      by_cases hv1 : v = -1
      · exact pif_p hv1 (R1 (Or.inl hv1))
      · refine pif_n hv1 ?_
        by_cases hv2 : ∃ d, d < N ∧ v = nI d
        · have R1' := R1 (Or.inr hv2)
          obtain ⟨d, hd, e⟩ := hv2
          subst e
          exact has_y h1 hN hd (pif_n (by decide) R1')
        · obtain ⟨i, hi, rfl⟩ := hx
          exact has_n h1 hN hv2 (pif_p rfl (Or.inl ⟨rfl, rfl, slot_y hi (pif_n (by decide) (node_y (N := N) h2 hN hb (pif_n (by decide) (pif_n hv1 (node_n h2 hN hv2 (pif_p rfl (R0 G rfl)))))))⟩))
    · obtain ⟨i, hi, rfl⟩ := hx
      exact has_n h1 hN hu (pif_p rfl (Or.inl ⟨rfl, rfl, slot_y hi (pif_n (by decide) (node_n h2 hN hu (pif_p rfl (R0 G rfl))))⟩))
  · exact pif_p (ibl_n (n := 6) rfl (by decide) hx) (Or.inl ⟨rfl, rfl, slot_n hx (pif_p rfl (R0 G rfl))⟩)
