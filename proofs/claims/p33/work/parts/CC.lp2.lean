/-! THE LOOPS: a run, some steps of one -/
theorem cT_h : ∀ (t : Nat) (G G' : Gt), cT t G G' → ∀ (R : Gt) (K : Int32 → Gt → Prop) (n : Nat) (x1 x2 x3 : Int32) (c : Nat), c + t < 1000000 → w_X2_advance_h8 K n x1 x2 x3 (nI (c + t)) (mxw G' R) → w_X2_advance_h8 K (n + t) x1 x2 x3 (nI c) (mxw G R)
  | 0, G, G', h, R, K, n, x1, x2, x3, c, hc, hk => by rw [mxw_c h] at hk; exact hk
  | t + 1, G, G', h, R, K, n, x1, x2, x3, c, hc, hk => by
    obtain ⟨G1, s, h'⟩ := h
    have hi := cT_h t G1 G' h' R K n x1 x2 x3 (c + 1) (by omega) (by rw [show c + 1 + t = c + (t + 1) by omega]; exact hk)
    rw [← nI_1] at hi
    exact s R K (n + t) x1 x2 x3 (nI c) (nI_ge (b := 1000000) (by omega) (by decide)) hi
theorem nI_sub {a b : Nat} (h : b ≤ a) : nI a - nI b = nI (a - b) := by
  have : nI a = nI (a - b) + nI b := by rw [nI_add, show a - b + b = a by omega]
  rw [this, Int32.add_sub_cancel]
theorem f_h8 {G R : Gt} {K : Int32 → Gt → Prop} {x1 x2 x3 : Int32} {c n : Nat} (h7 : G 84 7 = 0) (hc : c < 1000000) (hk : w_X2_advance_j249 K x3 (mxw G R)) : w_X2_advance_h8 K (n + 1) x1 x2 x3 (nI c) (mxw G R) := by
  rw [w_X2_advance_h8]
  exact pif_n (nI_ge (b := 1000000) hc (by decide)) (pif_p h7 hk)
theorem w_cells {N B : Nat} {z : Zt} {G : Gt} (h : wST N B z G) : G 84 7 = 1 ∧ G 84 12 = 1 ∧ G 84 11 = nI (z 0 0) ∧ G 84 10 = nI (z 0 0) ∧ G 108 (z 0 0) = nI (z 1 (z 0 0)) ∧ z 1 (z 0 0) < N ∧ N ≤ 120 ∧ G 84 9 = nI B ∧ z 0 0 ≤ B ∧ B ≤ 600 ∧ G 11 (z 1 (z 0 0)) = G 52 (z 1 (z 0 0)) ∧ bz (G 52 (z 1 (z 0 0))) ∧ G 46 54 = nI (z 1 (z 0 0)) ∧ G 46 53 = 0 := by
  obtain ⟨hS, hm, hcur, h7, h12, h116, h118, h124, hnx, _⟩ := h
  have hA := hS.2.1 (z 0 0) (by omega)
  have hQ := hS.2.2.2.2.2.2.2.2.2.2.2.2.2.2.2.2.2.1
  have h11 : G 84 11 = nI (z 0 0) := by have := hQ.2.2.2.2.2.2.2.2.1; rw [hcur] at this; exact this
  obtain ⟨a1, a2, a3, a4, a5, U, a6, a7, a8, a9⟩ := hS.1
  obtain ⟨k, e, s, b1, b2, b3, b4, b5, b6, b7, b8, b9, b10, b11, b12, _⟩ := a9 _ hA.2
  exact ⟨hQ.2.2.2.2.2.2.2.2.2.1, h12, h11, hQ.2.2.2.2.2.2.1, hA.1, hA.2, a1, hQ.2.1, hQ.2.2.2.1, hQ.1, b11, b12, hnx, hQ.2.2.2.2.2.2.2.2.2.2.1⟩
theorem w_turn {N B : Nat} {z : Zt} {G R : Gt} {K : Int32 → Gt → Prop} {x1 x2 x3 : Int32} {c n : Nat} (h : wST N B z G) (hc : c < 1000000) (hgo : x2 = 0 ∨ G 84 10 ≤ x3 ∨ ¬ G 11 (z 1 (z 0 0)) = 1) (hm : nI (z 0 0) - x3 < x1) (hk : w_X2_letBegin (fun G8 => w_X2_advance_h8 K n x1 x2 x3 (nI c + 1) G8) (mxw G R)) : w_X2_advance_h8 K (n + 1) x1 x2 x3 (nI c) (mxw G R) := by
  obtain ⟨a1, a2, a3, a4, a5, a6, a7, a8, a9, a10, a11, a12, a13, a14⟩ := w_cells h
  rw [w_X2_advance_h8]
  unfold w_X2_advance_j63 w_X2_advance_j64 w_X2_advance_j243 w_X2_waitingNode
  have e7 : (mxw G R) 84 7 = 1 := a1
  have e12 : (mxw G R) 84 12 = 1 := a2
  have e10 : (mxw G R) 84 10 = nI (z 0 0) := a4
  have er : rat (mxw G R) 11 120 (nI (z 1 (z 0 0))) = G 11 (z 1 (z 0 0)) := by rw [rat_n (by omega) (by decide)]; rfl
  rw [e7, e12, e10]
  refine pif_n (nI_ge (b := 1000000) hc (by decide)) (pif_n (by decide) (pif_n (by decide) ?_))
  have go : pif ((0 : Int32) = 0) (pif (nI (z 0 0) - x3 < x1) (w_X2_letBegin (fun G8 => w_X2_advance_h8 K n x1 x2 x3 (nI c + 1) G8) (mxw G R)) (w_X2_advance_j81 K x3 (mxw G R))) (w_X2_advance_j81 K x3 (mxw G R)) := pif_p rfl (pif_p hm hk)
  by_cases c2 : x2 = 0
  · exact pif_p c2 go
  · refine pif_n c2 ?_
    by_cases c3 : nI (z 0 0) ≤ x3
    · exact pif_p c3 go
    · have c4 : ¬ G 11 (z 1 (z 0 0)) = 1 := by
        rcases hgo with q | q | q
        · exact absurd q c2
        · rw [a4] at q; exact absurd q c3
        · exact q
      refine pif_n c3 ?_
      have e11 : rat (mxw G R) 108 601 ((mxw G R) 84 11) = nI (z 1 (z 0 0)) := by
        rw [show (mxw G R) 84 11 = nI (z 0 0) from a3, rat_n (by omega) (by decide)]; exact a5
      rw [e11]
      dsimp only
      rw [er, e10]
      exact pif_n c4 go
/-- it stops ahead of a node -/
theorem w_hold {N B : Nat} {z : Zt} {G R : Gt} {K : Int32 → Gt → Prop} {x1 x2 x3 : Int32} {c n : Nat} (h : wST N B z G) (hc : c < 1000000) (hst : ¬ (nI (z 0 0) - x3 < x1) ∨ (¬ x2 = 0 ∧ ¬ nI (z 0 0) ≤ x3 ∧ G 11 (z 1 (z 0 0)) = 1)) (hk : K (nI (z 0 0) - x3) (mxw G R)) : w_X2_advance_h8 K (n + 1) x1 x2 x3 (nI c) (mxw G R) := by
  obtain ⟨a1, a2, a3, a4, a5, a6, a7, a8, a9, a10, a11, a12, a13, a14⟩ := w_cells h
  rw [w_X2_advance_h8]
  unfold w_X2_advance_j63 w_X2_advance_j64 w_X2_advance_j81 w_X2_waitingNode
  have e7 : (mxw G R) 84 7 = 1 := a1
  have e12 : (mxw G R) 84 12 = 1 := a2
  have e10 : (mxw G R) 84 10 = nI (z 0 0) := a4
  have er : rat (mxw G R) 11 120 (nI (z 1 (z 0 0))) = G 11 (z 1 (z 0 0)) := by rw [rat_n (by omega) (by decide)]; rfl
  rw [e7, e12, e10]
  refine pif_n (nI_ge (b := 1000000) hc (by decide)) (pif_n (by decide) (pif_n (by decide) ?_))
  have e11 : rat (mxw G R) 108 601 ((mxw G R) 84 11) = nI (z 1 (z 0 0)) := by
    rw [show (mxw G R) 84 11 = nI (z 0 0) from a3, rat_n (by omega) (by decide)]; exact a5
  rw [e11]
  dsimp only
  rw [er, e10]
  rcases hst with q | ⟨q1, q2, q3⟩
  · have go : pif ((0 : Int32) = 0) (pif (nI (z 0 0) - x3 < x1) (w_X2_letBegin (fun G8 => w_X2_advance_j243 K (fun z0 z1 z2 z3 z4 => w_X2_advance_h8 K n z0 z1 z2 z3 z4) x1 x2 x3 (nI c) G8) (mxw G R)) (K (nI (z 0 0) - x3) (mxw G R))) (K (nI (z 0 0) - x3) (mxw G R)) := pif_p rfl (pif_n q hk)
    by_cases c2 : x2 = 0
    · exact pif_p c2 go
    · refine pif_n c2 ?_
      by_cases c3 : nI (z 0 0) ≤ x3
      · exact pif_p c3 go
      · refine pif_n c3 ?_
        by_cases c4 : G 11 (z 1 (z 0 0)) = 1
        · exact pif_p c4 (pif_n (by decide) hk)
        · exact pif_n c4 go
  · exact pif_n q1 (pif_n q2 (pif_p q3 (pif_n (by decide) hk)))
theorem lb_y {N B : Nat} {z : Zt} {G R : Gt} {K : Gt → Prop} (h : wST N B z G) (hB0 : z 0 0 < B) (hk : K (mxw (oLb (z 0 0) G) R)) : w_X2_letBegin K (mxw G R) := by
  obtain ⟨a1, a2, a3, a4, a5, a6, a7, a8, a9, a10, a11, a12, a13, a14⟩ := w_cells h
  unfold w_X2_letBegin w_X2_letBegin_j40
  rw [show (mxw G R) 84 9 = nI B from a8, show (mxw G R) 84 10 = nI (z 0 0) from a4, nI_1]
  exact pif_n (nI_ge hB0 (by omega)) (ptc rfl (ptc rfl hk))
/-- all of a run -/
theorem run_all {N B : Nat} : ∀ (M : Nat) (z : Zt) (G : Gt), mu z ≤ M → wST N B z G → ∃ zf Gf, fST N B zf Gf ∧ kq G Gf ∧ (∀ (R : Gt) (K : Int32 → Gt → Prop) (c : Nat), c + mu z + 3 ≤ 900000 → w_X2_advance_j249 K (nI 0) (mxw Gf R) → ∃ n, w_X2_advance_h8 K n 601 0 (nI 0) (nI c) (mxw G R)) ∧ (∀ (C : Gt) (K : Gt → Prop), K (mxw C Gf) → ∃ n, w_X11_runsAll_h5 K n (mxw C G)) := by
  intro M
  induction M with
  | zero =>
    intro z G hm h
    by_cases hB : z 0 0 = B
    · have := (w_cells h).2.2.2.2.2.2.2.2
      unfold mu at hm
      omega
    · obtain ⟨a1, a2, a3, a4, a5, a6, a7, a8, a9, a10, _⟩ := w_cells h
      obtain ⟨z', G', t, _, _, _, _, q, _⟩ := w_step a10 h (by omega)
      omega
  | succ M ih =>
    intro z G hm h
    obtain ⟨a1, a2, a3, a4, a5, a6, a7, a8, a9, a10, a11, a12, a13, a14⟩ := w_cells h
    have hmost : nI (z 0 0) - nI 0 < 601 := by
      rw [nI_sub (Nat.zero_le _), Nat.sub_zero]
      exact nI_ltx (b := 601) rfl (by omega) (by decide)
    have fin : ∀ (C : Gt) (K : Gt → Prop) (Gf : Gt), Gf 46 53 = 1 → K (mxw C Gf) → w_X11_runsAll_h5 K 1 (mxw C Gf) := by
      intro C K Gf h53 hk
      rw [w_X11_runsAll_h5]
      exact pif_n (by rw [show (mxw C Gf) 46 53 = 1 from h53]; decide) hk
    by_cases hB : z 0 0 = B
    · obtain ⟨Gf, p1, p2, p3, p4⟩ := w_stop h hB
      refine ⟨z, Gf, p1, p4, fun R K c hc hk => ⟨2, ?_⟩, fun C K hk => ⟨2, ?_⟩⟩
      · refine w_turn h (by omega) (Or.inl rfl) hmost (p2 R _ ?_)
        rw [nI_1]
        exact f_h8 p1.1 (by omega) hk
      · rw [w_X11_runsAll_h5]
        exact pif_p a14 (p3 C _ (fin C K Gf p1.2.1 hk))
    · obtain ⟨z', G', t, p1, p2, p3, p4, p5, p6⟩ := w_step a10 h (by omega)
      have cls : ∀ (R : Gt) (K : Int32 → Gt → Prop) (c n : Nat), c + mu z + 3 ≤ 900000 → w_X2_advance_h8 K n 601 0 (nI 0) (nI (c + 1 + t)) (mxw G' R) → ∃ n, w_X2_advance_h8 K n 601 0 (nI 0) (nI c) (mxw G R) := by
        intro R K c n hc hk
        refine ⟨n + t + 1, w_turn h (by omega) (Or.inl rfl) hmost (lb_y h (by omega) ?_)⟩
        rw [nI_1]
        exact cT_h t _ _ p2 R K n 601 0 (nI 0) (c + 1) (by omega) hk
      rcases p1 with p1 | p1
      · obtain ⟨zf, Gf, q1, q2, q3, q4⟩ := ih z' G' (by omega) p1
        refine ⟨zf, Gf, q1, kq_tr p4 q2, fun R K c hc hk => ?_, fun C K hk => ?_⟩
        · obtain ⟨n, hn⟩ := q3 R K (c + 1 + t) (by omega) hk
          exact cls R K c n hc hn
        · obtain ⟨n, hn⟩ := q4 C K hk
          refine ⟨n + 1, ?_⟩
          rw [w_X11_runsAll_h5]
          exact pif_p a14 (p3 C _ hn)
      · refine ⟨z', G', p1, p4, fun R K c hc hk => ?_, fun C K hk => ⟨2, ?_⟩⟩
        · exact cls R K c 1 hc (f_h8 p1.1 (by omega) hk)
        · rw [w_X11_runsAll_h5]
          exact pif_p a14 (p3 C _ (fin C K G' p1.2.1 hk))
