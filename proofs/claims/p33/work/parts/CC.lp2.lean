/-! THE LOOPS: a run, some steps of one -/
theorem cT_h : ∀ (t : Nat) (G G' : Gt), cT t G G' → ∀ (R : Gt) (K : Int32 → Gt → Prop) (n : Nat) (x1 x2 x3 : Int32) (c : Nat), c + t < 1000000 → w_X2_advance_h8 K n x1 x2 x3 (nI (c + t)) (mxw G' R) → w_X2_advance_h8 K (n + t) x1 x2 x3 (nI c) (mxw G R)
  | 0, G, G', h, R, K, n, x1, x2, x3, c, hc, hk => by rw [mxw_c h] at hk; exact hk
  | t + 1, G, G', h, R, K, n, x1, x2, x3, c, hc, hk => by
    obtain ⟨G1, s, h'⟩ := h
    have hi := cT_h t G1 G' h' R K n x1 x2 x3 (c + 1) (by omega) (by rw [show c + 1 + t = c + (t + 1) by omega]; exact hk)
    rw [← nI_1] at hi
    exact s R K (n + t) x1 x2 x3 (nI c) (nI_ge (b := 1000000) (by omega) (by decide)) hi
theorem nI_sub {a b : Nat} (h : b ≤ a) : nI a - nI b = nI (a - b) := by
  have : nI a = nI (a - b) + nI b := by rw [nI_add, show a - b + b = a by omega]
  rw [this, Int32.add_sub_cancel]
theorem f_h8 {G R : Gt} {K : Int32 → Gt → Prop} {x1 x2 x3 : Int32} {c n : Nat} (h7 : G 84 7 = 0) (hc : c < 1000000) (hk : w_X2_advance_j249 K x3 (mxw G R)) : w_X2_advance_h8 K (n + 1) x1 x2 x3 (nI c) (mxw G R) := by
  rw [w_X2_advance_h8]
  exact pif_n (nI_ge (b := 1000000) hc (by decide)) (pif_p h7 hk)
theorem w_cells {N B : Nat} {z : Zt} {G : Gt} (h : wST N B z G) : G 84 7 = 1 ∧ G 84 12 = 1 ∧ G 84 11 = nI (z 0 0) ∧ G 84 10 = nI (z 0 0) ∧ G 108 (z 0 0) = nI (z 1 (z 0 0)) ∧ z 1 (z 0 0) < N ∧ N ≤ 120 ∧ G 84 9 = nI B ∧ z 0 0 ≤ B ∧ B ≤ 600 ∧ G 11 (z 1 (z 0 0)) = G 52 (z 1 (z 0 0)) ∧ bz (G 52 (z 1 (z 0 0))) ∧ G 46 54 = nI (z 1 (z 0 0)) ∧ G 46 53 = 0 := by
  obtain ⟨hS, hm, hcur, h7, h12, h116, h118, h124, hnx, _⟩ := h
  have hA := hS.2.1 (z 0 0) (by omega)
  have hQ := hS.2.2.2.2.2.2.2.2.2.2.2.2.2.2.2.2.2.1
  have h11 : G 84 11 = nI (z 0 0) := by have := hQ.2.2.2.2.2.2.2.2.1; rw [hcur] at this; exact this
  obtain ⟨a1, a2, a3, a4, a5, U, a6, a7, a8, a9⟩ := hS.1
  obtain ⟨k, e, s, b1, b2, b3, b4, b5, b6, b7, b8, b9, b10, b11, b12, _⟩ := a9 _ hA.2
  exact ⟨hQ.2.2.2.2.2.2.2.2.2.1, h12, h11, hQ.2.2.2.2.2.2.1, hA.1, hA.2, a1, hQ.2.1, hQ.2.2.2.1, hQ.1, b11, b12, hnx, hQ.2.2.2.2.2.2.2.2.2.2.1⟩
theorem w_turn {N B : Nat} {z : Zt} {G R : Gt} {K : Int32 → Gt → Prop} {x1 x2 x3 : Int32} {c n : Nat} (h : wST N B z G) (hc : c < 1000000) (hgo : x2 = 0 ∨ G 84 10 ≤ x3 ∨ ¬ G 11 (z 1 (z 0 0)) = 1) (hm : nI (z 0 0) - x3 < x1) (hk : w_X2_letBegin (fun G8 => w_X2_advance_h8 K n x1 x2 x3 (nI c + 1) G8) (mxw G R)) : w_X2_advance_h8 K (n + 1) x1 x2 x3 (nI c) (mxw G R) := by
  obtain ⟨a1, a2, a3, a4, a5, a6, a7, a8, a9, a10, a11, a12, a13, a14⟩ := w_cells h
  rw [w_X2_advance_h8]
  unfold w_X2_advance_j63 w_X2_advance_j64 w_X2_advance_j243 w_X2_waitingNode
  have e7 : (mxw G R) 84 7 = 1 := a1
  have e12 : (mxw G R) 84 12 = 1 := a2
  have e10 : (mxw G R) 84 10 = nI (z 0 0) := a4
  have er : rat (mxw G R) 11 120 (nI (z 1 (z 0 0))) = G 11 (z 1 (z 0 0)) := by rw [rat_n (by omega) (by decide)]; rfl
  rw [e7, e12, e10]
  refine pif_n (nI_ge (b := 1000000) hc (by decide)) (pif_n (by decide) (pif_n (by decide) ?_))
  have go : pif ((0 : Int32) = 0) (pif (nI (z 0 0) - x3 < x1) (w_X2_letBegin (fun G8 => w_X2_advance_h8 K n x1 x2 x3 (nI c + 1) G8) (mxw G R)) (w_X2_advance_j81 K x3 (mxw G R))) (w_X2_advance_j81 K x3 (mxw G R)) := pif_p rfl (pif_p hm hk)
  by_cases c2 : x2 = 0
  · exact pif_p c2 go
  · refine pif_n c2 ?_
    by_cases c3 : nI (z 0 0) ≤ x3
    · exact pif_p c3 go
    · have c4 : ¬ G 11 (z 1 (z 0 0)) = 1 := by
        rcases hgo with q | q | q
        · exact absurd q c2
        · rw [a4] at q; exact absurd q c3
        · exact q
      refine pif_n c3 ?_
      have e11 : rat (mxw G R) 108 601 ((mxw G R) 84 11) = nI (z 1 (z 0 0)) := by
        rw [show (mxw G R) 84 11 = nI (z 0 0) from a3, rat_n (by omega) (by decide)]; exact a5
      rw [e11]
      dsimp only
      rw [er, e10]
      exact pif_n c4 go
/-- it stops ahead of a node -/
theorem w_hold {N B : Nat} {z : Zt} {G R : Gt} {K : Int32 → Gt → Prop} {x1 x2 x3 : Int32} {c n : Nat} (h : wST N B z G) (hc : c < 1000000) (hst : ¬ (nI (z 0 0) - x3 < x1) ∨ (¬ x2 = 0 ∧ ¬ nI (z 0 0) ≤ x3 ∧ G 11 (z 1 (z 0 0)) = 1)) (hk : K (nI (z 0 0) - x3) (mxw G R)) : w_X2_advance_h8 K (n + 1) x1 x2 x3 (nI c) (mxw G R) := by
  obtain ⟨a1, a2, a3, a4, a5, a6, a7, a8, a9, a10, a11, a12, a13, a14⟩ := w_cells h
  rw [w_X2_advance_h8]
  unfold w_X2_advance_j63 w_X2_advance_j64 w_X2_advance_j81 w_X2_waitingNode
  have e7 : (mxw G R) 84 7 = 1 := a1
  have e12 : (mxw G R) 84 12 = 1 := a2
  have e10 : (mxw G R) 84 10 = nI (z 0 0) := a4
  have er : rat (mxw G R) 11 120 (nI (z 1 (z 0 0))) = G 11 (z 1 (z 0 0)) := by rw [rat_n (by omega) (by decide)]; rfl
  rw [e7, e12, e10]
  refine pif_n (nI_ge (b := 1000000) hc (by decide)) (pif_n (by decide) (pif_n (by decide) ?_))
  have e11 : rat (mxw G R) 108 601 ((mxw G R) 84 11) = nI (z 1 (z 0 0)) := by
    rw [show (mxw G R) 84 11 = nI (z 0 0) from a3, rat_n (by omega) (by decide)]; exact a5
  rw [e11]
  dsimp only
  rw [er, e10]
  rcases hst with q | ⟨q1, q2, q3⟩
  · have go : pif ((0 : Int32) = 0) (pif (nI (z 0 0) - x3 < x1) (w_X2_letBegin (fun G8 => w_X2_advance_j243 K (fun z0 z1 z2 z3 z4 => w_X2_advance_h8 K n z0 z1 z2 z3 z4) x1 x2 x3 (nI c) G8) (mxw G R)) (K (nI (z 0 0) - x3) (mxw G R))) (K (nI (z 0 0) - x3) (mxw G R)) := pif_p rfl (pif_n q hk)
    by_cases c2 : x2 = 0
    · exact pif_p c2 go
    · refine pif_n c2 ?_
      by_cases c3 : nI (z 0 0) ≤ x3
      · exact pif_p c3 go
      · refine pif_n c3 ?_
        by_cases c4 : G 11 (z 1 (z 0 0)) = 1
        · exact pif_p c4 (pif_n (by decide) hk)
        · exact pif_n c4 go
  · exact pif_n q1 (pif_n q2 (pif_p q3 (pif_n (by decide) hk)))
theorem lb_y {N B : Nat} {z : Zt} {G R : Gt} {K : Gt → Prop} (h : wST N B z G) (hB0 : z 0 0 < B) (hk : K (mxw (oLb (z 0 0) G) R)) : w_X2_letBegin K (mxw G R) := by
  obtain ⟨a1, a2, a3, a4, a5, a6, a7, a8, a9, a10, a11, a12, a13, a14⟩ := w_cells h
  unfold w_X2_letBegin w_X2_letBegin_j40
  rw [show (mxw G R) 84 9 = nI B from a8, show (mxw G R) 84 10 = nI (z 0 0) from a4, nI_1]
  exact pif_n (nI_ge hB0 (by omega)) (ptc rfl (ptc rfl hk))
/-! CHAINS of the reference's steps -/
def RB (b : Int32) (G G' : Gt) : Prop := ∀ (C : Gt) (K : Int32 → Gt → Prop), K b (mxw C G') → w_X11_beginsNext K (mxw C G)
def chn : Nat → Gt → Gt → Prop
  | 0, G, G' => eqr G G'
  | n + 1, G, G' => G 46 53 = 0 ∧ ¬ G 46 58 = G 46 59 ∧ ∃ G1, RB 1 G G1 ∧ chn n G1 G'
theorem rl_rfl {G : Gt} : rl G G := fun _ _ _ _ => rfl
theorem rl_tr {G G' G'' : Gt} (h : rl G G') (h' : rl G' G'') : rl G G'' := fun k j a b => (h' k j a b).trans (h k j a b)
theorem rl_sy {G G' : Gt} (h : rl G G') : rl G' G := fun k j a b => (h k j a b).symm
theorem rl_e {G G' : Gt} (h : eqr G G') : rl G G' := fun k j a _ => by rw [h k a]
theorem rl_mx {G G' C : Gt} (h : rl G G') : rl G (mxw C G') := fun k j a b => by rw [mx_R a]; exact h k j a b
/-- one step from worlds alike -/
theorem RB_det {G S G1 S1 : Gt} (hr : rl G S) (h1 : RB 1 G G1) (h2 : RB 1 S S1) (n1 : ¬ G 46 58 = G 46 59) (n2 : ¬ S 46 58 = S 46 59) : rl G1 S1 := by
  have a1 := h1 G (fun _ H => rl G1 H) (rl_mx rl_rfl)
  have a2 := h2 S (fun _ H => rl S1 H) (rl_mx rl_rfl)
  rw [mxw_self] at a1 a2
  unfold w_X11_beginsNext at a1 a2
  obtain ⟨X1, e1, b1⟩ := a1.2 n1
  obtain ⟨X2, e2, b2⟩ := a2.2 n2
  have hX : rl X1 X2 := by
    rw [e1, e2]
    exact rl_gu hr rfl (by rw [hr.s (j := 58) (by decide)])
  refine d_X11_beginsNode (fun hG c1 c2 => ?_) hX b1 b2
  obtain ⟨i1, c1⟩ := c1
  obtain ⟨i2, c2⟩ := c2
  exact d_X11_beginsNext_h59 (fun hH q1 q2 _ => rl_tr q1 (rl_tr hH (rl_sy q2))) i1 i2 hG c1 c2
theorem RB_e {b : Int32} {G G0 G' : Gt} (e : eqr G0 G) (h : RB b G G') : RB b G0 G' := fun C K hk => by
  have := h C K hk
  rw [mxw_r e] at this
  exact this
theorem chn_e : ∀ (n : Nat) {G G0 G' : Gt}, eqr G0 G → chn n G G' → chn n G0 G'
  | 0, _, _, _, e, h => eqr_tr e h
  | n + 1, _, _, _, e, ⟨a, b, G1, c, d⟩ => ⟨by rw [← e 46 rfl]; exact a, by rw [← e 46 rfl]; exact b, G1, RB_e e c, d⟩
theorem chn_app : ∀ (n m : Nat) {G H G' : Gt}, chn n G H → chn m H G' → chn (n + m) G G'
  | 0, m, _, _, _, e, h => by rw [Nat.zero_add]; exact chn_e m e h
  | n + 1, m, _, _, _, ⟨a, b, G1, c, d⟩, h => by
    rw [Nat.add_right_comm]
    exact ⟨a, b, G1, c, chn_app n m d h⟩
theorem chn_cmp : ∀ (a b : Nat) {G G' S S' : Gt}, chn a G G' → chn b S S' → rl G S → a ≤ b → ∃ S1, chn (b - a) S1 S' ∧ rl G' S1
  | 0, b, G, G', S, S', e, h, r, _ => ⟨S, h, rl_tr (rl_sy (rl_e e)) r⟩
  | a + 1, 0, _, _, _, _, _, _, _, h => by omega
  | a + 1, b + 1, _, _, _, _, ⟨_, a2, G1, a3, a4⟩, ⟨_, b2, S1, b3, b4⟩, r, h => by
    obtain ⟨X, x1, x2⟩ := chn_cmp a b a4 b4 (RB_det r a3 b3 a2 b2) (by omega)
    rw [Nat.add_sub_add_right]
    exact ⟨X, x1, x2⟩
theorem chn_53 {n : Nat} {G G' : Gt} (h : chn n G G') (h53 : G' 46 53 = 0) : G 46 53 = 0 := by
  cases n with
  | zero => rw [← h 46 rfl]; exact h53
  | succ n => exact h.1
/-- how a run of B steps at most has ended behind n steps: by itself, or by the budget -/
def RES (B : Nat) (G : Gt) (n : Nat) (Gf : Gt) : Prop := (chn n G Gf ∧ Gf 46 53 = 1 ∧ n ≤ B) ∨ (∃ Gw, chn n G Gw ∧ Gw 46 53 = 0 ∧ n = B ∧ Gf 84 15 = 1 ∧ Gf 46 62 = 49993)
theorem r62 {G G' : Gt} (h : rl G G') : G' 46 62 = G 46 62 := h.s (by decide)
theorem r53 {G G' : Gt} (h : rl G G') : G' 46 53 = G 46 53 := h.s (by decide)
theorem no01 {x : Int32} (h : x = 0) (h' : x = 1) : False := by rw [h] at h'; exact absurd h' (by decide)
theorem RES_cmp {B1 B2 n1 n2 : Nat} {G S G1 S1 : Gt} (hr : rl G S) (hB : B2 ≤ B1) (h1 : RES B1 G n1 G1) (h2 : RES B2 S n2 S1) : (n1 ≤ B2 → n2 = n1 ∧ S1 46 62 = G1 46 62) ∧ (¬ n1 ≤ B2 → n2 = B2 ∧ S1 46 62 = 49993) := by
  rcases h1 with ⟨c1, f1, l1⟩ | ⟨Gw, c1, f1, l1, o1, p1⟩
  · rcases h2 with ⟨c2, f2, l2⟩ | ⟨Sw, c2, f2, l2, o2, p2⟩
    · rcases Nat.lt_or_ge n2 n1 with q | q
      · obtain ⟨X, x1, x2⟩ := chn_cmp n2 n1 c2 c1 (rl_sy hr) (by omega)
        obtain ⟨m, hm⟩ : ∃ m, n1 - n2 = m + 1 := ⟨n1 - n2 - 1, by omega⟩
        rw [hm] at x1
        exact (no01 x1.1 (by rw [r53 x2]; exact f2)).elim
      · obtain ⟨X, x1, x2⟩ := chn_cmp n1 n2 c1 c2 hr q
        rcases Nat.eq_zero_or_pos (n2 - n1) with e | e
        · rw [e] at x1
          have x1 : eqr X S1 := x1
          have en : n2 = n1 := by omega
          exact ⟨fun _ => ⟨en, by rw [x1 46 rfl]; exact r62 x2⟩, fun q => by omega⟩
        · obtain ⟨m, hm⟩ : ∃ m, n2 - n1 = m + 1 := ⟨n2 - n1 - 1, by omega⟩
          rw [hm] at x1
          exact (no01 x1.1 (by rw [r53 x2]; exact f1)).elim
    · rcases Nat.lt_or_ge B2 n1 with q | q
      · exact ⟨fun y => by omega, fun _ => ⟨l2, p2⟩⟩
      · obtain ⟨X, x1, x2⟩ := chn_cmp n1 n2 c1 c2 hr (by omega)
        exact (no01 (chn_53 x1 f2) (by rw [r53 x2]; exact f1)).elim
  · rcases h2 with ⟨c2, f2, l2⟩ | ⟨Sw, c2, f2, l2, o2, p2⟩
    · obtain ⟨X, x1, x2⟩ := chn_cmp n2 n1 c2 c1 (rl_sy hr) (by omega)
      exact (no01 (chn_53 x1 f1) (by rw [r53 x2]; exact f2)).elim
    · exact ⟨fun y => ⟨by omega, by rw [p1, p2]⟩, fun y => ⟨l2, p2⟩⟩
/-- a node's beginning, as a link -/
theorem w_link {N B : Nat} {z : Zt} {G : Gt} (h : wST N B z G) (hB : ¬ z 0 0 = B) : G 46 53 = 0 ∧ ¬ G 46 58 = G 46 59 := by
  obtain ⟨a1, a2, a3, a4, a5, a6, a7, a8, a9, a10, a11, a12, a13, a14⟩ := w_cells h
  have hQ := h.1.2.2.2.2.2.2.2.2.2.2.2.2.2.2.2.2.2.1
  refine ⟨a14, ?_⟩
  rw [hQ.2.2.2.2.2.2.2.1, hQ.2.2.1]
  exact fun q => hB ((nI_eq (by omega) (by omega)).mp q)
theorem w_53 {N B : Nat} {z : Zt} {G : Gt} (h : wST N B z G) : G 46 53 = 0 := (w_cells h).2.2.2.2.2.2.2.2.2.2.2.2.2
/-- all of a run -/
theorem run_all {N B : Nat} : ∀ (M : Nat) (z : Zt) (G : Gt), mu z ≤ M → wST N B z G → ∃ zf Gf n, fST N B zf Gf ∧ kq G Gf ∧ rvk G Gf ∧ zf 0 0 = z 0 0 + n ∧ ((chn n G Gf ∧ Gf 46 53 = 1) ∨ ∃ Gw, chn n G Gw ∧ Gw 46 53 = 0 ∧ zf 0 0 = B ∧ Gf 84 15 = 1 ∧ Gf 46 62 = 49993) ∧ (∀ (R : Gt) (K : Int32 → Gt → Prop) (c : Nat), c + mu z + 3 ≤ 900000 → w_X2_advance_j249 K (nI 0) (mxw Gf R) → ∃ n, w_X2_advance_h8 K n 601 0 (nI 0) (nI c) (mxw G R)) := by
  intro M
  induction M with
  | zero =>
    intro z G hm h
    by_cases hB : z 0 0 = B
    · have := (w_cells h).2.2.2.2.2.2.2.2
      unfold mu at hm
      omega
    · obtain ⟨a1, a2, a3, a4, a5, a6, a7, a8, a9, a10, _⟩ := w_cells h
      obtain ⟨z', G', t, _, _, _, _, _, q, _⟩ := w_step a10 h (by omega)
      omega
  | succ M ih =>
    intro z G hm h
    obtain ⟨a1, a2, a3, a4, a5, a6, a7, a8, a9, a10, a11, a12, a13, a14⟩ := w_cells h
    have hmost : nI (z 0 0) - nI 0 < 601 := by
      rw [nI_sub (Nat.zero_le _), Nat.sub_zero]
      exact nI_ltx (b := 601) rfl (by omega) (by decide)
    by_cases hB : z 0 0 = B
    · obtain ⟨Gf, p1, p2, p3, p4, p5, p6⟩ := w_stop h hB
      refine ⟨z, Gf, 0, p1, p4, fun _ => Or.inr ⟨p1.1, p5⟩, rfl, Or.inr ⟨G, fun _ _ => rfl, a14, hB, p5, p6⟩, fun R K c hc hk => ⟨2, ?_⟩⟩
      refine w_turn h (by omega) (Or.inl rfl) hmost (p2 R _ ?_)
      rw [nI_1]
      exact f_h8 p1.1 (by omega) hk
    · obtain ⟨z', G', t, p1, p2, p3, p4, p4r, p5, p6⟩ := w_step a10 h (by omega)
      obtain ⟨k1, k2⟩ := w_link h hB
      have cls : ∀ (R : Gt) (K : Int32 → Gt → Prop) (c n : Nat), c + mu z + 3 ≤ 900000 → w_X2_advance_h8 K n 601 0 (nI 0) (nI (c + 1 + t)) (mxw G' R) → ∃ n, w_X2_advance_h8 K n 601 0 (nI 0) (nI c) (mxw G R) := by
        intro R K c n hc hk
        refine ⟨n + t + 1, w_turn h (by omega) (Or.inl rfl) hmost (lb_y h (by omega) ?_)⟩
        rw [nI_1]
        exact cT_h t _ _ p2 R K n 601 0 (nI 0) (c + 1) (by omega) hk
      rcases p1 with p1 | p1
      · obtain ⟨zf, Gf, n, q1, q2, q2r, q3, q4, q5⟩ := ih z' G' (by omega) p1
        refine ⟨zf, Gf, n + 1, q1, kq_tr p4 q2, rvk_tr p4r (w_cells p1).1 q2r, by omega, ?_, fun R K c hc hk => ?_⟩
        · rcases q4 with ⟨r1, r2⟩ | ⟨Gw, r1, r2⟩
          · exact Or.inl ⟨⟨k1, k2, G', p3, r1⟩, r2⟩
          · exact Or.inr ⟨Gw, ⟨k1, k2, G', p3, r1⟩, r2⟩
        · obtain ⟨n, hn⟩ := q5 R K (c + 1 + t) (by omega) hk
          exact cls R K c n hc hn
      · refine ⟨z', G', 1, p1, p4, p4r, p6, Or.inl ⟨⟨k1, k2, G', p3, fun _ _ => rfl⟩, p1.2.1⟩, fun R K c hc hk => ?_⟩
        exact cls R K c 1 hc (f_h8 p1.1 (by omega) hk)
