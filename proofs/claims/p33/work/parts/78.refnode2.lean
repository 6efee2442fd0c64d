/-! the reference's node: its four ends -/
def nHas (N k : Nat) (a b c : Int32) : Prop := cbnP N (tb k 0) a True ∧ cbnP N (tb k 1) b True ∧ cbnP N (tb k 2) c (¬ b = -1)
def nCan (k : Nat) (a b c : Int32) : Prop := cbP (tb k 0) a ∧ cbP (tb k 1) b ∧ cbP (tb k 2) c ∧ (k = 18 → b = -1 → c = -1)
def nSz (k : Nat) (a b c : Int32) (G : Gt) : Int32 := ((1 + szR (tb k 0) a G) + szR (tb k 1) b G) + szR (tb k 2) c G
def rAdd (N : Nat) (k a b c s : Int32) (G : Gt) : Gt := gu (gu (gu (gu (gu (gu (gu G 46 71 0) 47 N k) 48 N a) 49 N b) 50 N c) 51 N s) 46 0 (nI (N + 1))
theorem cbn_vp {N d : Nat} {x : Int32} (hN : N ≤ 120) (h : cbnP N d x True) : (d = 1 ∨ (d = 8 ∧ ¬ x = -1)) → vp_in x 120 := by
  intro hd
  obtain ⟨i, hi, rfl⟩ := h (hd.elim Or.inl (fun z => Or.inr (Or.inr ⟨z.1, z.2, trivial⟩)))
  exact vp_n (by omega) (by decide)
theorem s11_node {K : Int32 → Gt → Prop} {N k : Nat} {a b c : Int32} {G : Gt} (hk : k < 40) (hN : N ≤ 120) (e : G 46 0 = nI N)
    (h0 : ¬ nHas N k a b c → K 0 (gu G 46 71 1)) (h1 : nHas N k a b c → ¬ nCan k a b c → K 0 (gu G 46 71 2))
    (h2 : nHas N k a b c → nCan k a b c → ¬ (¬ (120 : Int32) ≤ nI N ∧ ¬ 150 < nSz k a b c G) → K 0 (gu G 46 71 3))
    (h3 : nHas N k a b c → nCan k a b c → (¬ (120 : Int32) ≤ nI N ∧ ¬ 150 < nSz k a b c G) → K (nI N) (rAdd N (nI k) a b c (nSz k a b c G) G)) : w_X11_node K (nI k) a b c G := by
  have hin : 0 ≤ nI k ∧ nI k ≤ 39 := (lit_b1 (N := 40) rfl (by decide)).mpr ⟨k, hk, rfl⟩
  obtain ⟨t1, t2, t3⟩ := tb_1 k hk
  have d0 := (tb_2 k hk 0 (by decide)).2
  have d1 := (tb_2 k hk 1 (by decide)).2
  have d2 := (tb_2 k hk 2 (by decide)).2
  have d18 := (tb_4 k hk 2 (by decide)).1
  -- no size
  have J1 : ∀ h can : Int32, (h = 0 ∨ can = 0) → (∀ z, w_X11_node_j241 K (nI k) a b c 0 h can z G) → w_X11_node_j158 K (nI k) a b c (pv (nI k)) h can G := by
    intro h can hz hk2
    have q : w_X11_node_j211 K (nI k) a b c h can G := ⟨fun _ => hk2 0, fun _ => ⟨fun _ => hk2 0, fun _ => hk2 1⟩⟩
    exact ⟨fun _ => q, fun zh => ⟨fun _ => q, fun zc => absurd (hz.resolve_left zh) zc⟩⟩
  -- what can be
  have J2 : ∀ (h : Int32) (F : Int32 → Prop), (nCan k a b c → w_X11_node_j158 K (nI k) a b c (pv (nI k)) h 1 G) → (¬ nCan k a b c → w_X11_node_j158 K (nI k) a b c (pv (nI k)) h 0 G) → w_X11_node_j89 K (nI k) a b c 1 (pv (nI k)) h G := by
    intro h _ y n
    unfold w_X11_node_j89
    rw [t1, t2, t3]
    refine pif_n (by decide) (s11_cb d0 (fun c0 => pif_n (by decide) (s11_cb d1 (fun c1 => pif_n (by decide) (s11_cb d2 (fun c2 => pif_n (by decide) ?_) (fun c2 => pif_p rfl (n (fun z => c2 z.2.2.1))))) (fun c1 => pif_p rfl (n (fun z => c1 z.2.1))))) (fun c0 => pif_p rfl (n (fun z => c0 z.1))))
    refine ⟨fun e18 => ⟨fun eb => ⟨fun ec => y ⟨c0, c1, c2, fun _ _ => ec⟩, fun ec => n (fun z => ec (z.2.2.2 ((nI_eq (b := 18) (by omega) (by decide)).mp e18) eb))⟩, fun eb => y ⟨c0, c1, c2, fun _ z => absurd z eb⟩⟩, fun e18 => y ⟨c0, c1, c2, fun z => absurd (by rw [z]; rfl) e18⟩⟩
  have N0 : ¬ nHas N k a b c → w_X11_node_j89 K (nI k) a b c 1 (pv (nI k)) 0 G := by
    intro hh
    have x : ∀ z2 z3, w_X11_node_j241 K (nI k) a b c 0 0 z2 z3 G := fun z2 z3 => goes_n (thr_1 rfl) (by decide) (pif_p rfl (h0 hh))
    exact J2 0 (fun _ => True) (fun _ => J1 0 1 (Or.inl rfl) (x 1)) (fun _ => J1 0 0 (Or.inl rfl) (x 0))
  have Y0 : nHas N k a b c → w_X11_node_j89 K (nI k) a b c 1 (pv (nI k)) 1 G := by
    intro hh
    refine J2 1 (fun _ => True) (fun hc => ?_) (fun hc => J1 1 0 (Or.inr rfl) (fun z => goes_n (thr_2 (by decide) rfl) (by decide) (pif_p rfl (h1 hh hc))))
    unfold w_X11_node_j158
    rw [t1, t2, t3]
    refine pif_n (by decide) (pif_n (by decide) (s11_sizeOf d0 (cbn_vp hN hh.1) (s11_sizeOf d1 (cbn_vp hN hh.2.1) (s11_sizeOf d2 ?_ ?_))))
    · intro hd
      refine cbn_vp hN (d := tb k 2) (x := c) ?_ hd
      intro z
      refine hh.2.2 (z.elim Or.inl (fun z => z.elim (fun z => Or.inr (Or.inl z)) (fun z => Or.inr (Or.inr ⟨z.1, z.2.1, ?_⟩))))
      intro eb
      have hk18 : k = 18 := by
        have := z.1
        have hall : ∀ k, k < 40 → tb k 2 = 8 → k = 18 := by decide +kernel
        exact hall k hk this
      exact z.2.1 (hc.2.2.2 hk18 eb)
    · have bad : ¬ (¬ (120 : Int32) ≤ nI N ∧ ¬ 150 < nSz k a b c G) → w_X11_node_j240 K (nI k) a b c (nSz k a b c G) 1 1 G := fun hz => goes_n (thr_3 (by decide) (by decide) rfl) (by decide) (pif_p rfl (h2 hh hc hz))
      unfold w_X11_node_j212
      rw [e]
      refine ⟨fun z => bad (fun y => y.1 z), fun z1 => ⟨fun z => bad (fun y => y.2 z), fun z2 => ?_⟩⟩
      have hN' : N < 120 := by
        rcases Nat.lt_or_ge N 120 with h | h
        · exact h
        · exact absurd (nI_le (a := 120) h (by omega)) z1
      refine goes_y (by decide) (by decide) (by decide) (pif_n (by decide) ?_)
      have v : vp_in (nI N) 120 := vp_n hN' (by decide)
      show vp_in (G 46 0) 120 ∧ pt (gu (gu G 46 71 0) 47 (G 46 0).toNatClampNeg (nI k)) _
      rw [e, nI_clamp (by omega)]
      refine ⟨v, pt_of ?_⟩
      show vp_in (G 46 0) 120 ∧ pt (gu (gu (gu G 46 71 0) 47 N (nI k)) 48 (G 46 0).toNatClampNeg a) _
      rw [e, nI_clamp (by omega)]
      refine ⟨v, pt_of ?_⟩
      show vp_in (G 46 0) 120 ∧ pt (gu (gu (gu (gu G 46 71 0) 47 N (nI k)) 48 N a) 49 (G 46 0).toNatClampNeg b) _
      rw [e, nI_clamp (by omega)]
      refine ⟨v, pt_of ?_⟩
      show vp_in (G 46 0) 120 ∧ pt (gu (gu (gu (gu (gu G 46 71 0) 47 N (nI k)) 48 N a) 49 N b) 50 (G 46 0).toNatClampNeg c) _
      rw [e, nI_clamp (by omega)]
      refine ⟨v, pt_of ?_⟩
      show vp_in (G 46 0) 120 ∧ pt (gu (gu (gu (gu (gu (gu G 46 71 0) 47 N (nI k)) 48 N a) 49 N b) 50 N c) 51 (G 46 0).toNatClampNeg (nSz k a b c G)) _
      rw [e, nI_clamp (by omega)]
      refine ⟨v, pt_of ?_⟩
      show pt (gu _ 46 0 (G 46 0 + 1)) _
      rw [e, nI_1]
      refine pt_of ?_
      show K (nI (N + 1) - 1) (rAdd N (nI k) a b c (nSz k a b c G) G)
      rw [nI_pred]
      exact h3 hh hc ⟨z1, z2⟩
  refine in_y hin (pif_n (by decide) (s11_partsOf ?_))
  unfold w_X11_node_j22
  rw [t1, t2, t3]
  refine pif_n (by decide) (s11_cbn hN e d0 (fun c0 => pif_n (by decide) (s11_cbn hN e d1 (fun c1 => pif_n (by decide) ?_) (fun c1 => pif_p rfl ?_))) (fun c0 => pif_p rfl ?_))
  · have J3 : ∀ q : Int32, ((¬ q = 0) ↔ ¬ b = -1) → w_X11_node_j78 K (nI k) a b c 1 (pv (nI k)) (nI (tb k 2)) c q G := by
      intro q hq
      have same : cbnP N (tb k 2) c (¬ q = 0) ↔ cbnP N (tb k 2) c (¬ b = -1) := by unfold cbnP; rw [hq]
      have f0 : cbnP N (tb k 0) a True := fun z => c0 (z.elim Or.inl (fun z => z.elim (fun z => Or.inr (Or.inl z)) (fun z => Or.inr (Or.inr ⟨z.1, z.2.1, by decide⟩))))
      have f1 : cbnP N (tb k 1) b True := fun z => c1 (z.elim Or.inl (fun z => z.elim (fun z => Or.inr (Or.inl z)) (fun z => Or.inr (Or.inr ⟨z.1, z.2.1, by decide⟩))))
      exact s11_cbn hN e d2 (fun c2 => pif_n (by decide) (Y0 ⟨f0, f1, same.mp c2⟩)) (fun c2 => pif_p rfl (N0 (fun z => c2 (same.mpr z.2.2))))
    exact ⟨fun eb => J3 0 (by simp [eb]), fun eb => J3 1 (by simp [eb])⟩
  · exact N0 (fun z => c1 (fun y => z.2.1 (y.elim Or.inl (fun y => y.elim (fun y => Or.inr (Or.inl y)) (fun y => Or.inr (Or.inr ⟨y.1, y.2.1, trivial⟩))))))
  · exact N0 (fun z => c0 (fun y => z.1 (y.elim Or.inl (fun y => y.elim (fun y => Or.inr (Or.inl y)) (fun y => Or.inr (Or.inr ⟨y.1, y.2.1, trivial⟩))))))
/-- a kind that is none -/
theorem s11_node_x {K : Int32 → Gt → Prop} {k a b c : Int32} {G : Gt} (hk : ¬ ∃ i, i < 40 ∧ k = nI i) (h : K 0 (gu G 46 71 2)) : w_X11_node K k a b c G := by
  have hin : ¬ (0 ≤ k ∧ k ≤ 39) := fun z => hk ((lit_b1 (N := 40) rfl (by decide)).mp z)
  have x : ∀ z, w_X11_node_j241 K k a b c 0 1 0 z G := fun z => goes_n (thr_2 (by decide) rfl) (by decide) (pif_p rfl h)
  refine in_n hin (pif_p rfl (pif_p rfl (pif_p rfl ?_)))
  have q : w_X11_node_j211 K k a b c 1 0 G := ⟨fun _ => x 0, fun _ => ⟨fun _ => x 0, fun _ => x 1⟩⟩
  exact pif_n (by decide) (pif_p rfl q)
