/-! THE CLASS'S INSTRUCTIONS -/
def cAt (G : Gt) (u p w : Nat) : Prop := G 84 7 = 1 ∧ G 84 12 = 0 ∧ G 84 11 = nI u ∧ u < 601 ∧ G 116 u = nI p ∧ p < 1081 ∧ G 16 p = nI w
theorem nI_mulx (a b : Nat) : nI a * nI b = nI (a * b) := by
  show Int32.ofNat a * Int32.ofNat b = Int32.ofNat (a * b)
  exact (Int32.ofNat_mul a b).symm
theorem nI_ltL {w a : Nat} {b : Int32} (e : b = nI a) (hw : w < 2 ^ 31) (ha : a < 2 ^ 31) : nI w < b ↔ w < a := by rw [e]; exact nI_ltI hw ha
theorem nI_eqL {w a : Nat} {b : Int32} (e : b = nI a) (hw : w < 2 ^ 31) (ha : a < 2 ^ 31) : nI w = b ↔ w = a := by rw [e]; exact nI_eq hw ha
theorem cS_all {G G1 : Gt} {u p w : Nat} (h : cAt G u p w) (hw : w < 61)
    (hr : w < 13 → ∀ (R : Gt) (K : Gt → Prop), K (mxw G1 R) → w_X2_performReckoning K (nI w) (G 18 p) (mxw (gu G 116 u (nI (p + 1))) R))
    (hc : 13 ≤ w → w < 29 → ∀ (R : Gt) (K : Gt → Prop), K (mxw G1 R) → w_X2_performControl K (nI w) (G 18 p) (mxw (gu G 116 u (nI (p + 1))) R))
    (he : 29 ≤ w → w < 40 → ∀ (R : Gt) (K : Gt → Prop), K (mxw G1 R) → w_X2_performEditing K (nI w) (G 18 p) (mxw (gu G 116 u (nI (p + 1))) R))
    (hf : 40 ≤ w → w < 48 → ∀ (R : Gt) (K : Gt → Prop), K (mxw G1 R) → w_X2_performFlow K (nI w) (G 18 p) (mxw (gu G 116 u (nI (p + 1))) R))
    (hb : 48 ≤ w → ∀ (R : Gt) (K : Gt → Prop), K (mxw G1 R) → w_X2_performBehind K (nI w) (G 18 p) (mxw (gu G 116 u (nI (p + 1))) R)) : cS G G1 := by
  obtain ⟨h7, h12, hu, hu6, hp, hp2, hw0⟩ := h
  intro R K n x1 x2 x3 x4 h4 hk
  have e11 : (mxw G R) 84 11 = nI u := hu
  have e116 : rat (mxw G R) 116 601 ((mxw G R) 84 11) = nI p := by rw [e11, rat_n hu6 (by decide)]; exact hp
  have e16 : rat (mxw G R) 16 1081 (nI p) = nI w := by rw [rat_n hp2 (by decide)]; exact hw0
  have e18 : rat (mxw G R) 18 1081 (nI p) = G 18 p := by rw [rat_n hp2 (by decide)]; rfl
  rw [w_X2_advance_h8]
  refine pif_n h4 (pif_n (by show ¬ G 84 7 = 0; rw [h7]; decide) (pif_p h12 ?_))
  rw [e116, e16, e18]
  refine pcp hu hu6 (by decide) rfl ?_
  rw [nI_1]
  have l48 := nI_ltL (w := w) (a := 48) (b := 48) rfl (by omega) (by decide)
  have l40 := nI_ltL (w := w) (a := 40) (b := 40) rfl (by omega) (by decide)
  have l29 := nI_ltL (w := w) (a := 29) (b := 29) rfl (by omega) (by decide)
  have l13 := nI_ltL (w := w) (a := 13) (b := 13) rfl (by omega) (by decide)
  refine ⟨fun a => ⟨fun b => ⟨fun c => ⟨fun d => hr (l13.mp d) R _ hk, fun d => hc (Nat.le_of_not_lt (fun q => d (l13.mpr q))) (l29.mp c) R _ hk⟩, fun c => he (Nat.le_of_not_lt (fun q => c (l29.mpr q))) (l40.mp b) R _ hk⟩, fun b => hf (Nat.le_of_not_lt (fun q => b (l40.mpr q))) (l48.mp a) R _ hk⟩, fun a => hb (Nat.le_of_not_lt (fun q => a (l48.mpr q))) R _ hk⟩
theorem cS_r {G G1 : Gt} {u p w : Nat} (h : cAt G u p w) (hw : w < 13) (hr : ∀ (R : Gt) (K : Gt → Prop), K (mxw G1 R) → w_X2_performReckoning K (nI w) (G 18 p) (mxw (gu G 116 u (nI (p + 1))) R)) : cS G G1 :=
  cS_all h (by omega) (fun _ => hr) (fun _ _ => by omega) (fun _ _ => by omega) (fun _ _ => by omega) (fun _ => by omega)
theorem cS_c {G G1 : Gt} {u p w : Nat} (h : cAt G u p w) (hw : 13 ≤ w ∧ w < 29) (hr : ∀ (R : Gt) (K : Gt → Prop), K (mxw G1 R) → w_X2_performControl K (nI w) (G 18 p) (mxw (gu G 116 u (nI (p + 1))) R)) : cS G G1 :=
  cS_all h (by omega) (fun _ => by omega) (fun _ _ => hr) (fun _ _ => by omega) (fun _ _ => by omega) (fun _ => by omega)
theorem cS_e {G G1 : Gt} {u p w : Nat} (h : cAt G u p w) (hw : 29 ≤ w ∧ w < 40) (hr : ∀ (R : Gt) (K : Gt → Prop), K (mxw G1 R) → w_X2_performEditing K (nI w) (G 18 p) (mxw (gu G 116 u (nI (p + 1))) R)) : cS G G1 :=
  cS_all h (by omega) (fun _ => by omega) (fun _ _ => by omega) (fun _ _ => hr) (fun _ _ => by omega) (fun _ => by omega)
theorem cS_f {G G1 : Gt} {u p w : Nat} (h : cAt G u p w) (hw : 40 ≤ w ∧ w < 48) (hr : ∀ (R : Gt) (K : Gt → Prop), K (mxw G1 R) → w_X2_performFlow K (nI w) (G 18 p) (mxw (gu G 116 u (nI (p + 1))) R)) : cS G G1 :=
  cS_all h (by omega) (fun _ => by omega) (fun _ _ => by omega) (fun _ _ => by omega) (fun _ _ => hr) (fun _ => by omega)
theorem cS_b {G G1 : Gt} {u p w : Nat} (h : cAt G u p w) (hw : 48 ≤ w ∧ w < 61) (hr : ∀ (R : Gt) (K : Gt → Prop), K (mxw G1 R) → w_X2_performBehind K (nI w) (G 18 p) (mxw (gu G 116 u (nI (p + 1))) R)) : cS G G1 :=
  cS_all h (by omega) (fun _ => by omega) (fun _ _ => by omega) (fun _ _ => by omega) (fun _ _ => by omega) (fun _ => hr)
/-! what they are made of -/
def oFl (u : Nat) (e : Int32) (G : Gt) : Gt := gu (gu (gu (gu (gu (gu (gu G 84 15 1) 84 16 e) 84 17 50000) 84 18 (nI u)) 120 u (G 84 13)) 116 u (G 118 u)) 118 u 0
def oOp (S : Nat) (o : Int32) (G : Gt) : Gt := fun k j => if k = 133 then (if 8 * S ≤ j ∧ j < 8 * S + 8 then 49999 else G 133 j) else gu (gu G 129 2 (nI (S + 1))) 131 S o k j
def oOr (s : Nat) (o : Int32) (G : Gt) : Gt := fun k j => if k = 72 then (if 8 * s ≤ j ∧ j < 8 * s + 8 then -100000 else G 72 j) else gu (gu G 71 s o) 46 29 (nI (s + 1)) k j
theorem k_fail {K : Gt → Prop} {G R : Gt} {u : Nat} {e : Int32} (hu : G 84 11 = nI u) (hu6 : u < 601) (h : K (mxw (oFl u e G) R)) : w_X2_fail K e (mxw G R) := by
  unfold w_X2_fail
  refine ptc rfl (ptc rfl (ptc rfl ?_))
  have e1 : (mxw (gu (gu (gu G 84 15 1) 84 16 e) 84 17 50000) R) 84 11 = nI u := hu
  rw [e1]
  refine ptc rfl ?_
  refine pcp (i := u) hu hu6 (by decide) rfl ?_
  refine pcp (i := u) hu hu6 (by decide) rfl ?_
  refine pcp (i := u) hu hu6 (by decide) rfl ?_
  have e2 : rat (mxw (gu (gu (gu (gu (gu G 84 15 1) 84 16 e) 84 17 50000) 84 18 (nI u)) 120 u (G 84 13)) R) 118 601 ((mxw (gu (gu (gu (gu (gu G 84 15 1) 84 16 e) 84 17 50000) 84 18 (nI u)) 120 u (G 84 13)) R) 84 11) = G 118 u := by
    rw [show (mxw (gu (gu (gu (gu (gu G 84 15 1) 84 16 e) 84 17 50000) 84 18 (nI u)) 120 u (G 84 13)) R) 84 11 = nI u from hu, rat_n hu6 (by decide)]; rfl
  show K (mxw (gu (gu (gu (gu (gu (gu (gu G 84 15 1) 84 16 e) 84 17 50000) 84 18 (nI u)) 120 u (G 84 13)) 116 u (rat (mxw (gu (gu (gu (gu (gu G 84 15 1) 84 16 e) 84 17 50000) 84 18 (nI u)) 120 u (G 84 13)) R) 118 601 ((mxw (gu (gu (gu (gu (gu G 84 15 1) 84 16 e) 84 17 50000) 84 18 (nI u)) 120 u (G 84 13)) R) 84 11))) 118 u 0) R)
  rw [e2]
  exact h
theorem k_jump {K : Gt → Prop} {G R : Gt} {u : Nat} {p : Int32} (hu : G 84 11 = nI u) (hu6 : u < 601) (h : K (mxw (gu G 116 u p) R)) : w_X2_jump K p (mxw G R) := pcp hu hu6 (by decide) rfl h
theorem k_begin {K : Gt → Prop} {G R : Gt} {n m : Nat} {s b u : Int32} (hn : G 84 10 = nI n) (hn6 : n < 601) (hm : m < 120) (hu : G 84 11 = u) (h : K (mxw (oBg n u (nI m) s b (G 13 m) G) R)) : w_X2_begin K (nI m) s b (mxw G R) := by
  unfold w_X2_begin
  rw [show (mxw G R) 84 10 = nI n from hn]
  refine pcp rfl hn6 (by decide) rfl (pcp rfl hn6 (by decide) rfl (pcp rfl hn6 (by decide) rfl (pcp rfl hn6 (by decide) rfl (pcp rfl hn6 (by decide) rfl (pcp rfl hn6 (by decide) rfl (pcp rfl hn6 (by decide) rfl (pcp rfl hn6 (by decide) rfl (ptc rfl (ptc rfl ?_)))))))))
  rw [rat_n hm (by decide)]
  subst hu
  exact h
theorem k_bind {K : Gt → Prop} {G R : Gt} {S k : Nat} {v : Int32} (hS : S < 1210) (hk : k < 8) (h : K (mxw (gu G 133 (8 * S + k) v) R)) : w_X7_bind K (nI S) (nI k) v (mxw G R) := by
  refine pcp (i := 8 * S + k) ?_ (by omega) (by decide) rfl h
  rw [show (8 : Int32) = nI 8 from rfl, nI_mulx, nI_add, Nat.mul_comm]
theorem op_loop {K : Int32 → Gt → Prop} {G R : Gt} {S : Nat} {o : Int32} (hS : S < 1210) (h : K (nI S) (mxw (oOp S o G) R)) : ∀ (r k : Nat), k + r = 8 → w_X7_open_h26 K (r + 1) (nI S) (nI k) (mxw (fun a j => if a = 133 then (if 8 * S ≤ j ∧ j < 8 * S + k then 49999 else G 133 j) else gu (gu G 129 2 (nI (S + 1))) 131 S o a j) R) := by
  intro r
  induction r with
  | zero =>
    intro k hk
    have : k = 8 := by omega
    subst this
    rw [w_X7_open_h26]
    exact pif_p (by decide) h
  | succ r ih =>
    intro k hk
    rw [w_X7_open_h26]
    refine pif_n (nI_ge (b := 8) (by omega) (by decide)) ?_
    refine pcp (i := 8 * S + k) ?_ (by omega) (by decide) rfl ?_
    · rw [show (8 : Int32) = nI 8 from rfl, nI_mulx, nI_add, Nat.mul_comm]
    · rw [nI_1]
      have := ih (k + 1) (by omega)
      have e : gu (fun a j => if a = 133 then (if 8 * S ≤ j ∧ j < 8 * S + k then 49999 else G 133 j) else gu (gu G 129 2 (nI (S + 1))) 131 S o a j) 133 (8 * S + k) 49999 = (fun a j => if a = 133 then (if 8 * S ≤ j ∧ j < 8 * S + (k + 1) then 49999 else G 133 j) else gu (gu G 129 2 (nI (S + 1))) 131 S o a j) := by
        funext a j
        rw [gu_at]
        by_cases ea : a = 133
        · subst ea
          by_cases ej : j = 8 * S + k
          · subst ej; simp
          · simp only [ej, and_false, if_false, if_true]
            by_cases hh : 8 * S ≤ j ∧ j < 8 * S + k
            · rw [if_pos hh, if_pos (by omega)]
            · rw [if_neg hh, if_neg (by omega)]
        · simp [ea]
      rw [e]
      exact this
theorem k_open {K : Int32 → Gt → Prop} {G R : Gt} {S : Nat} {o : Int32} (hG : G 129 2 = nI S) (hS : S < 1210) (h : K (nI S) (mxw (oOp S o G) R)) : w_X7_open K o (mxw G R) := by
  unfold w_X7_open
  rw [show (mxw G R) 129 2 = nI S from hG, nI_1]
  refine ptc rfl (pcp rfl hS (by decide) rfl ⟨9, ?_⟩)
  have := op_loop (o := o) hS h 8 0 (by omega)
  have e : (fun a j => if a = 133 then (if 8 * S ≤ j ∧ j < 8 * S + 0 then 49999 else G 133 j) else gu (gu G 129 2 (nI (S + 1))) 131 S o a j) = gu (gu G 129 2 (nI (S + 1))) 131 S o := by
    funext a j
    by_cases ea : a = 133
    · subst ea
      rw [if_pos rfl, if_neg (by omega), gu_oo _ (by decide), gu_oo _ (by decide)]
    · simp only [ea, if_false]
  rw [e] at this
  exact this
