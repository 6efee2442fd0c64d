/-! THE REFERENCE'S SMALL STEPS -/
def oEn (v a : Int32) (G : Gt) : Gt := gu (gu (gu G 46 41 1) 46 42 v) 46 57 a
def oFr (f : Nat) (e : Int32) (G : Gt) : Gt := gu (gu (gu (gu (gu (gu G 46 41 2) 46 42 e) 46 44 (-100000)) 46 45 (G 64 f)) 46 46 (G 46 49)) 46 57 (G 65 f)
def oLv (how l v a : Int32) (G : Gt) : Gt := gu (gu (gu (gu G 46 41 how) 46 43 l) 46 42 v) 46 57 a
def oLa (F : Nat) (x o s q : Int32) (G : Gt) : Gt := gu (gu (gu (gu (gu G 64 F x) 65 F o) 66 F s) 67 F q) 46 21 (nI (F + 1))
theorem r_asks {K : Gt → Prop} {C G : Gt} {x o s : Int32} (h : K (mxw C (oAk x o s G))) : w_X11_asks K x o s (mxw C G) := ptr rfl (ptr rfl (ptr rfl (ptr rfl h)))
theorem r_parts {K : Gt → Prop} {C G : Gt} {f : Nat} {x q : Int32} (hf : f < 1220) (h : K (mxw C (oAk x (nI f) (G 66 f) (gu G 67 f q)))) : w_X11_parts K x (nI f) q (mxw C G) := by
  have e : (nI f).toNatClampNeg = f := nI_clamp (by omega)
  unfold w_X11_parts
  rw [e]
  exact ⟨vp_n hf (by decide), ptr rfl ⟨vp_n hf (by decide), r_asks h⟩⟩
theorem r_ends {K : Gt → Prop} {C G : Gt} {f : Nat} {v : Int32} (hf : f < 1220) (h : K (mxw C (oEn v (G 65 f) G))) : w_X11_ends K (nI f) v (mxw C G) := by
  have e : (nI f).toNatClampNeg = f := nI_clamp (by omega)
  unfold w_X11_ends
  rw [e]
  exact ptr rfl (ptr rfl ⟨vp_n hf (by decide), ptr rfl h⟩)
theorem r_fails {K : Gt → Prop} {C G : Gt} {f : Nat} {v : Int32} (hf : f < 1220) (h : K (mxw C (oFr f v G))) : w_X11_fails K (nI f) v (mxw C G) := by
  have e : (nI f).toNatClampNeg = f := nI_clamp (by omega)
  unfold w_X11_fails
  rw [e]
  exact ptr rfl (ptr rfl (ptr rfl ⟨vp_n hf (by decide), ptr rfl (ptr rfl ⟨vp_n hf (by decide), ptr rfl h⟩)⟩))
theorem r_leaves {K : Gt → Prop} {C G : Gt} {f : Nat} {how l v : Int32} (hf : f < 1220) (h : K (mxw C (oLv how l v (G 65 f) G))) : w_X11_leaves K (nI f) how l v (mxw C G) := by
  have e : (nI f).toNatClampNeg = f := nI_clamp (by omega)
  unfold w_X11_leaves
  rw [e]
  exact ptr rfl (ptr rfl (ptr rfl ⟨vp_n hf (by decide), ptr rfl h⟩))
theorem r_lays {K : Int32 → Gt → Prop} {C G : Gt} {F : Nat} {x o s q : Int32} (hF : G 46 21 = nI F) (hf : F < 1220) (h : K (nI F) (mxw C (oLa F x o s q G))) : w_X11_lays K x o s q (mxw C G) := by
  unfold w_X11_lays
  refine ⟨vp_e (i := F) hF hf (by decide), ?_⟩
  rw [show (mxw C G) 46 21 = nI F from hF, nI_clamp (by omega)]
  refine ptr rfl ⟨vp_e (i := F) hF hf (by decide), ?_⟩
  rw [show (mxw C (gu G 64 F x)) 46 21 = nI F from hF, nI_clamp (by omega)]
  refine ptr rfl ⟨vp_e (i := F) hF hf (by decide), ?_⟩
  rw [show (mxw C (gu (gu G 64 F x) 65 F o)) 46 21 = nI F from hF, nI_clamp (by omega)]
  refine ptr rfl ⟨vp_e (i := F) hF hf (by decide), ?_⟩
  rw [show (mxw C (gu (gu (gu G 64 F x) 65 F o) 66 F s)) 46 21 = nI F from hF, nI_clamp (by omega)]
  refine ptr rfl ?_
  rw [show (mxw C (gu (gu (gu (gu G 64 F x) 65 F o) 66 F s) 67 F q)) 46 21 = nI F from hF, nI_1]
  refine ptr rfl ?_
  show K (nI (F + 1) - 1) _
  rw [nI_pred]
  exact h
theorem r_begins {K : Int32 → Gt → Prop} {C G : Gt} {F : Nat} {x o s q : Int32} (hF : G 46 21 = nI F) (hf : F < 1220) (h : K (nI F) (mxw C (oAk x (nI F) s (oLa F (-1) o s q G)))) : w_X11_begins K x q o s (mxw C G) := r_lays hF hf (r_asks h)
theorem or_loop {K : Int32 → Gt → Prop} {C G : Gt} {s : Nat} {o : Int32} (hs : s < 620) (hG : G 46 29 = nI s) (h : K (nI s) (mxw C (oOr s o G))) : ∀ (r k : Nat), k + r = 8 → w_X11_opens_h12 K (r + 1) (nI k) (mxw C (fun a j => if a = 72 then (if 8 * s ≤ j ∧ j < 8 * s + k then -100000 else G 72 j) else gu G 71 s o a j)) := by
  intro r
  induction r with
  | zero =>
    intro k hk
    have : k = 8 := by omega
    subst this
    rw [w_X11_opens_h12]
    refine pif_p (by decide) ?_
    have e0 : (mxw C (fun a j => if a = 72 then (if 8 * s ≤ j ∧ j < 8 * s + 8 then -100000 else G 72 j) else gu G 71 s o a j)) 46 29 = nI s := by
      show (if (46 : Nat) = 72 then (if 8 * s ≤ 29 ∧ 29 < 8 * s + 8 then (-100000 : Int32) else G 72 29) else gu G 71 s o 46 29) = nI s
      rw [if_neg (by decide), gu_oo _ (by decide)]; exact hG
    rw [e0, nI_1]
    refine ptr rfl ?_
    have e1 : gu (fun a j => if a = 72 then (if 8 * s ≤ j ∧ j < 8 * s + 8 then -100000 else G 72 j) else gu G 71 s o a j) 46 29 (nI (s + 1)) = oOr s o G := by
      funext a j
      unfold oOr
      rw [gu_at, gu_at _ 46 29]
      by_cases ea : a = 46 ∧ j = 29
      · rw [if_pos ea, if_pos ea, if_neg (by omega)]
      · rw [if_neg ea, if_neg ea]
    rw [e1]
    show K (oOr s o G 46 29 - 1) _
    have e2 : oOr s o G 46 29 = nI (s + 1) := by
      unfold oOr
      rw [if_neg (by decide), gu_kk]
    rw [e2, nI_pred]
    exact h
  | succ r ih =>
    intro k hk
    rw [w_X11_opens_h12]
    have e0 : (mxw C (fun a j => if a = 72 then (if 8 * s ≤ j ∧ j < 8 * s + k then -100000 else G 72 j) else gu G 71 s o a j)) 46 29 = nI s := by
      show (if (46 : Nat) = 72 then (if 8 * s ≤ 29 ∧ 29 < 8 * s + k then (-100000 : Int32) else G 72 29) else gu G 71 s o 46 29) = nI s
      rw [if_neg (by decide), gu_oo _ (by decide)]; exact hG
    rw [e0, show (8 : Int32) = nI 8 from rfl, nI_mulx, nI_add]
    refine pif_n (nI_ge (b := 8) (by omega) (by decide)) ?_
    refine ptri (i := 8 * s + k) rfl (by omega) (by decide) rfl ?_
    rw [nI_1]
    have := ih (k + 1) (by omega)
    have e : gu (fun a j => if a = 72 then (if 8 * s ≤ j ∧ j < 8 * s + k then -100000 else G 72 j) else gu G 71 s o a j) 72 (8 * s + k) (-100000) = (fun a j => if a = 72 then (if 8 * s ≤ j ∧ j < 8 * s + (k + 1) then -100000 else G 72 j) else gu G 71 s o a j) := by
      funext a j
      rw [gu_at]
      by_cases ea : a = 72
      · subst ea
        by_cases ej : j = 8 * s + k
        · subst ej; simp
        · simp only [ej, and_false, if_false, if_true]
          by_cases hh : 8 * s ≤ j ∧ j < 8 * s + k
          · rw [if_pos hh, if_pos (by omega)]
          · rw [if_neg hh, if_neg (by omega)]
      · simp [ea]
    rw [e]
    exact this
theorem r_opens {K : Int32 → Gt → Prop} {C G : Gt} {s : Nat} {o : Int32} (hG : G 46 29 = nI s) (hs : s < 620) (h : K (nI s) (mxw C (oOr s o G))) : w_X11_opens K o (mxw C G) := by
  unfold w_X11_opens
  refine ⟨vp_e (i := s) hG hs (by decide), ?_⟩
  rw [show (mxw C G) 46 29 = nI s from hG, nI_clamp (by omega)]
  refine ptr rfl ⟨9, ?_⟩
  have := or_loop (o := o) hs hG h 8 0 (by omega)
  have e : (fun a j => if a = 72 then (if 8 * s ≤ j ∧ j < 8 * s + 0 then -100000 else G 72 j) else gu G 71 s o a j) = gu G 71 s o := by
    funext a j
    by_cases ea : a = 72
    · subst ea
      rw [if_pos rfl, if_neg (by omega), gu_oo _ (by decide)]
    · simp only [ea, if_false]
  rw [e] at this
  exact this
/-- a round of the reference: by what has ended, and where -/
theorem rS_val {G G1 : Gt} {f m : Nat} (h41 : G 46 41 = 1) (h57 : G 46 57 = nI f) (hf : f < 1220) (h64 : G 64 f = nI m) (hm : m < 2 ^ 31) (h : ∀ (C : Gt) (K : Gt → Prop), K (mxw C G1) → w_X11_hasValue K (nI f) (G 46 42) (mxw C G)) : rS G G1 := by
  intro C K n hk
  rw [w_X11_beginsNext_h59]
  rw [show (mxw C G) 46 41 = 1 from h41, show (mxw C G) 46 57 = nI f from h57, nI_clamp (by omega), show (mxw C G) 64 f = nI m from h64]
  exact pif_n (by decide) ⟨vp_n hf (by decide), pif_n (nI_neg hm) (pif_p rfl (h C _ hk))⟩
theorem rS_non {G G1 : Gt} {f m : Nat} (h0 : ¬ G 46 41 = 0) (h41 : ¬ G 46 41 = 1) (h57 : G 46 57 = nI f) (hf : f < 1220) (h64 : G 64 f = nI m) (hm : m < 2 ^ 31) (h : ∀ (C : Gt) (K : Gt → Prop), K (mxw C G1) → w_X11_hasNone K (nI f) (mxw C G)) : rS G G1 := by
  intro C K n hk
  rw [w_X11_beginsNext_h59]
  rw [show (mxw C G) 46 57 = nI f from h57, nI_clamp (by omega), show (mxw C G) 64 f = nI m from h64]
  exact pif_n h0 ⟨vp_n hf (by decide), pif_n (nI_neg hm) (pif_n h41 (h C _ hk))⟩
theorem rS_bod {G G1 : Gt} {f : Nat} (h0 : ¬ G 46 41 = 0) (h57 : G 46 57 = nI f) (hf : f < 1220) (h64 : G 64 f = -1) (h : ∀ (C : Gt) (K : Gt → Prop), K (mxw C G1) → w_X11_bodyEnds K (nI f) (mxw C G)) : rS G G1 := by
  intro C K n hk
  rw [w_X11_beginsNext_h59]
  rw [show (mxw C G) 46 57 = nI f from h57, nI_clamp (by omega), show (mxw C G) 64 f = -1 from h64]
  exact pif_n h0 ⟨vp_n hf (by decide), pif_p rfl (h C _ hk)⟩
/-- cells that no step of a run touches -/
def kpc (k j : Nat) : Prop := k = 0 ∨ k = 1 ∨ k = 3 ∨ k = 5 ∨ k = 7 ∨ k = 9 ∨ k = 11 ∨ k = 13 ∨ k = 14 ∨ k = 16 ∨ k = 18 ∨ k = 37 ∨ k = 39 ∨ k = 40 ∨ k = 42 ∨ k = 43 ∨ k = 45 ∨ (47 ≤ k ∧ k ≤ 53) ∨ k = 55 ∨ k = 62 ∨ k = 63 ∨ k = 82 ∨ k = 83 ∨ (85 ≤ k ∧ k ≤ 105) ∨ (k = 84 ∧ (j = 6 ∨ j = 9 ∨ j = 10)) ∨ (k = 46 ∧ (j = 0 ∨ j = 13 ∨ j = 52 ∨ j = 58 ∨ j = 59 ∨ (66 ≤ j ∧ j ≤ 69) ∨ j = 71 ∨ j = 62))
def kp (G G' : Gt) : Prop := ∀ k j, kpc k j → G' k j = G k j
theorem kp_rfl {G : Gt} : kp G G := fun _ _ _ => rfl
theorem kp_tr {G G' G'' : Gt} (h : kp G G') (h' : kp G' G'') : kp G G'' := fun k j hk => (h' k j hk).trans (h k j hk)
/-- .. but what it comes to -/
def kpd (k j : Nat) : Prop := k = 0 ∨ k = 1 ∨ k = 3 ∨ k = 5 ∨ k = 7 ∨ k = 9 ∨ k = 11 ∨ k = 13 ∨ k = 14 ∨ k = 16 ∨ k = 18 ∨ k = 37 ∨ k = 39 ∨ k = 40 ∨ k = 42 ∨ k = 43 ∨ k = 45 ∨ (47 ≤ k ∧ k ≤ 53) ∨ k = 55 ∨ k = 62 ∨ k = 63 ∨ k = 82 ∨ k = 83 ∨ (85 ≤ k ∧ k ≤ 105) ∨ (k = 84 ∧ (j = 6 ∨ j = 9 ∨ j = 10)) ∨ (k = 46 ∧ (j = 0 ∨ j = 13 ∨ j = 52 ∨ j = 58 ∨ j = 59 ∨ (66 ≤ j ∧ j ≤ 69) ∨ j = 71))
def kpo (G G' : Gt) : Prop := ∀ k j, kpd k j → G' k j = G k j
/-- a number, a function, a generator -/
def vrV (x : Int32) : Prop := isnum x ∨ (∃ j, j < 600 ∧ x = nI (20000 + j)) ∨ ∃ j, j < 600 ∧ x = nI (30000 + j)
def rvk (G G' : Gt) : Prop := vrV (G 46 62) → vrV (G' 46 62) ∨ (G' 84 7 = 0 ∧ G' 84 15 = 1)
theorem rvk_eq {G G' : Gt} (h : G' 46 62 = G 46 62) : rvk G G' := fun v => Or.inl (by rw [h]; exact v)
theorem rvk_tr {G G' G'' : Gt} (h : rvk G G') (h7 : G' 84 7 = 1) (h' : rvk G' G'') : rvk G G'' := fun v => by
  rcases h v with q | q
  · exact h' q
  · rw [h7] at q; exact absurd q.1 (by decide)
theorem kpo_rfl {G : Gt} : kpo G G := fun _ _ _ => rfl
theorem kpo_tr {G G' G'' : Gt} (h : kpo G G') (h' : kpo G' G'') : kpo G G'' := fun k j hk => (h' k j hk).trans (h k j hk)
theorem kp_o {G G' : Gt} (h : kp G G') : kpo G G' := fun k j q => h k j (by unfold kpd at q; unfold kpc; omega)
theorem kp_r {G G' : Gt} (h : kp G G') : rvk G G' := rvk_eq (h 46 62 (by unfold kpc; omega))
theorem kp_gu {G G' : Gt} {c i : Nat} {v : Int32} (hf : ¬ kpc c i) (h : kp G G') : kp G (gu G' c i v) := by
  intro k j hk
  rw [gu_at, if_neg (by rintro ⟨rfl, rfl⟩; exact hf hk)]
  exact h k j hk
theorem kp_op {G G' : Gt} {S : Nat} {o : Int32} (h : kp G G') : kp G (oOp S o G') := by
  intro k j hk
  unfold oOp
  rw [if_neg (by intro e; subst e; unfold kpc at hk; omega), gu_at, if_neg (by rintro ⟨rfl, rfl⟩; unfold kpc at hk; omega), gu_at, if_neg (by rintro ⟨rfl, rfl⟩; unfold kpc at hk; omega)]
  exact h k j hk
theorem kp_or {G G' : Gt} {s : Nat} {o : Int32} (h : kp G G') : kp G (oOr s o G') := by
  intro k j hk
  unfold oOr
  rw [if_neg (by intro e; subst e; unfold kpc at hk; omega), gu_at, if_neg (by rintro ⟨rfl, rfl⟩; unfold kpc at hk; omega), gu_at, if_neg (by rintro ⟨rfl, rfl⟩; unfold kpc at hk; omega)]
  exact h k j hk
theorem eqc_or {G G' : Gt} {s : Nat} {o : Int32} (h : eqc G G') : eqc G (oOr s o G') := by
  intro k hk
  have n1 : ¬ k = 72 := fun e => by subst e; cases hk
  have n2 : ¬ k = 71 := fun e => by subst e; cases hk
  have n3 : ¬ k = 46 := fun e => by subst e; cases hk
  funext j
  unfold oOr
  rw [if_neg n1, gu_oo _ n3, gu_oo _ n2]
  exact congrFun (h k hk) j
theorem eqr_op {G G' : Gt} {s : Nat} {o : Int32} (h : eqr G G') : eqr G (oOp s o G') := by
  intro k hk
  have n1 : ¬ k = 133 := fun e => by subst e; cases hk
  have n2 : ¬ k = 131 := fun e => by subst e; cases hk
  have n3 : ¬ k = 129 := fun e => by subst e; cases hk
  funext j
  unfold oOp
  rw [if_neg n1, gu_oo _ n2, gu_oo _ n3]
  exact congrFun (h k hk) j
/-- how much is left -/
def mu (z : Zt) : Nat := 20 * (601 - z 0 0) + 10 * sm (z 21) (z 0 0)
