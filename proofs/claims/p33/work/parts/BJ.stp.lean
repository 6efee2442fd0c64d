/-! THE RUN ENDS BY AN ERROR -/
def cpy (c o i : Nat) (G : Gt) : Gt := fun a j => if a = c ∧ j < i then G 62 (o + j) else G a j
def cpy2 (i : Nat) (G : Gt) : Gt := fun a j => if a = 59 ∧ j < i then G 62 (80 + j) else if a = 61 ∧ j < i then G 62 (90 + j) else G a j
theorem cpy_0 {c o : Nat} {G : Gt} : cpy c o 0 G = G := by
  funext a j; unfold cpy; rw [if_neg (by omega)]
theorem cpy_s {c o i : Nat} {G : Gt} : gu (cpy c o i G) c i (G 62 (o + i)) = cpy c o (i + 1) G := by
  funext a j
  rw [gu_at]
  unfold cpy
  by_cases e : a = c ∧ j = i
  · rw [if_pos e, if_pos (by omega), e.2]
  · rw [if_neg e]
    by_cases e2 : a = c ∧ j < i
    · rw [if_pos e2, if_pos (by omega)]
    · rw [if_neg e2, if_neg (by omega)]
theorem cpy_n {c o i a j : Nat} {G : Gt} (h : ¬ a = c) : cpy c o i G a j = G a j := by unfold cpy; rw [if_neg (fun q => h q.1)]
theorem cpy_v {c o i j : Nat} {G : Gt} (h : j < i) : cpy c o i G c j = G 62 (o + j) := by unfold cpy; rw [if_pos ⟨rfl, h⟩]
theorem cpy2_0 {G : Gt} : cpy2 0 G = G := by
  funext a j; unfold cpy2; rw [if_neg (by omega), if_neg (by omega)]
theorem cpy2_s {i : Nat} {G : Gt} : gu (gu (cpy2 i G) 59 i (G 62 (80 + i))) 61 i (G 62 (90 + i)) = cpy2 (i + 1) G := by
  funext a j
  rw [gu_at, gu_at]
  unfold cpy2
  by_cases e : a = 61 ∧ j = i
  · rw [if_pos e, if_neg (by omega), if_pos (by omega), e.2]
  · rw [if_neg e]
    by_cases e1 : a = 59 ∧ j = i
    · rw [if_pos e1, if_pos (by omega), e1.2]
    · rw [if_neg e1]
      by_cases e2 : a = 59 ∧ j < i
      · rw [if_pos e2, if_pos (by omega)]
      · rw [if_neg e2, if_neg (show ¬ (a = 59 ∧ j < i + 1) by omega)]
        by_cases e3 : a = 61 ∧ j < i
        · rw [if_pos e3, if_pos (by omega)]
        · rw [if_neg e3, if_neg (by omega)]
theorem cpy2_n {i a j : Nat} {G : Gt} (h : ¬ a = 59 ∧ ¬ a = 61) : cpy2 i G a j = G a j := by unfold cpy2; rw [if_neg (fun q => h.1 q.1), if_neg (fun q => h.2 q.1)]
def rsW (G : Gt) : Gt := gu (gu (cpy 54 96 6 (cpy 56 92 4 (cpy 60 82 8 (cpy2 2 (cpy 58 0 80 G))))) 46 12 (G 62 102)) 46 14 (G 62 103)
theorem rsW_62 {G : Gt} {c o i j : Nat} (h : ¬ 62 = c) : cpy c o i G 62 j = G 62 j := cpy_n h
theorem rs_l5 {K : Gt → Prop} {C G : Gt} (h : K (mxw C (gu (gu (cpy 54 96 6 G) 46 12 (G 62 102)) 46 14 (G 62 103)))) : ∀ (r k : Nat), k + r = 6 → w_X11_restores_h128 K (r + 1) (nI k) (mxw C (cpy 54 96 k G)) := by
  intro r
  induction r with
  | zero =>
    intro k hk
    have : k = 6 := by omega
    subst this
    rw [w_X11_restores_h128]
    exact pif_p (by decide) ⟨vp_e (i := 102) rfl (by decide) (by decide), ptr rfl ⟨vp_e (i := 103) rfl (by decide) (by decide), ptr rfl h⟩⟩
  | succ r ih =>
    intro k hk
    have q := nI_leR (w := k) (a := 6) (b := 6) rfl (by omega) (by decide)
    have ek : (nI k).toNatClampNeg = k := nI_clamp (by omega)
    have eo : ((96 : Int32) + nI k).toNatClampNeg = 96 + k := by rw [show (96 : Int32) + nI k = nI (96 + k) from nI_add 96 k]; exact nI_clamp (by omega)
    rw [w_X11_restores_h128]
    refine pif_n (fun z => by have := q.mp z; omega) ?_
    rw [ek, eo]
    refine ⟨?_, vp_n (by omega) (by decide), ptr rfl ?_⟩
    · rw [show (96 : Int32) + nI k = nI (96 + k) from nI_add 96 k]; exact vp_n (by omega) (by decide)
    · rw [show (mxw C (cpy 54 96 k G)) 62 (96 + k) = G 62 (96 + k) from cpy_n (c := 54) (o := 96) (i := k) (a := 62) (j := 96 + k) (G := G) (by decide), cpy_s, nI_1]
      exact ih (k + 1) (by omega)
theorem rs_l4 {K : Gt → Prop} {C G : Gt} (h : w_X11_restores_h128 K 7 (nI 0) (mxw C (cpy 56 92 4 G))) : ∀ (r k : Nat), k + r = 4 → w_X11_restores_h100 K (r + 1) (nI k) (mxw C (cpy 56 92 k G)) := by
  intro r
  induction r with
  | zero =>
    intro k hk
    have : k = 4 := by omega
    subst this
    rw [w_X11_restores_h100]
    exact pif_p (by decide) ⟨7, h⟩
  | succ r ih =>
    intro k hk
    have q := nI_leR (w := k) (a := 4) (b := 4) rfl (by omega) (by decide)
    have ek : (nI k).toNatClampNeg = k := nI_clamp (by omega)
    have eo : ((92 : Int32) + nI k).toNatClampNeg = 92 + k := by rw [show (92 : Int32) + nI k = nI (92 + k) from nI_add 92 k]; exact nI_clamp (by omega)
    rw [w_X11_restores_h100]
    refine pif_n (fun z => by have := q.mp z; omega) ?_
    rw [ek, eo]
    refine ⟨?_, vp_n (by omega) (by decide), ptr rfl ?_⟩
    · rw [show (92 : Int32) + nI k = nI (92 + k) from nI_add 92 k]; exact vp_n (by omega) (by decide)
    · rw [show (mxw C (cpy 56 92 k G)) 62 (92 + k) = G 62 (92 + k) from cpy_n (c := 56) (o := 92) (i := k) (a := 62) (j := 92 + k) (G := G) (by decide), cpy_s, nI_1]
      exact ih (k + 1) (by omega)
theorem rs_l3 {K : Gt → Prop} {C G : Gt} (h : w_X11_restores_h100 K 5 (nI 0) (mxw C (cpy 60 82 8 G))) : ∀ (r k : Nat), k + r = 8 → w_X11_restores_h71 K (r + 1) (nI k) (mxw C (cpy 60 82 k G)) := by
  intro r
  induction r with
  | zero =>
    intro k hk
    have : k = 8 := by omega
    subst this
    rw [w_X11_restores_h71]
    exact pif_p (by decide) ⟨5, h⟩
  | succ r ih =>
    intro k hk
    have q := nI_leR (w := k) (a := 8) (b := 8) rfl (by omega) (by decide)
    have ek : (nI k).toNatClampNeg = k := nI_clamp (by omega)
    have eo : ((82 : Int32) + nI k).toNatClampNeg = 82 + k := by rw [show (82 : Int32) + nI k = nI (82 + k) from nI_add 82 k]; exact nI_clamp (by omega)
    rw [w_X11_restores_h71]
    refine pif_n (fun z => by have := q.mp z; omega) ?_
    rw [ek, eo]
    refine ⟨?_, vp_n (by omega) (by decide), ptr rfl ?_⟩
    · rw [show (82 : Int32) + nI k = nI (82 + k) from nI_add 82 k]; exact vp_n (by omega) (by decide)
    · rw [show (mxw C (cpy 60 82 k G)) 62 (82 + k) = G 62 (82 + k) from cpy_n (c := 60) (o := 82) (i := k) (a := 62) (j := 82 + k) (G := G) (by decide), cpy_s, nI_1]
      exact ih (k + 1) (by omega)
theorem rs_l2 {K : Gt → Prop} {C G : Gt} (h : w_X11_restores_h71 K 9 (nI 0) (mxw C (cpy2 2 G))) : ∀ (r k : Nat), k + r = 2 → w_X11_restores_h28 K (r + 1) (nI k) (mxw C (cpy2 k G)) := by
  intro r
  induction r with
  | zero =>
    intro k hk
    have : k = 2 := by omega
    subst this
    rw [w_X11_restores_h28]
    exact pif_p (by decide) ⟨9, h⟩
  | succ r ih =>
    intro k hk
    have q := nI_leR (w := k) (a := 2) (b := 2) rfl (by omega) (by decide)
    have ek : (nI k).toNatClampNeg = k := nI_clamp (by omega)
    have eo : ((80 : Int32) + nI k).toNatClampNeg = 80 + k := by rw [show (80 : Int32) + nI k = nI (80 + k) from nI_add 80 k]; exact nI_clamp (by omega)
    have eo2 : ((90 : Int32) + nI k).toNatClampNeg = 90 + k := by rw [show (90 : Int32) + nI k = nI (90 + k) from nI_add 90 k]; exact nI_clamp (by omega)
    rw [w_X11_restores_h28]
    refine pif_n (fun z => by have := q.mp z; omega) ?_
    rw [ek, eo, eo2]
    refine ⟨?_, vp_n (by omega) (by decide), ptr rfl ⟨?_, vp_n (by omega) (by decide), ptr rfl ?_⟩⟩
    · rw [show (80 : Int32) + nI k = nI (80 + k) from nI_add 80 k]; exact vp_n (by omega) (by decide)
    · rw [show (90 : Int32) + nI k = nI (90 + k) from nI_add 90 k]; exact vp_n (by omega) (by decide)
    · rw [show (mxw C (cpy2 k G)) 62 (80 + k) = G 62 (80 + k) from cpy2_n (i := k) (a := 62) (j := 80 + k) (G := G) (by decide), show (mxw C (gu (cpy2 k G) 59 k (G 62 (80 + k)))) 62 (90 + k) = G 62 (90 + k) from cpy2_n (i := k) (a := 62) (j := 90 + k) (G := G) (by decide), cpy2_s, nI_1]
      exact ih (k + 1) (by omega)
theorem rs_l1 {K : Gt → Prop} {C G : Gt} (h : w_X11_restores_h28 K 3 (nI 0) (mxw C (cpy 58 0 80 G))) : ∀ (r k : Nat), k + r = 80 → w_X11_restores_h2 K (r + 1) (nI k) (mxw C (cpy 58 0 k G)) := by
  intro r
  induction r with
  | zero =>
    intro k hk
    have : k = 80 := by omega
    subst this
    rw [w_X11_restores_h2]
    exact pif_p (by decide) ⟨3, h⟩
  | succ r ih =>
    intro k hk
    have q := nI_leR (w := k) (a := 80) (b := 80) rfl (by omega) (by decide)
    have ek : (nI k).toNatClampNeg = k := nI_clamp (by omega)
    rw [w_X11_restores_h2]
    refine pif_n (fun z => by have := q.mp z; omega) ?_
    rw [ek]
    refine ⟨vp_n (by omega) (by decide), vp_n (by omega) (by decide), ptr rfl ?_⟩
    have e0 : (mxw C (cpy 58 0 k G)) 62 k = G 62 (0 + k) := by
      rw [Nat.zero_add]; exact cpy_n (c := 58) (o := 0) (i := k) (a := 62) (j := k) (G := G) (by decide)
    rw [e0, cpy_s, nI_1]
    exact ih (k + 1) (by omega)
theorem r_rest {K : Gt → Prop} {C G : Gt} (h : K (mxw C (rsW G))) : w_X11_restores K (mxw C G) := by
  refine ⟨81, ?_⟩
  have := rs_l1 (K := K) (C := C) (G := G) ?_ 80 0 (by omega)
  · rw [cpy_0] at this; exact this
  · have l2 := rs_l2 (K := K) (C := C) (G := cpy 58 0 80 G) ?_ 2 0 (by omega)
    · rw [cpy2_0] at l2; exact l2
    · have l3 := rs_l3 (K := K) (C := C) (G := cpy2 2 (cpy 58 0 80 G)) ?_ 8 0 (by omega)
      · rw [cpy_0] at l3; exact l3
      · have l4 := rs_l4 (K := K) (C := C) (G := cpy 60 82 8 (cpy2 2 (cpy 58 0 80 G))) ?_ 4 0 (by omega)
        · rw [cpy_0] at l4; exact l4
        · have l5 := rs_l5 (K := K) (C := C) (G := cpy 56 92 4 (cpy 60 82 8 (cpy2 2 (cpy 58 0 80 G)))) ?_ 6 0 (by omega)
          · rw [cpy_0] at l5; exact l5
          · have e : ∀ j, (cpy 56 92 4 (cpy 60 82 8 (cpy2 2 (cpy 58 0 80 G)))) 62 j = G 62 j := fun j => by
              rw [cpy_n (by decide), cpy_n (by decide), cpy2_n (by decide), cpy_n (by decide)]
            rw [e, e]
            exact h
theorem rsW_n {G : Gt} {a j : Nat} (h : ¬ a = 54 ∧ ¬ a = 56 ∧ ¬ (58 ≤ a ∧ a ≤ 61)) (h2 : ¬ (a = 46 ∧ (j = 12 ∨ j = 14))) : rsW G a j = G a j := by
  unfold rsW
  rw [gu_n (by omega), gu_n (by omega), cpy_n (by omega), cpy_n (by omega), cpy_n (by omega), cpy2_n (by omega), cpy_n (by omega)]
theorem rsd_rsW {C G : Gt} : rsd (mxw C (rsW G)) := by
  have e62 : ∀ j, (mxw C (rsW G)) 62 j = G 62 j := fun j => by rw [mx_R rfl]; exact rsW_n (by decide) (by omega)
  refine ⟨fun k hk => ?_, fun b hb => ⟨?_, ?_⟩, fun k hk => ?_, fun k hk => ?_, fun s hs => ?_, ?_, ?_⟩
  · rw [e62, mx_R rfl]; unfold rsW
    rw [gu_oo _ (by decide), gu_oo _ (by decide), cpy_n (by decide), cpy_n (by decide), cpy_n (by decide), cpy2_n (by decide), cpy_v hk, Nat.zero_add]
  · rw [e62, mx_R rfl]; unfold rsW
    rw [gu_oo _ (by decide), gu_oo _ (by decide), cpy_n (by decide), cpy_n (by decide), cpy_n (by decide)]
    unfold cpy2
    rw [if_pos ⟨rfl, hb⟩, cpy_n (by decide)]
  · rw [e62, mx_R rfl]; unfold rsW
    rw [gu_oo _ (by decide), gu_oo _ (by decide), cpy_n (by decide), cpy_n (by decide), cpy_n (by decide)]
    unfold cpy2
    rw [if_neg (fun q => absurd q.1 (by decide)), if_pos ⟨rfl, hb⟩, cpy_n (by decide)]
  · rw [e62, mx_R rfl]; unfold rsW
    rw [gu_oo _ (by decide), gu_oo _ (by decide), cpy_n (by decide), cpy_n (by decide), cpy_v hk, cpy2_n (by decide), cpy_n (by decide)]
  · rw [e62, mx_R rfl]; unfold rsW
    rw [gu_oo _ (by decide), gu_oo _ (by decide), cpy_n (by decide), cpy_v hk, cpy_n (by decide), cpy2_n (by decide), cpy_n (by decide)]
  · rw [e62, mx_R rfl]; unfold rsW
    rw [gu_oo _ (by decide), gu_oo _ (by decide), cpy_v hs, cpy_n (by decide), cpy_n (by decide), cpy2_n (by decide), cpy_n (by decide)]
  · rw [e62, mx_R rfl]; unfold rsW
    rw [gu_ko _ (by decide), gu_kk]
  · rw [e62, mx_R rfl]; unfold rsW
    rw [gu_kk]
/-- the chain of calls, as the reference has it -/
def rN (G : Gt) : Int32 → List Int32 → Prop
  | r, [] => r = -1
  | r, x :: l => ∃ f, f < 1220 ∧ r = nI f ∧ G 64 f = x ∧ rN G (G 70 f) l
theorem chain {N : Nat} {z : Zt} {G : Gt} (hA : qA N z G) (hE : qE z G) (hM : qM z G) (hm : z 0 0 ≤ z 0 8) (hn6 : z 0 0 ≤ 600) (hf : ∀ i, i < z 0 0 → z 6 i < 1220) : ∀ (t : Nat) (c r : Int32), cH z c r t → ∃ l, l.length = t ∧ cN G c l ∧ rN G r l ∧ ∀ x, x ∈ l → ∃ v, v < N ∧ x = nI v := by
  intro t
  induction t with
  | zero =>
    intro c r h
    rcases h with ⟨_, a, b⟩ | ⟨i, _, _, _, _, q⟩
    · exact ⟨[], rfl, a, b, fun x hx => by cases hx⟩
    · exact absurd rfl q
  | succ t ih =>
    intro c r h
    rcases h with ⟨q, _, _⟩ | ⟨i, hi, e1, e2, e3, _⟩
    · omega
    · obtain ⟨m1, m2⟩ := hM.1 i hi (by omega)
      rw [e3, Nat.add_sub_cancel] at m2
      obtain ⟨l, l1, l2, l3, l4⟩ := ih _ _ m2
      exact ⟨nI (z 1 i) :: l, by rw [List.length_cons, l1], ⟨i, by omega, e1, (hA i (by omega)).1, l2⟩, ⟨z 6 i, hf i hi, e2, (hE i hi).1, l3⟩, fun x hx => by
        rcases List.mem_cons.mp hx with q | q
        · exact ⟨z 1 i, (hA i (by omega)).2, q⟩
        · exact l4 x q⟩
def wr (W : Gt) : Nat → List Int32 → Gt
  | _, [] => W
  | m, x :: l => wr (gu (gu W 81 m x) 46 64 (nI (m + 1))) (m + 1) l
theorem wr_n : ∀ (l : List Int32) (m : Nat) (W : Gt) (a j : Nat), ¬ a = 81 → ¬ (a = 46 ∧ j = 64) → wr W m l a j = W a j
  | [], _, _, _, _, _, _ => rfl
  | x :: l, m, W, a, j, h1, h2 => by
    show wr (gu (gu W 81 m x) 46 64 (nI (m + 1))) (m + 1) l a j = _
    rw [wr_n l (m + 1) _ a j h1 h2, gu_n h2, gu_oo _ h1]
theorem wr_c : ∀ (l : List Int32) (m : Nat) (W : Gt), W 46 64 = nI m → wr W m l 46 64 = nI (m + l.length)
  | [], _, _, h => h
  | x :: l, m, W, h => by
    show wr (gu (gu W 81 m x) 46 64 (nI (m + 1))) (m + 1) l 46 64 = _
    rw [wr_c l (m + 1) _ (gu_kk _ _ _ _), List.length_cons]
    have : m + 1 + l.length = m + (l.length + 1) := by omega
    rw [this]
theorem wr_lo : ∀ (l : List Int32) (m : Nat) (W : Gt) (j : Nat), j < m → wr W m l 81 j = W 81 j
  | [], _, _, _, _ => rfl
  | x :: l, m, W, j, h => by
    show wr (gu (gu W 81 m x) 46 64 (nI (m + 1))) (m + 1) l 81 j = _
    rw [wr_lo l (m + 1) _ j (by omega), gu_oo _ (by decide), gu_ko _ (by omega)]
theorem wr_v : ∀ (l : List Int32) (m : Nat) (W : Gt) (i : Nat) (x : Int32), l[i]? = some x → wr W m l 81 (m + i) = x
  | [], _, _, _, _, h => by simp at h
  | y :: l, m, W, i, x, h => by
    show wr (gu (gu W 81 m y) 46 64 (nI (m + 1))) (m + 1) l 81 (m + i) = _
    cases i with
    | zero =>
      rw [wr_lo l (m + 1) _ (m + 0) (by omega), gu_oo _ (by decide), Nat.add_zero, gu_kk]
      simpa using h
    | succ i =>
      have : m + (i + 1) = m + 1 + i := by omega
      rw [this]
      exact wr_v l (m + 1) _ i x (by simpa using h)
theorem st_loop {K : Gt → Prop} {C : Gt} : ∀ (l : List Int32) (m : Nat) (W : Gt) (r : Int32) (fuel : Nat), rN W r l → W 46 64 = nI m → m + l.length ≤ 13 → l.length + 1 ≤ fuel → K (mxw C (gu (gu (rsW (wr W m l)) 46 41 0) 46 53 1)) → w_X11_stops_h53 K fuel r (mxw C W)
  | [], m, W, r, fuel, hr, hm, hl, hfu, h => by
    cases fuel with
    | zero => omega
    | succ fuel =>
      rw [w_X11_stops_h53]
      exact pif_p hr (r_rest (ptr rfl (ptr rfl h)))
  | x :: l, m, W, r, fuel, hr, hm, hl, hfu, h => by
    rw [List.length_cons] at hl hfu
    cases fuel with
    | zero => omega
    | succ fuel =>
      obtain ⟨f, hf, e1, e2, e3⟩ := hr
      subst e1
      have ef : (nI f).toNatClampNeg = f := nI_clamp (by omega)
      rw [w_X11_stops_h53]
      refine pif_n (nI_neg (by omega)) ?_
      rw [ef, show (mxw C W) 46 64 = nI m from hm, nI_clamp (by omega), show (mxw C W) 64 f = x from e2]
      refine ⟨vp_n hf (by decide), vp_n (by omega) (by decide), ptr rfl ?_⟩
      rw [show (mxw C (gu W 81 m x)) 46 64 = nI m from hm, nI_1]
      refine ptr rfl ⟨vp_n hf (by decide), ?_⟩
      rw [show (mxw C (gu (gu W 81 m x) 46 64 (nI (m + 1)))) 70 f = W 70 f from rfl]
      refine st_loop l (m + 1) _ _ fuel ?_ (gu_kk _ _ _ _) (by omega) (by omega) h
      have rk : ∀ (l : List Int32) (r : Int32), rN W r l → rN (gu (gu W 81 m x) 46 64 (nI (m + 1))) r l := by
        intro l
        induction l with
        | nil => intro r h; exact h
        | cons y l ih => rintro r ⟨g, g1, g2, g3, g4⟩; exact ⟨g, g1, g2, g3, ih _ g4⟩
      exact rk l _ e3
def oSt (l : List Int32) (G : Gt) : Gt := gu (gu (rsW (wr (gu (gu (gu (gu G 46 62 (50000 + G 46 42)) 46 63 (if G 46 44 = -100000 then 50000 else G 46 44)) 81 0 (G 46 45)) 46 64 1) 1 l)) 46 41 0) 46 53 1
theorem r_stops {K : Gt → Prop} {C G : Gt} {l : List Int32} (hr : rN G (G 46 46) l) (hl : l.length ≤ 12) (h : K (mxw C (oSt l G))) : w_X11_stops K (mxw C G) := by
  have key : ∀ y : Int32, y = (if G 46 44 = -100000 then 50000 else G 46 44) → w_X11_stops_j30 K y (mxw C (gu G 46 62 (50000 + G 46 42))) := by
    intro y hy
    unfold w_X11_stops_j30
    refine ptr rfl ⟨vp_e (i := 0) rfl (by decide) (by decide), ptr rfl (ptr rfl ⟨l.length + 1, ?_⟩)⟩
    refine st_loop l 1 _ _ _ ?_ (gu_kk _ _ _ _) (by omega) (Nat.le_refl _) ?_
    · have rk : ∀ (l : List Int32) (r : Int32), rN G r l → rN (gu (gu (gu (gu G 46 62 (50000 + G 46 42)) 46 63 y) 81 0 (G 46 45)) 46 64 1) r l := by
        intro l
        induction l with
        | nil => intro r h; exact h
        | cons y l ih => rintro r ⟨g, g1, g2, g3, g4⟩; exact ⟨g, g1, g2, g3, ih _ g4⟩
      exact rk l _ hr
    · unfold oSt at h
      rw [← hy] at h
      exact h
  unfold w_X11_stops
  refine ptr rfl ?_
  rw [show (mxw C (gu G 46 62 (50000 + (mxw C G) 46 42))) 46 44 = G 46 44 from rfl]
  by_cases c : G 46 44 = -100000
  · exact pif_p c (key _ (by rw [if_pos c]))
  · exact pif_n c (key _ (by rw [if_neg c]))
