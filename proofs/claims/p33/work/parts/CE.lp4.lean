/-! WHAT A RUN LEAVES: the report, the world as it was -/
/-- cells of the world that become as they were -/
def bbk (k j : Nat) : Prop := ((k = 20 ∨ k = 25) ∧ (j = 2 ∨ j = 3)) ∨ ((k = 22 ∨ k = 27) ∧ j < 40) ∨ ((k = 24 ∨ k = 29) ∧ j < 4) ∨ (k = 31 ∧ j < 4) ∨ (k = 35 ∧ j < 6) ∨ (k = 19 ∧ (j = 7 ∨ j = 8))
noncomputable def bb (G : Gt) : Gt := fun k j => @ite _ (bbk k j) (Classical.propDecidable _) (G (k + 66) j) (G k j)
theorem rcp_o {G : Gt} {a b N k j : Nat} (h : ¬ k = a) : rcp G a b N k j = G k j := by unfold rcp; rw [if_neg h]
theorem rcp_v {G : Gt} {a b N j : Nat} : rcp G a b N a j = if j < N then G b j else G a j := by unfold rcp; rw [if_pos rfl]
theorem bb_y {G : Gt} {k j : Nat} (h : bbk k j) : bb G k j = G (k + 66) j := by unfold bb; rw [if_pos h]
theorem bb_n {G : Gt} {k j : Nat} (h : ¬ bbk k j) : bb G k j = G k j := by unfold bb; rw [if_neg h]
theorem mxw_rcp {C R : Gt} {a b N : Nat} (ha : isR a = false) (hb : isR b = false) : rcp (mxw C R) a b N = mxw (rcp C a b N) R := by
  funext k j
  unfold rcp
  by_cases e : k = a
  · subst e
    rw [if_pos rfl, mx_C ha, mx_C hb, mx_C ha, if_pos rfl]
  · rw [if_neg e]
    cases hk : isR k
    · rw [mx_C hk, mx_C hk, if_neg e]
    · rw [mx_R hk, mx_R hk]
def tbc (t t0 : Nat) (G : Gt) : Gt := gu (gu (rcp (rcp G (t + 2) (t0 + 2) 40) (t + 4) (t0 + 4) 4) t 2 (G t0 2)) t 3 (G t0 3)
theorem k_tb {K : Gt → Prop} {G R : Gt} {t t0 : Nat} (ht : t = 20 ∨ t = 25) (ht0 : t0 = t + 66) (hk : K (mxw (tbc t t0 G) R)) : w_X8_become t t0 K (mxw G R) := by
  unfold w_X8_become
  subst ht0
  rcases ht with rfl | rfl
  · refine pt_of (pt_of (pt_of (pt_of ?_)))
    rw [mxw_rcp rfl rfl, mxw_rcp rfl rfl, mxw_gC rfl, mxw_gC rfl]
    exact hk
  · refine pt_of (pt_of (pt_of (pt_of ?_)))
    rw [mxw_rcp rfl rfl, mxw_rcp rfl rfl, mxw_gC rfl, mxw_gC rfl]
    exact hk
theorem tbc_y {t t0 k j : Nat} {G : Gt} (ht : t = 20 ∨ t = 25) (ht0 : t0 = t + 66) : tbc t t0 G k j = if (k = t ∧ (j = 2 ∨ j = 3)) ∨ (k = t + 2 ∧ j < 40) ∨ (k = t + 4 ∧ j < 4) then G (k + 66) j else G k j := by
  subst ht0
  unfold tbc
  by_cases h1 : k = t + 4
  · subst h1
    rw [gu_oo _ (by omega), gu_oo _ (by omega), rcp_v]
    by_cases c : j < 4
    · rw [if_pos c, if_pos (by omega), rcp_o (by omega), show t + 66 + 4 = t + 4 + 66 by omega]
    · rw [if_neg c, if_neg (by omega), rcp_o (by omega)]
  · by_cases h2 : k = t + 2
    · subst h2
      rw [gu_oo _ (by omega), gu_oo _ (by omega), rcp_o (by omega), rcp_v]
      by_cases c : j < 40
      · rw [if_pos c, if_pos (by omega), show t + 66 + 2 = t + 2 + 66 by omega]
      · rw [if_neg c, if_neg (by omega)]
    · by_cases h3 : k = t
      · subst h3
        by_cases c3 : j = 3
        · subst c3
          rw [gu_kk, if_pos (by omega)]
        · by_cases c2 : j = 2
          · subst c2
            rw [gu_ko _ (by decide), gu_kk, if_pos (by omega)]
          · rw [gu_ko _ c3, gu_ko _ c2, rcp_o (by omega), rcp_o (by omega), if_neg (by omega)]
      · rw [gu_oo _ h3, gu_oo _ h3, rcp_o h1, rcp_o h2, if_neg (by omega)]
theorem k_bb {K : Gt → Prop} {G R : Gt} (hk : K (mxw (bb G) R)) : w_X9_becomeButRegisters 19 85 K (mxw G R) := by
  unfold w_X9_becomeButRegisters
  refine k_tb (Or.inl rfl) rfl (k_tb (Or.inr rfl) rfl (pt_of (pt_of (pt_of (pt_of ?_)))))
  rw [mxw_rcp rfl rfl, mxw_rcp rfl rfl, mxw_gC rfl, mxw_gC rfl]
  have e : gu (gu (rcp (rcp (tbc 25 91 (tbc 20 86 G)) 31 97 4) 35 101 6) 19 7 ((mxw (rcp (rcp (tbc 25 91 (tbc 20 86 G)) 31 97 4) 35 101 6) R) 85 7)) 19 8 ((mxw (gu (rcp (rcp (tbc 25 91 (tbc 20 86 G)) 31 97 4) 35 101 6) 19 7 ((mxw (rcp (rcp (tbc 25 91 (tbc 20 86 G)) 31 97 4) 35 101 6) R) 85 7)) R) 85 8) = bb G := by
    have T : ∀ k j, (tbc 25 91 (tbc 20 86 G)) k j = if (k = 25 ∧ (j = 2 ∨ j = 3)) ∨ (k = 27 ∧ j < 40) ∨ (k = 29 ∧ j < 4) ∨ (k = 20 ∧ (j = 2 ∨ j = 3)) ∨ (k = 22 ∧ j < 40) ∨ (k = 24 ∧ j < 4) then G (k + 66) j else G k j := by
      intro k j
      rw [tbc_y (Or.inr rfl) rfl]
      by_cases c : (k = 25 ∧ (j = 2 ∨ j = 3)) ∨ (k = 27 ∧ j < 40) ∨ (k = 29 ∧ j < 4)
      · rw [if_pos (by omega), tbc_y (Or.inl rfl) rfl, if_neg (by omega), if_pos (by omega)]
      · rw [if_neg (by omega), tbc_y (Or.inl rfl) rfl]
        by_cases d : (k = 20 ∧ (j = 2 ∨ j = 3)) ∨ (k = 22 ∧ j < 40) ∨ (k = 24 ∧ j < 4)
        · rw [if_pos (by omega), if_pos (by omega)]
        · rw [if_neg (by omega), if_neg (by omega)]
    have e85 : ∀ j, (rcp (rcp (tbc 25 91 (tbc 20 86 G)) 31 97 4) 35 101 6) 85 j = G 85 j := fun j => by
      rw [rcp_o (by decide), rcp_o (by decide), T, if_neg (by omega)]
    funext k j
    unfold bb
    by_cases h19 : k = 19
    · subst h19
      by_cases c8 : j = 8
      · subst c8
        rw [gu_kk, if_pos (by unfold bbk; omega), mx_C rfl, gu_oo _ (by decide)]
        exact e85 8
      · by_cases c7 : j = 7
        · subst c7
          rw [gu_ko _ (by decide), gu_kk, if_pos (by unfold bbk; omega), mx_C rfl]
          exact e85 7
        · rw [gu_ko _ c8, gu_ko _ c7, rcp_o (by decide), rcp_o (by decide), T, if_neg (by omega), if_neg (by unfold bbk; omega)]
    · rw [gu_oo _ h19, gu_oo _ h19]
      by_cases h35 : k = 35
      · subst h35
        rw [rcp_v]
        by_cases c : j < 6
        · rw [if_pos c, if_pos (by unfold bbk; omega), rcp_o (by decide), T, if_neg (by omega)]
        · rw [if_neg c, if_neg (by unfold bbk; omega), rcp_o (by decide), T, if_neg (by omega)]
      · rw [rcp_o h35]
        by_cases h31 : k = 31
        · subst h31
          rw [rcp_v]
          by_cases c : j < 4
          · rw [if_pos c, if_pos (by unfold bbk; omega), T, if_neg (by omega)]
          · rw [if_neg c, if_neg (by unfold bbk; omega), T, if_neg (by omega)]
        · rw [rcp_o h31, T]
          by_cases c : (k = 25 ∧ (j = 2 ∨ j = 3)) ∨ (k = 27 ∧ j < 40) ∨ (k = 29 ∧ j < 4) ∨ (k = 20 ∧ (j = 2 ∨ j = 3)) ∨ (k = 22 ∧ j < 40) ∨ (k = 24 ∧ j < 4)
          · rw [if_pos c, if_pos (by unfold bbk; omega)]
          · rw [if_neg c, if_neg (by unfold bbk; omega)]
  rw [e]
  exact hk
/-- .. registers too -/
noncomputable def bbr (G : Gt) : Gt := fun k j => if k = 33 ∧ j < 4 then G 99 j else bb G k j
theorem k_bbr {K : Gt → Prop} {G R : Gt} (hk : K (mxw (bbr G) R)) : w_X9_become 19 85 K (mxw G R) := by
  unfold w_X9_become
  refine k_bb (pt_of ?_)
  rw [mxw_rcp rfl rfl]
  have e : rcp (bb G) (19 + 14) (85 + 14) 4 = bbr G := by
    funext k j
    unfold bbr
    by_cases h : k = 33
    · subst h
      rw [show (19 + 14 : Nat) = 33 from rfl, rcp_v]
      by_cases c : j < 4
      · rw [if_pos c, if_pos ⟨rfl, c⟩]
        exact bb_n (by unfold bbk; omega)
      · rw [if_neg c, if_neg (fun q => c q.2)]
    · rw [rcp_o h, if_neg (fun q => h q.1)]
  rw [e]; exact hk
/-- the trace, as the class writes it -/
def wq (q : Nat) : Gt → Nat → List Int32 → Gt
  | W, _, [] => W
  | W, m, x :: l => wq q (gu (gu W (q + 2) m x) q 3 (nI (m + 1))) (m + 1) l
theorem wq_n {q : Nat} : ∀ (l : List Int32) (m : Nat) (W : Gt) (a j : Nat), ¬ a = q + 2 → ¬ (a = q ∧ j = 3) → wq q W m l a j = W a j
  | [], _, _, _, _, _, _ => rfl
  | x :: l, m, W, a, j, h1, h2 => by
    show wq q (gu (gu W (q + 2) m x) q 3 (nI (m + 1))) (m + 1) l a j = _
    rw [wq_n l (m + 1) _ a j h1 h2, gu_n h2, gu_oo _ h1]
theorem wq_c {q : Nat} : ∀ (l : List Int32) (m : Nat) (W : Gt), W q 3 = nI m → wq q W m l q 3 = nI (m + l.length)
  | [], _, _, h => h
  | x :: l, m, W, h => by
    show wq q (gu (gu W (q + 2) m x) q 3 (nI (m + 1))) (m + 1) l q 3 = _
    rw [wq_c l (m + 1) _ (gu_kk _ _ _ _), List.length_cons]
    have : m + 1 + l.length = m + (l.length + 1) := by omega
    rw [this]
theorem wq_lo {q : Nat} : ∀ (l : List Int32) (m : Nat) (W : Gt) (j : Nat), j < m → wq q W m l (q + 2) j = W (q + 2) j
  | [], _, _, _, _ => rfl
  | x :: l, m, W, j, h => by
    show wq q (gu (gu W (q + 2) m x) q 3 (nI (m + 1))) (m + 1) l (q + 2) j = _
    rw [wq_lo l (m + 1) _ j (by omega), gu_oo _ (by omega), gu_ko _ (by omega)]
theorem wq_v {q : Nat} : ∀ (l : List Int32) (m : Nat) (W : Gt) (i : Nat) (x : Int32), l[i]? = some x → wq q W m l (q + 2) (m + i) = x
  | [], _, _, _, _, h => by simp at h
  | y :: l, m, W, i, x, h => by
    show wq q (gu (gu W (q + 2) m y) q 3 (nI (m + 1))) (m + 1) l (q + 2) (m + i) = _
    cases i with
    | zero =>
      rw [wq_lo l (m + 1) _ (m + 0) (by omega), gu_oo _ (by omega), Nat.add_zero m, gu_kk]
      simpa using h
    | succ i =>
      have : m + (i + 1) = m + 1 + i := by omega
      rw [this]
      exact wq_v l (m + 1) _ i x (by simpa using h)
theorem k_push {K : Gt → Prop} {G R : Gt} {q m : Nat} {x : Int32} (hq : q = 40 ∨ q = 43) (h3 : G q 3 = nI m) (hm : m < 13) (hk : K (mxw (gu (gu G (q + 2) m x) q 3 (nI (m + 1))) R)) : w_X5_push q K x (mxw G R) := by
  have f1 : isR q = false := by rcases hq with rfl | rfl <;> rfl
  have f2 : isR (q + 2) = false := by rcases hq with rfl | rfl <;> rfl
  unfold w_X5_push
  rw [show (mxw G R) q 3 = nI m from by rw [mx_C f1]; exact h3]
  refine pcp rfl hm (by decide) f2 ?_
  rw [show (mxw (gu G (q + 2) m x) R) q 3 = nI m from by rw [mx_C f1, gu_oo _ (by omega)]; exact h3, nI_1]
  exact ptc f1 hk
theorem set_loop {K : Gt → Prop} {R : Gt} {q : Nat} (hq : q = 40 ∨ q = 43) : ∀ (l : List Int32) (m : Nat) (W : Gt) (c : Int32) (fuel x3 : Nat), rpt W = q → cN W c l → W q 3 = nI m → m = x3 + 1 → x3 + l.length ≤ 12 → l.length + 1 ≤ fuel → K (mxw (bb (wq q W m l)) R) → w_X2_settle_h120 K fuel c (nI x3) (mxw W R)
  | [], m, W, c, fuel, x3, hr, hc, h3, hx, hl, hf, hk => by
    obtain ⟨n, rfl⟩ : ∃ n, fuel = n + 1 := ⟨fuel - 1, by simp at hf; omega⟩
    rw [w_X2_settle_h120]
    unfold w_X2_settle_j167 w_X2_settle_j178
    by_cases c12 : (12 : Int32) ≤ nI x3
    · exact pif_p c12 (k_bb hk)
    · exact pif_n c12 (pif_p hc (k_bb hk))
  | x :: l, m, W, c, fuel, x3, hr, hc, h3, hx, hl, hf, hk => by
    rw [List.length_cons] at hl hf
    obtain ⟨n, rfl⟩ : ∃ n, fuel = n + 1 := ⟨fuel - 1, by omega⟩
    obtain ⟨i, hi, e1, e2, e3⟩ := hc
    have g1 : ∀ k j, ¬ k = q → ¬ k = q + 2 → (gu (gu W (q + 2) m x) q 3 (nI (m + 1))) k j = W k j := fun k j a b => by rw [gu_oo _ a, gu_oo _ b]
    have hr' : rpt (gu (gu W (q + 2) m x) q 3 (nI (m + 1))) = q := by
      unfold rpt
      rw [g1 84 6 (by omega) (by omega)]
      exact hr
    have ne : (gu (gu W (q + 2) m x) q 3 (nI (m + 1))) 108 = W 108 ∧ (gu (gu W (q + 2) m x) q 3 (nI (m + 1))) 120 = W 120 := ⟨funext (fun j => g1 108 j (by omega) (by omega)), funext (fun j => g1 120 j (by omega) (by omega))⟩
    have hi' := set_loop hq l (m + 1) (gu (gu W (q + 2) m x) q 3 (nI (m + 1))) (W 120 i) n (x3 + 1) hr' (cN_eq l _ _ _ ne.1 ne.2 e3) (gu_kk _ _ _ _) (by omega) (by omega) (by omega) hk
    rw [w_X2_settle_h120]
    refine pif_n (nI_ge (b := 12) (by omega) (by decide)) (pif_n (by rw [e1]; exact nI_neg (by omega)) ?_)
    have er : rpt (mxw W R) = q := hr
    rw [er, e1, rat_n hi (by decide), show (mxw W R) 108 i = x from e2]
    refine k_push hq h3 (by omega) ?_
    rw [rat_n hi (by decide), show (mxw (gu (gu W (q + 2) m x) q 3 (nI (m + 1))) R) 120 i = W 120 i from by rw [mx_C rfl, g1 120 i (by omega) (by omega)], nI_1]
    exact hi'
def sN (q : Nat) (G : Gt) : Gt := gu (gu (gu (gu G q 0 (G 84 19)) q 1 (G 84 10)) q 2 50000) q 3 0
noncomputable def sE (q d : Nat) (l : List Int32) (G : Gt) : Gt := bb (wq q (gu (gu (gu (gu (gu (gu G q 0 (50000 + G 84 16)) q 1 (G 84 10)) q 2 (G 84 17)) q 3 0) (q + 2) 0 (G 108 d)) q 3 (nI 1)) 1 l)
theorem k_set_n {K : Gt → Prop} {G R : Gt} {q : Nat} (hq : q = 40 ∨ q = 43) (hr : rpt G = q) (h15 : ¬ G 84 15 = 1) (hk : K (mxw (sN q G) R)) : w_X2_settle K (mxw G R) := by
  have f1 : isR q = false := by rcases hq with rfl | rfl <;> rfl
  have rg : ∀ (W : Gt), (∀ j, W 84 j = G 84 j) → rpt (mxw W R) = q := by
    intro W hW
    unfold rpt
    rw [show (mxw W R) 84 6 = W 84 6 from rfl, hW]; exact hr
  unfold w_X2_settle w_X2_settle_j13 w_X2_settle_j36 w_X2_settle_j67 w_X2_settle_j178
  refine pif_n h15 (pif_p rfl ?_)
  rw [rg G (fun _ => rfl)]
  refine ptc f1 ?_
  rw [rg _ (fun j => gu_oo _ (by omega))]
  refine ptc f1 (pif_p rfl ?_)
  rw [rg _ (fun j => by rw [gu_oo _ (by omega), gu_oo _ (by omega)])]
  refine ptc f1 ?_
  rw [rg _ (fun j => by rw [gu_oo _ (by omega), gu_oo _ (by omega), gu_oo _ (by omega)])]
  refine ptc f1 (pif_p rfl ?_)
  have e10 : (mxw (gu G q 0 ((mxw G R) 84 19)) R) 84 10 = G 84 10 := by rw [mx_C rfl, gu_oo _ (by omega)]
  rw [e10]
  exact hk
theorem k_set_e {K : Gt → Prop} {G R : Gt} {q d : Nat} {l : List Int32} (hq : q = 40 ∨ q = 43) (hr : rpt G = q) (h15 : G 84 15 = 1) (hd : d < 601) (h18 : G 84 18 = nI d) (hc : cN G (G 120 d) l) (hl : l.length ≤ 12) (hk : K (mxw (sE q d l G) R)) : w_X2_settle K (mxw G R) := by
  have f1 : isR q = false := by rcases hq with rfl | rfl <;> rfl
  have rg : ∀ (W : Gt), (∀ j, W 84 j = G 84 j) → rpt (mxw W R) = q := by
    intro W hW
    unfold rpt
    rw [show (mxw W R) 84 6 = W 84 6 from rfl, hW]; exact hr
  unfold w_X2_settle w_X2_settle_j13 w_X2_settle_j36 w_X2_settle_j67 w_X2_settle_j178
  refine pif_p h15 (pif_n (by decide) ?_)
  rw [rg G (fun _ => rfl)]
  refine ptc f1 ?_
  rw [rg _ (fun j => gu_oo _ (by omega))]
  refine ptc f1 (pif_n (by decide) ?_)
  rw [rg _ (fun j => by rw [gu_oo _ (by omega), gu_oo _ (by omega)])]
  refine ptc f1 ?_
  rw [rg _ (fun j => by rw [gu_oo _ (by omega), gu_oo _ (by omega), gu_oo _ (by omega)])]
  refine ptc f1 (pif_n (by decide) ?_)
  rw [rg _ (fun j => by rw [gu_oo _ (by omega), gu_oo _ (by omega), gu_oo _ (by omega), gu_oo _ (by omega)])]
  have e10 : (mxw (gu G q 0 (50000 + (mxw G R) 84 16)) R) 84 10 = G 84 10 := by rw [mx_C rfl, gu_oo _ (by omega)]
  have e17 : (mxw (gu (gu G q 0 (50000 + (mxw G R) 84 16)) q 1 (G 84 10)) R) 84 17 = G 84 17 := by rw [mx_C rfl, gu_oo _ (by omega), gu_oo _ (by omega)]
  rw [e10, e17, show (mxw G R) 84 16 = G 84 16 from rfl]
  have o4 : ∀ k j, ¬ k = q → (gu (gu (gu (gu G q 0 (50000 + G 84 16)) q 1 (G 84 10)) q 2 (G 84 17)) q 3 0) k j = G k j := fun k j a => by rw [gu_oo _ a, gu_oo _ a, gu_oo _ a, gu_oo _ a]
  have e18 : (mxw (gu (gu (gu (gu G q 0 (50000 + G 84 16)) q 1 (G 84 10)) q 2 (G 84 17)) q 3 0) R) 84 18 = nI d := by rw [mx_C rfl, o4 84 18 (by omega)]; exact h18
  rw [e18, rat_n hd (by decide), show (mxw (gu (gu (gu (gu G q 0 (50000 + G 84 16)) q 1 (G 84 10)) q 2 (G 84 17)) q 3 0) R) 108 d = G 108 d from by rw [mx_C rfl, o4 108 d (by omega)]]
  refine k_push (m := 0) hq (by rw [gu_kk]; rfl) (by decide) ⟨13, ?_⟩
  have o6 : ∀ k j, ¬ k = q → ¬ k = q + 2 → (gu (gu (gu (gu (gu (gu G q 0 (50000 + G 84 16)) q 1 (G 84 10)) q 2 (G 84 17)) q 3 0) (q + 2) 0 (G 108 d)) q 3 (nI (0 + 1))) k j = G k j := fun k j a b => by rw [gu_oo _ a, gu_oo _ b, o4 k j a]
  have e18' : (mxw (gu (gu (gu (gu (gu (gu G q 0 (50000 + G 84 16)) q 1 (G 84 10)) q 2 (G 84 17)) q 3 0) (q + 2) 0 (G 108 d)) q 3 (nI (0 + 1))) R) 84 18 = nI d := by rw [mx_C rfl, o6 84 18 (by omega) (by omega)]; exact h18
  rw [e18', rat_n hd (by decide), show (mxw (gu (gu (gu (gu (gu (gu G q 0 (50000 + G 84 16)) q 1 (G 84 10)) q 2 (G 84 17)) q 3 0) (q + 2) 0 (G 108 d)) q 3 (nI (0 + 1))) R) 120 d = G 120 d from by rw [mx_C rfl, o6 120 d (by omega) (by omega)]]
  refine set_loop hq l 1 _ _ 13 0 ?_ (cN_eq l G _ _ (funext (fun j => o6 108 j (by omega) (by omega))) (funext (fun j => o6 120 j (by omega) (by omega))) hc) (gu_kk _ _ _ _) rfl (by omega) (by omega) hk
  unfold rpt
  rw [o6 84 6 (by omega) (by omega)]
  exact hr
/-- what the reference keeps of the last run -/
def oLs (c : Nat) (G : Gt) : Gt := fun a j => if a = 82 ∧ j < c then G 81 j else (gu (gu (gu (gu G 46 66 (G 46 62)) 46 67 (G 46 58)) 46 68 (G 46 63)) 46 69 (G 46 64)) a j
theorem r_lasts {K : Gt → Prop} {C G : Gt} {c : Nat} (h64 : G 46 64 = nI c) (hc : c ≤ 13) (hk : K (mxw C (oLs c G))) : w_X11_lasts K (mxw C G) := by
  unfold w_X11_lasts
  refine ptr rfl (ptr rfl (ptr rfl (ptr rfl ?_)))
  have : ∀ r n, n + r = c → w_X11_lasts_h34 K (r + 1) (nI n) (mxw C (oLs n G)) := by
    intro r
    induction r with
    | zero =>
      intro n hn
      have : n = c := by omega
      subst this
      rw [w_X11_lasts_h34, show (mxw C (oLs n G)) 46 64 = nI n from by rw [mx_R rfl]; unfold oLs; rw [if_neg (by omega)]; exact h64]
      exact pif_p (i_ler _) hk
    | succ r ih =>
      intro n hn
      have hi := ih (n + 1) (by omega)
      rw [w_X11_lasts_h34, show (mxw C (oLs n G)) 46 64 = nI c from by rw [mx_R rfl]; unfold oLs; rw [if_neg (by omega)]; exact h64, nI_clamp (by omega)]
      refine pif_n (nI_ge (by omega) (by omega)) ⟨vp_n (by omega) (by decide), vp_n (by omega) (by decide), ptr rfl ?_⟩
      have e : gu (oLs n G) 82 n ((mxw C (oLs n G)) 81 n) = oLs (n + 1) G := by
        funext a j
        rw [gu_at, show (mxw C (oLs n G)) 81 n = G 81 n from by rw [mx_R rfl]; unfold oLs; rw [if_neg (by omega)]; rfl]
        unfold oLs
        by_cases q : a = 82 ∧ j = n
        · rw [if_pos q, if_pos ⟨q.1, by omega⟩, q.2]
        · rw [if_neg q]
          by_cases w : a = 82 ∧ j < n
          · rw [if_pos w, if_pos ⟨w.1, by omega⟩]
          · rw [if_neg w, if_neg (fun y => w ⟨y.1, by
              have : ¬ j = n := fun z => q ⟨y.1, z⟩
              omega⟩)]
      rw [e, nI_1]
      exact hi
  have h0 := this c 0 (by omega)
  have e0 : oLs 0 G = gu (gu (gu (gu G 46 66 (G 46 62)) 46 67 (G 46 58)) 46 68 (G 46 63)) 46 69 (G 46 64) := by
    funext a j
    unfold oLs
    rw [if_neg (by omega)]
  rw [e0] at h0
  exact ⟨_, h0⟩
