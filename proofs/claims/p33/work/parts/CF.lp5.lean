/-! A RUN BEGINS -/
def abk (k j : Nat) : Prop := ((k = 86 ∨ k = 91) ∧ (j = 2 ∨ j = 3)) ∨ ((k = 88 ∨ k = 93) ∧ j < 40) ∨ ((k = 90 ∨ k = 95) ∧ j < 4) ∨ (k = 97 ∧ j < 4) ∨ (k = 101 ∧ j < 6) ∨ (k = 85 ∧ (j = 7 ∨ j = 8)) ∨ (k = 99 ∧ j < 4)
noncomputable def ab (G : Gt) : Gt := fun k j => @ite _ (abk k j) (Classical.propDecidable _) (G (k - 66) j) (G k j)
theorem ab_y {G : Gt} {k j : Nat} (h : abk k j) : ab G k j = G (k - 66) j := by unfold ab; rw [if_pos h]
theorem ab_n {G : Gt} {k j : Nat} (h : ¬ abk k j) : ab G k j = G k j := by unfold ab; rw [if_neg h]
theorem k_tba {K : Gt → Prop} {G R : Gt} {t t0 : Nat} (ht : t = 86 ∨ t = 91) (ht0 : t = t0 + 66) (hk : K (mxw (tbc t t0 G) R)) : w_X8_become t t0 K (mxw G R) := by
  unfold w_X8_become
  rcases ht with rfl | rfl
  · have : t0 = 20 := by omega
    subst this
    refine pt_of (pt_of (pt_of (pt_of ?_)))
    rw [mxw_rcp rfl rfl, mxw_rcp rfl rfl, mxw_gC rfl, mxw_gC rfl]
    exact hk
  · have : t0 = 25 := by omega
    subst this
    refine pt_of (pt_of (pt_of (pt_of ?_)))
    rw [mxw_rcp rfl rfl, mxw_rcp rfl rfl, mxw_gC rfl, mxw_gC rfl]
    exact hk
theorem tba_y {t t0 k j : Nat} {G : Gt} (ht : t = 86 ∨ t = 91) (ht0 : t = t0 + 66) : tbc t t0 G k j = if (k = t ∧ (j = 2 ∨ j = 3)) ∨ (k = t + 2 ∧ j < 40) ∨ (k = t + 4 ∧ j < 4) then G (k - 66) j else G k j := by
  subst ht0
  unfold tbc
  by_cases h1 : k = t0 + 66 + 4
  · subst h1
    rw [gu_oo _ (by omega), gu_oo _ (by omega), rcp_v]
    by_cases c : j < 4
    · rw [if_pos c, if_pos (by omega), rcp_o (by omega), show t0 + 66 + 4 - 66 = t0 + 4 by omega]
    · rw [if_neg c, if_neg (by omega), rcp_o (by omega)]
  · by_cases h2 : k = t0 + 66 + 2
    · subst h2
      rw [gu_oo _ (by omega), gu_oo _ (by omega), rcp_o (by omega), rcp_v]
      by_cases c : j < 40
      · rw [if_pos c, if_pos (by omega), show t0 + 66 + 2 - 66 = t0 + 2 by omega]
      · rw [if_neg c, if_neg (by omega)]
    · by_cases h3 : k = t0 + 66
      · subst h3
        by_cases c3 : j = 3
        · subst c3
          rw [gu_kk, if_pos (by omega), show t0 + 66 - 66 = t0 by omega]
        · by_cases c2 : j = 2
          · subst c2
            rw [gu_ko _ (by decide), gu_kk, if_pos (by omega), show t0 + 66 - 66 = t0 by omega]
          · rw [gu_ko _ c3, gu_ko _ c2, rcp_o (by omega), rcp_o (by omega), if_neg (by omega)]
      · rw [gu_oo _ h3, gu_oo _ h3, rcp_o h1, rcp_o h2, if_neg (by omega)]
theorem k_ab {K : Gt → Prop} {G R : Gt} (hk : K (mxw (ab G) R)) : w_X9_become 85 19 K (mxw G R) := by
  unfold w_X9_become w_X9_becomeButRegisters
  refine k_tba (Or.inl rfl) rfl (k_tba (Or.inr rfl) rfl (pt_of (pt_of (pt_of (pt_of (pt_of ?_))))))
  rw [mxw_rcp rfl rfl, mxw_rcp rfl rfl, mxw_gC rfl, mxw_gC rfl, mxw_rcp rfl rfl]
  have e : rcp (gu (gu (rcp (rcp (tbc 91 25 (tbc 86 20 G)) 97 31 4) 101 35 6) 85 7 ((mxw (rcp (rcp (tbc 91 25 (tbc 86 20 G)) 97 31 4) 101 35 6) R) 19 7)) 85 8 ((mxw (gu (rcp (rcp (tbc 91 25 (tbc 86 20 G)) 97 31 4) 101 35 6) 85 7 ((mxw (rcp (rcp (tbc 91 25 (tbc 86 20 G)) 97 31 4) 101 35 6) R) 19 7)) R) 19 8)) 99 33 4 = ab G := by
    have T : ∀ k j, (tbc 91 25 (tbc 86 20 G)) k j = if (k = 91 ∧ (j = 2 ∨ j = 3)) ∨ (k = 93 ∧ j < 40) ∨ (k = 95 ∧ j < 4) ∨ (k = 86 ∧ (j = 2 ∨ j = 3)) ∨ (k = 88 ∧ j < 40) ∨ (k = 90 ∧ j < 4) then G (k - 66) j else G k j := by
      intro k j
      rw [tba_y (Or.inr rfl) rfl]
      by_cases c : (k = 91 ∧ (j = 2 ∨ j = 3)) ∨ (k = 93 ∧ j < 40) ∨ (k = 95 ∧ j < 4)
      · rw [if_pos (by omega), tba_y (Or.inl rfl) rfl, if_neg (by omega), if_pos (by omega)]
      · rw [if_neg (by omega), tba_y (Or.inl rfl) rfl]
        by_cases d : (k = 86 ∧ (j = 2 ∨ j = 3)) ∨ (k = 88 ∧ j < 40) ∨ (k = 90 ∧ j < 4)
        · rw [if_pos (by omega), if_pos (by omega)]
        · rw [if_neg (by omega), if_neg (by omega)]
    have e19 : ∀ j, (rcp (rcp (tbc 91 25 (tbc 86 20 G)) 97 31 4) 101 35 6) 19 j = G 19 j := fun j => by
      rw [rcp_o (by decide), rcp_o (by decide), T, if_neg (by omega)]
    funext k j
    unfold ab
    by_cases h99 : k = 99
    · subst h99
      rw [rcp_v]
      by_cases c : j < 4
      · rw [if_pos c, if_pos (by unfold abk; omega), gu_oo _ (by decide), gu_oo _ (by decide), rcp_o (by decide), rcp_o (by decide), T, if_neg (by omega)]
      · rw [if_neg c, if_neg (by unfold abk; omega), gu_oo _ (by decide), gu_oo _ (by decide), rcp_o (by decide), rcp_o (by decide), T, if_neg (by omega)]
    · rw [rcp_o h99]
      by_cases h19 : k = 85
      · subst h19
        by_cases c8 : j = 8
        · subst c8
          rw [gu_kk, if_pos (by unfold abk; omega), mx_C rfl, gu_oo _ (by decide)]
          exact e19 8
        · by_cases c7 : j = 7
          · subst c7
            rw [gu_ko _ (by decide), gu_kk, if_pos (by unfold abk; omega), mx_C rfl]
            exact e19 7
          · rw [gu_ko _ c8, gu_ko _ c7, rcp_o (by decide), rcp_o (by decide), T, if_neg (by omega), if_neg (by unfold abk; omega)]
      · rw [gu_oo _ h19, gu_oo _ h19]
        by_cases h35 : k = 101
        · subst h35
          rw [rcp_v]
          by_cases c : j < 6
          · rw [if_pos c, if_pos (by unfold abk; omega), rcp_o (by decide), T, if_neg (by omega)]
          · rw [if_neg c, if_neg (by unfold abk; omega), rcp_o (by decide), T, if_neg (by omega)]
        · rw [rcp_o h35]
          by_cases h31 : k = 97
          · subst h31
            rw [rcp_v]
            by_cases c : j < 4
            · rw [if_pos c, if_pos (by unfold abk; omega), T, if_neg (by omega)]
            · rw [if_neg c, if_neg (by unfold abk; omega), T, if_neg (by omega)]
          · rw [rcp_o h31, T]
            by_cases c : (k = 91 ∧ (j = 2 ∨ j = 3)) ∨ (k = 93 ∧ j < 40) ∨ (k = 95 ∧ j < 4) ∨ (k = 86 ∧ (j = 2 ∨ j = 3)) ∨ (k = 88 ∧ j < 40) ∨ (k = 90 ∧ j < 4)
            · rw [if_pos c, if_pos (by unfold abk; omega)]
            · rw [if_neg c, if_neg (by unfold abk; omega)]
  rw [e]
  exact hk
/-- the class's cells, set -/
def oc0 (w B : Int32) (G : Gt) : Gt := gu (gu (gu (gu (gu (gu (gu (gu (gu (gu (gu (gu (gu (gu (gu (gu G 129 2 0) 134 5 0) 134 6 0) 84 6 w) 84 9 B) 84 10 0) 84 8 0) 84 13 (-1)) 84 14 0) 84 15 0) 84 16 0) 84 17 50000) 84 18 (-1)) 84 19 0) 84 11 (-1)) 84 7 1
noncomputable def oC (w B : Int32) (m : Nat) (G : Gt) : Gt := oBg 0 (-1) (nI m) (nI 0) 1 (G 13 m) (oOp 0 (-1) (oc0 w B (ab G)))
theorem k_opn {K : Gt → Prop} {G R : Gt} {q m : Nat} {B : Int32} (hm : m < 120) (hk : K (mxw (oC (if q = 40 then 0 else 1) B m G) R)) : w_X2_open q K (nI m) B (mxw G R) := by
  unfold w_X2_open w_X7_clear w_X3_clear
  refine k_ab (ptc rfl (ptc rfl (ptc rfl (ptc rfl (ptc rfl (ptc rfl (ptc rfl (ptc rfl (ptc rfl (ptc rfl (ptc rfl (ptc rfl (ptc rfl (ptc rfl (ptc rfl (ptc rfl ?_))))))))))))))))
  refine k_open (S := 0) (G := oc0 (if q = 40 then 0 else 1) B (ab G)) rfl (by decide) ?_
  refine k_begin (n := 0) (u := -1) (G := oOp 0 (-1) (oc0 (if q = 40 then 0 else 1) B (ab G))) rfl (by decide) hm rfl ?_
  have e13 : (oOp 0 (-1) (oc0 (if q = 40 then 0 else 1) B (ab G))) 13 m = G 13 m := by
    rw [op_n (by decide)]
    unfold oc0
    rw [gu_oo _ (by decide), gu_oo _ (by decide), gu_oo _ (by decide), gu_oo _ (by decide), gu_oo _ (by decide), gu_oo _ (by decide), gu_oo _ (by decide), gu_oo _ (by decide), gu_oo _ (by decide), gu_oo _ (by decide), gu_oo _ (by decide), gu_oo _ (by decide), gu_oo _ (by decide), gu_oo _ (by decide), gu_oo _ (by decide), gu_oo _ (by decide)]
    exact ab_n (by unfold abk; omega)
  rw [e13]
  exact hk
/-- cells that it leaves -/
theorem oC_n {w B : Int32} {m k j : Nat} {G : Gt} (h : k < 84 ∨ (85 ≤ k ∧ k ≤ 105)) : oC w B m G k j = ab G k j := by
  unfold oC
  have h1 : ∀ X : Gt, oBg 0 (-1) (nI m) (nI 0) 1 (G 13 m) X k j = X k j := by
    intro X
    unfold oBg
    rw [gu_oo _ (by omega), gu_oo _ (by omega), gu_oo _ (by omega), gu_oo _ (by omega), gu_oo _ (by omega), gu_oo _ (by omega), gu_oo _ (by omega), gu_oo _ (by omega), gu_oo _ (by omega), gu_oo _ (by omega)]
  rw [h1, op_n (by omega)]
  unfold oc0
  rw [gu_oo _ (by omega), gu_oo _ (by omega), gu_oo _ (by omega), gu_oo _ (by omega), gu_oo _ (by omega), gu_oo _ (by omega), gu_oo _ (by omega), gu_oo _ (by omega), gu_oo _ (by omega), gu_oo _ (by omega), gu_oo _ (by omega), gu_oo _ (by omega), gu_oo _ (by omega), gu_oo _ (by omega), gu_oo _ (by omega), gu_oo _ (by omega)]
/-- keeps -/
def kap (G : Gt) (k : Nat) : Int32 := if k < 80 then G 58 k else if k < 82 then G 59 (k - 80) else if k < 90 then G 60 (k - 82) else if k < 92 then G 61 (k - 90) else if k < 96 then G 56 (k - 92) else if k < 102 then G 54 (k - 96) else if k = 102 then G 46 12 else G 46 14
def oKp (n : Nat) (G : Gt) : Gt := fun k j => if k = 62 ∧ j < n then kap G j else G k j
theorem nI_msub {k c : Nat} {x : Int32} (e : x = nI c) (h : c ≤ k) : nI k - x = nI (k - c) := by rw [e]; exact nI_sub h
theorem r_kap {K : Int32 → Gt → Prop} {C G : Gt} {k : Nat} (hk : k < 104) (h : K (kap G k) (mxw C G)) : w_X11_keptAt K (nI k) (mxw C G) := by
  unfold w_X11_keptAt w_X11_keptAt_j122
  unfold kap at h
  have q : ∀ a : Nat, a < 2 ^ 31 → ((nI a ≤ nI k) ↔ a ≤ k) := fun a ha => nI_leL rfl ha (by omega)
  by_cases c1 : k < 80
  · rw [if_pos c1] at h
    refine pif_n (fun y => by have := (q 80 (by decide)).mp y; omega) ⟨vp_n c1 (by decide), ?_⟩
    rw [nI_clamp (by omega)]; exact h
  · rw [if_neg c1] at h
    refine pif_p ((q 80 (by decide)).mpr (by omega)) ?_
    by_cases c2 : k < 82
    · rw [if_pos c2] at h
      refine pif_n (fun y => by have := (q 82 (by decide)).mp y; omega) ?_
      rw [show nI k - 80 = nI (k - 80) from nI_msub rfl (by omega), nI_clamp (by omega)]
      exact ⟨vp_n (by omega) (by decide), h⟩
    · rw [if_neg c2] at h
      refine pif_p ((q 82 (by decide)).mpr (by omega)) ?_
      by_cases c3 : k < 90
      · rw [if_pos c3] at h
        refine pif_n (fun y => by have := (q 90 (by decide)).mp y; omega) ?_
        rw [show nI k - 82 = nI (k - 82) from nI_msub rfl (by omega), nI_clamp (by omega)]
        exact ⟨vp_n (by omega) (by decide), h⟩
      · rw [if_neg c3] at h
        refine pif_p ((q 90 (by decide)).mpr (by omega)) ?_
        by_cases c4 : k < 92
        · rw [if_pos c4] at h
          refine pif_n (fun y => by have := (q 92 (by decide)).mp y; omega) ?_
          rw [show nI k - 90 = nI (k - 90) from nI_msub rfl (by omega), nI_clamp (by omega)]
          exact ⟨vp_n (by omega) (by decide), h⟩
        · rw [if_neg c4] at h
          refine pif_p ((q 92 (by decide)).mpr (by omega)) ?_
          by_cases c5 : k < 96
          · rw [if_pos c5] at h
            refine pif_n (fun y => by have := (q 96 (by decide)).mp y; omega) ?_
            rw [show nI k - 92 = nI (k - 92) from nI_msub rfl (by omega), nI_clamp (by omega)]
            exact ⟨vp_n (by omega) (by decide), h⟩
          · rw [if_neg c5] at h
            refine pif_p ((q 96 (by decide)).mpr (by omega)) ?_
            by_cases c6 : k < 102
            · rw [if_pos c6] at h
              refine pif_n (fun y => by have := (q 102 (by decide)).mp y; omega) ?_
              rw [show nI k - 96 = nI (k - 96) from nI_msub rfl (by omega), nI_clamp (by omega)]
              exact ⟨vp_n (by omega) (by decide), h⟩
            · rw [if_neg c6] at h
              refine pif_p ((q 102 (by decide)).mpr (by omega)) ?_
              by_cases c7 : k = 102
              · rw [if_pos c7] at h
                exact pif_p (by rw [c7]; rfl) h
              · rw [if_neg c7] at h
                exact pif_n (fun y => c7 ((nI_eqL (w := k) (a := 102) (b := 102) rfl (by omega) (by decide)).mp y)) h
theorem r_keeps {K : Gt → Prop} {C G : Gt} (h : K (mxw C (oKp 104 G))) : w_X11_keeps K (mxw C G) := by
  have : ∀ r n, n + r = 104 → w_X11_keeps_h2 K (r + 1) (nI n) (mxw C (oKp n G)) := by
    intro r
    induction r with
    | zero =>
      intro n hn
      have : n = 104 := by omega
      subst this
      rw [w_X11_keeps_h2]
      exact pif_p (by decide) h
    | succ r ih =>
      intro n hn
      have hi := ih (n + 1) (by omega)
      rw [w_X11_keeps_h2]
      refine pif_n (nI_ge (b := 104) (by omega) (by decide)) (r_kap (by omega) ⟨vp_n (by omega) (by decide), ?_⟩)
      rw [nI_clamp (by omega), nI_1]
      refine ptr rfl ?_
      have ek : kap (oKp n G) n = kap G n := by
        unfold kap oKp
        simp
      have e : gu (oKp n G) 62 n (kap (oKp n G) n) = oKp (n + 1) G := by
        rw [ek]
        funext a j
        rw [gu_at]
        unfold oKp
        by_cases q : a = 62 ∧ j = n
        · rw [if_pos q, if_pos ⟨q.1, by omega⟩, q.2]
        · rw [if_neg q]
          by_cases w : a = 62 ∧ j < n
          · rw [if_pos w, if_pos ⟨w.1, by omega⟩]
          · rw [if_neg w, if_neg (fun y => w ⟨y.1, by
              have : ¬ j = n := fun z => q ⟨y.1, z⟩
              omega⟩)]
      rw [e]
      exact hi
  have h0 := this 104 0 rfl
  have e0 : oKp 0 G = G := by
    funext a j
    unfold oKp
    rw [if_neg (by omega)]
  rw [e0] at h0
  exact ⟨_, h0⟩
def or0 (B : Int32) (G : Gt) : Gt := gu (gu (gu (gu (gu (gu (gu (gu (gu (gu (gu (gu (gu (gu G 46 21 0) 46 29 0) 46 32 0) 46 35 0) 46 47 0) 46 49 (-1)) 46 50 0) 46 51 0) 46 53 0) 46 58 0) 46 59 B) 46 62 0) 46 63 50000) 46 64 0
def oR (B : Int32) (m : Nat) (G : Gt) : Gt := oAk (nI m) (nI 0) (nI 0) (oLa 0 (-1) (-1) (nI 0) 0 (oOr 0 (-1) (or0 B (oKp 104 G))))
theorem r_prep {K : Gt → Prop} {C G : Gt} {m : Nat} {B : Int32} (hB : G 46 13 = B) (h : K (mxw C (oR B m G))) : w_X11_prepares K (nI m) (mxw C G) := by
  unfold w_X11_prepares
  refine r_keeps (ptr rfl (ptr rfl (ptr rfl (ptr rfl (ptr rfl (ptr rfl (ptr rfl (ptr rfl (ptr rfl (ptr rfl (ptr rfl (ptr rfl (ptr rfl (ptr rfl ?_))))))))))))))
  have e13 : (oKp 104 G) 46 13 = B := by unfold oKp; rw [if_neg (by omega)]; exact hB
  refine r_opens (s := 0) (G := or0 ((oKp 104 G) 46 13) (oKp 104 G)) rfl (by decide) ?_
  rw [e13]
  exact r_begins (F := 0) (G := oOr 0 (-1) (or0 B (oKp 104 G))) rfl (by decide) h
theorem oR_n {B : Int32} {m k j : Nat} {G : Gt} (h : ¬ (k = 62 ∧ j < 104)) (h1 : ¬ k = 71 ∧ ¬ k = 72 ∧ ¬ (64 ≤ k ∧ k ≤ 67)) (h2 : k = 46 → j = 0 ∨ j = 12 ∨ j = 13 ∨ j = 14 ∨ j = 52 ∨ (66 ≤ j ∧ j ≤ 69) ∨ j = 71) : oR B m G k j = G k j := by
  unfold oR oAk
  rw [gu_n (by omega), gu_n (by omega), gu_n (by omega), gu_n (by omega)]
  unfold oLa
  rw [gu_n (by omega), gu_n (by omega), gu_n (by omega), gu_n (by omega), gu_n (by omega), or_n (by omega)]
  unfold or0
  rw [gu_n (by omega), gu_n (by omega), gu_n (by omega), gu_n (by omega), gu_n (by omega), gu_n (by omega), gu_n (by omega), gu_n (by omega), gu_n (by omega), gu_n (by omega), gu_n (by omega), gu_n (by omega), gu_n (by omega), gu_n (by omega)]
  unfold oKp
  rw [if_neg h]
