theorem gf_0 (G : Gt) (a : Nat) (v : Int32) : gf G a 0 v = G := by funext k j; simp [gf]
theorem gf_s (G : Gt) (a i : Nat) (v : Int32) : gu (gf G a i v) a i v = gf G a (i + 1) v := by
  funext k j
  simp only [gu, gf]
  by_cases hk : k = a
  · subst hk
    by_cases hj : j = i
    · subst hj; simp
    · by_cases h2 : j < i
      · rw [if_pos rfl, if_neg hj, if_pos ⟨rfl, h2⟩, if_pos ⟨rfl, by omega⟩]
      · rw [if_pos rfl, if_neg hj, if_neg (by omega), if_neg (by omega)]
  · rw [if_neg hk, if_neg (fun z => hk z.1), if_neg (fun z => hk z.1)]
set_option maxHeartbeats 4000000 in
set_option maxRecDepth 100000 in
theorem t_fill {l : Launch} {sh : Sh} {a N : Nat} (hA : sh[a]? = some (.inl (0, N))) (hN : N < 2 ^ 31) (v : Int32) (G0 : Gt) : CT0 l yJ7_fill_53178 cJ7_fill_53178 4 none 0 0 [.ref a, .int v] sh G0 (fun q G' => q = none ∧ G' = gf G0 a N v) := by
  refine CT0_of (by decide) (Nat.le_of_ble_eq_true rfl) rfl ?_
  intro p e s m args below meth c D tA ad A C hr _
  have h5 : ∀ d i : Nat, i + d = N → aw p l e { frames := 0, cells := 0, slots := 0, locals := 0 } s m args below meth c 4 D tA A (MQ below (QC0 D tA ad A sh (fun q G' => q = none ∧ G' = gf G0 a N v)) args s 0 0 A) 0 0 ad 5 [some (.ref a), some (.int v), some (.int (nI i)), some (.int (nI N))] [] sh (gf G0 a i v) := by
    intro d
    induction d with
    | zero =>
      intro i hi
      have : i = N := by omega
      subst this
      refine aw_iloadn C dJ7_fill_53178_5 rfl ?_
      refine aw_iloadn C dJ7_fill_53178_6 rfl ?_
      refine aw_ic_ge (X := True) (Y := True) C dJ7_fill_53178_7 20 (by decide) ⟨fun _ => trivial, fun _ => trivial⟩ (fun hx _ => ?_) (fun hx _ => absurd (Int32.le_refl _) hx)
      exact aw_return C hr dJ7_fill_53178_20 ⟨rfl, rfl⟩
    | succ d ih =>
      intro i hi
      have hlt : i < N := by omega
      refine aw_iloadn C dJ7_fill_53178_5 rfl ?_
      refine aw_iloadn C dJ7_fill_53178_6 rfl ?_
      refine aw_ic_ge (X := True) (Y := True) C dJ7_fill_53178_7 20 (by decide) ⟨fun _ => trivial, fun _ => trivial⟩ (fun hx _ => ?_) (fun hx _ => ?_)
      · exfalso
        rw [Int32.le_iff_toInt_le, nI_toInt hN, nI_toInt (by omega)] at hx
        omega
      · refine aw_aloadn C dJ7_fill_53178_10 rfl ?_
        refine aw_iloadn C dJ7_fill_53178_11 rfl ?_
        refine aw_iloadn C dJ7_fill_53178_12 rfl ?_
        refine aw_iast C dJ7_fill_53178_13 hA (vp_in_nI hlt (by omega)) (F := fun G1 => G1 = gf G0 a (i + 1) v) (pt_iff.mpr (by rw [nI_clamp (by omega), gf_s])) (fun G1 hG => ?_)
        subst hG
        refine aw_iinc (w := nI (i + 1)) C dJ7_fill_53178_14 rfl (nI_1 i) (by decide) rfl ?_
        refine aw_goto (tgt := 5) C dJ7_fill_53178_17 (by decide) ?_
        exact ih (i + 1) (by omega)
  show aw p l e { frames := 0, cells := 0, slots := 0, locals := 0 } s m args below meth c 4 D tA A (MQ below (QC0 D tA ad A sh (fun q G' => q = none ∧ G' = gf G0 a N v)) args s 0 0 A) 0 0 ad 0 [some (.ref a), some (.int v), none, none] [] sh G0
  refine aw_iconst (v := nI 0) C dJ7_fill_53178_0 (by decide) ?_
  refine aw_istoren C dJ7_fill_53178_1 (by decide) rfl ?_
  refine aw_aloadn C dJ7_fill_53178_2 rfl ?_
  refine aw_alen C dJ7_fill_53178_3 hA (by decide) ?_
  refine aw_istoren C dJ7_fill_53178_4 (by decide) rfl ?_
  have h9 := h5 N 0 (by omega)
  rw [gf_0] at h9
  exact h9
def gRow (G : Gt) (L N : Nat) (v : Int32) : Gt := gf (gz G L 0) L N v
set_option maxHeartbeats 4000000 in
set_option maxRecDepth 100000 in
/-- new Row(N, v) -/
theorem t_X6_init {l : Launch} {sh : Sh} {b L N : Nat} (hb : sh[b]? = some (.inr (6, [some none]))) (hL : sh.length = L) (hwf : wfL sh) (hN : N < 2 ^ 27) (v : Int32) (G0 : Gt) : CN l yX6_init cX6_init 3 none 1 23 1 N [.ref b, .int (nI N), .int v] sh (nf sh b (.inr (6, [some (some (L, L))])) [.inl (0, N)]) G0 (fun q G' => q = none ∧ G' = gf (gu (gz G0 L 0) b 0 1) L N v) := by
  subst hL
  have hbL := (List.getElem?_eq_some_iff.mp hb).1
  refine CN_of (by decide) (Nat.le_of_ble_eq_true rfl) rfl ?_
  intro p e s m args below meth c D tA ad A C hr hin
  show aw p l e { frames := 1, cells := 1, slots := N, locals := 23 } s m args below meth c 3 D tA A (MQ below (QN D tA ad A sh (nf sh b (.inr (6, [some (some (sh.length, sh.length))])) [.inl (0, N)]) (fun q G' => q = none ∧ G' = gf (gu (gz G0 sh.length 0) b 0 1) sh.length N v)) args s 1 N A) 0 0 ad 0 [some (.ref b), some (.int (nI N)), some (.int v)] [] sh G0
  refine aw_aloadn C dX6_init_0 rfl ?_
  refine aw_objInit C dX6_init_1 mM_X6_3 (Nat.le_of_ble_eq_true rfl) (Nat.le_of_ble_eq_true rfl) ?_
  refine aw_aloadn C dX6_init_4 rfl ?_
  refine aw_iconst (v := 0) C dX6_init_5 (by decide) ?_
  refine aw_iloadn C dX6_init_6 rfl ?_
  refine aw_mmax C dX6_init_7 mM_X6_9 (Nat.le_of_ble_eq_true rfl) (Nat.le_of_ble_eq_true rfl) (Nat.zero_le _) (Nat.zero_le _) ?_
  refine aw_newarr (t := 0) (N := N) (a0 := (N, .inl (fun _ => 0))) C (by decide) dX6_init_10 rfl mA_int (fun _ => rfl) (fun _ => rfl) ?_ ?_ (by omega) hwf ⟨hbL, trivial⟩ ⟨hbL, trivial⟩ (Nat.le_refl _) (by simp) (fun ad1 hE hwf1 => ?_)
  · unfold mx
    split
    · rfl
    · rename_i h
      have h1 := nI_toInt (n := N) (by omega)
      rw [Int32.lt_iff_toInt_lt, int32_0, h1] at h
      have : N = 0 := by omega
      subst this; rfl
  · show N * 4 ≤ 536870912
    omega
  · have hb1 : (sh ++ [(.inl (0, N) : shE)])[b]? = some (.inr (6, [some none])) := by rw [List.getElem?_append_left hbL]; exact hb
    refine aw_putRN (r := sh.length) (q := sh.length) C dX6_init_12 kcX6 hb1 0 (by decide) (by decide) mF_X6_15 (Or.inr ⟨rfl, hin, rfl⟩) ⟨rfl, rfl⟩ hwf1 (by simp) (by simp) (fun hwf2 => ?_)
    have eS : (sh ++ [(.inl (0, N) : shE)]).set b (.inr (6, [some none].set 0 (some (some (sh.length, sh.length))))) = nf sh b (.inr (6, [some (some (sh.length, sh.length))])) [.inl (0, N)] := by
      rw [List.set_append_left _ _ hbL]; rfl
    rw [eS]
    refine aw_aloadn C dX6_init_15 rfl ?_
    refine aw_getR (r := sh.length) C dX6_init_16 kcX6 (nf_b hbL) 0 (by decide) rfl mF_X6_15 ?_
    refine aw_iloadn C dX6_init_19 rfl ?_
    refine aw_callSJ C dX6_init_20 (t_fill (N := N) (nf_t (i := 0) rfl) (by omega) v _) mM_X6_21 bJ7_fill_53178 rfl ⟨Nat.le_of_ble_eq_true rfl, Nat.le_of_ble_eq_true rfl, Nat.le_refl _, by simp⟩ [] rfl (Nat.le_of_ble_eq_true rfl) (fun r Gx hq => ?_)
    obtain ⟨rfl, rfl⟩ := hq
    have h9 := aw_nreturn (k := 1) (n := N) (sh0 := sh) (ad0 := ad) (lv := [some (.ref b), some (.int (nI N)), some (.int v)]) (K := fun q G' => q = none ∧ G' = gf (gu (gz G0 sh.length 0) b 0 1) sh.length N v) (below := below) (l := l) (e := e) (R := { frames := 1, cells := 1, slots := N, locals := 23 }) (ad := ad1) (G := gf (gu (gz G0 sh.length 0) b 0 1) sh.length N v) (sh := nf sh b (.inr (6, [some (some (sh.length, sh.length))])) [.inl (0, N)]) C hr dX6_init_23 hE ⟨rfl, rfl⟩
    have e1 : 0 + N = N := by omega
    rw [e1]
    exact h9
