/-! MORE MOVES of a frame that goes on -/
theorem mu_eq {z z' : Zt} (h0 : z' 0 0 = z 0 0) (h21 : z' 21 = z 21) : mu z' = mu z := by unfold mu; rw [h0, h21]
theorem eW_z {N B : Nat} {z z' : Zt} {G : Gt} {Rr : Gt → Prop} (hm : mu z' = mu z) (h : eW N B z' G Rr) : eW N B z G Rr := by
  obtain ⟨z1, G1, t, a, b, c, d, e⟩ := h
  exact ⟨z1, G1, t, a, b, c, d, by omega⟩
/-- the world changes -/
theorem st_w {N B : Nat} {z : Zt} {G G' : Gt} {x x' : Nat → Int32} {sp fp u k e : Nat} (h : st N B z G x sp fp u k e) (ha : agr z G G') (hs : G' 84 14 = G' 46 51 ∧ bz (G' 46 51) ∧ G' 84 19 = G' 46 62 ∧ G' 84 12 = 0) (h54 : ∀ l, l < 6 → ¬ G 54 l = -1 → ¬ G' 54 l = -1) (hU : qU N z G') (hS' : (∀ o, o < 4 → x' o = x o) ∨ qS z G' x') : st N B z G' x' sp fp u k e := by
  obtain ⟨⟨hS, hm, h6, h12, hFr⟩, hu, hn, hd, hk, he, h47, h13⟩ := h
  subst hu
  obtain ⟨s1, s2, s3, s4⟩ := hs
  have f1 := t_gen (G' := G') hS h6 hn ha (Nat.le_refl _) (Nat.le_refl _) (Or.inl hd) ⟨s1, s2⟩ s3 h54 hU hS'
  exact ⟨⟨f1.1, hm, h6, s4, hFr⟩, rfl, hn, hd, hk, he, by rw [ha 47 _ (by unfold fr; omega)]; exact h47, by rw [ha 13 _ (by unfold fr; omega)]; exact h13⟩
/-- a cell is bound -/
theorem qN_bn {z : Zt} {G : Gt} {s j : Nat} {v : Int32} (hN : qN z G) (hs : s < z 0 2) (hj : j < 8) (hv : vV z v) : qN z (gu (gu G 133 (8 * z 13 s + j) v) 72 (8 * s + j) v) := by
  obtain ⟨q1, q2⟩ := hN
  have inj : ∀ a, a < z 0 2 → ¬ a = s → ¬ z 13 a = z 13 s := by
    intro a ha hne
    rcases Nat.lt_trichotomy a s with c | c | c
    · have := q1 a s c hs; omega
    · exact absurd c hne
    · have := q1 s a c ha; omega
  refine ⟨q1, fun a ha => ?_⟩
  obtain ⟨w1, w2, w3, w4⟩ := q2 a ha
  refine ⟨w1, w2, w3, fun k hk => ?_⟩
  by_cases c : a = s ∧ k = j
  · obtain ⟨rfl, rfl⟩ := c
    right
    rw [gu_kk, gu_oo _ (by decide), gu_kk]
    exact ⟨rfl, hv⟩
  · have n1 : ¬ 8 * a + k = 8 * s + j := by omega
    have n2 : ¬ 8 * z 13 a + k = 8 * z 13 s + j := by
      intro e
      by_cases ea : a = s
      · subst ea; omega
      · have := inj a ha ea; omega
    rw [gu_ko _ n1, gu_oo _ (by decide), gu_oo _ (by decide), gu_ko _ n2]
    exact w4 k hk
theorem st_bn {N B : Nat} {z : Zt} {G : Gt} {x : Nat → Int32} {sp fp u k e s j : Nat} {v : Int32} (h : st N B z G x sp fp u k e) (hs : s < z 0 2) (hj : j < 8) (hv : vV z v) : st N B z (gu (gu G 133 (8 * z 13 s + j) v) 72 (8 * s + j) v) x sp fp u k e := by
  obtain ⟨⟨⟨hP, hA, hB, hC, hD, hE, hF, hG, hH, hI, hJ, hK, hL, hM, hN, hO, hPg, hQ, hR, hS, hT, hU⟩, hm, h6, h12, hFr⟩, hu, hn, hd, hk, he, h47, h13⟩ := h
  have hN' := qN_bn hN hs hj hv
  have hX : eX N z G z (gu (gu G 133 (8 * z 13 s + j) v) 72 (8 * s + j) v) := ⟨⟨Nat.le_refl _, Nat.le_refl _, Nat.le_refl _, Nat.le_refl _, Nat.le_refl _⟩, fun _ _ => ⟨rfl, rfl, rfl, rfl, rfl⟩, fun _ _ _ => rfl, fun _ _ h0 => ⟨h0, rfl⟩, fun _ _ => rfl, fun _ _ => ⟨rfl, rfl, rfl, rfl, rfl⟩, fun _ _ => rfl, fun _ _ h => h⟩
  have hf := fX_of hA hC (by omega)
  have hH' : qH z (gu (gu G 133 (8 * z 13 s + j) v) 72 (8 * s + j) v) := fun i hi h1 h2 => dV_ext hX hf hi (by have := hQ.1; have := hQ.2.2.2.1; omega) rfl rfl rfl rfl rfl rfl rfl rfl rfl rfl rfl rfl (hH i hi h1 h2)
  have hS' : qS z (gu (gu G 133 (8 * z 13 s + j) v) 72 (8 * s + j) v) x := by
    obtain ⟨f', hf'⟩ := hS
    refine ⟨f', fun o ho => ?_⟩
    exact oK_ext (N := N) (z := z) (G := G) (G' := gu (gu G 133 (8 * z 13 s + j) v) 72 (8 * s + j) v) (z' := z) (Nat.le_refl _) hf.1 (fun _ _ => rfl) (fun _ _ => ⟨rfl, rfl⟩) f' (fun q _ q2 _ _ => ⟨q2, rfl, rfl, rfl⟩) _ _ (hf' o ho)
  exact ⟨⟨⟨hP, hA, hB, hC, hD, hE, hF, hG, hH', hI, hJ, hK, hL, hM, hN', hO, hPg, hQ, hR, hS', hT, hU⟩, hm, h6, h12, hFr⟩, hu, hn, hd, hk, he, h47, h13⟩
/-- a scope is opened, in the class alone, or in both -/
def zS1 (z : Zt) : Zt := zu z 0 3 (z 0 3 + 1)
def zSc (z : Zt) : Zt := zu (zu (zu z 0 2 (z 0 2 + 1)) 0 3 (z 0 3 + 1)) 13 (z 0 2) (z 0 3)
theorem st_s1 {N B : Nat} {z : Zt} {G : Gt} {x : Nat → Int32} {sp fp u k e : Nat} {o : Int32} (h : st N B z G x (sp + 1) fp u k e) : st N B (zS1 z) (oOp (z 0 3) o G) x sp fp u k e := by
  obtain ⟨⟨⟨hP, hA, hB, hC, hD, hE, hF, hG, hH, hI, hJ, hK, hL, hM, hN, hO, hPg, hQ, hR, hS, hT, hU⟩, hm, h6, h12, hFr⟩, hu, hn, hd, hk, he, h47, h13⟩ := h
  have gl : ∀ c, ¬ c = 133 → ¬ c = 131 → ¬ c = 129 → (oOp (z 0 3) o G) c = G c := by
    intro c h1 h2 h3; funext j; simp [oOp, gu, h1, h2, h3]
  have hX : eX N z G (zS1 z) (oOp (z 0 3) o G) := ⟨⟨Nat.le_refl _, Nat.le_refl _, Nat.le_refl _, Nat.le_refl _, Nat.le_refl _⟩, fun _ _ => ⟨rfl, rfl, rfl, rfl, rfl⟩, fun _ _ _ => rfl, fun _ _ h0 => ⟨h0, rfl⟩, fun _ _ => rfl, fun _ _ => ⟨rfl, rfl, rfl, rfl, rfl⟩, fun _ _ => rfl, fun _ _ h => h⟩
  have hf := fX_of hA hC (by omega)
  obtain ⟨r1, r2, r3, r4⟩ := hR
  have hH' : qH (zS1 z) (oOp (z 0 3) o G) := fun i hi h1 h2 => dV_ext hX hf hi (by have := hQ.1; have := hQ.2.2.2.1; omega) rfl rfl rfl rfl rfl rfl rfl rfl rfl rfl rfl rfl (hH i hi h1 h2)
  have hS' : qS (zS1 z) (oOp (z 0 3) o G) x := by
    obtain ⟨f', hf'⟩ := hS
    refine ⟨f', fun o ho => ?_⟩
    exact oK_ext (N := N) (z := z) (G := G) (G' := oOp (z 0 3) _ G) (z' := zS1 z) (Nat.le_refl _) hf.1 (fun _ _ => rfl) (fun _ _ => ⟨rfl, rfl⟩) f' (fun q _ q2 _ _ => ⟨q2, rfl, rfl, rfl⟩) _ _ (hf' o ho)
  have hN' : qN (zS1 z) (oOp (z 0 3) o G) := by
    obtain ⟨q1, q2⟩ := hN
    refine ⟨q1, fun a ha => ?_⟩
    obtain ⟨w1, w2, w3, w4⟩ := q2 a ha
    refine ⟨?_, w2, ?_, fun k' hk' => ?_⟩
    · show z 13 a < z 0 3 + 1
      omega
    · show ((oOp (z 0 3) o G) 71 a = -1 ∧ (oOp (z 0 3) o G) 131 (z 13 a) = -1) ∨ ∃ o', o' < a ∧ (oOp (z 0 3) o G) 71 a = nI o' ∧ (oOp (z 0 3) o G) 131 (z 13 a) = nI (z 13 o')
      have e1 : (oOp (z 0 3) o G) 131 (z 13 a) = G 131 (z 13 a) := by
        have : ¬ z 13 a = z 0 3 := by omega
        simp [oOp, gu, this]
      rw [e1]
      exact w3
    · show ((oOp (z 0 3) o G) 72 (8 * a + k') = -100000 ∧ (oOp (z 0 3) o G) 133 (8 * z 13 a + k') = 49999) ∨ ((oOp (z 0 3) o G) 72 (8 * a + k') = (oOp (z 0 3) o G) 133 (8 * z 13 a + k') ∧ vV z ((oOp (z 0 3) o G) 72 (8 * a + k')))
      have e1 : (oOp (z 0 3) o G) 133 (8 * z 13 a + k') = G 133 (8 * z 13 a + k') := by
        unfold oOp
        rw [if_pos rfl, if_neg (by omega)]
      rw [e1]
      exact w4 k' hk'
  have hQ' : qQ B (zS1 z) (oOp (z 0 3) o G) := by
    obtain ⟨b1, b2, b3, b4, b5, b6, b7, b8, b9, b10, b11, b12, b13, b14, b15, b16, b17, b18, b19, b20, b21, b22, b23, b24, b25⟩ := hQ
    refine ⟨b1, b2, b3, b4, b5, b6, b7, b8, b9, b10, b11, b12, b13, b14, b15, b16, b17, b18, ?_, b20, b21, b22, b23, b24, ?_⟩
    · show (oOp (z 0 3) o G) 129 2 = nI (z 0 3 + 1)
      simp [oOp, gu]
    · show z 0 2 ≤ z 0 3 + 1
      omega
  exact ⟨⟨⟨hP, hA, hB, hC, hD, hE, hF, hG, hH', hI, hJ, hK, hL, hM, hN', hO, hPg, hQ', ⟨by show z 0 3 + 1 + sm (z 19) (z 0 0) + sp ≤ 1 + z 0 0; omega, r2, r3, r4⟩, hS', hT, hU⟩, hm, h6, h12, hFr⟩, hu, hn, hd, hk, he, h47, h13⟩
theorem zSc_13 {z : Zt} {s : Nat} (h : s < z 0 2) : (zSc z) 13 s = z 13 s := by
  have : ¬ s = z 0 2 := by omega
  simp [zSc, zu, this]
theorem zSc_n {z : Zt} : (zSc z) 13 (z 0 2) = z 0 3 := by simp [zSc, zu]
theorem st_sc {N B : Nat} {z : Zt} {G : Gt} {x : Nat → Int32} {sp fp u k e : Nat} {oc or' : Int32} (h : st N B z G x (sp + 1) fp u k e) (ho : (oc = -1 ∧ or' = -1) ∨ ∃ o, o < z 0 2 ∧ or' = nI o ∧ oc = nI (z 13 o)) : st N B (zSc z) (oOp (z 0 3) oc (oOr (z 0 2) or' G)) x sp fp u k e := by
  obtain ⟨⟨⟨hP, hA, hB, hC, hD, hE, hF, hG, hH, hI, hJ, hK, hL, hM, hN, hO, hPg, hQ, hR, hS, hT, hU⟩, hm, h6, h12, hFr⟩, hu, hn, hd, hk, he, h47, h13⟩ := h
  have hX : eX N z G (zSc z) (oOp (z 0 3) oc (oOr (z 0 2) or' G)) := ⟨⟨Nat.le_refl _, Nat.le_refl _, Nat.le_refl _, Nat.le_succ _, Nat.le_refl _⟩, fun _ _ => ⟨rfl, rfl, rfl, rfl, rfl⟩, fun _ _ _ => rfl, fun _ _ h0 => ⟨h0, rfl⟩, fun _ hs => zSc_13 hs, fun _ _ => ⟨rfl, rfl, rfl, rfl, rfl⟩, fun _ _ => rfl, fun _ _ h => h⟩
  have hf := fX_of hA hC (by omega)
  obtain ⟨r1, r2, r3, r4⟩ := hR
  obtain ⟨b1, b2, b3, b4, b5, b6, b7, b8, b9, b10, b11, b12, b13, b14, b15, b16, b17, b18, b19, b20, b21, b22, b23, b24, b25⟩ := hQ
  have hH' : qH (zSc z) (oOp (z 0 3) oc (oOr (z 0 2) or' G)) := fun i hi h1 h2 => dV_ext hX hf hi (by omega) rfl rfl rfl rfl rfl rfl rfl rfl rfl rfl rfl rfl (hH i hi h1 h2)
  have hS' : qS (zSc z) (oOp (z 0 3) oc (oOr (z 0 2) or' G)) x := by
    obtain ⟨f', hf'⟩ := hS
    refine ⟨f', fun o ho => ?_⟩
    exact oK_ext (N := N) (z := z) (G := G) (G' := oOp (z 0 3) oc (oOr (z 0 2) or' G)) (z' := zSc z) (Nat.le_refl _) hf.1 (fun _ _ => rfl) (fun _ _ => ⟨rfl, rfl⟩) f' (fun q _ q2 _ _ => ⟨q2, rfl, rfl, rfl⟩) _ _ (hf' o ho)
  have hB' : qB (zSc z) (oOp (z 0 3) oc (oOr (z 0 2) or' G)) := by
    intro i hi
    obtain ⟨c1, c2⟩ := hB i hi
    refine ⟨?_, Nat.lt_succ_of_lt c2⟩
    show G 112 i = nI ((zSc z) 13 (z 5 i))
    rw [zSc_13 c2]; exact c1
  have hN' : qN (zSc z) (oOp (z 0 3) oc (oOr (z 0 2) or' G)) := by
    obtain ⟨q1, q2⟩ := hN
    refine ⟨fun a b hab hb => ?_, fun a ha => ?_⟩
    · have hb' : b < z 0 2 + 1 := hb
      by_cases eb : b = z 0 2
      · subst eb
        rw [zSc_n, zSc_13 hab]
        exact (q2 a hab).1
      · rw [zSc_13 (show b < z 0 2 by omega), zSc_13 (show a < z 0 2 by omega)]
        exact q1 a b hab (by omega)
    · have ha' : a < z 0 2 + 1 := ha
      have f71 : ∀ b, (oOp (z 0 3) oc (oOr (z 0 2) or' G)) 71 b = if b = z 0 2 then or' else G 71 b := by
        intro b; simp [oOp, oOr, gu]
      have f131 : ∀ b, (oOp (z 0 3) oc (oOr (z 0 2) or' G)) 131 b = if b = z 0 3 then oc else G 131 b := by
        intro b; simp [oOp, oOr, gu]
      have f72 : ∀ b, (oOp (z 0 3) oc (oOr (z 0 2) or' G)) 72 b = if 8 * z 0 2 ≤ b ∧ b < 8 * z 0 2 + 8 then -100000 else G 72 b := by
        intro b; simp [oOp, oOr, gu]
      have f133 : ∀ b, (oOp (z 0 3) oc (oOr (z 0 2) or' G)) 133 b = if 8 * z 0 3 ≤ b ∧ b < 8 * z 0 3 + 8 then 49999 else G 133 b := by
        intro b; simp [oOp, oOr, gu]
      by_cases ea : a = z 0 2
      · subst ea
        rw [zSc_n]
        refine ⟨Nat.lt_succ_self _, b25, ?_, fun k' hk' => ?_⟩
        · rw [f71, f131, if_pos rfl, if_pos rfl]
          rcases ho with ⟨o1, o2⟩ | ⟨o, o1, o2, o3⟩
          · exact Or.inl ⟨o2, o1⟩
          · exact Or.inr ⟨o, o1, o2, by rw [zSc_13 o1]; exact o3⟩
        · left
          rw [f72, f133, if_pos (by omega), if_pos (by omega)]
          exact ⟨rfl, rfl⟩
      · have ha2 : a < z 0 2 := by omega
        obtain ⟨w1, w2, w3, w4⟩ := q2 a ha2
        rw [zSc_13 ha2]
        refine ⟨Nat.lt_succ_of_lt w1, w2, ?_, fun k' hk' => ?_⟩
        · rw [f71, f131, if_neg ea, if_neg (by omega)]
          rcases w3 with w | ⟨o, o1, o2, o3⟩
          · exact Or.inl w
          · exact Or.inr ⟨o, o1, o2, by rw [zSc_13 (by omega)]; exact o3⟩
        · rw [f72, f133, if_neg (by omega), if_neg (by omega)]
          exact w4 k' hk'
  have hQ' : qQ B (zSc z) (oOp (z 0 3) oc (oOr (z 0 2) or' G)) := by
    refine ⟨b1, b2, b3, b4, b5, b6, b7, b8, b9, b10, b11, b12, b13, b14, b15, b16, b17, ?_, ?_, b20, b21, b22, b23, b24, ?_⟩
    · show (oOp (z 0 3) oc (oOr (z 0 2) or' G)) 46 29 = nI (z 0 2 + 1)
      simp [oOp, oOr, gu]
    · show (oOp (z 0 3) oc (oOr (z 0 2) or' G)) 129 2 = nI (z 0 3 + 1)
      simp [oOp, gu]
    · show z 0 2 + 1 ≤ z 0 3 + 1
      omega
  have hO' : qO (zSc z) (oOp (z 0 3) oc (oOr (z 0 2) or' G)) := hO
  exact ⟨⟨⟨hP, hA, hB', hC, hD, hE, hF, hG, hH', hI, hJ, hK, hL, hM, hN', hO', hPg, hQ', ⟨by show z 0 3 + 1 + sm (z 19) (z 0 0) + sp ≤ 1 + z 0 0; omega, r2, r3, r4⟩, hS', hT, hU⟩, hm, h6, h12, hFr⟩, hu, hn, hd, hk, he, h47, h13⟩
theorem mxw_op {Gc Gr : Gt} {S : Nat} {o : Int32} : mxw (oOp S o Gc) Gr = oOp S o (mxw Gc Gr) := by
  funext k j
  unfold oOp mxw
  by_cases e : k = 133
  · subst e; rfl
  · simp only [e, if_false]
    unfold gu
    by_cases e2 : k = 131
    · subst e2; rfl
    · by_cases e3 : k = 129
      · subst e3; rfl
      · simp only [e2, e3, if_false]
theorem mxw_or {Gc Gr : Gt} {s : Nat} {o : Int32} : mxw Gc (oOr s o Gr) = oOr s o (mxw Gc Gr) := by
  funext k j
  unfold oOr mxw
  by_cases e : k = 72
  · subst e; rfl
  · simp only [e, if_false]
    unfold gu
    by_cases e2 : k = 46
    · subst e2; rfl
    · by_cases e3 : k = 71
      · subst e3; rfl
      · simp only [e2, e3, if_false]
/-- a function, a generator is made -/
def zFn (z : Zt) (u : Nat) : Zt := zu (zu z 0 4 (z 0 4 + 1)) 14 (z 0 4) u
def oFn (j u m : Nat) (s : Int32) (G : Gt) : Gt := gu (gu (gu (gu (gu G 136 j (nI u)) 134 5 (nI (j + 1))) 73 j (nI m)) 74 j s) 46 32 (nI (j + 1))
theorem st_fn {N B : Nat} {z : Zt} {G : Gt} {x : Nat → Int32} {sp fp u e : Nat} (h : st N B z G x sp (fp + 1) u 16 e) : st N B (zFn z u) (oFn (z 0 4) u (z 1 u) (nI (z 5 u)) G) x sp fp u 16 e := by
  obtain ⟨⟨⟨hP, hA, hB, hC, hD, hE, hF, hG, hH, hI, hJ, hK, hL, hM, hN, hO, hPg, hQ, hR, hS, hT, hU⟩, hm, h6, h12, hFr⟩, hu, hn, hd, hk, he, h47, h13⟩ := h
  have hX : eX N z G (zFn z u) (oFn (z 0 4) u (z 1 u) (nI (z 5 u)) G) := ⟨⟨Nat.le_refl _, Nat.le_succ _, Nat.le_refl _, Nat.le_refl _, Nat.le_refl _⟩, fun _ _ => ⟨rfl, rfl, rfl, rfl, rfl⟩, fun _ _ _ => rfl, fun _ _ h0 => ⟨h0, rfl⟩, fun _ hs => rfl, fun _ _ => ⟨rfl, rfl, rfl, rfl, rfl⟩, fun _ _ => rfl, fun _ _ h => h⟩
  have hf := fX_of hA hC (by omega)
  obtain ⟨r1, r2, r3, r4⟩ := hR
  obtain ⟨b1, b2, b3, b4, b5, b6, b7, b8, b9, b10, b11, b12, b13, b14, b15, b16, b17, b18, b19, b20, b21, b22, b23, b24, b25⟩ := hQ
  have hvv : ∀ y, vV z y → vV (zFn z u) y := fun y hy => vV_ext hX hy
  have hH' : qH (zFn z u) (oFn (z 0 4) u (z 1 u) (nI (z 5 u)) G) := fun i hi h1 h2 => dV_ext hX hf hi (by omega) rfl rfl rfl rfl rfl rfl rfl rfl rfl rfl rfl rfl (hH i hi h1 h2)
  have hS' : qS (zFn z u) (oFn (z 0 4) u (z 1 u) (nI (z 5 u)) G) x := by
    obtain ⟨f', hf'⟩ := hS
    refine ⟨f', fun o ho => ?_⟩
    exact oK_ext (N := N) (z := z) (G := G) (G' := oFn (z 0 4) u (z 1 u) (nI (z 5 u)) G) (z' := zFn z u) (Nat.le_refl _) hf.1 (fun _ _ => rfl) (fun _ _ => ⟨rfl, rfl⟩) f' (fun q _ q2 _ _ => ⟨q2, rfl, rfl, rfl⟩) _ _ (hf' o ho)
  have hN' : qN (zFn z u) (oFn (z 0 4) u (z 1 u) (nI (z 5 u)) G) := by
    obtain ⟨q1, q2⟩ := hN
    refine ⟨q1, fun a ha => ?_⟩
    obtain ⟨w1, w2, w3, w4⟩ := q2 a ha
    exact ⟨w1, w2, w3, fun k' hk' => (w4 k' hk').imp id (fun w => ⟨w.1, hvv _ w.2⟩)⟩
  have hO' : qO (zFn z u) (oFn (z 0 4) u (z 1 u) (nI (z 5 u)) G) := by
    intro j hj
    have hj' : j < z 0 4 + 1 := hj
    by_cases c : j = z 0 4
    · subst c
      have e14 : (zFn z u) 14 (z 0 4) = u := by simp [zFn, zu]
      rw [e14]
      refine ⟨hn, ?_, ?_, ?_, ?_⟩
      · simp [oFn, gu]
      · show (oFn (z 0 4) u (z 1 u) (nI (z 5 u)) G) 73 (z 0 4) = nI (z 1 u)
        simp [oFn, gu]
      · show (oFn (z 0 4) u (z 1 u) (nI (z 5 u)) G) 74 (z 0 4) = nI (z 5 u)
        simp [oFn, gu]
      · exact h47
    · have e14 : (zFn z u) 14 j = z 14 j := by simp [zFn, zu, c]
      have e136 : (oFn (z 0 4) u (z 1 u) (nI (z 5 u)) G) 136 j = G 136 j := by simp [oFn, gu, c]
      have e73 : (oFn (z 0 4) u (z 1 u) (nI (z 5 u)) G) 73 j = G 73 j := by simp [oFn, gu, c]
      have e74 : (oFn (z 0 4) u (z 1 u) (nI (z 5 u)) G) 74 j = G 74 j := by simp [oFn, gu, c]
      rw [e14, e136, e73, e74]
      exact hO j (by omega)
  have hQ' : qQ B (zFn z u) (oFn (z 0 4) u (z 1 u) (nI (z 5 u)) G) := by
    refine ⟨b1, b2, b3, b4, b5, b6, b7, b8, b9, b10, b11, b12, b13, b14, b15, b16, b17, b18, b19, ?_, ?_, b22, b23, b24, b25⟩
    · show (oFn (z 0 4) u (z 1 u) (nI (z 5 u)) G) 134 5 = nI (z 0 4 + 1)
      simp [oFn, gu]
    · show (oFn (z 0 4) u (z 1 u) (nI (z 5 u)) G) 46 32 = nI (z 0 4 + 1)
      simp [oFn, gu]
  have hU' : qU N (zFn z u) (oFn (z 0 4) u (z 1 u) (nI (z 5 u)) G) := by
    obtain ⟨u1, u2, u3, u4, u5, u6⟩ := hU
    exact ⟨u1, u2, u3, u4, u5, fun k hk => ⟨(u6 k hk).1, hvv _ (u6 k hk).2⟩⟩
  exact ⟨⟨⟨hP, hA, hB, hC, hD, hE, hF, hG, hH', hI, hJ, hK, ⟨hL.1, by obtain ⟨d, d1, d2, d3, d4, d5⟩ := hL.2; exact ⟨d, d1, d2, d3, d4, cH_ext hX d5⟩⟩, ⟨fun i hi h => ⟨(hM.1 i hi h).1, cH_ext hX (hM.1 i hi h).2⟩, hM.2⟩, hN', hO', hPg, hQ', ⟨r1, r2, by show z 0 4 + 1 + z 0 5 + fp ≤ z 0 0; omega, r4⟩, hS', hT, hU'⟩, hm, h6, h12, hFr⟩, hu, hn, hd, hk, he, h47, h13⟩
def zGn (z : Zt) (u : Nat) : Zt := zu (zu (zu z 0 5 (z 0 5 + 1)) 15 (z 0 5) u) 16 (z 0 5) 0
def oGn (j u m : Nat) (s : Int32) (G : Gt) : Gt := gu (gu (gu (gu (gu (gu (gu G 138 j (nI u)) 140 j 0) 134 6 (nI (j + 1))) 75 j (nI m)) 76 j s) 77 j 0) 46 35 (nI (j + 1))
theorem st_gn {N B : Nat} {z : Zt} {G : Gt} {x : Nat → Int32} {sp fp u e : Nat} (h : st N B z G x sp (fp + 1) u 23 e) : st N B (zGn z u) (oGn (z 0 5) u (z 1 u) (nI (z 5 u)) G) x sp fp u 23 e := by
  obtain ⟨⟨⟨hP, hA, hB, hC, hD, hE, hF, hG, hH, hI, hJ, hK, hL, hM, hN, hO, hPg, hQ, hR, hS, hT, hU⟩, hm, h6, h12, hFr⟩, hu, hn, hd, hk, he, h47, h13⟩ := h
  have hX : eX N z G (zGn z u) (oGn (z 0 5) u (z 1 u) (nI (z 5 u)) G) := ⟨⟨Nat.le_refl _, Nat.le_refl _, Nat.le_succ _, Nat.le_refl _, Nat.le_refl _⟩, fun _ _ => ⟨rfl, rfl, rfl, rfl, rfl⟩, fun _ _ _ => rfl, fun _ _ h0 => ⟨h0, rfl⟩, fun _ hs => rfl, fun _ _ => ⟨rfl, rfl, rfl, rfl, rfl⟩, fun _ _ => rfl, fun _ _ h => h⟩
  have hf := fX_of hA hC (by omega)
  obtain ⟨r1, r2, r3, r4⟩ := hR
  obtain ⟨b1, b2, b3, b4, b5, b6, b7, b8, b9, b10, b11, b12, b13, b14, b15, b16, b17, b18, b19, b20, b21, b22, b23, b24, b25⟩ := hQ
  have hvv : ∀ y, vV z y → vV (zGn z u) y := fun y hy => vV_ext hX hy
  have e16 : ∀ j, ¬ j = z 0 5 → (zGn z u) 16 j = z 16 j := by intro j hj; simp [zGn, zu, hj]
  have hrst : ∀ j, j < z 0 8 → ¬ z 9 j = 0 → (rst (zGn z u) j ↔ rst z j) := by
    intro j hj hl
    unfold rst
    show (4 ≤ z 2 j ∧ (zGn z u) 16 (z 2 j - 4) = 1) ↔ _
    by_cases c : 4 ≤ z 2 j
    · rw [e16 _ (by have := ((hI j hj hl).2.2.2.2 c).1; omega)]
    · exact ⟨fun q => absurd q.1 c, fun q => absurd q.1 c⟩
  have hH' : qH (zGn z u) (oGn (z 0 5) u (z 1 u) (nI (z 5 u)) G) := fun i hi h1 h2 => dV_ext hX hf hi (by omega) rfl rfl rfl rfl rfl rfl rfl rfl rfl rfl rfl rfl (hH i hi h1 h2)
  have hS' : qS (zGn z u) (oGn (z 0 5) u (z 1 u) (nI (z 5 u)) G) x := by
    obtain ⟨f', hf'⟩ := hS
    refine ⟨f', fun o ho => ?_⟩
    exact oK_ext (N := N) (z := z) (G := G) (G' := oGn (z 0 5) u (z 1 u) (nI (z 5 u)) G) (z' := zGn z u) (Nat.le_refl _) hf.1 (fun _ _ => rfl) (fun _ _ => ⟨rfl, rfl⟩) f' (fun q _ q2 _ _ => ⟨q2, rfl, rfl, rfl⟩) _ _ (hf' o ho)
  have hN' : qN (zGn z u) (oGn (z 0 5) u (z 1 u) (nI (z 5 u)) G) := by
    obtain ⟨q1, q2⟩ := hN
    refine ⟨q1, fun a ha => ?_⟩
    obtain ⟨w1, w2, w3, w4⟩ := q2 a ha
    exact ⟨w1, w2, w3, fun k' hk' => (w4 k' hk').imp id (fun w => ⟨w.1, hvv _ w.2⟩)⟩
  have hI' : qI (zGn z u) := by
    intro j hj hl
    obtain ⟨i1, i2, i3, i4, i5⟩ := hI j hj hl
    refine ⟨i1, fun q1 q2 q3 => i2 q1 q2 (fun q => q3 ((hrst j hj hl).mpr q)), i3, i4, fun q => ?_⟩
    obtain ⟨j1, j2, j3⟩ := i5 q
    refine ⟨Nat.lt_succ_of_lt j1, j2, ?_⟩
    rw [e16 _ (by show ¬ z 2 j - 4 = z 0 5; omega)]
    exact j3
  have hPg' : qP (zGn z u) (oGn (z 0 5) u (z 1 u) (nI (z 5 u)) G) := by
    intro j hj
    have hj' : j < z 0 5 + 1 := hj
    by_cases c : j = z 0 5
    · subst c
      have e15 : (zGn z u) 15 (z 0 5) = u := by simp [zGn, zu]
      have e16' : (zGn z u) 16 (z 0 5) = 0 := by simp [zGn, zu]
      rw [e15, e16']
      refine ⟨hn, ?_, ?_, ?_, ?_, by omega, ?_, ?_, fun q => by omega, fun q => by omega⟩
      · simp [oGn, gu]
      · show (oGn (z 0 5) u (z 1 u) (nI (z 5 u)) G) 75 (z 0 5) = nI (z 1 u)
        simp [oGn, gu]
      · show (oGn (z 0 5) u (z 1 u) (nI (z 5 u)) G) 76 (z 0 5) = nI (z 5 u)
        simp [oGn, gu]
      · exact h47
      · simp [oGn, gu]; rfl
      · simp [oGn, gu]; rfl
    · have e15 : (zGn z u) 15 j = z 15 j := by simp [zGn, zu, c]
      have e138 : (oGn (z 0 5) u (z 1 u) (nI (z 5 u)) G) 138 j = G 138 j := by simp [oGn, gu, c]
      have e140 : (oGn (z 0 5) u (z 1 u) (nI (z 5 u)) G) 140 j = G 140 j := by simp [oGn, gu, c]
      have e75 : (oGn (z 0 5) u (z 1 u) (nI (z 5 u)) G) 75 j = G 75 j := by simp [oGn, gu, c]
      have e76 : (oGn (z 0 5) u (z 1 u) (nI (z 5 u)) G) 76 j = G 76 j := by simp [oGn, gu, c]
      have e77 : (oGn (z 0 5) u (z 1 u) (nI (z 5 u)) G) 77 j = G 77 j := by simp [oGn, gu, c]
      rw [e15, e16 j c, e138, e140, e75, e76, e77]
      exact hPg j (by omega)
  have hQ' : qQ B (zGn z u) (oGn (z 0 5) u (z 1 u) (nI (z 5 u)) G) := by
    refine ⟨b1, b2, b3, b4, b5, b6, b7, b8, b9, b10, b11, b12, b13, b14, b15, b16, b17, b18, b19, b20, b21, ?_, ?_, b24, b25⟩
    · show (oGn (z 0 5) u (z 1 u) (nI (z 5 u)) G) 134 6 = nI (z 0 5 + 1)
      simp [oGn, gu]
    · show (oGn (z 0 5) u (z 1 u) (nI (z 5 u)) G) 46 35 = nI (z 0 5 + 1)
      simp [oGn, gu]
  have hU' : qU N (zGn z u) (oGn (z 0 5) u (z 1 u) (nI (z 5 u)) G) := by
    obtain ⟨u1, u2, u3, u4, u5, u6⟩ := hU
    exact ⟨u1, u2, u3, u4, u5, fun k hk => ⟨(u6 k hk).1, hvv _ (u6 k hk).2⟩⟩
  have hL' : qL (zGn z u) (oGn (z 0 5) u (z 1 u) (nI (z 5 u)) G) := by
    refine ⟨fun j hj hl hb hr => hL.1 j hj hl hb (fun q => hr ((hrst j hj hl).mpr q)), ?_⟩
    obtain ⟨d, d1, d2, d3, d4, d5⟩ := hL.2
    exact ⟨d, d1, d2, d3, d4, cH_ext hX d5⟩
  have hT' : qT (zGn z u) (oGn (z 0 5) u (z 1 u) (nI (z 5 u)) G) := by
    refine ⟨fun j hj hl => ?_, fun j hj h2 h3 => ?_⟩
    · obtain ⟨t1, t2⟩ := hT.1 j hj hl
      exact ⟨t1, fun q => ⟨(t2 q).1, fun q3 => (t2 q).2 (fun q4 => q3 ((hrst j hj hl).mpr q4))⟩⟩
    · have h2' : z 9 j = 2 := h2
      have := hT.2 j hj h2 h3
      show ¬ rst (zGn z u) (z 8 j)
      have hr : z 8 j ≤ j := (hC j (by have : j < z 0 0 := hj; omega)).2.2.2.2.1
      rw [hrst _ (by have : j < z 0 0 := hj; omega) (live_root hC hI j j (Nat.le_refl _) (by have : j < z 0 0 := hj; omega) (by omega))]
      exact this
  exact ⟨⟨⟨hP, hA, hB, hC, hD, hE, hF, hG, hH', hI', hJ, hK, hL', ⟨fun i hi h => ⟨(hM.1 i hi h).1, cH_ext hX (hM.1 i hi h).2⟩, hM.2⟩, hN', hO, hPg', hQ', ⟨r1, r2, by show z 0 4 + (z 0 5 + 1) + fp ≤ z 0 0; omega, r4⟩, hS', hT', hU'⟩, hm, h6, h12, hFr⟩, hu, hn, hd, hk, he, h47, h13⟩
