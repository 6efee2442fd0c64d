/-! THE ORDER OF CURSORS -/
def plf (R : Gt) (b k : Nat) : Nat := if R 60 (4 * b + k) = -1 then 99 else (R 60 (4 * b + k)).toNatClampNeg
def vl (pl : Nat → Nat) : Nat → Nat
  | 0 => 0
  | r + 1 => if pl ((163 - r) % 4) = (163 - r) / 4 then 8 * vl pl r + ((163 - r) % 4 + 1) else vl pl r
def c1t (pl : Nat → Nat) (k t : Nat) : Nat := if 4 * pl k + k < t then 1 else 0
def cnt (pl : Nat → Nat) (t : Nat) : Nat := c1t pl 0 t + c1t pl 1 t + c1t pl 2 t + c1t pl 3 t
def pk (pl : Nat → Nat) : Nat → Nat
  | 0 => 0
  | t + 1 => if pl (t % 4) = t / 4 then pk pl t + (t % 4 + 1) * 8 ^ cnt pl t else pk pl t
theorem c1t_s {pl : Nat → Nat} {k t : Nat} : c1t pl k (t + 1) = c1t pl k t + (if 4 * pl k + k = t then 1 else 0) := by
  unfold c1t
  by_cases a : 4 * pl k + k < t
  · rw [if_pos a, if_pos (by omega), if_neg (by omega)]
  · by_cases c : 4 * pl k + k = t
    · rw [if_neg a, if_pos (by omega), if_pos c]
    · rw [if_neg a, if_neg (by omega), if_neg c]
theorem c1t_le {pl : Nat → Nat} {k t : Nat} : c1t pl k t ≤ 1 := by unfold c1t; split <;> omega
theorem cnt_le {pl : Nat → Nat} {t : Nat} : cnt pl t ≤ 4 := by
  unfold cnt
  have := c1t_le (pl := pl) (k := 0) (t := t)
  have := c1t_le (pl := pl) (k := 1) (t := t)
  have := c1t_le (pl := pl) (k := 2) (t := t)
  have := c1t_le (pl := pl) (k := 3) (t := t)
  omega
theorem cnt_s {pl : Nat → Nat} {t : Nat} : cnt pl (t + 1) = cnt pl t + (if pl (t % 4) = t / 4 then 1 else 0) ∧ (pl (t % 4) = t / 4 → cnt pl t ≤ 3) := by
  have q0 := c1t_s (pl := pl) (k := 0) (t := t)
  have q1 := c1t_s (pl := pl) (k := 1) (t := t)
  have q2 := c1t_s (pl := pl) (k := 2) (t := t)
  have q3 := c1t_s (pl := pl) (k := 3) (t := t)
  have l0 := c1t_le (pl := pl) (k := 0) (t := t + 1)
  have l1 := c1t_le (pl := pl) (k := 1) (t := t + 1)
  have l2 := c1t_le (pl := pl) (k := 2) (t := t + 1)
  have l3 := c1t_le (pl := pl) (k := 3) (t := t + 1)
  have hk : t % 4 = 0 ∨ t % 4 = 1 ∨ t % 4 = 2 ∨ t % 4 = 3 := by omega
  have key : ∀ k, t % 4 = k → (pl k = t / 4 ↔ 4 * pl k + k = t) := fun k h => by omega
  unfold cnt
  rcases hk with h | h | h | h
  · rw [if_neg (by omega)] at q1 q2 q3
    rw [h]
    by_cases c : pl 0 = t / 4
    · rw [if_pos ((key 0 h).mp c)] at q0
      rw [if_pos c]
      exact ⟨by omega, fun _ => by omega⟩
    · rw [if_neg (fun y => c ((key 0 h).mpr y))] at q0
      rw [if_neg c]
      exact ⟨by omega, fun y => absurd y c⟩
  · rw [if_neg (by omega)] at q0 q2 q3
    rw [h]
    by_cases c : pl 1 = t / 4
    · rw [if_pos ((key 1 h).mp c)] at q1
      rw [if_pos c]
      exact ⟨by omega, fun _ => by omega⟩
    · rw [if_neg (fun y => c ((key 1 h).mpr y))] at q1
      rw [if_neg c]
      exact ⟨by omega, fun y => absurd y c⟩
  · rw [if_neg (by omega)] at q0 q1 q3
    rw [h]
    by_cases c : pl 2 = t / 4
    · rw [if_pos ((key 2 h).mp c)] at q2
      rw [if_pos c]
      exact ⟨by omega, fun _ => by omega⟩
    · rw [if_neg (fun y => c ((key 2 h).mpr y))] at q2
      rw [if_neg c]
      exact ⟨by omega, fun y => absurd y c⟩
  · rw [if_neg (by omega)] at q0 q1 q2
    rw [h]
    by_cases c : pl 3 = t / 4
    · rw [if_pos ((key 3 h).mp c)] at q3
      rw [if_pos c]
      exact ⟨by omega, fun _ => by omega⟩
    · rw [if_neg (fun y => c ((key 3 h).mpr y))] at q3
      rw [if_neg c]
      exact ⟨by omega, fun y => absurd y c⟩
theorem cnt_0 {pl : Nat → Nat} : cnt pl 0 = 0 := by
  unfold cnt c1t
  rw [if_neg (by omega), if_neg (by omega), if_neg (by omega), if_neg (by omega)]
theorem pkk_lt {pl : Nat → Nat} : ∀ t, pk pl t < 8 ^ cnt pl t
  | 0 => by rw [cnt_0]; exact Nat.one_pos
  | t + 1 => by
    have ih := pkk_lt (pl := pl) t
    obtain ⟨s1, s2⟩ := cnt_s (pl := pl) (t := t)
    unfold pk
    by_cases c : pl (t % 4) = t / 4
    · rw [if_pos c]
      rw [if_pos c] at s1
      rw [s1, Nat.pow_succ]
      have h4 : t % 4 + 1 ≤ 4 := by omega
      have : (t % 4 + 1) * 8 ^ cnt pl t ≤ 4 * 8 ^ cnt pl t := Nat.mul_le_mul_right _ h4
      omega
    · rw [if_neg c]
      rw [if_neg c, Nat.add_zero] at s1
      rw [s1]; exact ih
theorem vl_pk {pl : Nat → Nat} : ∀ t, t ≤ 164 → vl pl 164 = pk pl t + 8 ^ cnt pl t * vl pl (164 - t)
  | 0, _ => by rw [cnt_0]; show vl pl 164 = 0 + 8 ^ 0 * vl pl 164; omega
  | t + 1, h => by
    have ih := vl_pk (pl := pl) t (by omega)
    obtain ⟨s1, s2⟩ := cnt_s (pl := pl) (t := t)
    rw [ih, s1]
    have e : 164 - t = (164 - (t + 1)) + 1 := by omega
    rw [e]
    conv => lhs; unfold vl
    have e2 : 163 - (164 - (t + 1)) = t := by omega
    rw [e2]
    conv => rhs; unfold pk
    by_cases c : pl (t % 4) = t / 4
    · rw [if_pos c, if_pos c, if_pos c, Nat.pow_succ, Nat.mul_add, Nat.add_assoc]
      congr 1
      rw [Nat.mul_comm (8 ^ cnt pl t) (t % 4 + 1), Nat.add_comm, Nat.mul_assoc]
    · rw [if_neg c, if_neg c, if_neg c]; rfl
theorem vl_dG {pl : Nat → Nat} : ∀ r, r ≤ 164 → dG (4 - cnt pl (164 - r)) (vl pl r)
  | 0, _ => by
    show dG _ 0
    cases (4 - cnt pl (164 - 0)) with
    | zero => rfl
    | succ d => exact Or.inl rfl
  | r + 1, h => by
    have ih := vl_dG (pl := pl) r (by omega)
    have e : 164 - r = (164 - (r + 1)) + 1 := by omega
    obtain ⟨s1, s2⟩ := cnt_s (pl := pl) (t := 164 - (r + 1))
    rw [e, s1] at ih
    have e2 : 163 - r = 164 - (r + 1) := by omega
    unfold vl
    rw [e2]
    by_cases c : pl ((164 - (r + 1)) % 4) = (164 - (r + 1)) / 4
    · rw [if_pos c] at ih
      rw [if_pos c]
      have h3 := s2 c
      have e3 : 4 - cnt pl (164 - (r + 1)) = (4 - (cnt pl (164 - (r + 1)) + 1)) + 1 := by omega
      rw [e3]
      have m4 : (164 - (r + 1)) % 4 < 4 := Nat.mod_lt _ (by decide)
      have d1 : (8 * vl pl r + ((164 - (r + 1)) % 4 + 1)) % 8 = (164 - (r + 1)) % 4 + 1 := by omega
      have d2 : (8 * vl pl r + ((164 - (r + 1)) % 4 + 1)) / 8 = vl pl r := by omega
      refine Or.inr ⟨by rw [d1]; omega, by rw [d1]; omega, ?_⟩
      rw [d2]; exact ih
    · rw [if_neg c, Nat.add_zero] at ih
      rw [if_neg c]; exact ih
theorem dG_lt : ∀ d q, dG d q → q < 8 ^ d
  | 0, q, h => by rw [show q = 0 from h]; exact Nat.one_pos
  | d + 1, q, h => by
    have hp : 0 < 8 ^ d := Nat.pow_pos (by decide)
    rcases h with h | ⟨h1, h2, h3⟩
    · rw [h, Nat.pow_succ]; omega
    · have := dG_lt d _ h3
      rw [Nat.pow_succ]; omega
theorem or_k : ∀ c : Fin 4, ∀ a1 : Fin 32, ∀ a2 : Fin 16, ∀ d : Fin 5, 16 * a1.val + a2.val < 8 ^ c.val → nI (16 * a1.val + a2.val) ||| (nI d.val <<< (nI (3 * c.val) &&& 31)) = nI (16 * a1.val + a2.val + d.val * 8 ^ c.val) := by decide +kernel
theorem or_n' {c a d : Nat} (hc : c ≤ 3) (ha : a < 8 ^ c) (hd : d ≤ 4) : nI a ||| (nI d <<< (nI (3 * c) &&& 31)) = nI (a + d * 8 ^ c) := by
  have ha2 : a < 512 := by
    have : 8 ^ c ≤ 8 ^ 3 := Nat.pow_le_pow_right (by decide) hc
    omega
  have := or_k ⟨c, by omega⟩ ⟨a / 16, by omega⟩ ⟨a % 16, by omega⟩ ⟨d, by omega⟩
  have e : 16 * (a / 16) + a % 16 = a := by omega
  simp only [e] at this
  exact this ha
theorem dq_k : ∀ a : Fin 64, ∀ b : Fin 64, nI (64 * a.val + b.val) / 8 = nI ((64 * a.val + b.val) / 8) ∧ nI (64 * a.val + b.val) - nI (64 * a.val + b.val) / 8 * 8 = nI ((64 * a.val + b.val) % 8) ∧ nI (64 * a.val + b.val) &&& 7 = nI ((64 * a.val + b.val) % 8) ∧ nI (64 * a.val + b.val) >>> (3 &&& 31) = nI ((64 * a.val + b.val) / 8) := by decide +kernel
theorem dq {q : Nat} (h : q < 4096) : nI q / 8 = nI (q / 8) ∧ nI q - nI q / 8 * 8 = nI (q % 8) ∧ nI q &&& 7 = nI (q % 8) ∧ nI q >>> (3 &&& 31) = nI (q / 8) := by
  have := dq_k ⟨q / 64, by omega⟩ ⟨q % 64, by omega⟩
  have e : 64 * (q / 64) + q % 64 = q := by omega
  simp only [e] at this
  exact this
theorem d2_k : ∀ b : Fin 2, ∀ c : Fin 4, nI (2 * c.val + b.val) / 2 = nI c.val ∧ nI (2 * c.val + b.val) - nI (2 * c.val + b.val) / 2 * 2 = nI b.val ∧ nI c.val * 2 + nI b.val = nI (2 * c.val + b.val) ∧ nI (8 * b.val + c.val) / 8 = nI b.val ∧ nI (8 * b.val + c.val) - nI (8 * b.val + c.val) / 8 * 8 = nI c.val ∧ 8 * nI b.val + nI c.val = nI (8 * b.val + c.val) := by decide +kernel
/-- the reference's order -/
theorem r_ord {K : Int32 → Gt → Prop} {C G : Gt} {b l : Nat} {pl : Nat → Nat} (hb : G 46 14 = nI b) (hb2 : b < 2) (hpl : ∀ k, k < 4 → (G 60 (4 * b + k) = -1 ∧ pl k = 99) ∨ (G 60 (4 * b + k) = nI (pl k) ∧ pl k ≤ l)) (hl : l ≤ 40) (h : K (nI (vl pl 164)) (mxw C G)) : w_X11_inOrder K (mxw C G) := by
  have hit : ∀ a k, a ≤ 40 → k < 4 → (G 60 (4 * b + k) = nI a ↔ pl k = a) := by
    intro a k ha hk
    rcases hpl k hk with ⟨q1, q2⟩ | ⟨q1, q2⟩
    · rw [q1]
      exact ⟨fun y => absurd y.symm (nI_neg (by omega)), fun y => by omega⟩
    · rw [q1]; exact nI_eq (by omega) (by omega)
  have ix : ∀ r : Nat, nI r + -1 = if r = 0 then -1 else nI (r - 1) := by
    intro r
    cases r with
    | zero => rfl
    | succ r => rw [if_neg (by omega), pk_m1]; rfl
  -- the inner loop
  have inn : ∀ (r5 : Int32 → Int32 → Gt → Prop) (a : Nat), a ≤ 40 → (r5 (nI (vl pl (164 - 4 * a))) (nI a + -1) (mxw C G)) → ∀ k, k < 4 → w_X11_inOrder_h11 K r5 (k + 2) (nI (vl pl (164 - (4 * a + k + 1)))) (nI a) (nI k) (mxw C G) := by
    intro r5 a ha hr k
    have hend : ∀ (n : Nat) (x1 : Int32), r5 x1 (nI a + -1) (mxw C G) → w_X11_inOrder_h11 K r5 (n + 1) x1 (nI a) (-1) (mxw C G) := by
      intro n x1 hx
      rw [w_X11_inOrder_h11]
      exact pif_p (by decide) hx
    induction k with
    | zero =>
      intro hk
      rw [w_X11_inOrder_h11]
      refine pif_n (nI_n0 (by decide)) ?_
      unfold w_X11_inOrder_j44
      rw [show (mxw C G) 46 14 = nI b from hb, e4, nI_clamp (by omega)]
      refine ⟨vp_n (by omega) (by decide), ?_⟩
      have ev : vl pl (164 - 4 * a) = if pl 0 = a then 8 * vl pl (164 - (4 * a + 0 + 1)) + (0 + 1) else vl pl (164 - (4 * a + 0 + 1)) := by
        have e : 164 - 4 * a = (164 - (4 * a + 0 + 1)) + 1 := by omega
        rw [e]
        conv => lhs; unfold vl
        have e2 : 163 - (164 - (4 * a + 0 + 1)) = 4 * a := by omega
        rw [e2, show 4 * a % 4 = 0 by omega, show 4 * a / 4 = a by omega]
      rw [ev] at hr
      by_cases c : pl 0 = a
      · rw [if_pos c] at hr
        refine pif_p ((hit a 0 ha (by decide)).mpr c) ?_
        rw [ix 0, if_pos rfl]
        refine hend 0 _ ?_
        rw [show (8 : Int32) * nI (vl pl (164 - (4 * a + 0 + 1))) + nI 0 + 1 = nI (8 * vl pl (164 - (4 * a + 0 + 1)) + (0 + 1)) from by
          rw [show (8 : Int32) = nI 8 from rfl, nI_mulx, nI_add, nI_1, Nat.add_assoc]]
        exact hr
      · rw [if_neg c] at hr
        refine pif_n (fun y => c ((hit a 0 ha (by decide)).mp y)) ?_
        rw [ix 0, if_pos rfl]
        exact hend 0 _ hr
    | succ k ih =>
      intro hk
      have hi := ih (by omega)
      rw [w_X11_inOrder_h11]
      refine pif_n (nI_n0 (by omega)) ?_
      unfold w_X11_inOrder_j44
      rw [show (mxw C G) 46 14 = nI b from hb, e4, nI_clamp (by omega)]
      refine ⟨vp_n (by omega) (by decide), ?_⟩
      have ev : vl pl (164 - (4 * a + k + 1)) = if pl (k + 1) = a then 8 * vl pl (164 - (4 * a + (k + 1) + 1)) + (k + 1 + 1) else vl pl (164 - (4 * a + (k + 1) + 1)) := by
        have e : 164 - (4 * a + k + 1) = (164 - (4 * a + (k + 1) + 1)) + 1 := by omega
        rw [e]
        conv => lhs; unfold vl
        have e2 : 163 - (164 - (4 * a + (k + 1) + 1)) = 4 * a + (k + 1) := by omega
        rw [e2, show (4 * a + (k + 1)) % 4 = k + 1 by omega, show (4 * a + (k + 1)) / 4 = a by omega]
      rw [ev] at hi
      by_cases c : pl (k + 1) = a
      · rw [if_pos c] at hi
        refine pif_p ((hit a (k + 1) ha hk).mpr c) ?_
        rw [show (8 : Int32) * nI (vl pl (164 - (4 * a + (k + 1) + 1))) + nI (k + 1) + 1 = nI (8 * vl pl (164 - (4 * a + (k + 1) + 1)) + (k + 1 + 1)) from by
          rw [show (8 : Int32) = nI 8 from rfl, nI_mulx, nI_add, nI_1, Nat.add_assoc], ix, if_neg (by omega)]
        exact hi
      · rw [if_neg c] at hi
        refine pif_n (fun y => c ((hit a (k + 1) ha hk).mp y)) ?_
        rw [ix, if_neg (by omega)]
        exact hi
  have hend5 : ∀ n : Nat, w_X11_inOrder_h5 K (n + 1) (nI (vl pl (164 - 4 * 0))) (-1) (mxw C G) := by
    intro n
    rw [w_X11_inOrder_h5]
    exact pif_p (by decide) h
  -- the outer one
  have out : ∀ a, a ≤ 40 → w_X11_inOrder_h5 K (a + 2) (nI (vl pl (164 - 4 * (a + 1)))) (nI a) (mxw C G) := by
    intro a
    induction a with
    | zero =>
      intro _
      rw [w_X11_inOrder_h5]
      refine pif_n (nI_n0 (by decide)) ⟨5, inn _ 0 (by decide) ?_ 3 (by decide)⟩
      rw [ix 0, if_pos rfl]
      exact hend5 0
    | succ a ih =>
      intro ha
      have hi := ih (by omega)
      rw [w_X11_inOrder_h5]
      refine pif_n (nI_n0 (by omega)) ⟨5, inn _ (a + 1) ha ?_ 3 (by decide)⟩
      rw [ix, if_neg (by omega)]
      exact hi
  exact ⟨42, out 40 (by decide)⟩
/-- the class's -/
theorem vl_z {pl : Nat → Nat} {l : Nat} (hpl : ∀ k, k < 4 → pl k ≤ l ∨ pl k = 99) (hl : l ≤ 40) : ∀ r, r ≤ 164 - 4 * (l + 1) → vl pl r = 0
  | 0, _ => rfl
  | r + 1, h => by
    unfold vl
    have m4 : (163 - r) % 4 < 4 := Nat.mod_lt _ (by decide)
    rw [if_neg (fun q => by rcases hpl _ m4 with y | y <;> omega), vl_z hpl hl r (by omega)]
theorem k_ord {K : Int32 → Gt → Prop} {G R : Gt} {t l : Nat} {pl : Nat → Nat} (ht : tx t) (hG : G t 2 = nI l) (hpl : ∀ k, k < 4 → (G (t + 4) k = -1 ∧ pl k = 99) ∨ (G (t + 4) k = nI (pl k) ∧ pl k ≤ l)) (hl : l ≤ 40) (h : K (nI (vl pl 164)) (mxw G R)) : w_X8_packedOrder t K (mxw G R) := by
  obtain ⟨g1, g2, g3⟩ := tx_f ht
  have hit : ∀ a k, a ≤ 40 → k < 4 → (G (t + 4) k = nI a ↔ pl k = a) := by
    intro a k ha hk
    rcases hpl k hk with ⟨q1, q2⟩ | ⟨q1, q2⟩
    · rw [q1]
      exact ⟨fun y => absurd y.symm (nI_neg (by omega)), fun y => by omega⟩
    · rw [q1]; exact nI_eq (by omega) (by omega)
  have hpl' : ∀ k, k < 4 → pl k ≤ l ∨ pl k = 99 := fun k hk => by
    rcases hpl k hk with q | q
    · exact Or.inr q.2
    · exact Or.inl q.2
  have inn : ∀ (r6 : Int32 → Int32 → Int32 → Gt → Prop) (a : Nat), a ≤ 40 → (r6 (nI (pk pl (4 * a + 4))) (nI (3 * cnt pl (4 * a + 4))) (nI a + 1) (mxw G R)) → ∀ r k, k + r = 4 → w_X8_packedOrder_h17 t K r6 (r + 1) (nI (pk pl (4 * a + k))) (nI (3 * cnt pl (4 * a + k))) (nI a) (nI k) (mxw G R) := by
    intro r6 a ha hr r
    induction r with
    | zero =>
      intro k hk
      have : k = 4 := by omega
      subst this
      rw [w_X8_packedOrder_h17]
      exact pif_p (by decide) hr
    | succ r ih =>
      intro k hk
      have hi := ih (k + 1) (by omega)
      rw [w_X8_packedOrder_h17]
      unfold w_X8_packedOrder_j48
      refine pif_n (nI_ge (b := 4) (by omega) (by decide)) ?_
      rw [rat_n (by omega) (by decide), mx_C g3, nI_1]
      obtain ⟨s1, s2⟩ := cnt_s (pl := pl) (t := 4 * a + k)
      have ep : pk pl (4 * a + (k + 1)) = if pl k = a then pk pl (4 * a + k) + (k + 1) * 8 ^ cnt pl (4 * a + k) else pk pl (4 * a + k) := by
        show pk pl (4 * a + k + 1) = _
        conv => lhs; unfold pk
        rw [show (4 * a + k) % 4 = k by omega, show (4 * a + k) / 4 = a by omega]
      rw [show (4 * a + k) % 4 = k by omega, show (4 * a + k) / 4 = a by omega] at s1 s2
      have es : cnt pl (4 * a + (k + 1)) = cnt pl (4 * a + k) + (if pl k = a then 1 else 0) := s1
      by_cases c : pl k = a
      · rw [if_pos c] at ep es
        rw [ep, es] at hi
        refine pif_p ((hit a k ha (by omega)).mpr c) ?_
        rw [or_n' (s2 c) (pkk_lt _) (by omega), show (3 : Int32) = nI 3 from rfl, nI_add]
        rw [show 3 * (cnt pl (4 * a + k) + 1) = 3 * cnt pl (4 * a + k) + 3 by omega] at hi
        exact hi
      · rw [if_neg c] at ep es
        rw [ep, es, Nat.add_zero] at hi
        exact pif_n (fun y => c ((hit a k ha (by omega)).mp y)) hi
  have out : ∀ r a, a + r = l + 1 → w_X8_packedOrder_h6 t K (r + 1) (nI (pk pl (4 * a))) (nI (3 * cnt pl (4 * a))) (nI a) (mxw G R) := by
    intro r
    induction r with
    | zero =>
      intro a ha
      have : a = l + 1 := by omega
      subst this
      rw [w_X8_packedOrder_h6, show (mxw G R) t 2 = nI l from by rw [mx_C g1]; exact hG]
      refine pif_p (nI_ltx rfl (by omega) (by omega)) ?_
      have := vl_pk (pl := pl) (4 * (l + 1)) (by omega)
      rw [vl_z hpl' hl _ (Nat.le_refl _), Nat.mul_zero, Nat.add_zero] at this
      rw [← this]; exact h
    | succ r ih =>
      intro a ha
      have hi := ih (a + 1) (by omega)
      rw [w_X8_packedOrder_h6, show (mxw G R) t 2 = nI l from by rw [mx_C g1]; exact hG]
      refine pif_n (nI_nltx rfl (by omega) (by omega)) ⟨5, ?_⟩
      have := inn (fun z0 z1 z2 z3 => w_X8_packedOrder_h6 t K (r + 1) z0 z1 z2 z3) a (by omega) (by rw [nI_1]; exact hi) 4 0 rfl
      exact this
  have := out (l + 1) 0 (by omega)
  rw [show 4 * 0 = 0 from rfl, cnt_0] at this
  exact ⟨_, this⟩
theorem plf_ok {b c l : Nat} {C R : Gt} (hT : gT (20 + 5 * b) b C R) (hl : C (20 + 5 * b) 2 = nI l) (hl4 : l ≤ 40) : (∀ k, k < 4 → (R 60 (4 * b + k) = -1 ∧ plf R b k = 99) ∨ (R 60 (4 * b + k) = nI (plf R b k) ∧ plf R b k ≤ l)) ∧ ∀ k, k < 4 → C (20 + 5 * b + 4) k = R 60 (4 * b + k) := by
  obtain ⟨⟨l', c', h1, h2, h3, h4, h5, h6, h7, h8⟩, h9⟩ := hT
  have : l' = l := (nI_eq (by omega) (by omega)).mp (h3.symm.trans hl)
  subst this
  refine ⟨fun k hk => ?_, fun k hk => (h8 k hk).1⟩
  unfold plf
  rcases (h8 k hk).2 with q | ⟨j, hj, q⟩
  · exact Or.inl ⟨q, if_pos q⟩
  · right
    rw [if_neg (by rw [q]; exact nI_neg (by omega)), q, nI_clamp (by omega)]
    exact ⟨rfl, hj⟩
