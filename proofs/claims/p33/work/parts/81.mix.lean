/-! two worlds in one: the reference's cells (46 to 82) of R, all others of C -/
def isR (k : Nat) : Bool := Nat.ble 46 k && Nat.ble k 82
def mxw (C R : Gt) : Gt := fun k => cond (isR k) (R k) (C k)
theorem mxw_gC {C R : Gt} {k j : Nat} {v : Int32} (h : isR k = false) : gu (mxw C R) k j v = mxw (gu C k j v) R := by
  funext a b
  unfold gu mxw
  by_cases e : a = k
  · subst e; simp [h]
  · simp only [e, if_false]
theorem mxw_gR {C R : Gt} {k j : Nat} {v : Int32} (h : isR k = true) : gu (mxw C R) k j v = mxw C (gu R k j v) := by
  funext a b
  unfold gu mxw
  by_cases e : a = k
  · subst e; simp [h]
  · simp only [e, if_false]
/-- agree on the class's cells, on the reference's -/
def eqc (G G' : Gt) : Prop := ∀ k, isR k = false → G' k = G k
def eqr (G G' : Gt) : Prop := ∀ k, isR k = true → G' k = G k
theorem eqc_rfl {G : Gt} : eqc G G := fun _ _ => rfl
theorem eqr_rfl {G : Gt} : eqr G G := fun _ _ => rfl
theorem eqc_gu {G G' : Gt} {k j : Nat} {v : Int32} (hk : isR k = true) (h : eqc G G') : eqc G (gu G' k j v) := by
  intro a ha
  have : ¬ a = k := fun e => by rw [e, hk] at ha; cases ha
  rw [gu_ne this]; exact h a ha
theorem eqr_gu {G G' : Gt} {k j : Nat} {v : Int32} (hk : isR k = false) (h : eqr G G') : eqr G (gu G' k j v) := by
  intro a ha
  have : ¬ a = k := fun e => by rw [e, hk] at ha; cases ha
  rw [gu_ne this]; exact h a ha
theorem eqc_tr {G G' G'' : Gt} (h : eqc G G') (h' : eqc G' G'') : eqc G G'' := fun k hk => (h' k hk).trans (h k hk)
theorem eqr_tr {G G' G'' : Gt} (h : eqr G G') (h' : eqr G' G'') : eqr G G'' := fun k hk => (h' k hk).trans (h k hk)
theorem mxw_c {G G' R : Gt} (h : eqc G G') : mxw G' R = mxw G R := by
  funext k
  unfold mxw
  cases e : isR k
  · simp only [cond_false]; exact h k e
  · rfl
theorem mxw_r {C G G' : Gt} (h : eqr G G') : mxw C G' = mxw C G := by
  funext k
  unfold mxw
  cases e : isR k
  · rfl
  · simp only [cond_true]; exact h k e
theorem mxw_self {G : Gt} : mxw G G = G := by
  funext k
  unfold mxw
  cases isR k <;> rfl
/-! steps in continuation form -/
theorem ptc {C R : Gt} {k j : Nat} {v : Int32} {F : Gt → Prop} (hk : isR k = false) (h : F (mxw (gu C k j v) R)) : pt (gu (mxw C R) k j v) F := pt_of (by rw [mxw_gC hk]; exact h)
theorem pcp {C R : Gt} {a N i : Nat} {x v : Int32} {F : Gt → Prop} (e : x = nI i) (hi : i < N) (hN : N < 2 ^ 31) (hk : isR a = false) (h : F (mxw (gu C a i v) R)) : pt (rput (mxw C R) a N x v) F := by
  rw [e, rput_n hi hN]; exact ptc hk h
theorem ptr {C R : Gt} {k j : Nat} {v : Int32} {F : Gt → Prop} (hk : isR k = true) (h : F (mxw C (gu R k j v))) : pt (gu (mxw C R) k j v) F := pt_of (by rw [mxw_gR hk]; exact h)
theorem ptri {C R : Gt} {k i N : Nat} {x v : Int32} {F : Gt → Prop} (e : x = nI i) (hi : i < N) (hN : N < 2 ^ 31) (hk : isR k = true) (h : F (mxw C (gu R k i v))) : vp_in x N ∧ pt (gu (mxw C R) k x.toNatClampNeg v) F := by
  rw [e, nI_clamp (by omega)]; exact ⟨vp_n hi hN, ptr hk h⟩
theorem vp_e {x : Int32} {N i : Nat} (e : x = nI i) (hi : i < N) (hN : N < 2 ^ 31) : vp_in x N := by rw [e]; exact vp_n hi hN
theorem rat_e {G : Gt} {a N i : Nat} {x : Int32} (e : x = nI i) (hi : i < N) (hN : N < 2 ^ 31) : rat G a N x = G a i := by rw [e]; exact rat_n hi hN
theorem cl_e {x : Int32} {i : Nat} (e : x = nI i) (hi : i < 2 ^ 31) : x.toNatClampNeg = i := by rw [e]; exact nI_clamp hi
/-! turns of the class, rounds of the reference -/
def cS (G G' : Gt) : Prop := ∀ (R : Gt) (K : Int32 → Gt → Prop) (n : Nat) (x1 x2 x3 x4 : Int32), ¬ 1000000 ≤ x4 → w_X2_advance_h8 K n x1 x2 x3 (x4 + 1) (mxw G' R) → w_X2_advance_h8 K (n + 1) x1 x2 x3 x4 (mxw G R)
def cT : Nat → Gt → Gt → Prop
  | 0, G, G' => eqc G G'
  | t + 1, G, G' => ∃ G1, cS G G1 ∧ cT t G1 G'
def rS (G G' : Gt) : Prop := ∀ (C : Gt) (K : Int32 → Gt → Prop) (n : Nat), w_X11_beginsNext_h59 K n (mxw C G') → w_X11_beginsNext_h59 K (n + 1) (mxw C G)
theorem cT_1 {G G' : Gt} (h : cS G G') : cT 1 G G' := ⟨G', h, eqc_rfl⟩
theorem cT_c {G G' : Gt} {t : Nat} (h : eqc G G') {G'' : Gt} (hh : cT t G' G'') (hc : t = 0 → True) : cT t G G'' := by
  cases t with
  | zero => exact eqc_tr h hh
  | succ t =>
    obtain ⟨G1, a, b⟩ := hh
    refine ⟨G1, ?_, b⟩
    intro R K n x1 x2 x3 x4 h4 hw
    have := a R K n x1 x2 x3 x4 h4 hw
    rw [mxw_c h] at this
    exact this
theorem cT_tr : ∀ {s t : Nat} {G G' G'' : Gt}, cT s G G' → cT t G' G'' → cT (t + s) G G''
  | 0, t, _, _, _, h, h' => cT_c h h' (fun _ => trivial)
  | s + 1, t, _, _, _, h, h' => by
    obtain ⟨G1, a, b⟩ := h
    exact ⟨G1, a, cT_tr b h'⟩
theorem rS_r {G G' G'' : Gt} (h : eqr G G') (hh : rS G' G'') : rS G G'' := by
  intro C K n hw
  have := hh C K n hw
  rw [mxw_r h] at this
  exact this
theorem rS_r' {G G' G'' : Gt} (hh : rS G G') (h : eqr G' G'') : rS G G'' := by
  intro C K n hw
  rw [mxw_r h] at hw
  exact hh C K n hw
/-- sums -/
def sm (f : Nat → Nat) : Nat → Nat
  | 0 => 0
  | n + 1 => sm f n + f n
theorem sm_eq {f g : Nat → Nat} : ∀ {n : Nat}, (∀ i, i < n → f i = g i) → sm f n = sm g n
  | 0, _ => rfl
  | n + 1, h => by
    show sm f n + f n = sm g n + g n
    rw [sm_eq (fun i hi => h i (by omega)), h n (by omega)]
theorem sm_up {f g : Nat → Nat} {j : Nat} : ∀ {n : Nat}, j < n → (∀ i, i < n → ¬ i = j → f i = g i) → sm f n + g j = sm g n + f j
  | 0, h, _ => by omega
  | n + 1, h, hh => by
    show sm f n + f n + g j = sm g n + g n + f j
    by_cases e : j = n
    · subst e
      have := sm_eq (f := f) (g := g) (n := j) (fun i hi => hh i (by omega) (by omega))
      omega
    · have := sm_up (f := f) (g := g) (j := j) (n := n) (by omega) (fun i hi he => hh i (by omega) he)
      have := hh n (by omega) (fun z => e z.symm)
      omega
theorem sm_le {f : Nat → Nat} : ∀ {n : Nat}, (∀ i, i < n → f i ≤ 1) → sm f n ≤ n
  | 0, _ => Nat.le_refl _
  | n + 1, h => by
    show sm f n + f n ≤ n + 1
    have := sm_le (f := f) (n := n) (fun i hi => h i (by omega))
    have := h n (by omega)
    omega
