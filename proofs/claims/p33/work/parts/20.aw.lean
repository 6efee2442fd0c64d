/-! THE WORLD AS NUMBERS: every int field and every element is G (cell) (slot); which cells there are, and which fields hold references, is a list 'Sh'. -/
abbrev Gt : Type := Nat → Nat → Int32
def gu (G : Gt) (k j : Nat) (v : Int32) : Gt := fun a b => if a = k then (if b = j then v else G a b) else G a b
abbrev fE : Type := Option (Option (Nat × Nat))
abbrev shE : Type := (Nat × Nat) ⊕ (Nat × List fE)
abbrev Sh : Type := List shE
def tv (ad : Nat → Nat) : Value → Value
  | .ref k => .ref (ad k)
  | .retAddr b => .ref b
  | v => v
def cF (ad : Nat → Nat) (g : Nat → Int32) (j : Nat) : fE → Value
  | none => .int (g j)
  | some none => .null
  | some (some r) => .ref (ad (if g j = 0 then r.1 else r.2))
def cA (tA : Nat → ClassId) (ad : Nat → Nat) (g : Nat → Int32) : shE → va_E
  | .inl (0, n) => .inl (tA 0, n, .inl g)
  | .inl (1, n) => .inl (tA 1, n, .inl g)
  | .inl (_ + 2, n) => .inl (tA 2, n, .inr (.inl (fun j => (g j).toInt64)))
  | .inr (ci, fs) => .inr (ci, fs.mapIdx (cF ad g))
/-- an entry for a cell that isn't there -/
def isP : shE → Bool
  | .inl (9, _) => true
  | _ => false
def cWx (tA : Nat → ClassId) (ad : Nat → Nat) (G : Gt) : Nat → Sh → va_W
  | _, [] => []
  | o, x :: t => if isP x = true then cWx tA ad G (o + 1) t else (ad o, cA tA ad (G o) x) :: cWx tA ad G (o + 1) t
def cW (tA : Nat → ClassId) (ad : Nat → Nat) (G : Gt) (sh : Sh) : va_W := cWx tA ad G 0 sh
/-- where a cell stands among those that are there -/
def ps : Sh → Nat → Nat
  | [], _ => 0
  | _ :: _, 0 => 0
  | x :: t, k + 1 => (if isP x = true then 0 else 1) + ps t k
theorem cWx_P {tA : Nat → ClassId} {ad : Nat → Nat} {G : Gt} {o : Nat} {x : shE} {t : Sh} (h : isP x = true) : cWx tA ad G o (x :: t) = cWx tA ad G (o + 1) t := if_pos h
theorem cWx_N {tA : Nat → ClassId} {ad : Nat → Nat} {G : Gt} {o : Nat} {x : shE} {t : Sh} (h : isP x = false) : cWx tA ad G o (x :: t) = (ad o, cA tA ad (G o) x) :: cWx tA ad G (o + 1) t := if_neg (by rw [h]; decide)
theorem ps_P {x : shE} {t : Sh} {k : Nat} (h : isP x = true) : ps (x :: t) (k + 1) = ps t k := by rw [ps, if_pos h, Nat.zero_add]
theorem ps_N {x : shE} {t : Sh} {k : Nat} (h : isP x = false) : ps (x :: t) (k + 1) = ps t k + 1 := by rw [ps, if_neg (by rw [h]; decide), Nat.add_comm]
theorem cWx_at {tA : Nat → ClassId} {ad : Nat → Nat} {G : Gt} : ∀ (sh : Sh) (o k : Nat) (x : shE), sh[k]? = some x → isP x = false → (cWx tA ad G o sh)[ps sh k]? = some (ad (o + k), cA tA ad (G (o + k)) x)
  | [], _, _, _, h, _ => by simp at h
  | y :: t, o, 0, x, h, hp => by
    have e : y = x := by simpa using h
    subst e
    rw [cWx_N hp]
    rfl
  | y :: t, o, k + 1, x, h, hp => by
    have ih := cWx_at (tA := tA) (ad := ad) (G := G) t (o + 1) k x (by simpa using h) hp
    rw [show o + 1 + k = o + (k + 1) by omega] at ih
    cases c : isP y with
    | true => rw [cWx_P c, ps_P c]; exact ih
    | false => rw [cWx_N c, ps_N c, List.getElem?_cons_succ]; exact ih
theorem cWx_inv {tA : Nat → ClassId} {ad : Nat → Nat} {G : Gt} : ∀ (sh : Sh) (o i : Nat) (q : Nat × va_E), (cWx tA ad G o sh)[i]? = some q → ∃ k x, sh[k]? = some x ∧ isP x = false ∧ i = ps sh k ∧ q = (ad (o + k), cA tA ad (G (o + k)) x)
  | [], _, _, _, h => by simp [cWx] at h
  | y :: t, o, i, q, h => by
    cases c : isP y with
    | true =>
      rw [cWx_P c] at h
      obtain ⟨k, x, h1, h2, h3, h4⟩ := cWx_inv t (o + 1) i q h
      refine ⟨k + 1, x, by simpa using h1, h2, ?_, ?_⟩
      · rw [ps_P c, h3]
      · rw [h4, show o + 1 + k = o + (k + 1) by omega]
    | false =>
      rw [cWx_N c] at h
      cases i with
      | zero =>
        have e : (ad o, cA tA ad (G o) y) = q := by simpa using h
        exact ⟨0, y, rfl, c, rfl, e.symm⟩
      | succ i =>
        rw [List.getElem?_cons_succ] at h
        obtain ⟨k, x, h1, h2, h3, h4⟩ := cWx_inv t (o + 1) i q h
        refine ⟨k + 1, x, by simpa using h1, h2, ?_, ?_⟩
        · rw [ps_N c, h3]
        · rw [h4, show o + 1 + k = o + (k + 1) by omega]
theorem cWx_eq {tA : Nat → ClassId} {ad : Nat → Nat} {G G' : Gt} : ∀ (sh : Sh) (o : Nat), (∀ a, o ≤ a → G' a = G a) → cWx tA ad G' o sh = cWx tA ad G o sh
  | [], _, _ => rfl
  | y :: t, o, h => by
    rw [cWx, cWx, cWx_eq t (o + 1) (fun a ha => h a (by omega)), h o (Nat.le_refl _)]
theorem cWx_set {tA : Nat → ClassId} {ad : Nat → Nat} {G G' : Gt} : ∀ (sh : Sh) (o b : Nat) (x y : shE), sh[b]? = some x → isP x = false → isP y = false → (∀ a, a ≠ o + b → G' a = G a) → (cWx tA ad G o sh).set (ps sh b) (ad (o + b), cA tA ad (G' (o + b)) y) = cWx tA ad G' o (sh.set b y)
  | [], _, _, _, _, h, _, _, _ => by simp at h
  | z :: t, o, 0, x, y, h, hp, hq, hn => by
    have e : z = x := by simpa using h
    subst e
    rw [List.set_cons_zero, cWx_N hp, cWx_N hq, show ps (z :: t) 0 = 0 from rfl, List.set_cons_zero, cWx_eq (G' := G') (G := G) t (o + 1) (fun a ha => hn a (by omega))]
    rfl
  | z :: t, o, b + 1, x, y, h, hp, hq, hn => by
    have ih := cWx_set (tA := tA) (ad := ad) (G := G) (G' := G') t (o + 1) b x y (by simpa using h) hp hq (fun a ha => hn a (by omega))
    rw [show o + 1 + b = o + (b + 1) by omega] at ih
    rw [List.set_cons_succ]
    cases c : isP z with
    | true => rw [cWx_P c, ps_P c, cWx_P c]; exact ih
    | false => rw [cWx_N c, ps_N c, cWx_N c, List.set_cons_succ, ih, hn o (by omega)]
theorem cW_at {tA : Nat → ClassId} {ad : Nat → Nat} {G : Gt} {sh : Sh} {k : Nat} {x : shE} (h : sh[k]? = some x) (hp : isP x = false := by rfl) : (cW tA ad G sh)[ps sh k]? = some (ad k, cA tA ad (G k) x) := by
  have := cWx_at (tA := tA) (ad := ad) (G := G) sh 0 k x h hp
  rw [Nat.zero_add] at this
  exact this
theorem cW_inv {tA : Nat → ClassId} {ad : Nat → Nat} {G : Gt} {sh : Sh} {i : Nat} {q : Nat × va_E} (h : (cW tA ad G sh)[i]? = some q) : ∃ k x, sh[k]? = some x ∧ isP x = false ∧ i = ps sh k ∧ q = (ad k, cA tA ad (G k) x) := by
  obtain ⟨k, x, h1, h2, h3, h4⟩ := cWx_inv sh 0 i q h
  rw [Nat.zero_add] at h4
  exact ⟨k, x, h1, h2, h3, h4⟩
theorem cW_setg {tA : Nat → ClassId} {ad : Nat → Nat} {G G' : Gt} {sh : Sh} {b : Nat} {x y : shE} (h : sh[b]? = some x) (hp : isP x = false) (hq : isP y = false) (hn : ∀ a, a ≠ b → G' a = G a) : (cW tA ad G sh).set (ps sh b) (ad b, cA tA ad (G' b) y) = cW tA ad G' (sh.set b y) := by
  have := cWx_set (tA := tA) (ad := ad) (G := G) (G' := G') sh 0 b x y h hp hq (fun a ha => hn a (by omega))
  rw [Nat.zero_add] at this
  exact this
theorem set_at {sh : Sh} {b : Nat} {x : shE} (h : sh[b]? = some x) : sh.set b x = sh := by
  obtain ⟨h1, h2⟩ := List.getElem?_eq_some_iff.mp h
  rw [← h2, List.set_getElem_self]
theorem gu_ne {G : Gt} {k j a : Nat} {v : Int32} (h : a ≠ k) : gu G k j v a = G a := by funext b; simp [gu, h]
theorem gu_same {G : Gt} {k j : Nat} {v : Int32} : gu G k j v k = upd (G k) j v := by funext b; simp [gu, upd]
theorem cW_setf {tA : Nat → ClassId} {ad : Nat → Nat} {G : Gt} {sh : Sh} {b ci j : Nat} {fs : List fE} {x : Int32} (h : sh[b]? = some (.inr (ci, fs))) (hf : fs[j]? = some none) :
    (cW tA ad G sh).set (ps sh b) (ad b, .inr (ci, (fs.mapIdx (cF ad (G b))).set j (.int x))) = cW tA ad (gu G b j x) sh := by
  have e1 : cA tA ad (gu G b j x b) (.inr (ci, fs)) = .inr (ci, (fs.mapIdx (cF ad (G b))).set j (.int x)) := by
    show (Sum.inr (ci, fs.mapIdx (cF ad (gu G b j x b))) : va_E) = Sum.inr (ci, _)
    congr 2
    apply List.ext_getElem?
    intro a
    by_cases ha : j = a
    · subst ha
      have hl2 : j < (fs.mapIdx (cF ad (G b))).length := by simp; exact (List.getElem?_eq_some_iff.mp hf).1
      rw [List.getElem?_set_self hl2, List.getElem?_mapIdx, hf]
      simp [cF, gu]
    · rw [List.getElem?_set_ne ha, List.getElem?_mapIdx, List.getElem?_mapIdx]
      congr 1
      funext o
      have e : gu G b j x b a = G b a := by simp [gu, Ne.symm ha]
      cases o with
      | none => simp [cF, e]
      | some o => cases o <;> simp [cF, e]
  have := cW_setg (tA := tA) (ad := ad) (G := G) (G' := gu G b j x) h rfl (y := .inr (ci, fs)) rfl (fun a ha => gu_ne ha)
  rw [e1, set_at h] at this
  exact this
theorem cW_setc {tA : Nat → ClassId} {ad : Nat → Nat} {G : Gt} {sh : Sh} {b ci j r : Nat} {q : Nat × Nat} {fs : List fE} (h : sh[b]? = some (.inr (ci, fs))) (hf : fs[j]? = some (some (some q))) (hr : r = q.1 ∨ r = q.2) :
    (cW tA ad G sh).set (ps sh b) (ad b, .inr (ci, (fs.mapIdx (cF ad (G b))).set j (.ref (ad r)))) = cW tA ad (gu G b j (if r = q.1 then 0 else 1)) sh := by
  have e1 : cA tA ad (gu G b j (if r = q.1 then 0 else 1) b) (.inr (ci, fs)) = .inr (ci, (fs.mapIdx (cF ad (G b))).set j (.ref (ad r))) := by
    show (Sum.inr (ci, fs.mapIdx (cF ad (gu G b j (if r = q.1 then 0 else 1) b))) : va_E) = Sum.inr (ci, _)
    congr 2
    apply List.ext_getElem?
    intro a
    by_cases ha : j = a
    · subst ha
      have hl2 : j < (fs.mapIdx (cF ad (G b))).length := by simp; exact (List.getElem?_eq_some_iff.mp hf).1
      rw [List.getElem?_set_self hl2, List.getElem?_mapIdx, hf]
      by_cases h1 : r = q.1
      · simp [cF, gu, h1]
      · have h2 : r = q.2 := hr.resolve_left h1
        simp [cF, gu, h1]
        rw [h2]
    · rw [List.getElem?_set_ne ha, List.getElem?_mapIdx, List.getElem?_mapIdx]
      congr 1
      funext o
      have e : gu G b j (if r = q.1 then 0 else 1) b a = G b a := by simp [gu, Ne.symm ha]
      cases o with
      | none => simp [cF, e]
      | some o => cases o <;> simp [cF, e]
  have := cW_setg (tA := tA) (ad := ad) (G := G) (G' := gu G b j (if r = q.1 then 0 else 1)) h rfl (y := .inr (ci, fs)) rfl (fun a ha => gu_ne ha)
  rw [e1, set_at h] at this
  exact this
theorem cW_seta {tA : Nat → ClassId} {ad : Nat → Nat} {G G' : Gt} {sh : Sh} {b : Nat} {x : shE} (h : sh[b]? = some x) (hn : ∀ a, a ≠ b → G' a = G a) (hp : isP x = false := by rfl) :
    (cW tA ad G sh).set (ps sh b) (ad b, cA tA ad (G' b) x) = cW tA ad G' sh := by
  have := cW_setg (tA := tA) (ad := ad) (G := G) (G' := G') h hp (y := x) hp hn
  rw [set_at h] at this
  exact this
theorem va_D.cW {A : Nat → Prop} {tA : Nat → ClassId} {ad : Nat → Nat} {G G' : Gt} {sh : Sh} (h : va_D A (cW tA ad G sh)) : va_D A (cW tA ad G' sh) := by
  refine ⟨fun i j p q hi hj e => ?_, fun k q hk => ?_⟩
  · obtain ⟨a, x, hx, hxp, rfl, rfl⟩ := cW_inv hi
    obtain ⟨b, y, hy, hyp, rfl, rfl⟩ := cW_inv hj
    exact h.1 _ _ _ _ (cW_at hx hxp) (cW_at hy hyp) e
  · obtain ⟨a, x, hx, hxp, rfl, rfl⟩ := cW_inv hk
    exact h.2 _ (ad a, cA tA ad (G a) x) (cW_at hx hxp)
theorem va_A_cW {tA : Nat → ClassId} {ad : Nat → Nat} {G G' : Gt} {sh : Sh} {sz q : Nat} (h : va_A (cW tA ad G sh) sz q) : va_A (cW tA ad G' sh) sz q := by
  rcases h with ⟨k, e, h⟩ | h
  · obtain ⟨a, x, hx, hxp, rfl, he⟩ := cW_inv h
    have := cW_at (tA := tA) (ad := ad) (G := G') hx hxp
    cases he
    exact Or.inl ⟨_, _, this⟩
  · exact Or.inr h
theorem ps_inj : ∀ (sh : Sh) (a b : Nat) (x y : shE), sh[a]? = some x → sh[b]? = some y → isP x = false → isP y = false → ps sh a = ps sh b → a = b
  | [], _, _, _, _, h, _, _, _, _ => by simp at h
  | z :: t, 0, 0, _, _, _, _, _, _, _ => rfl
  | z :: t, 0, b + 1, x, y, h, _, hp, _, e => by
    have q : z = x := by simpa using h
    subst q
    rw [ps_N hp] at e
    exact absurd e.symm (Nat.succ_ne_zero _)
  | z :: t, a + 1, 0, x, y, _, h, _, hp, e => by
    have q : z = y := by simpa using h
    subst q
    rw [ps_N hp] at e
    exact absurd e (Nat.succ_ne_zero _)
  | z :: t, a + 1, b + 1, x, y, h1, h2, hp, hq, e => by
    have : ps t a = ps t b := by
      cases c : isP z with
      | true => rw [ps_P c, ps_P c] at e; exact e
      | false => rw [ps_N c, ps_N c] at e; omega
    rw [ps_inj t a b x y (by simpa using h1) (by simpa using h2) hp hq this]
/-! locals and stack -/
def lo (ad : Nat → Nat) : Nat → List (Option Value) → List (Nat × Value)
  | _, [] => []
  | i, none :: t => lo ad (i + 1) t
  | i, some v :: t => (i, tv ad v) :: lo ad (i + 1) t
theorem lo_mem {ad : Nat → Nat} : ∀ (l : List (Option Value)) (i k : Nat) (v : Value), l[k]? = some (some v) → (i + k, tv ad v) ∈ lo ad i l
  | [], _, _, _, h => by simp at h
  | o :: t, i, 0, v, h => by
    simp at h; subst h
    exact List.mem_cons_self
  | o :: t, i, k + 1, v, h => by
    have h1 : t[k]? = some (some v) := by simpa using h
    have h2 := lo_mem (ad := ad) t (i + 1) k v h1
    have e : i + 1 + k = i + (k + 1) := by omega
    rw [e] at h2
    cases o with
    | none => exact h2
    | some w => exact List.mem_cons_of_mem _ h2
theorem lo_inv {ad : Nat → Nat} : ∀ (l : List (Option Value)) (i : Nat) (q : Nat × Value), q ∈ lo ad i l → ∃ (k : Nat) (v : Value), l[k]? = some (some v) ∧ q = (i + k, tv ad v)
  | [], _, _, h => by simp [lo] at h
  | none :: t, i, q, h => by
    obtain ⟨k, v, h1, h2⟩ := lo_inv t (i + 1) q h
    exact ⟨k + 1, v, by simpa using h1, by rw [h2]; congr 1; omega⟩
  | some w :: t, i, q, h => by
    rcases List.mem_cons.mp h with h | h
    · exact ⟨0, w, rfl, h⟩
    · obtain ⟨k, v, h1, h2⟩ := lo_inv t (i + 1) q h
      exact ⟨k + 1, v, by simpa using h1, by rw [h2]; congr 1; omega⟩
theorem lo_at {ad : Nat → Nat} {ls : Array Slot} {nL : Nat} {l : List (Option Value)} (h : lv_has ls nL (lo ad 0 l)) {k : Nat} {v : Value} (hk : l[k]? = some (some v)) : ls[k]? = some (.val (tv ad v)) := by
  have h1 := h.2.2 _ (lo_mem (ad := ad) l 0 k v hk)
  simpa using h1
theorem lv_less {ls : Array Slot} {nL : Nat} {a b : List (Nat × Value)} (h : lv_has ls nL a) (hs : ∀ q ∈ b, q ∈ a) : lv_has ls nL b := ⟨h.1, h.2.1, fun q hq => h.2.2 q (hs q hq)⟩
def l1 (l : List (Option Value)) : Bool := l.all (fun o => match o with | none => true | some v => v.category == 1)
theorem tv_cat (ad : Nat → Nat) (v : Value) : (tv ad v).category = v.category := by cases v <;> rfl
theorem lo_set {ad : Nat → Nat} {ls : Array Slot} {nL i : Nat} {x : Value} {l : List (Option Value)} (hc : l1 l = true) (h : lv_has ls nL ((i, tv ad x) :: (lo ad 0 l).filter (fun q => !(q.1 == i) && !(q.1 + 1 == i && q.2.category == 2)))) : lv_has ls nL (lo ad 0 (l.set i (some x))) := by
  refine lv_less h (fun q hq => ?_)
  obtain ⟨k, v, hk, rfl⟩ := lo_inv _ _ _ hq
  by_cases hik : i = k
  · subst hik
    by_cases hl : i < l.length
    · rw [List.getElem?_set_self hl] at hk
      cases hk
      simp
    · rw [List.getElem?_eq_none (by simp; omega)] at hk
      cases hk
  · rw [List.getElem?_set_ne hik] at hk
    refine List.mem_cons_of_mem _ (List.mem_filter.mpr ⟨lo_mem _ _ _ _ hk, ?_⟩)
    have hv : v.category = 1 := by
      have h1 := List.all_eq_true.mp hc _ (List.mem_of_getElem? hk)
      simpa using h1
    simp [tv_cat, hv, Ne.symm hik]
/-! what a state of the JVM gives besides the world: the nest words, the texts, the statics that the exceptions and charAt use -/
def tx0 : List Int32 := ("v--n--np-np-pp-pp-pp-pp-pp-pp-ppppp-p--qp-qp-q--np-pp-soop--npppp-p--p--p--p--qppq--qp-p-----p-----------p--p--p--sp-h--".toList.map (fun ch => Int32.ofNat ch.toNat))
def xW : List Cond := [.castable "java/lang/IndexOutOfBoundsException" "java/lang/IndexOutOfBoundsException", .castable "java/lang/IllegalArgumentException" "java/lang/IllegalArgumentException", .castable "java/lang/IllegalStateException" "java/lang/IllegalStateException", .declares ⟨"java/lang/RuntimeException", "<init>", "(Ljava/lang/String;)V"⟩, .declares ⟨"java/lang/Exception", "<init>", "(Ljava/lang/String;)V"⟩, .declares ⟨"java/lang/Throwable", "<init>", "(Ljava/lang/String;)V"⟩]
def yNC : List (String × String) := [("java/lang/IllegalArgumentException", "java/lang/IndexOutOfBoundsException"), ("java/lang/IllegalStateException", "java/lang/IndexOutOfBoundsException"), ("java/lang/IndexOutOfBoundsException", "java/lang/IllegalArgumentException"), ("java/lang/IllegalStateException", "java/lang/IllegalArgumentException"), ("java/lang/IndexOutOfBoundsException", "java/lang/IllegalStateException"), ("java/lang/IllegalArgumentException", "java/lang/IllegalStateException")]
def sx (A : Nat → Prop) (U : State) (H : Heap) : Prop :=
  ((∀ w ∈ nW, va_Nw w U) ∧ (∀ w ∈ xW, va_Nw w U) ∧ ∀ q ∈ yNC, va_Nc q.1 q.2 U) ∧ (∀ q ∈ sW, ∃ a, vk_R q.1 q.2.1 q.2.2 a U) ∧ vx_Zq Bundle.tN "UNASSIGNED_STACK" Bundle.steD A U H ∧ vx_Zq Bundle.tN "SUPPRESSED_SENTINEL" Bundle.listD A U H ∧
  va_Z "java/lang/String" "COMPACT_STRINGS" "Z" (.int 1) A U H ∧ va_Zq "jdk/internal/util/Preconditions" "SIOOBE_FORMATTER" "Ljava/util/function/BiFunction;" A U H ∧
  ∃ adK adV : Nat → Nat, vk_S 1 [120] [tx0] adK adV A U H ∧ vk_R RX4 50 "v--n--np-np-pp-pp-pp-pp-pp-pp-ppppp-p--qp-qp-q--np-pp-soop--npppp-p--p--p--p--qppq--qp-p-----p-----------p--p--p--sp-h--" (adK 0) U
theorem nW_warm {s U : State} (hW : s.WarmedH U.vm) (h : ∀ w ∈ nW, va_Nw w s) : ∀ w ∈ nW, va_Nw w U := by
  intro w hw
  have h1 := h w hw
  simp only [nW, List.mem_cons, List.not_mem_nil, or_false] at hw
  rcases hw with rfl | rfl | rfl | rfl | rfl | rfl | rfl | rfl | rfl | rfl | rfl | rfl <;> exact va_Nw.warmM hW h1
theorem nW_same {s U : State} (hv : s.vm = U.vm) (h : ∀ w ∈ nW, va_Nw w s) : ∀ w ∈ nW, va_Nw w U := by
  intro w hw
  have h1 := h w hw
  simp only [nW, List.mem_cons, List.not_mem_nil, or_false] at hw
  rcases hw with rfl | rfl | rfl | rfl | rfl | rfl | rfl | rfl | rfl | rfl | rfl | rfl <;> exact va_Nw.same rfl hv h1
theorem xW_warm {s U : State} (hW : s.WarmedH U.vm) (h : ∀ w ∈ xW, va_Nw w s) : ∀ w ∈ xW, va_Nw w U := by
  intro w hw
  have h1 := h w hw
  simp only [xW, List.mem_cons, List.not_mem_nil, or_false] at hw
  rcases hw with rfl | rfl | rfl | rfl | rfl | rfl
  · exact va_Nw.warmC hW h1
  · exact va_Nw.warmC hW h1
  · exact va_Nw.warmC hW h1
  · exact va_Nw.warmD hW h1
  · exact va_Nw.warmD hW h1
  · exact va_Nw.warmD hW h1
theorem xW_same {s U : State} (hv : s.vm = U.vm) (h : ∀ w ∈ xW, va_Nw w s) : ∀ w ∈ xW, va_Nw w U := by
  intro w hw
  have h1 := h w hw
  simp only [xW, List.mem_cons, List.not_mem_nil, or_false] at hw
  rcases hw with rfl | rfl | rfl | rfl | rfl | rfl <;> exact va_Nw.same rfl hv h1
theorem sx.warm {A B : Nat → Prop} {s U : State} {H H1 : Heap} (hW : s.WarmedH U.vm) (h : sx A s H) (hq : ∀ a : Nat, a < H.size → ¬ A a → H1[a]? = H[a]?) (hAB : ∀ q, B q → A q) : sx B U H1 := by
  obtain ⟨h1, h2, h3, h4, h5, h6, adK, adV, h7, h8⟩ := h
  refine ⟨⟨nW_warm hW h1.1, xW_warm hW h1.2.1, fun q hq9 => va_Nc.moved hW.alike (h1.2.2 q hq9)⟩, fun q hq' => ?_, ((h3.moved hW.alike).kept hq).narrow hAB, ((h4.moved hW.alike).kept hq).narrow hAB, ((h5.moved hW.alike).kept hq).narrow hAB, ((h6.moved hW.alike).kept hq).narrow hAB, adK, adV, ((h7.moved hW.alike).kept hq).narrow hAB, h8.warm hW⟩
  obtain ⟨a, ha⟩ := h2 q hq'
  exact ⟨a, ha.warm hW⟩
theorem sx.same {A : Nat → Prop} {s U : State} {H : Heap} (hv : s.vm = U.vm) (h : sx A s H) : sx A U H := by
  obtain ⟨h1, h2, h3, h4, h5, h6, adK, adV, h7, h8⟩ := h
  have hal : s.vm.Alike U.vm := by rw [hv]; exact Vm.Alike.refl _
  refine ⟨⟨nW_same hv h1.1, xW_same hv h1.2.1, fun q hq9 => va_Nc.moved hal (h1.2.2 q hq9)⟩, fun q hq' => ?_, h3.moved hal, h4.moved hal, h5.moved hal, h6.moved hal, adK, adV, h7.moved hal, h8.same hv.symm⟩
  obtain ⟨a, ha⟩ := h2 q hq'
  exact ⟨a, ha.same hv.symm⟩
theorem sx.narrow {A B : Nat → Prop} {s : State} {H : Heap} (h : sx A s H) (hAB : ∀ q, B q → A q) : sx B s H := by
  obtain ⟨h1, h2, h3, h4, h5, h6, adK, adV, h7, h8⟩ := h
  exact ⟨h1, h2, h3.narrow hAB, h4.narrow hAB, h5.narrow hAB, h6.narrow hAB, adK, adV, h7.narrow hAB, h8⟩
def ty3 (tA : Nat → ClassId) : List (ClassId × FieldType) := [(tA 0, .int)]
/-! the class's fields as the tables have them -/
def kc (ci : Nat) (C : String) (T : u_T) (N : Nat) (ty : Nat → FieldType) : Prop := vwCl[ci]? = some (C, T, N) ∧ (∀ w ∈ u_ws C T N, w ∈ GW) ∧ (∀ k, k < N → parseFieldDescriptor (T k).2.2.1 = some (ty k)) ∧ (∀ a, a < N → ∀ b, b < N → a ≠ b → (T a).2.1 ≠ (T b).2.1)
theorem kcX0 : kc 0 RX0 TX0 3 tyX0 := ⟨rfl, iX0, tyX0_ok, nmX0⟩
theorem kcX1 : kc 1 RX1 TX1 11 tyX1 := ⟨rfl, iX1, tyX1_ok, nmX1⟩
theorem kcX2 : kc 2 RX2 TX2 20 tyX2 := ⟨rfl, iX2, tyX2_ok, nmX2⟩
theorem kcX3 : kc 3 RX3 TX3 7 tyX3 := ⟨rfl, iX3, tyX3_ok, nmX3⟩
theorem kcX4 : kc 4 RX4 TX4 8 tyX4 := ⟨rfl, iX4, tyX4_ok, nmX4⟩
theorem kcX5 : kc 5 RX5 TX5 5 tyX5 := ⟨rfl, iX5, tyX5_ok, nmX5⟩
theorem kcX6 : kc 6 RX6 TX6 1 tyX6 := ⟨rfl, iX6, tyX6_ok, nmX6⟩
theorem kcX7 : kc 7 RX7 TX7 3 tyX7 := ⟨rfl, iX7, tyX7_ok, nmX7⟩
theorem kcX8 : kc 8 RX8 TX8 4 tyX8 := ⟨rfl, iX8, tyX8_ok, nmX8⟩
theorem kcX9 : kc 9 RX9 TX9 9 tyX9 := ⟨rfl, iX9, tyX9_ok, nmX9⟩
theorem kcX10 : kc 10 RX10 TX10 6 tyX10 := ⟨rfl, iX10, tyX10_ok, nmX10⟩
section AW
variable {p : Program} {l : Launch} {e : Env} {R : Room} {s : State} {m : MethodId} {args : Array Value} {below : List Frame} {meth : Method} {c : Code} {D : va_G} {tA : Nat → ClassId} {A : Nat → Prop} {ad : Nat → Nat} {nL : Nat} {Q : State → Prop} {k n : Nat} {own : String} {cc : ByteArray}
/-- where a method stands, once for all its instructions -/
def cx (p : Program) (s : State) (m : MethodId) (args : Array Value) (meth : Method) (c : Code) (own : String) (cc : ByteArray) (nL : Nat) (D : va_G) (tA : Nat → ClassId) (A : Nat → Prop) : Prop :=
  p.tables.exec = Jvm.exec ∧ c.code = cc ∧ c.maxLocals = nL ∧ s.vm.findClass own = some m.cls ∧ (∀ w ∈ GW, w.before args s = true) ∧ va_K D vwCl (ty3 tA) s ∧ meth.locks = false ∧ (∀ q, s.heap.size ≤ q → A q) ∧ sx A s s.heap
/-- from here the method comes to Q: the world's ints are G, its cells sh -/
def aw (p : Program) (l : Launch) (e : Env) (R : Room) (s : State) (m : MethodId) (args : Array Value) (below : List Frame) (meth : Method) (c : Code) (nL : Nat) (D : va_G) (tA : Nat → ClassId) (A : Nat → Prop) (Q : State → Prop) (k n : Nat) (ad : Nat → Nat) (pc : Nat) (lv : List (Option Value)) (st : List Value) (sh : Sh) (G : Gt) : Prop :=
  ∀ (H : Heap) (locs : List Loc) (ls : Array Slot), va_P D vwCl (cW tA ad G sh) H → va_D A (cW tA ad G sh) → va_S A s.heap H locs → lv_has ls nL (lo ad 0 lv) → W p l e R s m args below meth c H locs k n Q (F0 m pc ls (st.map (tv ad)))
variable {pc : Nat} {lv : List (Option Value)} {st : List Value} {sh : Sh} {G : Gt}
theorem aw_weak {lv' : List (Option Value)} (h : ∀ q ∈ lo ad 0 lv', q ∈ lo ad 0 lv) (kk : aw p l e R s m args below meth c nL D tA A Q k n ad pc lv' st sh G) : aw p l e R s m args below meth c nL D tA A Q k n ad pc lv st sh G :=
  fun H locs ls h1 h2 h3 h4 => kk H locs ls h1 h2 h3 (lv_less h4 h)
/-- the locals with those that a mask leaves -/
def msk : List Bool → List (Option Value) → List (Option Value)
  | true :: b, o :: l => o :: msk b l
  | false :: b, _ :: l => none :: msk b l
  | _, _ => []
theorem msk_at : ∀ (b : List Bool) (l : List (Option Value)) (k : Nat) (v : Value), (msk b l)[k]? = some (some v) → l[k]? = some (some v)
  | [], _, _, _, h => by simp [msk] at h
  | true :: _, [], _, _, h => by simp [msk] at h
  | false :: _, [], _, _, h => by simp [msk] at h
  | true :: b, o :: l, 0, v, h => by simpa [msk] using h
  | false :: b, o :: l, 0, v, h => by simp [msk] at h
  | true :: b, o :: l, k + 1, v, h => by
    have := msk_at b l k v (by simpa [msk] using h)
    simpa using this
  | false :: b, o :: l, k + 1, v, h => by
    have := msk_at b l k v (by simpa [msk] using h)
    simpa using this
theorem aw_msk (b : List Bool) (kk : aw p l e R s m args below meth c nL D tA A Q k n ad pc (msk b lv) st sh G) : aw p l e R s m args below meth c nL D tA A Q k n ad pc lv st sh G := by
  refine aw_weak (fun q hq => ?_) kk
  obtain ⟨j, v, hj, rfl⟩ := lo_inv _ _ _ hq
  exact lo_mem _ _ _ _ (msk_at _ _ _ _ hj)
theorem aw_iconst (C : cx p s m args meth c own cc nL D tA A) {i : Int} {v : Int32} (d : decode cc pc = .ok (.iconst i, 1)) (hv : Int32.ofInt i = v) (kk : aw p l e R s m args below meth c nL D tA A Q k n ad (pc + 1) lv (.int v :: st) sh G) : aw p l e R s m args below meth c nL D tA A Q k n ad pc lv st sh G :=
  fun H locs ls h1 h2 h3 h4 => lv_iconst C.1 C.2.1 d hv (kk H locs ls h1 h2 h3 h4)
theorem aw_bipush (C : cx p s m args meth c own cc nL D tA A) {i : Int} {v : Int32} (d : decode cc pc = .ok (.bipush i, 2)) (hv : (Int8.ofInt i).toInt32 = v) (kk : aw p l e R s m args below meth c nL D tA A Q k n ad (pc + 2) lv (.int v :: st) sh G) : aw p l e R s m args below meth c nL D tA A Q k n ad pc lv st sh G :=
  fun H locs ls h1 h2 h3 h4 => lv_bipush C.1 C.2.1 d hv (kk H locs ls h1 h2 h3 h4)
theorem aw_sipush (C : cx p s m args meth c own cc nL D tA A) {i : Int} {v : Int32} (d : decode cc pc = .ok (.sipush i, 3)) (hv : (Int16.ofInt i).toInt32 = v) (kk : aw p l e R s m args below meth c nL D tA A Q k n ad (pc + 3) lv (.int v :: st) sh G) : aw p l e R s m args below meth c nL D tA A Q k n ad pc lv st sh G :=
  fun H locs ls h1 h2 h3 h4 => lv_sipush C.1 C.2.1 d hv (kk H locs ls h1 h2 h3 h4)
theorem aw_ldc (C : cx p s m args meth c own cc nL D tA A) {i : Nat} {v : Int32} (d : decode cc pc = .ok (.ldc i, 2)) (hv : Cond.constant own i v ∈ GW) (kk : aw p l e R s m args below meth c nL D tA A Q k n ad (pc + 2) lv (.int v :: st) sh G) : aw p l e R s m args below meth c nL D tA A Q k n ad pc lv st sh G :=
  fun H locs ls h1 h2 h3 h4 => lv_ldc C.1 C.2.1 C.2.2.2.1 (C.2.2.2.2.1 _ hv) d (kk H locs ls h1 h2 h3 h4)
theorem aw_ldcw (C : cx p s m args meth c own cc nL D tA A) {i : Nat} {v : Int32} (d : decode cc pc = .ok (.ldc_w i, 3)) (hv : Cond.constant own i v ∈ GW) (kk : aw p l e R s m args below meth c nL D tA A Q k n ad (pc + 3) lv (.int v :: st) sh G) : aw p l e R s m args below meth c nL D tA A Q k n ad pc lv st sh G :=
  fun H locs ls h1 h2 h3 h4 => lv_ldcw C.1 C.2.1 C.2.2.2.1 (C.2.2.2.2.1 _ hv) d (kk H locs ls h1 h2 h3 h4)
theorem aw_null (C : cx p s m args meth c own cc nL D tA A) (d : decode cc pc = .ok (.aconst_null, 1)) (kk : aw p l e R s m args below meth c nL D tA A Q k n ad (pc + 1) lv (.null :: st) sh G) : aw p l e R s m args below meth c nL D tA A Q k n ad pc lv st sh G :=
  fun H locs ls h1 h2 h3 h4 => lv_null C.1 C.2.1 d (kk H locs ls h1 h2 h3 h4)
theorem aw_lconst (C : cx p s m args meth c own cc nL D tA A) {i : Fin 2} {v : Int64} (d : decode cc pc = .ok (.lconst i, 1)) (hv : Int64.ofNat (i : Nat) = v) (kk : aw p l e R s m args below meth c nL D tA A Q k n ad (pc + 1) lv (.long v :: st) sh G) : aw p l e R s m args below meth c nL D tA A Q k n ad pc lv st sh G :=
  fun H locs ls h1 h2 h3 h4 => lv_lconst C.1 C.2.1 d hv (kk H locs ls h1 h2 h3 h4)
theorem aw_iload (C : cx p s m args meth c own cc nL D tA A) {i : Nat} {v : Int32} (d : decode cc pc = .ok (.iload i, 2)) (hv : lv[i]? = some (some (.int v))) (kk : aw p l e R s m args below meth c nL D tA A Q k n ad (pc + 2) lv (.int v :: st) sh G) : aw p l e R s m args below meth c nL D tA A Q k n ad pc lv st sh G :=
  fun H locs ls h1 h2 h3 h4 => lv_iload C.1 C.2.1 d (lo_at h4 hv) (kk H locs ls h1 h2 h3 h4)
theorem aw_iloadn (C : cx p s m args meth c own cc nL D tA A) {i : Fin 4} {v : Int32} (d : decode cc pc = .ok (.iload_n i, 1)) (hv : lv[(i : Nat)]? = some (some (.int v))) (kk : aw p l e R s m args below meth c nL D tA A Q k n ad (pc + 1) lv (.int v :: st) sh G) : aw p l e R s m args below meth c nL D tA A Q k n ad pc lv st sh G :=
  fun H locs ls h1 h2 h3 h4 => lv_iload_n C.1 C.2.1 d rfl (lo_at h4 hv) (kk H locs ls h1 h2 h3 h4)
theorem aw_aload (C : cx p s m args meth c own cc nL D tA A) {i : Nat} {v : Nat} (d : decode cc pc = .ok (.aload i, 2)) (hv : lv[i]? = some (some (.ref v))) (kk : aw p l e R s m args below meth c nL D tA A Q k n ad (pc + 2) lv (.ref v :: st) sh G) : aw p l e R s m args below meth c nL D tA A Q k n ad pc lv st sh G :=
  fun H locs ls h1 h2 h3 h4 => lv_aload C.1 C.2.1 d (lo_at h4 hv) (kk H locs ls h1 h2 h3 h4)
theorem aw_aloadn (C : cx p s m args meth c own cc nL D tA A) {i : Fin 4} {v : Nat} (d : decode cc pc = .ok (.aload_n i, 1)) (hv : lv[(i : Nat)]? = some (some (.ref v))) (kk : aw p l e R s m args below meth c nL D tA A Q k n ad (pc + 1) lv (.ref v :: st) sh G) : aw p l e R s m args below meth c nL D tA A Q k n ad pc lv st sh G :=
  fun H locs ls h1 h2 h3 h4 => lv_aload_n C.1 C.2.1 d rfl (lo_at h4 hv) (kk H locs ls h1 h2 h3 h4)
theorem aw_istore (C : cx p s m args meth c own cc nL D tA A) {i : Nat} {v : Int32} (d : decode cc pc = .ok (.istore i, 2)) (hi : i < nL) (hc : l1 lv = true) (kk : aw p l e R s m args below meth c nL D tA A Q k n ad (pc + 2) (lv.set i (some (.int v))) st sh G) : aw p l e R s m args below meth c nL D tA A Q k n ad pc lv (.int v :: st) sh G :=
  fun H locs ls h1 h2 h3 h4 => lv_istore C.1 C.2.1 d h4 hi rfl (fun ls h5 => kk H locs ls h1 h2 h3 (lo_set hc h5))
theorem aw_istoren (C : cx p s m args meth c own cc nL D tA A) {i : Fin 4} {v : Int32} (d : decode cc pc = .ok (.istore_n i, 1)) (hi : (i : Nat) < nL) (hc : l1 lv = true) (kk : aw p l e R s m args below meth c nL D tA A Q k n ad (pc + 1) (lv.set (i : Nat) (some (.int v))) st sh G) : aw p l e R s m args below meth c nL D tA A Q k n ad pc lv (.int v :: st) sh G :=
  fun H locs ls h1 h2 h3 h4 => lv_istore_n C.1 C.2.1 d rfl h4 hi rfl (fun ls h5 => kk H locs ls h1 h2 h3 (lo_set hc h5))
theorem aw_astore (C : cx p s m args meth c own cc nL D tA A) {i : Nat} {v : Nat} (d : decode cc pc = .ok (.astore i, 2)) (hi : i < nL) (hc : l1 lv = true) (kk : aw p l e R s m args below meth c nL D tA A Q k n ad (pc + 2) (lv.set i (some (.ref v))) st sh G) : aw p l e R s m args below meth c nL D tA A Q k n ad pc lv (.ref v :: st) sh G :=
  fun H locs ls h1 h2 h3 h4 => lv_astore C.1 C.2.1 d h4 hi rfl (fun ls h5 => kk H locs ls h1 h2 h3 (lo_set (x := .ref v) hc h5))
theorem aw_astoren (C : cx p s m args meth c own cc nL D tA A) {i : Fin 4} {v : Nat} (d : decode cc pc = .ok (.astore_n i, 1)) (hi : (i : Nat) < nL) (hc : l1 lv = true) (kk : aw p l e R s m args below meth c nL D tA A Q k n ad (pc + 1) (lv.set (i : Nat) (some (.ref v))) st sh G) : aw p l e R s m args below meth c nL D tA A Q k n ad pc lv (.ref v :: st) sh G :=
  fun H locs ls h1 h2 h3 h4 => lv_astore_n C.1 C.2.1 d rfl h4 hi rfl (fun ls h5 => kk H locs ls h1 h2 h3 (lo_set (x := .ref v) hc h5))
theorem aw_iinc (C : cx p s m args meth c own cc nL D tA A) {i : Nat} {a : Int} {v w : Int32} (d : decode cc pc = .ok (.iinc i a, 3)) (hv : lv[i]? = some (some (.int v))) (hw : v + Int32.ofInt a = w) (hi : i < nL) (hc : l1 lv = true) (kk : aw p l e R s m args below meth c nL D tA A Q k n ad (pc + 3) (lv.set i (some (.int w))) st sh G) : aw p l e R s m args below meth c nL D tA A Q k n ad pc lv st sh G := by
  intro H locs ls h1 h2 h3 h4
  obtain ⟨q, hq⟩ := List.getElem?_of_mem (lo_mem (ad := ad) lv 0 i _ hv)
  rw [Nat.zero_add] at hq
  exact lv_iinc C.1 C.2.1 d h4 hq hw hi rfl (fun ls h5 => kk H locs ls h1 h2 h3 (lo_set hc h5))
theorem aw_pop (C : cx p s m args meth c own cc nL D tA A) {v : Value} (d : decode cc pc = .ok (.pop, 1)) (hc : v.category = 1) (kk : aw p l e R s m args below meth c nL D tA A Q k n ad (pc + 1) lv st sh G) : aw p l e R s m args below meth c nL D tA A Q k n ad pc lv (v :: st) sh G :=
  fun H locs ls h1 h2 h3 h4 => lv_pop C.1 C.2.1 d (by rw [tv_cat]; exact hc) (kk H locs ls h1 h2 h3 h4)
theorem aw_dup (C : cx p s m args meth c own cc nL D tA A) {v : Value} (d : decode cc pc = .ok (.dup, 1)) (hc : v.category = 1) (kk : aw p l e R s m args below meth c nL D tA A Q k n ad (pc + 1) lv (v :: v :: st) sh G) : aw p l e R s m args below meth c nL D tA A Q k n ad pc lv (v :: st) sh G :=
  fun H locs ls h1 h2 h3 h4 => lv_dup C.1 C.2.1 d (by rw [tv_cat]; exact hc) (kk H locs ls h1 h2 h3 h4)
theorem aw_dup2 (C : cx p s m args meth c own cc nL D tA A) {v w : Value} (d : decode cc pc = .ok (.dup2, 1)) (hc : v.category = 1) (hc2 : w.category = 1) (kk : aw p l e R s m args below meth c nL D tA A Q k n ad (pc + 1) lv (v :: w :: v :: w :: st) sh G) : aw p l e R s m args below meth c nL D tA A Q k n ad pc lv (v :: w :: st) sh G :=
  fun H locs ls h1 h2 h3 h4 => lv_dup2_11 C.1 C.2.1 d (by rw [tv_cat]; exact hc) (by rw [tv_cat]; exact hc2) (kk H locs ls h1 h2 h3 h4)
theorem aw_goto (C : cx p s m args meth c own cc nL D tA A) {off : Int} {tgt : Nat} (d : decode cc pc = .ok (.goto off, 3)) (ht : (pc : Int) + off = (tgt : Int)) (kk : aw p l e R s m args below meth c nL D tA A Q k n ad tgt lv st sh G) : aw p l e R s m args below meth c nL D tA A Q k n ad pc lv st sh G :=
  fun H locs ls h1 h2 h3 h4 => lv_goto C.1 C.2.1 d ht (kk H locs ls h1 h2 h3 h4)
end AW
