/-! what is made: the world grows by cells at its end -/
def nf (sh : Sh) (b : Nat) (F : shE) (T : Sh) : Sh := sh.set b F ++ T
theorem nf_len {sh : Sh} {b : Nat} {F : shE} {T : Sh} {i : Nat} (h : T.length = i) : (nf sh b F T).length = sh.length + i := by simp [nf, h]
theorem nf_b {sh : Sh} {b : Nat} {F : shE} {T : Sh} (hb : b < sh.length) : (nf sh b F T)[b]? = some F := by
  rw [nf, List.getElem?_append_left (by simpa using hb), List.getElem?_set_self hb]
theorem nf_o {sh : Sh} {b k : Nat} {F : shE} {T : Sh} (hk : k < sh.length) (hne : k ≠ b) : (nf sh b F T)[k]? = sh[k]? := by
  rw [nf, List.getElem?_append_left (by simpa using hk), List.getElem?_set_ne (Ne.symm hne)]
theorem nf_t {sh : Sh} {b i : Nat} {F : shE} {T : Sh} {x : shE} (h : T[i]? = some x) : (nf sh b F T)[sh.length + i]? = some x := by
  rw [nf, List.getElem?_append_right (by simp), List.length_set, ← h]
  congr 1
  omega
theorem nf_push {sh : Sh} {b : Nat} {F : shE} {T X T1 : Sh} (h : T ++ X = T1) : nf sh b F T ++ X = nf sh b F T1 := by rw [← h]; simp [nf]
theorem nf_setb {sh : Sh} {b : Nat} {F F' : shE} {T : Sh} (hb : b < sh.length) : (nf sh b F T).set b F' = nf sh b F' T := by
  rw [nf, nf, List.set_append_left _ _ (by simpa using hb), List.set_set]
theorem nf_nf {sh : Sh} {b i : Nat} {F F' : shE} {T T' T2 : Sh} (h : T.set i F' ++ T' = T2) : nf (nf sh b F T) (sh.length + i) F' T' = nf sh b F T2 := by
  rw [← h, nf, nf, nf, List.set_append_right _ _ (by simp)]
  simp
theorem nf_0 {sh : Sh} {b : Nat} {F : shE} (h : sh[b]? = some F) : sh = nf sh b F [] := by
  rw [nf, List.append_nil]
  obtain ⟨h1, h2⟩ := List.getElem?_eq_some_iff.mp h
  rw [← h2, List.set_getElem_self]
def gz (G : Gt) (k : Nat) (v : Int32) : Gt := fun a j => if a = k then v else G a j
def gf (G : Gt) (a N : Nat) (v : Int32) : Gt := fun k j => if k = a ∧ j < N then v else G k j
def wfF (n : Nat) : fE → Prop
  | some (some r) => r.1 < n ∧ r.2 < n
  | _ => True
def wfE (n : Nat) : shE → Prop
  | .inr x => ∀ f ∈ x.2, wfF n f
  | .inl _ => True
def wfS (n : Nat) (sh : Sh) : Prop := ∀ x ∈ sh, wfE n x
def wfL (sh : Sh) : Prop := wfS sh.length sh
theorem wfF.mono {n m : Nat} {f : fE} (h : wfF n f) (hnm : n ≤ m) : wfF m f := by
  match f, h with
  | none, _ => trivial
  | some none, _ => trivial
  | some (some r), h => exact ⟨Nat.lt_of_lt_of_le h.1 hnm, Nat.lt_of_lt_of_le h.2 hnm⟩
theorem wfE.mono {n m : Nat} {x : shE} (h : wfE n x) (hnm : n ≤ m) : wfE m x := by
  match x, h with
  | .inl _, _ => trivial
  | .inr y, h => exact fun f hf => (h f hf).mono hnm
theorem wfL_push {sh : Sh} {x : shE} (h : wfL sh) (hx : wfE (sh.length + 1) x) : wfL (sh ++ [x]) := by
  intro y hy
  rw [List.length_append]
  rcases List.mem_append.mp hy with hy | hy
  · exact (h y hy).mono (by simp)
  · rw [List.mem_singleton.mp hy]; exact hx
theorem wfL_set {sh : Sh} {b : Nat} {x : shE} (h : wfL sh) (hx : wfE sh.length x) : wfL (sh.set b x) := by
  intro y hy
  rw [List.length_set]
  rcases List.mem_or_eq_of_mem_set hy with hy | hy
  · exact h y hy
  · rw [hy]; exact hx
theorem wfE_put {n ci j r q : Nat} {fs : List fE} (h : wfE n (.inr (ci, fs))) (hr : r < n) (hq : q < n) : wfE n (.inr (ci, fs.set j (some (some (q, r))))) := by
  intro f hf
  rcases List.mem_or_eq_of_mem_set hf with hf | hf
  · exact h f hf
  · rw [hf]; exact ⟨hq, hr⟩
theorem wfE_get {n b : Nat} {sh : Sh} {x : shE} (h : wfS n sh) (hb : sh[b]? = some x) : wfE n x := h x (List.mem_of_getElem? hb)
theorem cF_ad {ad ad1 : Nat → Nat} {n : Nat} (h : ∀ i, i < n → ad1 i = ad i) {f : fE} (hw : wfF n f) (g : Nat → Int32) (j : Nat) : cF ad1 g j f = cF ad g j f := by
  match f, hw with
  | none, _ => rfl
  | some none, _ => rfl
  | some (some r), hw =>
    show Value.ref (ad1 (if g j = 0 then r.1 else r.2)) = Value.ref (ad (if g j = 0 then r.1 else r.2))
    rw [h]
    split
    · exact hw.1
    · exact hw.2
theorem cA_ad {tA : Nat → ClassId} {ad ad1 : Nat → Nat} {n : Nat} (h : ∀ i, i < n → ad1 i = ad i) {x : shE} (hw : wfE n x) (g : Nat → Int32) : cA tA ad1 g x = cA tA ad g x := by
  match x, hw with
  | .inl (0, _), _ => rfl
  | .inl (1, _), _ => rfl
  | .inl (_ + 2, _), _ => rfl
  | .inr (ci, fs), hw =>
    show (Sum.inr (ci, fs.mapIdx (cF ad1 g)) : va_E) = Sum.inr (ci, fs.mapIdx (cF ad g))
    congr 2
    apply List.ext_getElem?
    intro j
    rw [List.getElem?_mapIdx, List.getElem?_mapIdx]
    cases hj : fs[j]? with
    | none => rfl
    | some f =>
      show some (cF ad1 g j f) = some (cF ad g j f)
      rw [cF_ad h (hw f (List.mem_of_getElem? hj))]
theorem cWx_ad {tA : Nat → ClassId} {ad ad1 : Nat → Nat} {G : Gt} : ∀ (sh : Sh) (o n : Nat), wfS n sh → o + sh.length ≤ n → (∀ i, i < n → ad1 i = ad i) → cWx tA ad1 G o sh = cWx tA ad G o sh
  | [], _, _, _, _, _ => rfl
  | y :: t, o, n, hw, hn, h => by
    have hl : o + (t.length + 1) ≤ n := hn
    rw [cWx, cWx, cWx_ad t (o + 1) n (fun x hx => hw x (List.mem_cons_of_mem _ hx)) (by omega) h, cA_ad h (hw y List.mem_cons_self), h o (by omega)]
theorem cW_ad {tA : Nat → ClassId} {ad ad1 : Nat → Nat} {G : Gt} {sh : Sh} (hw : wfL sh) (h : ∀ i, i < sh.length → ad1 i = ad i) : cW tA ad1 G sh = cW tA ad G sh :=
  cWx_ad sh 0 sh.length hw (by omega) h
theorem cWx_app {tA : Nat → ClassId} {ad : Nat → Nat} {G : Gt} : ∀ (sh : Sh) (o : Nat) (x : shE), isP x = false → cWx tA ad G o (sh ++ [x]) = cWx tA ad G o sh ++ [(ad (o + sh.length), cA tA ad (G (o + sh.length)) x)]
  | [], o, x, hp => by
    show cWx tA ad G o [x] = _
    rw [cWx_N hp]
    rfl
  | y :: t, o, x, hp => by
    have ih := cWx_app (tA := tA) (ad := ad) (G := G) t (o + 1) x hp
    rw [show o + 1 + t.length = o + (y :: t).length by rw [List.length_cons]; omega] at ih
    rw [List.cons_append]
    cases c : isP y with
    | true => rw [cWx_P c, cWx_P c]; exact ih
    | false => rw [cWx_N c, cWx_N c, ih]; rfl
theorem cWx_lt {tA : Nat → ClassId} {ad : Nat → Nat} {G G' : Gt} : ∀ (sh : Sh) (o n : Nat), o + sh.length ≤ n → (∀ a, a < n → G' a = G a) → cWx tA ad G' o sh = cWx tA ad G o sh
  | [], _, _, _, _ => rfl
  | y :: t, o, n, hn, h => by
    have hl : o + (t.length + 1) ≤ n := hn
    rw [cWx, cWx, cWx_lt t (o + 1) n (by omega) h, h o (by omega)]
theorem cW_push {tA : Nat → ClassId} {ad ad1 : Nat → Nat} {G : Gt} {sh : Sh} {x : shE} {v : Int32} {q : Nat} {y : va_E} (hw : wfL sh) (h : ∀ i, i < sh.length → ad1 i = ad i) (hq : ad1 sh.length = q) (hy : cA tA ad1 (fun _ => v) x = y) (hp : isP x = false := by rfl) : cW tA ad G sh ++ [(q, y)] = cW tA ad1 (gz G sh.length v) (sh ++ [x]) := by
  have e3 : gz G sh.length v sh.length = fun _ => v := by funext j; simp [gz]
  have e2 : cWx tA ad1 (gz G sh.length v) 0 sh = cWx tA ad1 G 0 sh := cWx_lt sh 0 sh.length (by omega) (fun a ha => by funext j; simp [gz, Nat.ne_of_lt ha])
  show _ = cWx tA ad1 (gz G sh.length v) 0 (sh ++ [x])
  rw [cWx_app sh 0 x hp, Nat.zero_add, e2, e3, hq, hy]
  congr 1
  exact (cW_ad hw h).symm
theorem isP_arr {t N : Nat} (h : t < 3) : isP (.inl (t, N)) = false := by
  match t, h with
  | 0, _ => rfl
  | 1, _ => rfl
  | 2, _ => rfl
/-- the references of locals or stack are those of cells that are there -/
def rk (n : Nat) : List (Option Value) → Prop
  | [] => True
  | some (.ref k) :: t => k < n ∧ rk n t
  | none :: t => rk n t
  | some .null :: t => rk n t
  | some (.int _) :: t => rk n t
  | some _ :: t => rk n t
theorem rk_at {n : Nat} : ∀ (l : List (Option Value)), rk n l → ∀ k, some (.ref k) ∈ l → k < n
  | [], _, _, hk => by cases hk
  | o :: t, h, k, hk => by
    have ht : rk n t := by
      match o, h with
      | none, h => exact h
      | some .null, h => exact h
      | some (.int _), h => exact h
      | some (.ref _), h => exact h.2
      | some (.long _), h => exact h
      | some (.float _), h => exact h
      | some (.double _), h => exact h
      | some (.retAddr _), h => exact h
    rcases List.mem_cons.mp hk with hk | hk
    · subst hk
      exact h.1
    · exact rk_at t ht k hk
theorem tv_ad {ad ad1 : Nat → Nat} {n : Nat} (h : ∀ i, i < n → ad1 i = ad i) {v : Value} (hv : ∀ k, v = .ref k → k < n) : tv ad1 v = tv ad v := by
  cases v with
  | ref k => show Value.ref (ad1 k) = Value.ref (ad k); rw [h k (hv k rfl)]
  | _ => rfl
theorem lo_ad {ad ad1 : Nat → Nat} {n : Nat} (h : ∀ i, i < n → ad1 i = ad i) : ∀ (l : List (Option Value)) (i : Nat), rk n l → lo ad1 i l = lo ad i l
  | [], _, _ => rfl
  | o :: t, i, hr => by
    have ht : rk n t := by
      match o, hr with
      | none, h => exact h
      | some .null, h => exact h
      | some (.int _), h => exact h
      | some (.ref _), h => exact h.2
      | some (.long _), h => exact h
      | some (.float _), h => exact h
      | some (.double _), h => exact h
      | some (.retAddr _), h => exact h
    cases o with
    | none => exact lo_ad h t (i + 1) ht
    | some v =>
      show (i, tv ad1 v) :: lo ad1 (i + 1) t = (i, tv ad v) :: lo ad (i + 1) t
      rw [lo_ad h t (i + 1) ht, tv_ad h (fun k hk => rk_at _ hr k (by rw [hk]; exact List.mem_cons_self))]
theorem st_ad {ad ad1 : Nat → Nat} {n : Nat} (h : ∀ i, i < n → ad1 i = ad i) (st : List Value) (hr : rk n (st.map some)) : st.map (tv ad1) = st.map (tv ad) := by
  apply List.map_congr_left
  intro v hv
  exact tv_ad h (fun k hk => rk_at _ hr k (List.mem_map.mpr ⟨v, hv, by rw [hk]⟩))
