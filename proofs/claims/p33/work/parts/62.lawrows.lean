/-! rows of the law's own body: calls out of a world that has one row more than the callee knows of (at a place c where the callee's shape has none), rows made at such a place -/
theorem set_ne' {sh : Sh} {c k : Nat} {x y : shE} (h : (sh.set c x)[k]? = some y) (hk : ¬ k = c) : sh[k]? = some y := by
  rw [List.getElem?_set_ne (fun e => hk e.symm)] at h; exact h
theorem set_ne2 {sh : Sh} {c k : Nat} {x y : shE} (h : sh[k]? = some y) (hk : ¬ k = c) : (sh.set c x)[k]? = some y := by
  rw [List.getElem?_set_ne (fun e => hk e.symm)]; exact h
theorem set_eq' {sh : Sh} {c : Nat} {x z : shE} (h : sh[c]? = some z) : (sh.set c x)[c]? = some x :=
  List.getElem?_set_self (List.getElem?_eq_some_iff.mp h).1
theorem isP_ne {sh : Sh} {c k : Nat} {x : shE} (hc : sh[c]? = some (.inl (9, 0))) (h : sh[k]? = some x) (hp : isP x = false) : ¬ k = c := by
  rintro rfl
  rw [hc] at h
  cases h
  cases hp
theorem cW_sub {D : va_G} {tA : Nat → ClassId} {ad : Nat → Nat} {G : Gt} {sh : Sh} {c : Nat} {y : shE} {H : Heap} (hc : sh[c]? = some (.inl (9, 0))) (h : va_P D vwCl (cW tA ad G (sh.set c y)) H) : va_P D vwCl (cW tA ad G sh) H := by
  intro i q hq
  obtain ⟨k, x, hx, hp, rfl, rfl⟩ := cW_inv hq
  exact h _ _ (cW_at (set_ne2 hx (isP_ne hc hx hp)) hp)
theorem cW_subD {A : Nat → Prop} {tA : Nat → ClassId} {ad : Nat → Nat} {G : Gt} {sh : Sh} {c : Nat} {y : shE} (hc : sh[c]? = some (.inl (9, 0))) (h : va_D A (cW tA ad G (sh.set c y))) : va_D A (cW tA ad G sh) := by
  refine ⟨fun i j p q hi hj e => ?_, fun i q hq => ?_⟩
  · obtain ⟨a, x, hx, hxp, rfl, rfl⟩ := cW_inv hi
    obtain ⟨b, z, hz, hzp, rfl, rfl⟩ := cW_inv hj
    have ha := set_ne2 (x := y) hx (isP_ne hc hx hxp)
    have hb := set_ne2 (x := y) hz (isP_ne hc hz hzp)
    have := h.1 _ _ _ _ (cW_at ha hxp) (cW_at hb hzp) e
    rw [ps_inj _ _ _ _ _ ha hb hxp hzp this]
  · obtain ⟨a, x, hx, hxp, rfl, rfl⟩ := cW_inv hq
    exact h.2 _ _ (cW_at (set_ne2 hx (isP_ne hc hx hxp)) hxp)
def frm (c : Nat) (G G' : Gt) : Gt := fun k => if k = c then G c else G' k
theorem frm_self {c : Nat} {G : Gt} : frm c G G = G := by
  funext k
  unfold frm
  split
  · subst_vars; rfl
  · rfl
theorem cA_arr {tA : Nat → ClassId} {ad ad1 : Nat → Nat} {g : Nat → Int32} {m : Nat} : cA tA ad1 g (.inl (0, m)) = cA tA ad g (.inl (0, m)) := rfl
section AWF
variable {p : Program} {l : Launch} {e : Env} {R : Room} {s : State} {m : MethodId} {args : Array Value} {below : List Frame} {meth : Method} {c : Code} {D : va_G} {tA : Nat → ClassId} {A : Nat → Prop} {ad : Nat → Nat} {nL : Nat} {Q : State → Prop} {k n : Nat} {own : String} {cc : ByteArray}
variable {pc : Nat} {lv : List (Option Value)} {st rest : List Value} {sh sh' sh2 : Sh} {G : Gt} {K : Option Value → Sh → Gt → Prop}
variable {y : MethodName} {bytes : ByteArray} {maxL fr lc mc ms idx b ci N na t9 m9 : Nat} {ret : Option FieldType} {Cn : String} {T : u_T} {fs : List fE} {As : List Value} {hh : List (Nat × Nat × Nat × Nat)}
theorem aw_runQ (C : cx p s m args meth c own cc nL D tA A) (hr : ∀ (H : Heap) (locs : List Loc) (ls : Array Slot), va_P D vwCl (cW tA ad G sh) H → va_D A (cW tA ad G sh) → va_S A s.heap H locs → lv_has ls nL (lo ad 0 lv) → ∃ a, va_Run p l e R s m args below meth c H locs k n mc ms (F0 m pc ls (st.map (tv ad))) (rest.map (tv ad)) (QL D tA ad (va_A (cW tA ad G sh) H.size) sh K a) (va_A (cW tA ad G sh) H.size)) (hlv : rk sh.length lv) (hrs : rk sh.length (rest.map some))
    (kk : ∀ (r : Option Value) (ad1 : Nat → Nat) (sh' : Sh) (G' : Gt), (∀ j, j < sh.length → ad1 j = ad j) → K r sh' G' → aw p l e R s m args below meth c nL D tA A Q (k + mc) (n + ms) ad1 (pc + 3) lv (r.toList ++ rest) sh' G') : aw p l e R s m args below meth c nL D tA A Q k n ad pc lv st sh G := by
  intro H locs ls h1 h2 h3 h4
  intro T hT X
  obtain ⟨a, ha⟩ := hr H locs ls h1 h2 h3 h4
  obtain ⟨v, st₀, t, T', L, h0, X', hL, e1, e2, ⟨⟨r, ad1, sh1, G', hv, hE, hp, hb, hd⟩, hz, hk⟩, sp⟩ := ha T hT X
  cases hv
  rw [h0] at hz hk
  have hA1 : ∀ q, va_A (cW tA ad G sh) H.size q → A q := by
    intro q hq
    rcases hq with ⟨j, en, hq⟩ | hq
    · exact h2.2 j _ hq
    · exact C.2.2.2.2.2.2.2.1 q (Nat.le_trans h3.1 hq)
  have hw := kk r ad1 sh1 G' hE hp T'.heap (locs ++ L) ls (by rw [e1]; exact hb) (hd.weaken (fun _ _ _ hq => hA1 _ hq)) ⟨Nat.le_trans h3.1 (by rw [e1]; exact hz), fun q g1 g2 => by
      rw [e1, hk q (Nat.lt_of_lt_of_le g1 h3.1) (fun z => g2 (hA1 q z))]; exact h3.2.1 q g1 g2, fun q hq => by
      rcases List.mem_append.mp hq with h | h
      · exact h3.2.2 q h
      · exact hA1 _ (hL q h)⟩ (by rw [lo_ad hE lv 0 hlv]; exact h4)
  obtain ⟨t2, a1, b1⟩ := hw T' rfl X'
  refine ⟨t2, sp t2 ?_, b1⟩
  have e : (r.toList ++ rest).map (tv ad1) = (r.map (tv ad1)).toList ++ rest.map (tv ad) := by
    rw [List.map_append, st_ad hE rest hrs]
    cases r <;> rfl
  rw [e] at a1
  exact a1
/-- the same out of a world with one row more -/
theorem aw_runF (C : cx p s m args meth c own cc nL D tA A) (hc9 : sh[t9]? = some (.inl (9, 0))) (hr : ∀ (H : Heap) (locs : List Loc) (ls : Array Slot), va_P D vwCl (cW tA ad G sh) H → va_D A (cW tA ad G sh) → va_S A s.heap H locs → lv_has ls nL (lo ad 0 lv) → ∃ a, va_Run p l e R s m args below meth c H locs k n mc ms (F0 m pc ls (st.map (tv ad))) (rest.map (tv ad)) (QL D tA ad (va_A (cW tA ad G sh) H.size) sh K a) (va_A (cW tA ad G sh) H.size)) (hlv : rk sh.length lv) (hrs : rk sh.length (rest.map some))
    (kk : ∀ (r : Option Value) (ad1 : Nat → Nat) (sh' : Sh) (G' : Gt), (∀ j, j < sh.length → ad1 j = ad j) → K r sh' G' → sh'[t9]? = some (.inl (9, 0)) ∧ aw p l e R s m args below meth c nL D tA A Q (k + mc) (n + ms) ad1 (pc + 3) lv (r.toList ++ rest) (sh'.set t9 (.inl (0, m9))) (frm t9 G G')) : aw p l e R s m args below meth c nL D tA A Q k n ad pc lv st (sh.set t9 (.inl (0, m9))) G := by
  intro H locs ls h1 h2 h3 h4
  intro T hT X
  have hx9 : (sh.set t9 (.inl (0, m9)))[t9]? = some (.inl (0, m9)) := set_eq' hc9
  have f1 := cW_sub hc9 h1
  have f2 := cW_subD hc9 h2
  have hat := h1 _ _ (cW_at hx9 (hp := rfl))
  have hlt : ad t9 < H.size := hat.lt
  have hnA : ¬ va_A (cW tA ad G sh) H.size (ad t9) := by
    rintro (⟨j, en, hq⟩ | hq)
    · obtain ⟨a, x, hx, hxp, _, he⟩ := cW_inv hq
      have hne := isP_ne hc9 hx hxp
      have ha := set_ne2 (x := .inl (0, m9)) hx hne
      have ea : ad t9 = ad a := congrArg Prod.fst he
      have := h2.1 _ _ _ _ (cW_at ha hxp) (cW_at hx9 (hp := rfl)) ea.symm
      exact hne (ps_inj _ _ _ _ _ ha hx9 hxp rfl this)
    · omega
  have hlen : t9 < sh.length := (List.getElem?_eq_some_iff.mp hc9).1
  obtain ⟨a, ha⟩ := hr H locs ls f1 f2 h3 h4
  obtain ⟨v, st₀, t, T', L, h0, X', hL, e1, e2, ⟨⟨r, ad1, sh1, G', hv, hE, hp, hb, hd⟩, hz, hk⟩, sp⟩ := ha T hT X
  cases hv
  rw [h0] at hz hk
  have hA1 : ∀ q, va_A (cW tA ad G sh) H.size q → A q := by
    intro q hq
    rcases hq with ⟨j, en, hq⟩ | hq
    · exact f2.2 j _ hq
    · exact C.2.2.2.2.2.2.2.1 q (Nat.le_trans h3.1 hq)
  obtain ⟨hc1, hw⟩ := kk r ad1 sh1 G' hE hp
  have e9 : ad1 t9 = ad t9 := hE t9 hlen
  have hPf : va_P D vwCl (cW tA ad1 (frm t9 G G') (sh1.set t9 (.inl (0, m9)))) t.heap := by
    intro i q hq
    obtain ⟨k1, x1, hx1, hp1, rfl, rfl⟩ := cW_inv hq
    by_cases hk1 : k1 = t9
    · subst hk1
      rw [set_eq' hc1] at hx1
      cases hx1
      have ef : frm k1 G G' k1 = G k1 := if_pos rfl
      rw [e9, ef]
      exact hat.kept (hk _ hlt hnA)
    · have ef : frm t9 G G' k1 = G' k1 := if_neg hk1
      rw [ef]
      exact hb _ _ (cW_at (set_ne' hx1 hk1) hp1)
  have hDf : va_D A (cW tA ad1 (frm t9 G G') (sh1.set t9 (.inl (0, m9)))) := by
    have key : ∀ (k1 : Nat) (x1 : shE), (sh1.set t9 (.inl (0, m9)))[k1]? = some x1 → isP x1 = false → ¬ k1 = t9 → va_A (cW tA ad G sh) H.size (ad1 k1) := fun k1 x1 hx1 hp1 hk1 => by
      have := hd.2 _ _ (cW_at (set_ne' hx1 hk1) hp1)
      exact this
    refine ⟨fun i j pp q hi hj ee => ?_, fun i q hq => ?_⟩
    · obtain ⟨k1, x1, hx1, hp1, rfl, rfl⟩ := cW_inv hi
      obtain ⟨k2, x2, hx2, hp2, rfl, rfl⟩ := cW_inv hj
      have e5 : ad1 k1 = ad1 k2 := ee
      by_cases q1 : k1 = t9
      · by_cases q2 : k2 = t9
        · rw [q1, q2]
        · subst q1
          exact absurd (by rw [← e9, e5]; exact key k2 x2 hx2 hp2 q2) hnA
      · by_cases q2 : k2 = t9
        · subst q2
          exact absurd (by rw [← e9, ← e5]; exact key k1 x1 hx1 hp1 q1) hnA
        · have g1 := set_ne' hx1 q1
          have g2 := set_ne' hx2 q2
          have := hd.1 _ _ _ _ (cW_at g1 hp1) (cW_at g2 hp2) e5
          rw [ps_inj _ _ _ _ _ g1 g2 hp1 hp2 this]
    · obtain ⟨k1, x1, hx1, hp1, rfl, rfl⟩ := cW_inv hq
      by_cases q1 : k1 = t9
      · subst q1
        show A (ad1 k1)
        rw [e9]
        exact h2.2 _ _ (cW_at hx9 (hp := rfl))
      · exact hA1 _ (key k1 x1 hx1 hp1 q1)
  have hw := hw T'.heap (locs ++ L) ls (by rw [e1]; exact hPf) hDf ⟨Nat.le_trans h3.1 (by rw [e1]; exact hz), fun q g1 g2 => by
      rw [e1, hk q (Nat.lt_of_lt_of_le g1 h3.1) (fun z => g2 (hA1 q z))]; exact h3.2.1 q g1 g2, fun q hq => by
      rcases List.mem_append.mp hq with h | h
      · exact h3.2.2 q h
      · exact hA1 _ (hL q h)⟩ (by rw [lo_ad hE lv 0 hlv]; exact h4)
  obtain ⟨t2, a1, b1⟩ := hw T' rfl X'
  refine ⟨t2, sp t2 ?_, b1⟩
  have e : (r.toList ++ rest).map (tv ad1) = (r.map (tv ad1)).toList ++ rest.map (tv ad) := by
    rw [List.map_append, st_ad hE rest hrs]
    cases r <;> rfl
  rw [e] at a1
  exact a1
/-- a method's contract whose shape behind it may be another -/
def CV (l : Launch) (y : MethodName) (cc : ByteArray) (nL : Nat) (ret : Option FieldType) (fr lc mc ms : Nat) (av : List Value) (sh : Sh) (G : Gt) (K : Option Value → Sh → Gt → Prop) : Prop :=
  ∀ (D : va_G) (tA : Nat → ClassId) (ad : Nat → Nat) (sz : Nat), Met l y (.code y cc nL ret :: GW) { frames := fr, cells := mc, slots := ms, locals := lc } (va_Pc (av.map (tv ad)) (PW D tA ad sz sh G)) (QL D tA ad (va_A (cW tA ad G sh) sz) sh K) mc ms (va_A (cW tA ad G sh) sz)
theorem CV_of {l : Launch} {y : MethodName} {cc : ByteArray} {nL : Nat} {ret : Option FieldType} {fr lc mc ms : Nat} {av : List Value} {sh : Sh} {G : Gt} {K : Option Value → Sh → Gt → Prop} (hy : plainName y.cls = true) (hav : (lg_sl (av.map (tv (fun q => q)))).length ≤ nL) (h1 : l1 (av.map some) = true)
    (body : ∀ (p : Program) (e : Env) (s : State) (m : MethodId) (args : Array Value) (below : List Frame) (meth : Method) (c : Code) (D : va_G) (tA : Nat → ClassId) (ad : Nat → Nat) (A : Nat → Prop), cx p s m args meth c y.cls cc nL D tA A → meth.sig.returnType = ret →
      aw p l e { frames := fr, cells := mc, slots := ms, locals := lc } s m args below meth c nL D tA A (MQ below (QL D tA ad A sh K) args s mc ms A) 0 0 ad 0 (pad (av.map some) nL) [] sh G) : CV l y cc nL ret fr lc mc ms av sh G K := by
  intro D tA ad sz
  refine Met.ofW (cc := cc) (maxL := nL) (ret := ret) hy rfl ?_
  intro p e s m args below meth c s₁ B hml hv
  obtain ⟨rfl, hsz, hP, hK, hD0, hsx⟩ := hv
  have hts := atoms_spec (ws := .code y cc nL ret :: GW) B.pre
  have hown : s.vm.findClass y.cls = some m.cls := findClass_of_methodNamed B.named
  have hlocks := B.notSynchronized
  subst hsz
  have C : cx p s m (av.map (tv ad)).toArray meth c y.cls cc nL D tA (va_A (cW tA ad G sh) s.heap.size) := ⟨B.exec, B.bytes, hml, hown, fun w hw => hts w (List.mem_cons_of_mem _ hw), hK, hlocks, fun q h => Or.inr h, hsx⟩
  have hlen : (lg_sl (av.map (tv ad))).length ≤ nL := by rw [sl_tv ad (fun q => q)]; exact hav
  have hl := lv_entry (av.map (tv ad)) (n := nL) hlen
  rw [lg_entry_eq]
  generalize (lg_sl (av.map (tv ad)) ++ List.replicate (nL - (lg_sl (av.map (tv ad))).length) Slot.unset).toArray = ls at hl ⊢
  have hl2 : lv_has ls nL (lo ad 0 (pad (av.map some) nL)) := by
    refine lv_less hl (fun q hq0 => ?_)
    have hq := lo_pad hq0
    rw [← lo_args _ _ h1]; exact hq
  exact body p e s m _ below meth c D tA ad _ C B.returns s.heap [] ls hP hD0.self va_S.rf hl2
theorem CT0.toCV {l : Launch} {y : MethodName} {cc : ByteArray} {nL : Nat} {ret : Option FieldType} {fr lc : Nat} {av : List Value} {sh : Sh} {G : Gt} {K : Option Value → Gt → Prop} (h : CT0 l y cc nL ret fr lc av sh G K) : CV l y cc nL ret fr lc 0 0 av sh G (fun r s' G' => s' = sh ∧ K r G') := by
  intro D tA ad sz p e ha hc hx0 s m args below hf hfit hP hT
  have hd : ∀ G' : Gt, va_D (va_A (cW tA ad G sh) sz) (cW tA ad G' sh) := by
    intro G'
    obtain ⟨-, hsz, -, -, hD0, -⟩ := hP
    exact (hD0.self (sz := sz)).cW
  obtain ⟨t, o, a1, a2, a3, ⟨⟨r, G', g1, g2, g3⟩, g4⟩, g5⟩ := h D tA ad sz p e ha hc hx0 s m args below hf hfit hP hT
  exact ⟨t, o, a1, a2, a3, ⟨⟨r, ad, sh, G', g1, fun _ _ => rfl, ⟨rfl, g2⟩, g3, hd G'⟩, g4⟩, g5⟩
/-- the run of a static method, of one that catches, of an instance's -/
theorem run_W (C : cx p s m args meth c own cc nL D tA A) (d : decode cc pc = .ok (.invokestatic idx, 3)) (hM : CW l y bytes maxL hh fr lc mc ms As sh G K) (hlk : Cond.methodLink own idx y ∈ GW) (hcw : Cond.codeWith y bytes maxL (some .int) hh ∈ GW) (hstt : Cond.static y ∈ GW) (hini : Cond.initialized y.cls ∈ GW) (hd : y.cls ≠ "java/lang/invoke/MethodHandle" ∧ y.cls ≠ "java/lang/invoke/VarHandle" ∧ (parseMethodDescriptor y.desc).map (fun d => d.parameters.length) = some na) (hn : As.length = na) (hR : fr + 1 ≤ R.frames ∧ 8 + (maxL + 11) + lc ≤ R.locals ∧ k + mc ≤ R.cells ∧ n + ms ≤ R.slots) (rest : List Value) (hst : st = As.reverse ++ rest) (hcat : (rest.map fun v => v.category).sum ≤ 8) :
    ∀ (H : Heap) (locs : List Loc) (ls : Array Slot), va_P D vwCl (cW tA ad G sh) H → va_D A (cW tA ad G sh) → va_S A s.heap H locs → lv_has ls nL (lo ad 0 lv) → ∃ a, va_Run p l e R s m args below meth c H locs k n mc ms (F0 m pc ls (st.map (tv ad))) (rest.map (tv ad)) (QL D tA ad (va_A (cW tA ad G sh) H.size) sh K a) (va_A (cW tA ad G sh) H.size) := by
  intro H locs ls h1 h2 h3 h4
  subst hst
  refine ⟨_, vx_runSW (As := As.map (tv ad)) (rest := rest.map (tv ad)) (n := na) ⟨C.1, C.2.1, C.2.2.1, C.2.2.2.1, C.2.2.2.2.1⟩ (hM D tA ad H.size) (vx_cwSW na C.2.2.2.2.1 ?_ rfl rfl rfl hd ⟨hR.1, hR.2.1⟩) ⟨PW_blind, fun U hU hW => ⟨rfl, by rw [hU], by rw [hU]; exact h1, va_K.moved hW.alike C.2.2.2.2.2.1, h2.weaken (fun _ _ _ _ => trivial), ?_⟩⟩ rfl (by simp [hn]) h4.1 (by simp) (lv_room (by rw [tv_sum]; exact hcat)) d ⟨hR.2.2.1, hR.2.2.2⟩⟩
  · intro w hw
    rcases List.mem_append.mp hw with hw | hw
    · simp only [List.mem_cons, List.not_mem_nil, or_false] at hw
      have hin : w ∈ GW := by
        rcases hw with rfl | rfl | rfl
        · exact hlk
        · exact hstt
        · exact hini
      exact ⟨hin, good_of_word (gw_good hin)⟩
    · rcases List.mem_cons.mp hw with rfl | hw
      · exact ⟨hcw, good_of_word (gw_good hcw)⟩
      · exact ⟨hw, good_of_word (gw_good hw)⟩
  · rw [hU]
    refine sx.warm hW C.2.2.2.2.2.2.2.2 (fun a g1 g2 => h3.2.1 a g1 g2) ?_
    intro q hq
    rcases hq with ⟨j, en, hq⟩ | hq
    · exact h2.2 j _ hq
    · exact C.2.2.2.2.2.2.2.1 q (Nat.le_trans h3.1 hq)
theorem run_S (C : cx p s m args meth c own cc nL D tA A) (d : decode cc pc = .ok (.invokestatic idx, 3)) (hM : CV l y bytes maxL ret fr lc mc ms As sh G K) (hlk : Cond.methodLink own idx y ∈ GW) (hy : gwS y bytes maxL ret na) (ho : y.cls = own) (hn : As.length = na) (hR : fr + 1 ≤ R.frames ∧ 8 + (maxL + 11) + lc ≤ R.locals ∧ k + mc ≤ R.cells ∧ n + ms ≤ R.slots) (rest : List Value) (hst : st = As.reverse ++ rest) (hcat : (rest.map fun v => v.category).sum ≤ 8) :
    ∀ (H : Heap) (locs : List Loc) (ls : Array Slot), va_P D vwCl (cW tA ad G sh) H → va_D A (cW tA ad G sh) → va_S A s.heap H locs → lv_has ls nL (lo ad 0 lv) → ∃ a, va_Run p l e R s m args below meth c H locs k n mc ms (F0 m pc ls (st.map (tv ad))) (rest.map (tv ad)) (QL D tA ad (va_A (cW tA ad G sh) H.size) sh K a) (va_A (cW tA ad G sh) H.size) := by
  intro H locs ls h1 h2 h3 h4
  subst hst
  refine ⟨_, va_runS (As := As.map (tv ad)) (rest := rest.map (tv ad)) (n := na) ⟨C.1, C.2.1, C.2.2.1, C.2.2.2.1, C.2.2.2.2.1⟩ (hM D tA ad H.size) (cwS na C.2.2.2.2.1 ?_ rfl rfl rfl ⟨ho, hy.2.2.2⟩ ⟨hR.1, hR.2.1⟩) ⟨PW_blind, fun U hU hW => ⟨rfl, by rw [hU], by rw [hU]; exact h1, va_K.moved hW.alike C.2.2.2.2.2.1, h2.weaken (fun _ _ _ _ => trivial), ?_⟩⟩ rfl (by simp [hn]) h4.1 (by simp) (lv_room (by rw [tv_sum]; exact hcat)) d ⟨hR.2.2.1, hR.2.2.2⟩⟩
  · intro w hw
    rcases List.mem_append.mp hw with hw | hw
    · simp only [List.mem_cons, List.not_mem_nil, or_false] at hw
      have hin : w ∈ GW := by
        rcases hw with rfl | rfl | rfl
        · exact hlk
        · exact hy.2.1
        · rw [← ho]; exact hy.2.2.1
      exact ⟨hin, good_of_word (gw_good hin)⟩
    · exact gwGood y bytes maxL ret hy.1 w hw
  · rw [hU]
    refine sx.warm hW C.2.2.2.2.2.2.2.2 (fun a g1 g2 => h3.2.1 a g1 g2) ?_
    intro q hq
    rcases hq with ⟨j, en, hq⟩ | hq
    · exact h2.2 j _ hq
    · exact C.2.2.2.2.2.2.2.1 q (Nat.le_trans h3.1 hq)
theorem run_V (C : cx p s m args meth c own cc nL D tA A) (d : decode cc pc = .ok (.invokevirtual idx, 3)) (hM : CV l y bytes maxL ret fr lc mc ms (.ref b :: As) sh G K) (hlk : Cond.methodLink own idx y ∈ GW) (hy : gwV y bytes maxL ret Cn na) (hs : sh[b]? = some (.inr (ci, fs))) (hc : vwCl[ci]? = some (Cn, T, N)) (hn : As.length = na) (hR : fr + 1 ≤ R.frames ∧ 8 + (maxL + 11) + lc ≤ R.locals ∧ k + mc ≤ R.cells ∧ n + ms ≤ R.slots) (rest : List Value) (hst : st = As.reverse ++ .ref b :: rest) (hcat : (rest.map fun v => v.category).sum ≤ 8) :
    ∀ (H : Heap) (locs : List Loc) (ls : Array Slot), va_P D vwCl (cW tA ad G sh) H → va_D A (cW tA ad G sh) → va_S A s.heap H locs → lv_has ls nL (lo ad 0 lv) → ∃ a, va_Run p l e R s m args below meth c H locs k n mc ms (F0 m pc ls (st.map (tv ad))) (rest.map (tv ad)) (QL D tA ad (va_A (cW tA ad G sh) H.size) sh K a) (va_A (cW tA ad G sh) H.size) := by
  intro H locs ls h1 h2 h3 h4
  subst hst
  refine ⟨_, va_runV (As := As.map (tv ad)) (b := ad b) (rest := rest.map (tv ad)) (C := Cn) (n := na) ⟨C.1, C.2.1, C.2.2.1, C.2.2.2.1, C.2.2.2.2.1⟩ (hM D tA ad H.size) (cwV na C.2.2.2.2.1 ?_ rfl rfl rfl hy.2.2.2.2 ⟨hR.1, hR.2.1⟩) ⟨PW_blind, va_recv C.2.2.2.2.2.1 h1 hc (cW_at hs), fun U hU hW => ⟨rfl, by rw [hU], by rw [hU]; exact h1, va_K.moved hW.alike C.2.2.2.2.2.1, h2.weaken (fun _ _ _ _ => trivial), ?_⟩⟩ rfl (by simp [hn]) h4.1 (by simp [tv]) (lv_room (by rw [tv_sum]; exact hcat)) d ⟨hR.2.2.1, hR.2.2.2⟩⟩
  · intro w hw
    rcases List.mem_append.mp hw with hw | hw
    · simp only [List.mem_cons, List.not_mem_nil, or_false] at hw
      have hin : w ∈ GW := by
        rcases hw with rfl | rfl | rfl | rfl
        · exact hlk
        · exact hy.2.1
        · exact hy.2.2.1
        · rw [← hy.2.2.2.2.1]; exact hy.2.2.2.1
      exact ⟨hin, good_of_word (gw_good hin)⟩
    · exact gwGood y bytes maxL ret hy.1 w hw
  · rw [hU]
    refine sx.warm hW C.2.2.2.2.2.2.2.2 (fun a g1 g2 => h3.2.1 a g1 g2) ?_
    intro q hq
    rcases hq with ⟨j, en, hq⟩ | hq
    · exact h2.2 j _ hq
    · exact C.2.2.2.2.2.2.2.1 q (Nat.le_trans h3.1 hq)
/-- new int[N] at a place where the shape has none -/
def noR (c : Nat) : shE → Bool
  | .inr (_, fs) => fs.all (fun f => match f with
    | some (some r) => !(r.1 == c) && !(r.2 == c)
    | _ => true)
  | .inl _ => true
theorem cA_noR {tA : Nat → ClassId} {ad ad1 : Nat → Nat} {c : Nat} {g : Nat → Int32} (h : ∀ j, ¬ j = c → ad1 j = ad j) : ∀ (x : shE), noR c x = true → cA tA ad1 g x = cA tA ad g x
  | .inl (0, _), _ => rfl
  | .inl (1, _), _ => rfl
  | .inl (_ + 2, _), _ => rfl
  | .inr (ci, fs), hx => by
    show (Sum.inr (ci, fs.mapIdx (cF ad1 g)) : va_E) = Sum.inr (ci, fs.mapIdx (cF ad g))
    congr 2
    apply List.ext_getElem?
    intro j
    rw [List.getElem?_mapIdx, List.getElem?_mapIdx]
    cases hj : fs[j]? with
    | none => rfl
    | some f =>
      have hf := List.all_eq_true.mp (show fs.all _ = true from hx) f (List.mem_of_getElem? hj)
      match f, hf with
      | none, _ => rfl
      | some none, _ => rfl
      | some (some r), hf =>
        simp only [Bool.and_eq_true, Bool.not_eq_true', beq_eq_false_iff_ne, ne_eq] at hf
        show some (Value.ref (ad1 (if g j = 0 then r.1 else r.2))) = some (Value.ref (ad (if g j = 0 then r.1 else r.2)))
        split
        · rw [h _ hf.1]
        · rw [h _ hf.2]
def noRs (c : Nat) (sh : Sh) : Bool := sh.all (noR c)
theorem rk_no {c : Nat} {ad ad1 : Nat → Nat} (h : ∀ j, ¬ j = c → ad1 j = ad j) {l : List (Option Value)} (hl : ∀ o ∈ l, ¬ o = some (.ref c)) : ∀ (i : Nat), lo ad1 i l = lo ad i l := by
  induction l with
  | nil => intro i; rfl
  | cons o t ih =>
    intro i
    have iht := fun i => ih (fun o ho => hl o (List.mem_cons_of_mem _ ho)) i
    have ho := hl o List.mem_cons_self
    match o, ho with
    | none, _ => exact iht (i + 1)
    | some (.ref q), ho =>
      show (i, Value.ref (ad1 q)) :: lo ad1 (i + 1) t = (i, Value.ref (ad q)) :: lo ad (i + 1) t
      rw [h q (fun e => ho (by rw [e])), iht]
    | some .null, _ => exact congrArg _ (iht (i + 1))
    | some (.int _), _ => exact congrArg _ (iht (i + 1))
    | some (.long _), _ => exact congrArg _ (iht (i + 1))
    | some (.float _), _ => exact congrArg _ (iht (i + 1))
    | some (.double _), _ => exact congrArg _ (iht (i + 1))
    | some (.retAddr _), _ => exact congrArg _ (iht (i + 1))
theorem aw_newP (C : cx p s m args meth c own cc nL D tA A) {x : Int32} (d : decode cc pc = .ok (.newarray .int, 2)) (harr : Cond.arrayClass .int ∈ GW) (hn : x = nI m9) (hN : m9 ≤ 1000) (hc9 : sh[t9]? = some (.inl (9, 0))) (hno : noRs t9 sh = true) (hl9 : ∀ o ∈ lv, ¬ o = some (.ref t9)) (hcells : k + 1 ≤ R.cells) (hslots : n + m9 ≤ R.slots)
    (kk : ∀ ad1 : Nat → Nat, (∀ j, ¬ j = t9 → ad1 j = ad j) → aw p l e R s m args below meth c nL D tA A Q (k + 1) (n + m9) ad1 (pc + 2) lv [.ref t9] (sh.set t9 (.inl (0, m9))) (gz G t9 0)) : aw p l e R s m args below meth c nL D tA A Q k n ad pc lv [.int x] sh G := by
  intro H locs ls h1 h2 h3 h4
  subst hn
  have en : (nI m9).toNatClampNeg = m9 := by
    have := nI_toInt (n := m9) (by omega)
    show (nI m9).toInt.toNat = m9
    rw [this]; rfl
  refine va_newa (atype := .int) (a0 := (m9, .inl (fun _ => 0))) (ty := .int) (N' := m9) C.1 C.2.1 (C.2.2.2.2.1 _ harr) rfl C.2.2.2.2.2.1 h1 h2 h3 C.2.2.2.2.2.2.2.1 (fun _ => rfl) (by rw [Int32.lt_iff_toInt_lt, nI_toInt (by omega), int32_0]; omega) en (show m9 * 4 ≤ _ by omega) hcells hslots d (fun q cA9 H1 gK g1 g2 g3 => ?_)
  have hcA : cA9 = tA 0 := by
    have k1 := (gK.2 1 (cA9, .int) (by simp [ty3])).2
    have k2 := (gK.2 0 (tA 0, .int) (by simp [ty3])).2
    exact Option.some.inj ((show s.vm.findClass _ = some cA9 from k1).symm.trans k2)
  subst hcA
  have hE : ∀ j, ¬ j = t9 → (fun j => if j = t9 then q else ad j) j = ad j := fun j hj => if_neg hj
  have hq : (fun j => if j = t9 then q else ad j) t9 = q := if_pos rfl
  generalize (fun j => if j = t9 then q else ad j) = ad1 at hE hq
  have hx9 : (sh.set t9 (.inl (0, m9)))[t9]? = some (.inl (0, m9)) := set_eq' hc9
  have last : (cW tA ad G sh ++ [(q, (.inl (tA 0, (m9, .inl (fun _ => 0))) : va_E))])[(cW tA ad G sh).length]? = some (q, .inl (tA 0, (m9, .inl (fun _ => 0)))) := by simp
  have fore : ∀ (k1 : Nat) (x1 : shE), sh[k1]? = some x1 → isP x1 = false → ¬ k1 = t9 → (cW tA ad G sh ++ [(q, (.inl (tA 0, (m9, .inl (fun _ => 0))) : va_E))])[ps sh k1]? = some (ad1 k1, cA tA ad1 (gz G t9 0 k1) x1) ∧ ps sh k1 < (cW tA ad G sh).length := by
    intro k1 x1 hx1 hp1 hk1
    have h9 := cW_at (tA := tA) (ad := ad) (G := G) hx1 hp1
    have hlt := (List.getElem?_eq_some_iff.mp h9).1
    have eg : gz G t9 0 k1 = G k1 := by funext j; exact if_neg hk1
    have ec := cA_noR (tA := tA) (g := G k1) hE x1 (List.all_eq_true.mp hno x1 (List.mem_of_getElem? hx1))
    rw [List.getElem?_append_left hlt, h9, hE k1 hk1, eg, ec]
    exact ⟨rfl, hlt⟩
  have e9 : gz G t9 0 t9 = fun _ => 0 := by funext j; exact if_pos rfl
  have cAe : cA tA ad1 (gz G t9 0 t9) (.inl (0, m9)) = .inl (tA 0, (m9, .inl (fun _ => 0))) := by rw [e9]; rfl
  have hPf : va_P D vwCl (cW tA ad1 (gz G t9 0) (sh.set t9 (.inl (0, m9)))) H1 := by
    intro i z hz
    obtain ⟨k1, x1, hx1, hp1, rfl, rfl⟩ := cW_inv hz
    by_cases hk1 : k1 = t9
    · subst hk1
      rw [hx9] at hx1
      cases hx1
      rw [hq, cAe]
      exact g1 _ _ last
    · exact g1 _ _ (fore k1 x1 (set_ne' hx1 hk1) hp1 hk1).1
  have hDf : va_D A (cW tA ad1 (gz G t9 0) (sh.set t9 (.inl (0, m9)))) := by
    refine ⟨fun i j pp z hi hj ee => ?_, fun i z hz => ?_⟩
    · obtain ⟨k1, x1, hx1, hp1, rfl, rfl⟩ := cW_inv hi
      obtain ⟨k2, x2, hx2, hp2, rfl, rfl⟩ := cW_inv hj
      have e5 : ad1 k1 = ad1 k2 := ee
      by_cases q1 : k1 = t9
      · by_cases q2 : k2 = t9
        · rw [q1, q2]
        · subst q1
          obtain ⟨f2, l2⟩ := fore k2 x2 (set_ne' hx2 q2) hp2 q2
          have := g2.1 _ _ _ _ last f2 (by rw [← hq, e5])
          omega
      · by_cases q2 : k2 = t9
        · subst q2
          obtain ⟨f1, l1⟩ := fore k1 x1 (set_ne' hx1 q1) hp1 q1
          have := g2.1 _ _ _ _ f1 last (by rw [← hq, ← e5])
          omega
        · obtain ⟨f1, l1⟩ := fore k1 x1 (set_ne' hx1 q1) hp1 q1
          obtain ⟨f2, l2⟩ := fore k2 x2 (set_ne' hx2 q2) hp2 q2
          have := g2.1 _ _ _ _ f1 f2 e5
          rw [ps_inj _ _ _ _ _ (set_ne' hx1 q1) (set_ne' hx2 q2) hp1 hp2 this]
    · obtain ⟨k1, x1, hx1, hp1, rfl, rfl⟩ := cW_inv hz
      by_cases q1 : k1 = t9
      · subst q1
        show A (ad1 k1)
        rw [hq]
        exact g2.2 _ _ last
      · exact g2.2 _ _ (fore k1 x1 (set_ne' hx1 q1) hp1 q1).1
  have e1 := kk ad1 hE H1 locs ls hPf hDf g3 (by rw [rk_no hE hl9 0]; exact h4)
  have e2 : [Value.ref t9].map (tv ad1) = [.ref q] := by show [Value.ref (ad1 t9)] = _; rw [hq]
  rw [e2] at e1
  exact e1
/-- at the end the row is let go -/
theorem cWx_no {t9 : Nat} {ad1 : Nat → Nat} (hE : ∀ j, ¬ j = t9 → ad1 j = ad j) : ∀ (sh : Sh) (o : Nat), noRs t9 sh = true → (∀ k x, sh[k]? = some x → isP x = false → ¬ o + k = t9) → cWx tA ad1 G o sh = cWx tA ad G o sh
  | [], _, _, _ => rfl
  | z :: t, o, hn, hz => by
    have hn2 := Bool.and_eq_true_iff.mp (show (noR t9 z && t.all (noR t9)) = true from hn)
    have ih := cWx_no hE t (o + 1) hn2.2 (fun k x hx hp => by have := hz (k + 1) x (by simpa using hx) hp; omega)
    cases c : isP z with
    | true => rw [cWx_P c, cWx_P c, ih]
    | false =>
      have h0 := hz 0 z rfl c
      rw [cWx_N c, cWx_N c, ih, hE o (by omega), cA_noR hE z hn2.1]
theorem aw_drop {ad1 : Nat → Nat} {v : Value} (hc9 : sh[t9]? = some (.inl (9, 0))) (hno : noRs t9 sh = true) (hE : ∀ j, ¬ j = t9 → ad1 j = ad j) (hl : ∀ o ∈ lv, ¬ o = some (.ref t9)) (hv : ¬ v = .ref t9) (kk : aw p l e R s m args below meth c nL D tA A Q k n ad pc lv [v] sh G) : aw p l e R s m args below meth c nL D tA A Q k n ad1 pc lv [v] (sh.set t9 (.inl (0, m9))) G := by
  intro H locs ls h1 h2 h3 h4
  have f1 := cW_sub hc9 h1
  have f2 := cW_subD hc9 h2
  have ee : cW tA ad1 G sh = cW tA ad G sh := cWx_no hE sh 0 hno (fun k x hx hp => by
    rw [Nat.zero_add]; exact isP_ne hc9 hx hp)
  rw [ee] at f1 f2
  have hw := kk H locs ls f1 f2 h3 (by rw [rk_no hE hl 0] at h4; exact h4)
  have e2 : [v].map (tv ad1) = [v].map (tv ad) := by
    match v, hv with
    | .ref q, hv =>
      show [Value.ref (ad1 q)] = [Value.ref (ad q)]
      rw [hE q (fun z => hv (by rw [z]))]
    | .null, _ => rfl
    | .int _, _ => rfl
    | .long _, _ => rfl
    | .float _, _ => rfl
    | .double _, _ => rfl
    | .retAddr _, _ => rfl
  rw [e2]
  exact hw
theorem aw_lzreturn {ad0 : Nat → Nat} {sh0 : Sh} {k1 n1 : Nat} {v : Int32} {rt : FieldType} (C : cx p s m args meth c own cc nL D tA A) (hr : meth.sig.returnType = some rt) (d : decode cc pc = .ok (.ireturn, 1)) (hn : narrow rt (.int v) = .int v) (h1 : k ≤ k1) (h2 : n ≤ n1) (hE : ∀ j, j < sh0.length → ad j = ad0 j) (hK : K (some (.int v)) sh G) : aw p l e R s m args below meth c nL D tA A (MQ below (QL D tA ad0 A sh0 K) args s k1 n1 A) k n ad pc lv [.int v] sh G :=
  aw_widen h1 h2 (fun H locs ls g1 g2 g3 g4 => W.zret C.1 C.2.1 hr hn (fun t ht hW => ⟨⟨some (.int v), ad, sh, G, rfl, hE, hK, by rw [ht]; exact g1, g2⟩, g3.F ht⟩) g3.2.2 d C.2.2.2.2.2.2.1)
theorem aw_liretw {ad0 : Nat → Nat} {sh0 : Sh} {k1 n1 : Nat} {v : Int32} (C : cx p s m args meth c own cc nL D tA A) (hr : meth.sig.returnType = some .int) (d : decode cc pc = .ok (.ireturn, 1)) (h1 : k ≤ k1) (h2 : n ≤ n1) (hE : ∀ j, j < sh0.length → ad j = ad0 j) (hK : K (some (.int v)) sh G) : aw p l e R s m args below meth c nL D tA A (MQ below (QL D tA ad0 A sh0 K) args s k1 n1 A) k n ad pc lv [.int v] sh G :=
  aw_widen h1 h2 (fun H locs ls g1 g2 g3 g4 => W.iret C.1 C.2.1 hr (fun t ht hW => ⟨⟨some (.int v), ad, sh, G, rfl, hE, hK, by rw [ht]; exact g1, g2⟩, g3.F ht⟩) g3.2.2 d C.2.2.2.2.2.2.1)
end AWF
