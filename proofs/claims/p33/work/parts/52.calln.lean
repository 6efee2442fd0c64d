section AW8
variable {p : Program} {l : Launch} {e : Env} {R : Room} {s : State} {m : MethodId} {args : Array Value} {below : List Frame} {meth : Method} {c : Code} {D : va_G} {tA : Nat → ClassId} {A : Nat → Prop} {ad : Nat → Nat} {nL : Nat} {Q : State → Prop} {k n : Nat} {own : String} {cc : ByteArray}
variable {pc : Nat} {lv : List (Option Value)} {st rest : List Value} {sh sh' sh2 : Sh} {G : Gt} {K : Option Value → Gt → Prop}
variable {y : MethodName} {bytes : ByteArray} {maxL fr lc mc ms idx b ci N na : Nat} {ret : Option FieldType} {Cn : String} {T : u_T} {fs : List fE} {As : List Value}
theorem aw_runN (C : cx p s m args meth c own cc nL D tA A) (hr : ∀ (H : Heap) (locs : List Loc) (ls : Array Slot), va_P D vwCl (cW tA ad G sh) H → va_D A (cW tA ad G sh) → va_S A s.heap H locs → lv_has ls nL (lo ad 0 lv) → ∃ a, va_Run p l e R s m args below meth c H locs k n mc ms (F0 m pc ls (st.map (tv ad))) (rest.map (tv ad)) (QN D tA ad (va_A (cW tA ad G sh) H.size) sh sh' K a) (va_A (cW tA ad G sh) H.size)) (hlv : rk sh.length lv) (hrs : rk sh.length (rest.map some))
    (kk : ∀ (r : Option Value) (ad1 : Nat → Nat) (G' : Gt), (∀ j, j < sh.length → ad1 j = ad j) → K r G' → aw p l e R s m args below meth c nL D tA A Q (k + mc) (n + ms) ad1 (pc + 3) lv (r.toList ++ rest) sh' G') : aw p l e R s m args below meth c nL D tA A Q k n ad pc lv st sh G := by
  intro H locs ls h1 h2 h3 h4
  intro T hT X
  obtain ⟨a, ha⟩ := hr H locs ls h1 h2 h3 h4
  obtain ⟨v, st₀, t, T', L, h0, X', hL, e1, e2, ⟨⟨r, ad1, G', hv, hE, hp, hb, hd⟩, hz, hk⟩, sp⟩ := ha T hT X
  cases hv
  rw [h0] at hz hk
  have hA1 : ∀ q, va_A (cW tA ad G sh) H.size q → A q := by
    intro q hq
    rcases hq with ⟨j, en, hq⟩ | hq
    · exact h2.2 j _ hq
    · exact C.2.2.2.2.2.2.2.1 q (Nat.le_trans h3.1 hq)
  have hw := kk r ad1 G' hE hp T'.heap (locs ++ L) ls (by rw [e1]; exact hb) (hd.weaken (fun _ _ _ hq => hA1 _ hq)) ⟨Nat.le_trans h3.1 (by rw [e1]; exact hz), fun q g1 g2 => by
      rw [e1, hk q (Nat.lt_of_lt_of_le g1 h3.1) (fun z => g2 (hA1 q z))]; exact h3.2.1 q g1 g2, fun q hq => by
      rcases List.mem_append.mp hq with h | h
      · exact h3.2.2 q h
      · exact hA1 _ (hL q h)⟩ (by rw [lo_ad hE lv 0 hlv]; exact h4)
  obtain ⟨t2, a1, b1⟩ := hw T' rfl X'
  refine ⟨t2, sp t2 ?_, b1⟩
  have e : (r.toList ++ rest).map (tv ad1) = (r.map (tv ad1)).toList ++ rest.map (tv ad) := by
    rw [List.map_append, st_ad hE rest hrs]
    cases r <;> rfl
  rw [e] at a1
  exact a1
/-- a constructor -/
theorem aw_callI (C : cx p s m args meth c own cc nL D tA A) (d : decode cc pc = .ok (.invokespecial idx, 3)) (hM : CN l y bytes maxL none fr lc mc ms (.ref b :: As) sh sh' G K) (hlk : Cond.methodLink own idx y ∈ GW) (hy : gwI y bytes maxL na) (hn : As.length = na) (hR : fr + 1 ≤ R.frames ∧ 8 + (maxL + 11) + lc ≤ R.locals ∧ k + mc ≤ R.cells ∧ n + ms ≤ R.slots) (rest : List Value) (hst : st = As.reverse ++ .ref b :: rest) (hcat : (rest.map fun v => v.category).sum ≤ 8) (hlv : rk sh.length lv) (hrs : rk sh.length (rest.map some)) (hS : sh' = sh2)
    (kk : ∀ (r : Option Value) (ad1 : Nat → Nat) (G' : Gt), (∀ j, j < sh.length → ad1 j = ad j) → K r G' → aw p l e R s m args below meth c nL D tA A Q (k + mc) (n + ms) ad1 (pc + 3) lv (r.toList ++ rest) sh2 G') : aw p l e R s m args below meth c nL D tA A Q k n ad pc lv st sh G := by
  subst hS
  refine aw_runN C (K := K) (rest := rest) (fun H locs ls h1 h2 h3 h4 => ?_) hlv hrs kk
  subst hst
  refine ⟨_, va_runI (As := As.map (tv ad)) (b := ad b) (rest := rest.map (tv ad)) (n := na) ⟨C.1, C.2.1, C.2.2.1, C.2.2.2.1, C.2.2.2.2.1⟩ (hM D tA ad H.size) (cwI na C.2.2.2.2.1 (gwGood y bytes maxL none hy.1) rfl rfl rfl (C.2.2.2.2.1 _ hy.2.2.1) (C.2.2.2.2.1 _ hlk) (C.2.2.2.2.1 _ hy.2.1) hy.2.2.2.1 hy.2.2.2.2 ⟨hR.1, hR.2.1⟩) ⟨PW_blind, fun U hU hW => ⟨rfl, by rw [hU], by rw [hU]; exact h1, va_K.moved hW.alike C.2.2.2.2.2.1, h2.weaken (fun _ _ _ _ => trivial), ?_⟩⟩ rfl (by simp [hn]) h4.1 (by simp [tv]) (lv_room (by rw [tv_sum]; exact hcat)) d ⟨hR.2.2.1, hR.2.2.2⟩⟩
  rw [hU]
  refine sx.warm hW C.2.2.2.2.2.2.2.2 (fun a g1 g2 => h3.2.1 a g1 g2) ?_
  intro q hq
  rcases hq with ⟨j, en, hq⟩ | hq
  · exact h2.2 j _ hq
  · exact C.2.2.2.2.2.2.2.1 q (Nat.le_trans h3.1 hq)
/-- a private constructor of a nest mate -/
theorem aw_callIN (C : cx p s m args meth c own cc nL D tA A) {host : String} (d : decode cc pc = .ok (.invokespecial idx, 3)) (hM : CN l y bytes maxL none fr lc mc ms (.ref b :: As) sh sh' G K) (hlk : Cond.methodLinkNest own idx y host ∈ nW) (hy : gwI y bytes maxL na) (hn : As.length = na) (hR : fr + 1 ≤ R.frames ∧ 8 + (maxL + 11) + lc ≤ R.locals ∧ k + mc ≤ R.cells ∧ n + ms ≤ R.slots) (rest : List Value) (hst : st = As.reverse ++ .ref b :: rest) (hcat : (rest.map fun v => v.category).sum ≤ 8) (hlv : rk sh.length lv) (hrs : rk sh.length (rest.map some)) (hS : sh' = sh2)
    (kk : ∀ (r : Option Value) (ad1 : Nat → Nat) (G' : Gt), (∀ j, j < sh.length → ad1 j = ad j) → K r G' → aw p l e R s m args below meth c nL D tA A Q (k + mc) (n + ms) ad1 (pc + 3) lv (r.toList ++ rest) sh2 G') : aw p l e R s m args below meth c nL D tA A Q k n ad pc lv st sh G := by
  subst hS
  refine aw_runN C (K := K) (rest := rest) (fun H locs ls h1 h2 h3 h4 => ?_) hlv hrs kk
  subst hst
  refine ⟨_, va_runIN (As := As.map (tv ad)) (b := ad b) (rest := rest.map (tv ad)) (n := na) (host := host) ⟨C.1, C.2.1, C.2.2.1, C.2.2.2.1, C.2.2.2.2.1⟩ (hM D tA ad H.size) ⟨va_cnB na C.2.2.2.2.1 (gwGood y bytes maxL none hy.1) rfl rfl rfl (C.2.2.2.2.2.2.2.2.1.1 _ hlk) (C.2.2.2.2.1 _ hy.2.2.1) hy.2.2.2.2 ⟨hR.1, hR.2.1⟩, hy.2.2.2.1, C.2.2.2.2.1 _ hy.2.1⟩ ⟨PW_blind, fun U hU hW => ⟨rfl, by rw [hU], by rw [hU]; exact h1, va_K.moved hW.alike C.2.2.2.2.2.1, h2.weaken (fun _ _ _ _ => trivial), ?_⟩⟩ rfl (by simp [hn]) h4.1 (by simp [tv]) (lv_room (by rw [tv_sum]; exact hcat)) d ⟨hR.2.2.1, hR.2.2.2⟩⟩
  rw [hU]
  refine sx.warm hW C.2.2.2.2.2.2.2.2 (fun a g1 g2 => h3.2.1 a g1 g2) ?_
  intro q hq
  rcases hq with ⟨j, en, hq⟩ | hq
  · exact h2.2 j _ hq
  · exact C.2.2.2.2.2.2.2.1 q (Nat.le_trans h3.1 hq)
/-- an instance method that makes things -/
theorem aw_callVN (C : cx p s m args meth c own cc nL D tA A) (d : decode cc pc = .ok (.invokevirtual idx, 3)) (hM : CN l y bytes maxL ret fr lc mc ms (.ref b :: As) sh sh' G K) (hlk : Cond.methodLink own idx y ∈ GW) (hy : gwV y bytes maxL ret Cn na) (hs : sh[b]? = some (.inr (ci, fs))) (hc : vwCl[ci]? = some (Cn, T, N)) (hn : As.length = na) (hR : fr + 1 ≤ R.frames ∧ 8 + (maxL + 11) + lc ≤ R.locals ∧ k + mc ≤ R.cells ∧ n + ms ≤ R.slots) (rest : List Value) (hst : st = As.reverse ++ .ref b :: rest) (hcat : (rest.map fun v => v.category).sum ≤ 8) (hlv : rk sh.length lv) (hrs : rk sh.length (rest.map some)) (hS : sh' = sh2)
    (kk : ∀ (r : Option Value) (ad1 : Nat → Nat) (G' : Gt), (∀ j, j < sh.length → ad1 j = ad j) → K r G' → aw p l e R s m args below meth c nL D tA A Q (k + mc) (n + ms) ad1 (pc + 3) lv (r.toList ++ rest) sh2 G') : aw p l e R s m args below meth c nL D tA A Q k n ad pc lv st sh G := by
  subst hS
  refine aw_runN C (K := K) (rest := rest) (fun H locs ls h1 h2 h3 h4 => ?_) hlv hrs kk
  subst hst
  refine ⟨_, va_runV (As := As.map (tv ad)) (b := ad b) (rest := rest.map (tv ad)) (C := Cn) (n := na) ⟨C.1, C.2.1, C.2.2.1, C.2.2.2.1, C.2.2.2.2.1⟩ (hM D tA ad H.size) (cwV na C.2.2.2.2.1 ?_ rfl rfl rfl hy.2.2.2.2 ⟨hR.1, hR.2.1⟩) ⟨PW_blind, va_recv C.2.2.2.2.2.1 h1 hc (cW_at hs), fun U hU hW => ⟨rfl, by rw [hU], by rw [hU]; exact h1, va_K.moved hW.alike C.2.2.2.2.2.1, h2.weaken (fun _ _ _ _ => trivial), ?_⟩⟩ rfl (by simp [hn]) h4.1 (by simp [tv]) (lv_room (by rw [tv_sum]; exact hcat)) d ⟨hR.2.2.1, hR.2.2.2⟩⟩
  · intro w hw
    rcases List.mem_append.mp hw with hw | hw
    · simp only [List.mem_cons, List.not_mem_nil, or_false] at hw
      have hin : w ∈ GW := by
        rcases hw with rfl | rfl | rfl | rfl
        · exact hlk
        · exact hy.2.1
        · exact hy.2.2.1
        · rw [← hy.2.2.2.2.1]; exact hy.2.2.2.1
      exact ⟨hin, good_of_word (gw_good hin)⟩
    · exact gwGood y bytes maxL ret hy.1 w hw
  · rw [hU]
    refine sx.warm hW C.2.2.2.2.2.2.2.2 (fun a g1 g2 => h3.2.1 a g1 g2) ?_
    intro q hq
    rcases hq with ⟨j, en, hq⟩ | hq
    · exact h2.2 j _ hq
    · exact C.2.2.2.2.2.2.2.1 q (Nat.le_trans h3.1 hq)
/-- a static method of another class, that makes nothing -/
theorem aw_callSJ (C : cx p s m args meth c own cc nL D tA A) (d : decode cc pc = .ok (.invokestatic idx, 3)) (hM : CT0 l y bytes maxL ret fr lc As sh G K) (hlk : Cond.methodLink own idx y ∈ GW) (hy : gwS y bytes maxL ret na) (hn : As.length = na) (hR : fr + 1 ≤ R.frames ∧ 8 + (maxL + 11) + lc ≤ R.locals ∧ k ≤ R.cells ∧ n ≤ R.slots) (rest : List Value) (hst : st = As.reverse ++ rest) (hcat : (rest.map fun v => v.category).sum ≤ 8)
    (kk : ∀ (r : Option Value) (G' : Gt), K r G' → aw p l e R s m args below meth c nL D tA A Q k n ad (pc + 3) lv (r.toList ++ rest) sh G') : aw p l e R s m args below meth c nL D tA A Q k n ad pc lv st sh G := by
  refine aw_run C (K := K) (rest := rest) (fun H locs ls h1 h2 h3 h4 => ?_) kk
  subst hst
  refine ⟨_, va_runS (As := As.map (tv ad)) (rest := rest.map (tv ad)) (n := na) ⟨C.1, C.2.1, C.2.2.1, C.2.2.2.1, C.2.2.2.2.1⟩ (hM D tA ad H.size) (va_cwS na C.2.2.2.2.1 ?_ rfl rfl rfl hy.2.2.2 ⟨hR.1, hR.2.1⟩) ⟨PW_blind, fun U hU hW => ⟨rfl, by rw [hU], by rw [hU]; exact h1, va_K.moved hW.alike C.2.2.2.2.2.1, h2.weaken (fun _ _ _ _ => trivial), ?_⟩⟩ rfl (by simp [hn]) h4.1 (by simp) (lv_room (by rw [tv_sum]; exact hcat)) d ⟨hR.2.2.1, hR.2.2.2⟩⟩
  · intro w hw
    rcases List.mem_append.mp hw with hw | hw
    · simp only [List.mem_cons, List.not_mem_nil, or_false] at hw
      have hin : w ∈ GW := by
        rcases hw with rfl | rfl | rfl
        · exact hlk
        · exact hy.2.1
        · exact hy.2.2.1
      exact ⟨hin, good_of_word (gw_good hin)⟩
    · exact gwGood y bytes maxL ret hy.1 w hw
  · rw [hU]
    refine sx.warm hW C.2.2.2.2.2.2.2.2 (fun a g1 g2 => h3.2.1 a g1 g2) ?_
    intro q hq
    rcases hq with ⟨j, en, hq⟩ | hq
    · exact h2.2 j _ hq
    · exact C.2.2.2.2.2.2.2.1 q (Nat.le_trans h3.1 hq)
end AW8
