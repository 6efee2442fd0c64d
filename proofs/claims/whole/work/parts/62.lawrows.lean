/-! rows of the law's own body -/
section AWZ
variable {p : Program} {l : Launch} {e : Env} {R : Room} {s : State} {m : MethodId} {args : Array Value} {below : List Frame} {meth : Method} {c : Code} {D : va_G} {tA : Nat → ClassId} {A : Nat → Prop} {ad : Nat → Nat} {nL : Nat} {Q : State → Prop} {k n : Nat} {own : String} {cc : ByteArray}
variable {pc : Nat} {lv : List (Option Value)} {st rest : List Value} {sh sh' sh2 : Sh} {G : Gt} {K : Option Value → Sh → Gt → Prop}
variable {y : MethodName} {bytes : ByteArray} {maxL fr lc mc ms idx b ci N na : Nat} {ret : Option FieldType} {Cn : String} {T : u_T} {fs : List fE} {As : List Value} {hh : List (Nat × Nat × Nat × Nat)}
theorem aw_runQ (C : cx p s m args meth c own cc nL D tA A) (hr : ∀ (H : Heap) (locs : List Loc) (ls : Array Slot), va_P D vwCl (cW tA ad G sh) H → va_D A (cW tA ad G sh) → va_S A s.heap H locs → lv_has ls nL (lo ad 0 lv) → ∃ a, va_Run p l e R s m args below meth c H locs k n mc ms (F0 m pc ls (st.map (tv ad))) (rest.map (tv ad)) (QL D tA ad (va_A (cW tA ad G sh) H.size) sh K a) (va_A (cW tA ad G sh) H.size)) (hlv : rk sh.length lv) (hrs : rk sh.length (rest.map some))
    (kk : ∀ (r : Option Value) (ad1 : Nat → Nat) (sh' : Sh) (G' : Gt), (∀ j, j < sh.length → ad1 j = ad j) → K r sh' G' → aw p l e R s m args below meth c nL D tA A Q (k + mc) (n + ms) ad1 (pc + 3) lv (r.toList ++ rest) sh' G') : aw p l e R s m args below meth c nL D tA A Q k n ad pc lv st sh G := by
  intro H locs ls h1 h2 h3 h4
  intro T hT X
  obtain ⟨a, ha⟩ := hr H locs ls h1 h2 h3 h4
  obtain ⟨v, st₀, t, T', L, h0, X', hL, e1, e2, ⟨⟨r, ad1, sh1, G', hv, hE, hp, hb, hd⟩, hz, hk⟩, sp⟩ := ha T hT X
  cases hv
  rw [h0] at hz hk
  have hA1 : ∀ q, va_A (cW tA ad G sh) H.size q → A q := by
    intro q hq
    rcases hq with ⟨j, en, hq⟩ | hq
    · exact h2.2 j _ hq
    · exact C.2.2.2.2.2.2.2.1 q (Nat.le_trans h3.1 hq)
  have hw := kk r ad1 sh1 G' hE hp T'.heap (locs ++ L) ls (by rw [e1]; exact hb) (hd.weaken (fun _ _ _ hq => hA1 _ hq)) ⟨Nat.le_trans h3.1 (by rw [e1]; exact hz), fun q g1 g2 => by
      rw [e1, hk q (Nat.lt_of_lt_of_le g1 h3.1) (fun z => g2 (hA1 q z))]; exact h3.2.1 q g1 g2, fun q hq => by
      rcases List.mem_append.mp hq with h | h
      · exact h3.2.2 q h
      · exact hA1 _ (hL q h)⟩ (by rw [lo_ad hE lv 0 hlv]; exact h4)
  obtain ⟨t2, a1, b1⟩ := hw T' rfl X'
  refine ⟨t2, sp t2 ?_, b1⟩
  have e : (r.toList ++ rest).map (tv ad1) = (r.map (tv ad1)).toList ++ rest.map (tv ad) := by
    rw [List.map_append, st_ad hE rest hrs]
    cases r <;> rfl
  rw [e] at a1
  exact a1
theorem aw_callW (C : cx p s m args meth c own cc nL D tA A) (d : decode cc pc = .ok (.invokestatic idx, 3)) (hM : CW l y bytes maxL hh fr lc mc ms As sh G K) (hlk : Cond.methodLink own idx y ∈ GW) (hcw : Cond.codeWith y bytes maxL (some .int) hh ∈ GW) (hstt : Cond.static y ∈ GW) (hini : Cond.initialized y.cls ∈ GW) (hd : y.cls ≠ "java/lang/invoke/MethodHandle" ∧ y.cls ≠ "java/lang/invoke/VarHandle" ∧ (parseMethodDescriptor y.desc).map (fun d => d.parameters.length) = some na) (hn : As.length = na) (hR : fr + 1 ≤ R.frames ∧ 8 + (maxL + 11) + lc ≤ R.locals ∧ k + mc ≤ R.cells ∧ n + ms ≤ R.slots) (rest : List Value) (hst : st = As.reverse ++ rest) (hcat : (rest.map fun v => v.category).sum ≤ 8) (hlv : rk sh.length lv) (hrs : rk sh.length (rest.map some))
    (kk : ∀ (r : Option Value) (ad1 : Nat → Nat) (sh' : Sh) (G' : Gt), (∀ j, j < sh.length → ad1 j = ad j) → K r sh' G' → aw p l e R s m args below meth c nL D tA A Q (k + mc) (n + ms) ad1 (pc + 3) lv (r.toList ++ rest) sh' G') : aw p l e R s m args below meth c nL D tA A Q k n ad pc lv st sh G := by
  refine aw_runQ C (K := K) (rest := rest) (fun H locs ls h1 h2 h3 h4 => ?_) hlv hrs kk
  subst hst
  refine ⟨_, vx_runSW (As := As.map (tv ad)) (rest := rest.map (tv ad)) (n := na) ⟨C.1, C.2.1, C.2.2.1, C.2.2.2.1, C.2.2.2.2.1⟩ (hM D tA ad H.size) (vx_cwSW na C.2.2.2.2.1 ?_ rfl rfl rfl hd ⟨hR.1, hR.2.1⟩) ⟨PW_blind, fun U hU hW => ⟨rfl, by rw [hU], by rw [hU]; exact h1, va_K.moved hW.alike C.2.2.2.2.2.1, h2.weaken (fun _ _ _ _ => trivial), ?_⟩⟩ rfl (by simp [hn]) h4.1 (by simp) (lv_room (by rw [tv_sum]; exact hcat)) d ⟨hR.2.2.1, hR.2.2.2⟩⟩
  · intro w hw
    rcases List.mem_append.mp hw with hw | hw
    · simp only [List.mem_cons, List.not_mem_nil, or_false] at hw
      have hin : w ∈ GW := by
        rcases hw with rfl | rfl | rfl
        · exact hlk
        · exact hstt
        · exact hini
      exact ⟨hin, good_of_word (gw_good hin)⟩
    · rcases List.mem_cons.mp hw with rfl | hw
      · exact ⟨hcw, good_of_word (gw_good hcw)⟩
      · exact ⟨hw, good_of_word (gw_good hw)⟩
  · rw [hU]
    refine sx.warm hW C.2.2.2.2.2.2.2.2 (fun a g1 g2 => h3.2.1 a g1 g2) ?_
    intro q hq
    rcases hq with ⟨j, en, hq⟩ | hq
    · exact h2.2 j _ hq
    · exact C.2.2.2.2.2.2.2.1 q (Nat.le_trans h3.1 hq)
/-- the script -/
theorem aw_aloadnR (C : cx p s m args meth c own cc nL D tA A) {i : Fin 4} {q : Nat} (d : decode cc pc = .ok (.aload_n i, 1)) (hv : lv[(i : Nat)]? = some (some (.retAddr q))) (kk : aw p l e R s m args below meth c nL D tA A Q k n ad (pc + 1) lv (.retAddr q :: st) sh G) : aw p l e R s m args below meth c nL D tA A Q k n ad pc lv st sh G :=
  fun H locs ls h1 h2 h3 h4 => lv_aload_n (x := q) C.1 C.2.1 d rfl (lo_at h4 hv) (kk H locs ls h1 h2 h3 h4)
theorem aw_slen (C : cx p s m args meth c own cc nL D tA A) {q L : Nat} {xs : Nat → Int32} (d : decode cc pc = .ok (.arraylength, 1)) (hX : va_X q L xs s s.heap) (hbl : q < s.heap.size) (hbA : ¬ A q) (kk : aw p l e R s m args below meth c nL D tA A Q k n ad (pc + 1) lv (.int (nI L) :: st) sh G) : aw p l e R s m args below meth c nL D tA A Q k n ad pc lv (.retAddr q :: st) sh G :=
  fun H locs ls h1 h2 h3 h4 => va_slen C.1 C.2.1 hX hbl hbA h3 d (kk H locs ls h1 h2 h3 h4)
theorem aw_sld (C : cx p s m args meth c own cc nL D tA A) {q L : Nat} {xs : Nat → Int32} {i x : Int32} (d : decode cc pc = .ok (.iaload, 1)) (hX : va_X q L xs s s.heap) (hbl : q < s.heap.size) (hbA : ¬ A q) (hi : vp_in i L) (hx : xs i.toNatClampNeg = x) (kk : aw p l e R s m args below meth c nL D tA A Q k n ad (pc + 1) lv (.int x :: st) sh G) : aw p l e R s m args below meth c nL D tA A Q k n ad pc lv (.int i :: .retAddr q :: st) sh G := by
  subst hx
  exact fun H locs ls h1 h2 h3 h4 => va_sld C.1 C.2.1 hX hbl hbA h3 hi d (kk H locs ls h1 h2 h3 h4)
/-- lcmp; ifeq: of two ints as longs -/
theorem aw_lcmpE (C : cx p s m args meth c own cc nL D tA A) {x y : Int32} {off : Int} {X Y : Prop} (d : decode cc pc = .ok (.lcmp, 1)) (d2 : decode cc (pc + 1) = .ok (.ifCond .eq off, 3)) (tgt : Nat) (ht : ((pc + 1 : Nat) : Int) + off = (tgt : Int)) (hw : pif (x = y) X Y) (kt : x = y → X → aw p l e R s m args below meth c nL D tA A Q k n ad tgt lv st sh G) (kf : ¬ (x = y) → Y → aw p l e R s m args below meth c nL D tA A Q k n ad (pc + 4) lv st sh G) : aw p l e R s m args below meth c nL D tA A Q k n ad pc lv (.long y.toInt64 :: .long x.toInt64 :: st) sh G := by
  intro H locs ls h1 h2 h3 h4
  refine W.lcmp C.1 C.2.1 d ?_
  have hcmp : lg_cmp x.toInt64 y.toInt64 = 0 ↔ x = y := by
    unfold lg_cmp
    constructor
    · intro h
      rw [← Int32.toInt_inj]
      split at h
      · cases h
      · rename_i a
        split at h
        · rename_i b; rw [← Int64.toInt_inj, Int32.toInt_toInt64, Int32.toInt_toInt64] at b; exact b
        · cases h
    · intro h
      subst h
      rw [if_neg (by rw [gt_iff_lt, Int64.lt_iff_toInt_lt]; omega), if_pos rfl]
  refine lv_if_eq C.1 C.2.1 d2 ht (fun q => ?_) (fun q => ?_)
  · have q' := hcmp.mp (by assumption)
    exact kt q' (hw.1 q') H locs ls h1 h2 h3 h4
  · have q' : ¬ x = y := fun z => by have := hcmp.mpr z; contradiction
    exact kf q' (hw.2 q') H locs ls h1 h2 h3 h4
end AWZ
