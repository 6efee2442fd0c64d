/-! the script: its word x, or what stands for it behind its end -/
def atv (L : Nat) (xs : Nat → Int32) (x : Int32) : Int32 := if nI L ≤ x then 1205597129 * (x + 1) + 1508026071 else xs x.toNatClampNeg
def PX (D : va_G) (tA : Nat → ClassId) (ad : Nat → Nat) (sz : Nat) (sh : Sh) (G : Gt) (b L : Nat) (xs : Nat → Int32) : State → Prop := fun U => PW D tA ad sz sh G U ∧ va_X b L xs U U.heap ∧ b < sz ∧ ¬ va_A (cW tA ad G sh) sz b
theorem PX_blind {D : va_G} {tA : Nat → ClassId} {ad : Nat → Nat} {sz b L : Nat} {xs : Nat → Int32} {sh : Sh} {G : Gt} {av : List Value} : FrameBlind (va_Pc av (PX D tA ad sz sh G b L xs)) := by
  intro a U g mk q
  obtain ⟨q0, q1, q2, q3, q4⟩ := q
  exact ⟨q0, (PW_blind (av := av) a U g mk ⟨q0, q1⟩).2, va_X.moved (u := U) (U := U.calling g mk a) (Vm.Alike.refl U.vm) q2, q3, q4⟩
section AWX
variable {p : Program} {l : Launch} {e : Env} {R : Room} {s : State} {m : MethodId} {args : Array Value} {below : List Frame} {meth : Method} {c : Code} {D : va_G} {tA : Nat → ClassId} {A : Nat → Prop} {ad : Nat → Nat} {nL : Nat} {Q : State → Prop} {k n : Nat} {own : String} {cc : ByteArray}
variable {pc : Nat} {lv : List (Option Value)} {st rest : List Value} {sh : Sh} {G : Gt}
theorem aw_aloadnR (C : cx p s m args meth c own cc nL D tA A) {i : Fin 4} {q : Nat} (d : decode cc pc = .ok (.aload_n i, 1)) (hv : lv[(i : Nat)]? = some (some (.retAddr q))) (kk : aw p l e R s m args below meth c nL D tA A Q k n ad (pc + 1) lv (.retAddr q :: st) sh G) : aw p l e R s m args below meth c nL D tA A Q k n ad pc lv st sh G :=
  fun H locs ls h1 h2 h3 h4 => lv_aload_n (x := q) C.1 C.2.1 d rfl (lo_at h4 hv) (kk H locs ls h1 h2 h3 h4)
theorem aw_slen (C : cx p s m args meth c own cc nL D tA A) {q L : Nat} {xs : Nat → Int32} (d : decode cc pc = .ok (.arraylength, 1)) (hX : va_X q L xs s s.heap) (hbl : q < s.heap.size) (hbA : ¬ A q) (kk : aw p l e R s m args below meth c nL D tA A Q k n ad (pc + 1) lv (.int (nI L) :: st) sh G) : aw p l e R s m args below meth c nL D tA A Q k n ad pc lv (.retAddr q :: st) sh G :=
  fun H locs ls h1 h2 h3 h4 => va_slen C.1 C.2.1 hX hbl hbA h3 d (kk H locs ls h1 h2 h3 h4)
theorem aw_sld (C : cx p s m args meth c own cc nL D tA A) {q L : Nat} {xs : Nat → Int32} {i x : Int32} (d : decode cc pc = .ok (.iaload, 1)) (hX : va_X q L xs s s.heap) (hbl : q < s.heap.size) (hbA : ¬ A q) (hi : vp_in i L) (hx : xs i.toNatClampNeg = x) (kk : aw p l e R s m args below meth c nL D tA A Q k n ad (pc + 1) lv (.int x :: st) sh G) : aw p l e R s m args below meth c nL D tA A Q k n ad pc lv (.int i :: .retAddr q :: st) sh G := by
  subst hx
  exact fun H locs ls h1 h2 h3 h4 => va_sld C.1 C.2.1 hX hbl hbA h3 hi d (kk H locs ls h1 h2 h3 h4)
def CAt (l : Launch) (b L : Nat) (xs : Nat → Int32) (x : Int32) : Prop := ∀ (sh : Sh) (G : Gt) (D : va_G) (tA : Nat → ClassId) (ad : Nat → Nat) (sz : Nat), Met l yL_at (.code yL_at cL_at 2 (some .int) :: GW) { frames := 0, cells := 0, slots := 0, locals := 0 } (va_Pc ([Value.retAddr b, .int x].map (tv ad)) (PX D tA ad sz sh G b L xs)) (QL D tA ad (va_A (cW tA ad G sh) sz) sh (fun r s' G' => r = some (.int (atv L xs x)) ∧ s' = sh ∧ G' = G)) 0 0 (va_A (cW tA ad G sh) sz)
theorem run_At {b L idx : Nat} {xs : Nat → Int32} {x : Int32} (C : cx p s m args meth c own cc nL D tA A) (d : decode cc pc = .ok (.invokestatic idx, 3)) (hM : CAt l b L xs x) (hlk : Cond.methodLink own idx yL_at ∈ GW) (hy : gwS yL_at cL_at 2 (some .int) 2) (ho : yL_at.cls = own) (hX : va_X b L xs s s.heap) (hbl : b < s.heap.size) (hbA : ¬ A b) (hR : 1 ≤ R.frames ∧ 21 ≤ R.locals ∧ k + 0 ≤ R.cells ∧ n + 0 ≤ R.slots) (rest : List Value) (hst : st = .int x :: .retAddr b :: rest) (hcat : (rest.map fun v => v.category).sum ≤ 8) :
    ∀ (H : Heap) (locs : List Loc) (ls : Array Slot), va_P D vwCl (cW tA ad G sh) H → va_D A (cW tA ad G sh) → va_S A s.heap H locs → lv_has ls nL (lo ad 0 lv) → ∃ a, va_Run p l e R s m args below meth c H locs k n 0 0 (F0 m pc ls (st.map (tv ad))) (rest.map (tv ad)) (QL D tA ad (va_A (cW tA ad G sh) H.size) sh (fun r s' G' => r = some (.int (atv L xs x)) ∧ s' = sh ∧ G' = G) a) (va_A (cW tA ad G sh) H.size) := by
  intro H locs ls h1 h2 h3 h4
  subst hst
  refine ⟨_, va_runS (As := [Value.retAddr b, .int x].map (tv ad)) (rest := rest.map (tv ad)) (n := 2) ⟨C.1, C.2.1, C.2.2.1, C.2.2.2.1, C.2.2.2.2.1⟩ (hM sh G D tA ad H.size) (cwS 2 C.2.2.2.2.1 ?_ rfl rfl rfl ⟨ho, hy.2.2.2⟩ ⟨hR.1, hR.2.1⟩) ⟨PX_blind, fun U hU hW => ⟨rfl, ⟨by rw [hU], by rw [hU]; exact h1, va_K.moved hW.alike C.2.2.2.2.2.1, h2.weaken (fun _ _ _ _ => trivial), ?_⟩, ?_, ?_, ?_⟩⟩ rfl rfl h4.1 (by simp) (lv_room (by rw [tv_sum]; exact hcat)) d ⟨hR.2.2.1, hR.2.2.2⟩⟩
  · intro w hw
    rcases List.mem_append.mp hw with hw | hw
    · simp only [List.mem_cons, List.not_mem_nil, or_false] at hw
      have hin : w ∈ GW := by
        rcases hw with rfl | rfl | rfl
        · exact hlk
        · exact hy.2.1
        · rw [← ho]; exact hy.2.2.1
      exact ⟨hin, good_of_word (gw_good hin)⟩
    · exact gwGood yL_at cL_at 2 (some .int) hy.1 w hw
  · rw [hU]
    refine sx.warm hW C.2.2.2.2.2.2.2.2 (fun a g1 g2 => h3.2.1 a g1 g2) ?_
    intro q hq
    rcases hq with ⟨j, en, hq⟩ | hq
    · exact h2.2 j _ hq
    · exact C.2.2.2.2.2.2.2.1 q (Nat.le_trans h3.1 hq)
  · rw [hU]
    exact (hX.moved hW.alike).kept (h3.2.1 b hbl hbA)
  · exact Nat.lt_of_lt_of_le hbl h3.1
  · rintro (⟨j, en, hq⟩ | hq)
    · exact hbA (h2.2 j _ hq)
    · have := Nat.lt_of_lt_of_le hbl h3.1
      omega
/-- an empty place more is none -/
theorem cWx_ph : ∀ (sh ph : Sh), (∀ x ∈ ph, isP x = true) → ∀ o, cWx tA ad G o (sh ++ ph) = cWx tA ad G o sh
  | [], [], _, _ => rfl
  | [], x :: t, h, o => by
    rw [List.nil_append, cWx_P (h x List.mem_cons_self)]
    exact cWx_ph [] t (fun y hy => h y (List.mem_cons_of_mem _ hy)) (o + 1)
  | y :: t, ph, h, o => by
    have ih := cWx_ph t ph h (o + 1)
    rw [List.cons_append]
    cases c : isP y with
    | true => rw [cWx_P c, cWx_P c]; exact ih
    | false => rw [cWx_N c, cWx_N c, ih]
theorem aw_phs {ph : Sh} (h : ∀ x ∈ ph, isP x = true) (kk : aw p l e R s m args below meth c nL D tA A Q k n ad pc lv st (sh ++ ph) G) : aw p l e R s m args below meth c nL D tA A Q k n ad pc lv st sh G := by
  intro H locs ls h1 h2 h3 h4
  have ee : cW tA ad G (sh ++ ph) = cW tA ad G sh := cWx_ph sh ph h 0
  exact kk H locs ls (by rw [ee]; exact h1) (by rw [ee]; exact h2) h3 h4
end AWX
set_option maxHeartbeats 4000000 in
set_option maxRecDepth 100000 in
theorem t_L_at {l : Launch} {b L : Nat} {xs : Nat → Int32} (x : Int32) (hx : ¬ nI L ≤ x → vp_in x L) : CAt l b L xs x := by
  intro sh G D tA ad sz
  refine Met.ofW (cc := cL_at) (maxL := 2) (ret := some .int) (by decide) rfl ?_
  intro p e s m args below meth c s₁ B hml hv
  obtain ⟨rfl, ⟨hsz, hP, hK, hD0, hsx⟩, hX, hbl, hbA⟩ := hv
  have hts := atoms_spec (ws := .code yL_at cL_at 2 (some .int) :: GW) B.pre
  have hown : s.vm.findClass yL_at.cls = some m.cls := findClass_of_methodNamed B.named
  have hlocks := B.notSynchronized
  subst hsz
  have C : cx p s m ([Value.retAddr b, .int x].map (tv ad)).toArray meth c yL_at.cls cL_at 2 D tA (va_A (cW tA ad G sh) s.heap.size) := ⟨B.exec, B.bytes, hml, hown, fun w hw => hts w (List.mem_cons_of_mem _ hw), hK, hlocks, fun q h => Or.inr h, hsx⟩
  have hl := lv_entry ([Value.retAddr b, .int x].map (tv ad)) (n := 2) (Nat.le_of_ble_eq_true rfl)
  rw [lg_entry_eq]
  generalize (lg_sl ([Value.retAddr b, .int x].map (tv ad)) ++ List.replicate (2 - (lg_sl ([Value.retAddr b, .int x].map (tv ad))).length) Slot.unset).toArray = ls at hl ⊢
  have hl2 : lv_has ls 2 (lo ad 0 [some (.retAddr b), some (.int x)]) := by
    refine lv_less hl (fun q hq => ?_)
    rw [← lo_args [Value.retAddr b, .int x] 0 rfl]
    exact hq
  have hr := B.returns
  have main : aw p l e { frames := 0, cells := 0, slots := 0, locals := 0 } s m ([Value.retAddr b, .int x].map (tv ad)).toArray below meth c 2 D tA (va_A (cW tA ad G sh) s.heap.size) (MQ below (QL D tA ad (va_A (cW tA ad G sh) s.heap.size) sh (fun r s' G' => r = some (.int (atv L xs x)) ∧ s' = sh ∧ G' = G)) ([Value.retAddr b, .int x].map (tv ad)).toArray s 0 0 (va_A (cW tA ad G sh) s.heap.size)) 0 0 ad 0 [some (.retAddr b), some (.int x)] [] sh G := by
    refine aw_iloadn C dL_at_0 rfl ?_
    refine aw_aloadnR C dL_at_1 rfl ?_
    refine aw_slen C dL_at_2 hX hbl hbA ?_
    refine aw_ic_ge (X := True) (Y := True) C dL_at_3 12 (by decide) ⟨fun _ => trivial, fun _ => trivial⟩ (fun hc _ => ?_) (fun hc _ => ?_)
    · refine aw_ldc (v := 1205597129) C dL_at_12 mK_L_7 ?_
      refine aw_iloadn C dL_at_14 rfl ?_
      refine aw_iconst (v := 1) C dL_at_15 (by decide) ?_
      refine aw_iadd C dL_at_16 ?_
      refine aw_imul C dL_at_17 ?_
      refine aw_ldc (v := 1508026071) C dL_at_18 mK_L_8 ?_
      refine aw_iadd C dL_at_20 ?_
      exact aw_liretw C hr dL_at_21 (Nat.le_refl _) (Nat.le_refl _) (fun _ _ => rfl) ⟨by rw [atv, if_pos hc], rfl, rfl⟩
    · refine aw_aloadnR C dL_at_6 rfl ?_
      refine aw_iloadn C dL_at_7 rfl ?_
      refine aw_sld (x := xs x.toNatClampNeg) C dL_at_8 hX hbl hbA (hx hc) rfl ?_
      refine aw_goto (tgt := 21) C dL_at_9 (by decide) ?_
      exact aw_liretw C hr dL_at_21 (Nat.le_refl _) (Nat.le_refl _) (fun _ _ => rfl) ⟨by rw [atv, if_neg hc], rfl, rfl⟩
  exact main s.heap [] ls hP hD0.self va_S.rf hl2
