/-! P33: the first state; from the entry to the end -/
def R_first : Gt := fun k j => if k = 46 then (if j = 12 then -1 else if j = 13 then 300 else if j = 68 then 50000 else 0) else if k = 54 ∨ k = 55 then -1 else if k = 60 then (if j = 0 ∨ j = 4 then 0 else -1) else 0
def W_first : Gt := mxw G_law R_first
theorem i_c : W_first 1 7 = nI 0 ∧ W_first 46 0 = nI 0 ∧ W_first 16 0 = 40 ∧ W_first 14 2 = nI 1 ∧ W_first 20 2 = nI 0 ∧ W_first 59 0 = nI 0 ∧ W_first 20 3 = nI 0 ∧ W_first 61 0 = nI 0 ∧ W_first 25 2 = nI 0 ∧ W_first 59 1 = nI 0 ∧ W_first 25 3 = nI 0 ∧ W_first 61 1 = nI 0 ∧ ¬ W_first 60 0 = -1 ∧ ¬ W_first 60 4 = -1 ∧ W_first 19 7 = nI 0 ∧ W_first 46 14 = nI 0 ∧ W_first 19 8 = -1 ∧ W_first 46 12 = -1 ∧ W_first 40 0 = 0 ∧ W_first 46 66 = 0 ∧ W_first 40 1 = 0 ∧ W_first 46 67 = 0 ∧ W_first 40 2 = 50000 ∧ W_first 46 68 = 50000 ∧ W_first 40 3 = nI 0 ∧ W_first 46 69 = nI 0 ∧ W_first 0 4 = nI 300 ∧ W_first 46 13 = nI 300 ∧ W_first 46 52 = 0 := by decide +kernel
theorem i_52 : ∀ m, m < 120 → W_first 52 m = 0 ∧ W_first 11 m = 0 := by decide +kernel
theorem i_60 : ∀ k, k < 4 → (W_first 24 k = W_first 60 k ∧ (W_first 60 k = -1 ∨ W_first 60 k = nI 0)) ∧ (W_first 29 k = W_first 60 (4 + k) ∧ (W_first 60 (4 + k) = -1 ∨ W_first 60 (4 + k) = nI 0)) := by decide +kernel
theorem i_58 : ∀ p, p < 40 → (W_first 22 p = W_first 58 p ∧ W_first 58 p = nI 0) ∧ (W_first 27 p = W_first 58 (40 + p) ∧ W_first 58 (40 + p) = nI 0) := by decide +kernel
theorem i_35 : ∀ s, s < 6 → W_first 35 s = -1 ∧ W_first 54 s = -1 ∧ W_first 37 s = nI 0 ∧ W_first 53 s = nI 0 ∧ W_first 39 s = -1 ∧ W_first 55 s = -1 := by decide +kernel
theorem i_33 : ∀ k, k < 4 → W_first 33 k = 0 ∧ W_first 57 k = 0 ∧ W_first 31 k = 0 ∧ W_first 56 k = 0 := by decide +kernel
theorem i_47 : G_law 47 0 = nI 0 ∧ G_law 47 1 = nI 300 ∧ G_law 47 2 = 0 ∧ G_law 47 3 = 0 ∧ G_law 47 4 = 50000 ∧ G_law 47 5 = 0 ∧ G_law 0 4 = nI 300 ∧ G_law 40 0 = 0 ∧ G_law 40 1 = 0 ∧ G_law 40 2 = 50000 ∧ G_law 40 3 = 0 := by decide +kernel
theorem i_11 : ∀ m, m < 120 → G_law 11 m = 0 := by decide +kernel
theorem jA_first : jA 0 W_first := by
  obtain ⟨c1, c2, c3, c4, c5, c6, c7, c8, c9, c10, c11, c12, c13, c14, c15, c16, c17, c18, c19, c20, c21, c22, c23, c24, c25, c26, c27, c28, c29⟩ := i_c
  refine ⟨⟨by decide, c1, c2, c3, fun m _ hm => i_52 m hm, 1, c4, by decide, by decide, fun m hm => absurd hm (Nat.not_lt_zero _)⟩, ⟨⟨0, 0, by decide, by decide, c5, c6, c7, c8, c13, fun k hk => ?_⟩, fun p hp => ?_⟩, ⟨⟨0, 0, by decide, by decide, c9, c10, c11, c12, c14, fun k hk => ?_⟩, fun p hp => ?_⟩, ⟨fun s hs => ?_, ⟨0, by decide, c15, c16⟩, c17.trans c18.symm, Or.inl c18⟩, fun s hs => ?_, fun k hk => ?_, fun k hk => ?_, ⟨c19.trans c20.symm, c21.trans c22.symm, c23.trans c24.symm, 0, by decide, c25, c26, fun p hp => absurd hp (Nat.not_lt_zero _)⟩, ⟨c27.trans c28.symm, 300, by decide, by decide, c28⟩, c29⟩
  · rw [Nat.mul_zero, Nat.zero_add]
    obtain ⟨⟨a, b⟩, _⟩ := i_60 k hk
    refine ⟨a, ?_⟩
    rcases b with b | b
    · exact Or.inl b
    · exact Or.inr ⟨0, Nat.le_refl _, b⟩
  · rw [Nat.mul_zero, Nat.zero_add]
    exact ⟨(i_58 p hp).1.1, 0, by decide, (i_58 p hp).1.2⟩
  · obtain ⟨_, a, b⟩ := i_60 k hk
    refine ⟨a, ?_⟩
    rcases b with b | b
    · exact Or.inl b
    · exact Or.inr ⟨0, Nat.le_refl _, b⟩
  · exact ⟨(i_58 p hp).2.1, 0, by decide, (i_58 p hp).2.2⟩
  · obtain ⟨a, b, c, d, e, f⟩ := i_35 s hs
    exact ⟨a.trans b.symm, Or.inl b⟩
  · obtain ⟨a, b, c, d, e, f⟩ := i_35 s hs
    exact ⟨c.trans d.symm, ⟨0, by decide, d⟩, e.trans f.symm, Or.inl f⟩
  · obtain ⟨a, b, c, d⟩ := i_33 k hk
    rw [a, b]
    exact ⟨rfl, by decide, by decide⟩
  · obtain ⟨a, b, c, d⟩ := i_33 k hk
    rw [c, d]
    exact ⟨rfl, by decide, by decide⟩
theorem INV_first : INV 0 300 R_first G_law := by
  obtain ⟨a0, a1, a2, a3, a4, a5, b4, c0, c1, c2, c3⟩ := i_47
  exact ⟨jA_first, by decide, fun m hm => absurd hm (Nat.not_lt_zero _), a1, b4, ⟨a0, a2.trans c0.symm, a3.trans c1.symm, a4.trans c2.symm, a5.trans c3.symm, Or.inl ⟨by rw [c0]; decide, c3, c2⟩⟩, i_11⟩
/-- from the entry to the end, for every script -/
theorem whole_start {p : Program} {e : Env} {s : State} {m : MethodId} {below : List Frame} {meth : Method} {c : Code} (l : Launch) (hflags : l.flags = flags0) {b L : Nat} {xs : Nat → Int32} (hL : L ≤ 260) (C0 : lw_At p s m meth c b L xs) : W p l e room_1 s m #[Value.ref b] below meth c s.heap [] 0 0 (lw_Z below #[Value.ref b] s) (entryFrame m ([Value.ref b] : List Value).toArray 8) :=
  law_from (IA := IAx) (IB := IBx) l hflags hL C0
    (notes_A (Jn_w INV_first.1) (fun G' hI => ⟨rfl, 0, R_first, INV_k INV_first (keq_cw (fun k hk => hI.1 k (by omega))) (hI.1 46 (by decide)) (hI.1 47 (by decide))⟩))
    (fun x y G ⟨N, R, h⟩ => acts_A h (fun N' R' G' h' => Or.inl ⟨rfl, N', R', h'⟩) (fun G' h' => Or.inr ⟨rfl, h'⟩))
    (fun x y G ⟨⟨N, R, h⟩, h7⟩ => acts_B h h7 (fun N' R' G' h' h7' => ⟨rfl, ⟨N', R', h'⟩, h7'⟩) (fun G' h' => ⟨rfl, h'⟩))
set_option maxHeartbeats 4000000 in
theorem lw_walk (l : Launch) (hflags : l.flags = flags0) (b : Addr) (xs : List Int32) : MetFree l x (headSpec (Jvm.Cond.code x code maxLocals ret :: tables_1) room_1) (lw_P b xs) (fun _ _ _ _ _ => True) lw_Q := by
  refine MetFree.of_bodyS (code := code) (maxLocals := maxLocals) (ret := ret) (by decide) ?_ ?_
  · intro args s m h hn
    obtain ⟨meth, c, h1, h2, h3, h4, h5, h6, -, -⟩ := Cond.code_spec hn (atoms_spec (ws := Jvm.Cond.code x code maxLocals ret :: tables_1) h _ List.mem_cons_self)
    exact ⟨meth, c, h1, h2, h3, h4, h5, h6⟩
  · intro p e s m args below meth c s₁ B hml0 hP _
    obtain ⟨rfl, hx, hbd, hgv⟩ := hP
    obtain ⟨scr, harrAt, hlist, hof, hsmall⟩ := hx
    obtain ⟨hcb, hkn, -, -⟩ := State.arrayAt?_spec harrAt
    have hown : s.vm.findClass R_law = some m.cls := findClass_of_methodNamed B.named
    have hts0 : ∀ c ∈ (Jvm.Cond.code x code maxLocals ret :: tables_1), c.before #[Value.ref b] s = true := atoms_spec (ws := Jvm.Cond.code x code maxLocals ret :: tables_1) B.pre
    have hts : ∀ w ∈ lw_tbl, w.before #[Value.ref b] s = true := k2_hts_sels lw_privs (fun w hw => hts0 w (List.mem_cons_of_mem _ hw)) lw_privs_ok
    have hml : c.maxLocals = 8 := B.maxLocals_eq (hts0 _ List.mem_cons_self)
    have X₀ : Stand p l e room_1 s m #[Value.ref b] below meth c s₁ [] 0 0 := Stand.of_body B
    have hh0 : s₁.heap = s.heap := by rw [B.state]; rfl
    have hsz : scr.slots.size = xs.length := by rw [← Array.length_toList, hlist, List.length_map]
    have hval : ∀ j : Nat, j < xs.length → scr.slots[j]? = some (.int (xs.getD j 0)) := fun j hj => by
      rw [← Array.getElem?_toList, hlist]
      simp [hj]
    have hbl : b < s.heap.size := (Array.getElem?_eq_some_iff.mp hcb).1
    have hX : va_X b xs.length (fun j => xs.getD j 0) s s.heap := ⟨scr, hcb, hof, hkn, hsz, hval⟩
    have K : W p l e room_1 s m #[Value.ref b] below meth c s₁.heap [] 0 0 (lw_Z below #[Value.ref b] s) (entryFrame m ([Value.ref b] : List Value).toArray 8) := by
      rw [hh0]
      exact whole_start l hflags hbd ⟨B.exec, B.bytes, B.returns, hml, hown, hts, hX, hbl, B.notSynchronized, hgv⟩
    obtain ⟨t, a1, o, b1, b2, b3⟩ := K s₁ rfl X₀
    exact ⟨t, o, a1, b1, b2, b3⟩
theorem lw_pre_spec {args : Array Value} {s : State} (h : (Jvm.Cond.and given_1 narrow_1).before args s = true) (hr : rest_1_c.before args s = true) : ∃ (b : Addr) (xs : List Int32), lw_P b xs args s := by
  have hs := flat_of_before _ h
  have hq := flat_of_before _ hr
  have hc : (Cond.count 1).before args s = true := hs _ (by decide +kernel)
  have harr : (Cond.arrayOf (.arg 0) .int).before args s = true := hs _ (by decide +kernel)
  have hle : (Cond.le (.length (.arg 0)) (.int 260)).before args s = true := hs _ (by decide +kernel)
  have hlen : (Cond.isInt (.length (.arg 0))).before args s = true := hq _ (by decide +kernel)
  have hall : (Cond.all (.arg 0) (.isInt (.elem (.arg 0) (.index 0)))).before args s = true := hq _ (by decide +kernel)
  obtain ⟨b, xs, hb, hx⟩ := State.ints_of_pre rfl harr hlen hall
  have hsm : xs.length < 2 ^ 31 := hx.choose_spec.2.2.2
  have hev : (Term.length (.arg 0)).eval args s none [] s = some (.int xs.length.toInt32) := hx.length_eval hb
  have hv := Cond.le_ints hev (show (Term.int 260).eval args s none [] s = some (.int 260) from rfl)
  have hd : xs.length.toInt32 ≤ 260 := by
    simpa [Cond.before, Cond.holds, hv] using hle
  have hN : xs.length ≤ 260 := (Int32.ofNat_le_ofNat hsm (by decide)).mp (show Int32.ofNat xs.length ≤ Int32.ofNat 260 from hd)
  exact ⟨b, xs, Cond.one_arg hc (show args[0]? = some (.ref b) from hb), hx, hN, h⟩
theorem lw_comes (l : Launch) (hflags : l.flags = flags0) : Comes l x (Jvm.Cond.code x code maxLocals ret :: tables_1) room_1 (fun tb e args s => Calls_1 tb e args s ∧ rest_1 tb e args s ∧ Pre_1 tb e args s)
    (fun _ _ args s o t => lw_Q args s o t) := by
  intro p e ha hc hk s m args below hf hfit hheap happ hpre
  obtain ⟨b, xs, hP⟩ := lw_pre_spec hpre.2.2 hpre.2.1
  obtain ⟨k, o, h1, h2, h3, hQ⟩ := lw_walk l hflags b xs p e ha hc hk s m args below hf ((Spec.applies_iff_loose hf).mp happ).1 hP trivial
  exact ⟨k, o, h1, h2, h3, hQ⟩
theorem lw_frame {s t : State} {o : Outcome} {args : Array Value} (h : Framed s o t [] 600104 7301314) :
    Framed s o t (fieldLocs frame_1_writes args s ++ arrayLocs frame_1_arrays args s ++ staticLocs frame_1_statics s) 600104 7301314 := h
theorem lw_limb (L : Cond) (hL : ∀ (args : Array Value) (s t : State), L.after args s (.returned (some (.int 1))) t = true) :
    ArmFor flags0 classFile x code maxLocals ret World_1 tables_1 room_1 Calls_1 rest_1 Pre_1
      (fun tb e a s o t => postC L tb e a s o t ∧ Framed s o t (fieldLocs frame_1_writes a s ++ arrayLocs frame_1_arrays a s ++ staticLocs frame_1_statics s) 600104 7301314) := by
  intro l hflags _ _ p e ha hc hk s m args below hf hfit hheap happ hpre
  obtain ⟨k, o, h1, h2, h3, rfl, hF⟩ := lw_comes l hflags p e ha hc hk s m args below hf hfit hheap happ hpre
  exact ⟨k, _, h1, h2, h3, hL args s _, lw_frame hF⟩
theorem i_vc : Claimed_1_1 ∧ Claimed_1_2 := ⟨lw_limb limb_1_1 (fun args s t => by simp [limb_1_1, Cond.after, Cond.holds, Cond.value]), lw_limb limb_1_2 (fun args s t => Cond.after_iff.mpr (by
  first | (rw [show limb_1_2 = Cond.eq .result (.int 1) from rfl, Cond.eq_ints (x := 1) (y := 1) rfl rfl]; simp; done) | (simp [limb_1_2, Cond.value, Term.eval]; done)))⟩

