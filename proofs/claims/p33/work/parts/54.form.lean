theorem wfL_nf {sh : Sh} {b n : Nat} {F : shE} {T : Sh} (h : wfL sh) (hn : T.length = n) (hF : wfE (sh.length + n) F) (hT : wfS (sh.length + n) T) : wfL (nf sh b F T) := by
  intro x hx
  rw [nf_len hn]
  rw [nf] at hx
  rcases List.mem_append.mp hx with hx | hx
  · rcases List.mem_or_eq_of_mem_set hx with hx | hx
    · exact (h x hx).mono (Nat.le_add_right _ _)
    · rw [hx]; exact hF
  · exact hT x hx
section AW9
variable {p : Program} {l : Launch} {e : Env} {R : Room} {s : State} {m : MethodId} {args : Array Value} {below : List Frame} {meth : Method} {c : Code} {D : va_G} {tA : Nat → ClassId} {A : Nat → Prop} {ad ad0 : Nat → Nat} {nL : Nat} {Q : State → Prop} {k n : Nat} {own : String} {cc : ByteArray}
variable {pc : Nat} {lv : List (Option Value)} {st : List Value} {sh sh1 : Sh} {G : Gt} {K : Option Value → Gt → Prop} {b i : Nat} {F F1 : shE} {T T1 : Sh}
theorem aw_sh (h : sh = sh1) (kk : aw p l e R s m args below meth c nL D tA A Q k n ad pc lv st sh1 G) : aw p l e R s m args below meth c nL D tA A Q k n ad pc lv st sh G := by rw [h]; exact kk
theorem aw_newF (C : cx p s m args meth c own cc nL D tA A) {idx ci N : Nat} {Cn : String} {Tb : u_T} {ty : Nat → FieldType} {fs : List fE} {fs0 : List Value} (d : decode cc pc = .ok (.new idx, 3)) (Kc : kc ci Cn Tb N ty) (hcl : Cond.classLink own idx Cn ∈ GW) (hinst : Cond.instantiable Cn N ∈ GW) (hini : Cond.initialized Cn ∈ GW) (hfs : ∀ j, j < N → defaultValue (ty j) = vp_V fs0 j) (hy : fs.mapIdx (cF (fun q => q) (fun _ => 0)) = fs0) (hnr : ∀ f ∈ fs, f = none ∨ f = some none)
    (hi : T.length = i) (hT : T ++ [.inr (ci, fs)] = T1) (hwf : wfL (nf sh b F T)) (hr : rk (sh.length + i) lv) (hs : rk (sh.length + i) (st.map some)) (hcells : k + 1 ≤ R.cells) (hslots : n + N ≤ R.slots)
    (kk : ∀ ad1 : Nat → Nat, (∀ j, j < sh.length + i → ad1 j = ad j) → wfL (nf sh b F T1) → aw p l e R s m args below meth c nL D tA A Q (k + 1) (n + N) ad1 (pc + 3) lv (.ref (sh.length + i) :: st) (nf sh b F T1) (gz G (sh.length + i) 0)) : aw p l e R s m args below meth c nL D tA A Q k n ad pc lv st (nf sh b F T) G := by
  have e1 := nf_len (sh := sh) (b := b) (F := F) hi
  refine aw_newN C d Kc hcl hinst hini hfs hy hnr hwf (by rw [e1]; exact hr) (by rw [e1]; exact hs) hcells hslots (fun ad1 h1 h2 => ?_)
  rw [e1] at h1 ⊢
  rw [nf_push hT] at h2 ⊢
  exact kk ad1 h1 h2
theorem aw_newarrF (C : cx p s m args meth c own cc nL D tA A) {t N : Nat} {at9 : ArrayType} {a0 : vp_A} {x : Int32} (ht : t < 1) (d : decode cc pc = .ok (.newarray at9, 2)) (hat : newarray.typeOf at9 = nty t) (harr : Cond.arrayClass (nty t) ∈ GW) (ha : ∀ cA : ClassId, vp_cell cA a0 = arrV cA N (fun _ => defaultValue (nty t))) (hx : ∀ ad1, cA tA ad1 (fun _ => 0) (.inl (t, N)) = .inl (tA t, a0)) (hn : x = nI N) (hN : N * componentBytes (nty t) ≤ 536870912) (hN2 : N < 2 ^ 31)
    (hi : T.length = i) (hT : T ++ [.inl (t, N)] = T1) (hwf : wfL (nf sh b F T)) (hr : rk (sh.length + i) lv) (hs : rk (sh.length + i) (st.map some)) (hcells : k + 1 ≤ R.cells) (hslots : n + N ≤ R.slots)
    (kk : ∀ ad1 : Nat → Nat, (∀ j, j < sh.length + i → ad1 j = ad j) → wfL (nf sh b F T1) → aw p l e R s m args below meth c nL D tA A Q (k + 1) (n + N) ad1 (pc + 2) lv (.ref (sh.length + i) :: st) (nf sh b F T1) (gz G (sh.length + i) 0)) : aw p l e R s m args below meth c nL D tA A Q k n ad pc lv (.int x :: st) (nf sh b F T) G := by
  have e1 := nf_len (sh := sh) (b := b) (F := F) hi
  refine aw_newarr C ht d hat harr ha hx hn hN hN2 hwf (by rw [e1]; exact hr) (by rw [e1]; exact hs) hcells hslots (fun ad1 h1 h2 => ?_)
  rw [e1] at h1 ⊢
  rw [nf_push hT] at h2 ⊢
  exact kk ad1 h1 h2
theorem aw_putRF (C : cx p s m args meth c own cc nL D tA A) {r q idx ci N : Nat} {Cn : String} {Tb : u_T} {ty : Nat → FieldType} {fs : List fE} (d : decode cc pc = .ok (.putfield idx, 3)) (Kc : kc ci Cn Tb N ty) (hb : b < sh.length) (hF : F = .inr (ci, fs)) (j : Nat) (hj : j < N) (hjl : j < fs.length) (hl : Cond.fieldLink own idx (Tb j).1 (Tb j).2.1 (Tb j).2.2.1 ∈ GW) (hfin : (Tb j).2.2.2 = false ∨ ((Tb j).2.2.2 = true ∧ meth.name = "<init>" ∧ (Tb j).1 = own)) (hty : narrow (ty j) (.ref (ad r)) = .ref (ad r) ∧ fits (ty j) (.ref (ad r)) = true) (hi : T.length = i) (hwf : wfL (nf sh b F T)) (hr9 : r < sh.length + i) (hq9 : q < sh.length + i) (hF1 : (.inr (ci, fs.set j (some (some (q, r)))) : shE) = F1)
    (kk : wfL (nf sh b F1 T) → aw p l e R s m args below meth c nL D tA A Q k n ad (pc + 3) lv st (nf sh b F1 T) (gu G b j 1)) : aw p l e R s m args below meth c nL D tA A Q k n ad pc lv (.ref r :: .ref b :: st) (nf sh b F T) G := by
  subst hF
  have e1 := nf_len (sh := sh) (b := b) (F := .inr (ci, fs)) hi
  refine aw_putRN (q := q) C d Kc (nf_b hb) j hj hjl hl hfin hty hwf (by rw [e1]; exact hr9) (by rw [e1]; exact hq9) (fun h2 => ?_)
  rw [nf_setb hb, hF1] at h2 ⊢
  exact kk h2
end AW9
