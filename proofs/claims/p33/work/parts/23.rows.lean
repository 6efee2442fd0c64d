section AW4
variable {p : Program} {l : Launch} {e : Env} {R : Room} {s : State} {m : MethodId} {args : Array Value} {below : List Frame} {meth : Method} {c : Code} {D : va_G} {tA : Nat → ClassId} {A : Nat → Prop} {ad : Nat → Nat} {nL : Nat} {Q : State → Prop} {k n : Nat} {own : String} {cc : ByteArray}
variable {pc : Nat} {lv : List (Option Value)} {st : List Value} {sh : Sh} {G : Gt}
def mx (x y : Int32) : Int32 := if x < y then y else x
def mn (x y : Int32) : Int32 := if y < x then y else x
theorem aw_mmax (C : cx p s m args meth c own cc nL D tA A) {idx : Nat} {x y : Int32} (d : decode cc pc = .ok (.invokestatic idx, 3)) (hl : Cond.methodLink own idx Lib.Math.max.name ∈ GW) (hf : 1 ≤ R.frames) (hlo : (st.map fun v => v.category).sum + 13 ≤ R.locals) (hk : k ≤ R.cells) (hn : n ≤ R.slots) (kk : aw p l e R s m args below meth c nL D tA A Q k n ad (pc + 3) lv (.int (mx x y) :: st) sh G) : aw p l e R s m args below meth c nL D tA A Q k n ad pc lv (.int y :: .int x :: st) sh G :=
  fun H locs ls h1 h2 h3 h4 => va_mmax C.1 C.2.1 (C.2.2.1.trans h4.1.symm) C.2.2.2.1 (C.2.2.2.2.1 _ hl) (C.2.2.2.2.1 _ bJ9_max_7cf53.2.1) (C.2.2.2.2.1 _ bJ9_max_7cf53.2.2.1) (C.2.2.2.2.1 _ bJ9_max_7cf53.1) hf (by rw [tv_sum]; exact hlo) hk hn d (kk H locs ls h1 h2 h3 h4)
theorem aw_mmin (C : cx p s m args meth c own cc nL D tA A) {idx : Nat} {x y : Int32} (d : decode cc pc = .ok (.invokestatic idx, 3)) (hl : Cond.methodLink own idx Lib.Math.min.name ∈ GW) (hf : 1 ≤ R.frames) (hlo : (st.map fun v => v.category).sum + 13 ≤ R.locals) (hk : k ≤ R.cells) (hn : n ≤ R.slots) (kk : aw p l e R s m args below meth c nL D tA A Q k n ad (pc + 3) lv (.int (mn x y) :: st) sh G) : aw p l e R s m args below meth c nL D tA A Q k n ad pc lv (.int y :: .int x :: st) sh G :=
  fun H locs ls h1 h2 h3 h4 => va_mmin C.1 C.2.1 (C.2.2.1.trans h4.1.symm) C.2.2.2.1 (C.2.2.2.2.1 _ hl) (C.2.2.2.2.1 _ bJ9_min_7cf53.2.1) (C.2.2.2.2.1 _ bJ9_min_7cf53.2.2.1) (C.2.2.2.2.1 _ bJ9_min_7cf53.1) hf (by rw [tv_sum]; exact hlo) hk hn d (kk H locs ls h1 h2 h3 h4)
end AW4
theorem CT0.mono {l : Launch} {y : MethodName} {cc : ByteArray} {nL : Nat} {ret : Option FieldType} {fr lc : Nat} {av : List Value} {sh : Sh} {G : Gt} {K K' : Option Value → Gt → Prop} (h : CT0 l y cc nL ret fr lc av sh G K) (hk : ∀ r G', K r G' → K' r G') : CT0 l y cc nL ret fr lc av sh G K' := by
  intro D tA ad sz p e ha hc hx s m args below hf hfit hP hT
  obtain ⟨t, o, a1, a2, a3, ⟨⟨r, G', g1, g2, g3⟩, g4⟩, a5⟩ := h D tA ad sz p e ha hc hx s m args below hf hfit hP hT
  exact ⟨t, o, a1, a2, a3, ⟨⟨r, G', g1, hk _ _ g2, g3⟩, g4⟩, a5⟩
theorem pt_eq {G G1 : Gt} {F : Gt → Prop} (h : pt G F) (e : G1 = G) : F G1 := by subst e; exact pt_iff.mp h
theorem lk_ne {x v : Int32} {i : Int} (h : ¬ x = v) (e : Int32.ofInt i = v) : ¬ i = x.toInt := fun z => h (by rw [← e, z]; exact (Int32.ofInt_toInt x).symm)
theorem lk_def (ps : List (Int × Int)) (x : Int) (d : Int) (h : ∀ q ∈ ps, ¬ q.1 = x) : Op.lookupswitch.offset ps d x = d := by
  induction ps with
  | nil => rfl
  | cons q ps ih =>
    obtain ⟨a, o⟩ := q
    rw [Op.lookupswitch.offset_cons, if_neg (h (a, o) List.mem_cons_self)]
    exact ih (fun q hq => h q (List.mem_cons_of_mem _ hq))
/-! the small functions -/
def rat (G : Gt) (a N : Nat) (i : Int32) : Int32 := if 0 ≤ i ∧ i < nI N then G a i.toNatClampNeg else -1
def rput (G : Gt) (a N : Nat) (i v : Int32) : Gt := if 0 ≤ i ∧ i < nI N then gu G a i.toNatClampNeg v else G
def ibl (x b : Int32) : Int32 := if 0 ≤ x ∧ x < b then 1 else 0
def inm (x : Int32) : Int32 := if -9999 ≤ x ∧ x ≤ 9999 then 1 else 0
def iam (x : Int32) : Int32 := if 1 ≤ x ∧ x ≤ 600 then 1 else 0
theorem vin_of {i : Int32} {N : Nat} (h0 : ¬ i < 0) (h : ¬ nI N ≤ i) (hN : N < 2 ^ 31) : vp_in i N := by
  rw [vp_in_iff]
  have e0 : (0 : Int32).toInt = 0 := rfl
  have e1 := nI_toInt hN
  rw [Int32.lt_iff_toInt_lt, e0] at h0
  rw [Int32.le_iff_toInt_le, e1] at h
  omega
theorem not_lt_le {x y : Int32} (h : ¬ x < y) : y ≤ x := by rw [Int32.lt_iff_toInt_lt] at h; rw [Int32.le_iff_toInt_le]; omega
theorem not_le_lt {x y : Int32} (h : ¬ x ≤ y) : y < x := by rw [Int32.le_iff_toInt_le] at h; rw [Int32.lt_iff_toInt_lt]; omega
theorem lt_not_le {x y : Int32} (h : x < y) : ¬ y ≤ x := by rw [Int32.lt_iff_toInt_lt] at h; rw [Int32.le_iff_toInt_le]; omega
theorem le_not_lt {x y : Int32} (h : x ≤ y) : ¬ y < x := by rw [Int32.le_iff_toInt_le] at h; rw [Int32.lt_iff_toInt_lt]; omega
