def pif (P A B : Prop) : Prop := (P → A) ∧ (¬ P → B)
theorem pif_iff {P A B : Prop} [Decidable P] : pif P A B ↔ if P then A else B := by
  by_cases h : P
  · rw [if_pos h]; exact ⟨fun z => z.1 h, fun z => ⟨fun _ => z, fun w => absurd h w⟩⟩
  · rw [if_neg h]; exact ⟨fun z => z.2 h, fun z => ⟨fun w => absurd w h, fun _ => z⟩⟩
section AW2
variable {p : Program} {l : Launch} {e : Env} {R : Room} {s : State} {m : MethodId} {args : Array Value} {below : List Frame} {meth : Method} {c : Code} {D : va_G} {tA : Nat → ClassId} {A : Nat → Prop} {ad : Nat → Nat} {nL : Nat} {Q : State → Prop} {k n : Nat} {own : String} {cc : ByteArray}
variable {pc : Nat} {lv : List (Option Value)} {st : List Value} {sh : Sh} {G : Gt}

theorem aw_iadd (C : cx p s m args meth c own cc nL D tA A) {x y : Int32} (d : decode cc pc = .ok (.iadd, 1)) (kk : aw p l e R s m args below meth c nL D tA A Q k n ad (pc + 1) lv (.int (x + y) :: st) sh G) : aw p l e R s m args below meth c nL D tA A Q k n ad pc lv (.int y :: .int x :: st) sh G :=
  fun H locs ls h1 h2 h3 h4 => lv_iadd C.1 C.2.1 d (kk H locs ls h1 h2 h3 h4)
theorem aw_isub (C : cx p s m args meth c own cc nL D tA A) {x y : Int32} (d : decode cc pc = .ok (.isub, 1)) (kk : aw p l e R s m args below meth c nL D tA A Q k n ad (pc + 1) lv (.int (x - y) :: st) sh G) : aw p l e R s m args below meth c nL D tA A Q k n ad pc lv (.int y :: .int x :: st) sh G :=
  fun H locs ls h1 h2 h3 h4 => lv_isub C.1 C.2.1 d (kk H locs ls h1 h2 h3 h4)
theorem aw_imul (C : cx p s m args meth c own cc nL D tA A) {x y : Int32} (d : decode cc pc = .ok (.imul, 1)) (kk : aw p l e R s m args below meth c nL D tA A Q k n ad (pc + 1) lv (.int (x * y) :: st) sh G) : aw p l e R s m args below meth c nL D tA A Q k n ad pc lv (.int y :: .int x :: st) sh G :=
  fun H locs ls h1 h2 h3 h4 => lv_imul C.1 C.2.1 d (kk H locs ls h1 h2 h3 h4)
theorem aw_iand (C : cx p s m args meth c own cc nL D tA A) {x y : Int32} (d : decode cc pc = .ok (.iand, 1)) (kk : aw p l e R s m args below meth c nL D tA A Q k n ad (pc + 1) lv (.int (x &&& y) :: st) sh G) : aw p l e R s m args below meth c nL D tA A Q k n ad pc lv (.int y :: .int x :: st) sh G :=
  fun H locs ls h1 h2 h3 h4 => lv_iand C.1 C.2.1 d (kk H locs ls h1 h2 h3 h4)
theorem aw_ior (C : cx p s m args meth c own cc nL D tA A) {x y : Int32} (d : decode cc pc = .ok (.ior, 1)) (kk : aw p l e R s m args below meth c nL D tA A Q k n ad (pc + 1) lv (.int (x ||| y) :: st) sh G) : aw p l e R s m args below meth c nL D tA A Q k n ad pc lv (.int y :: .int x :: st) sh G :=
  fun H locs ls h1 h2 h3 h4 => lv_ior C.1 C.2.1 d (kk H locs ls h1 h2 h3 h4)
theorem aw_ishl (C : cx p s m args meth c own cc nL D tA A) {x y : Int32} (d : decode cc pc = .ok (.ishl, 1)) (kk : aw p l e R s m args below meth c nL D tA A Q k n ad (pc + 1) lv (.int (x <<< (y &&& 31)) :: st) sh G) : aw p l e R s m args below meth c nL D tA A Q k n ad pc lv (.int y :: .int x :: st) sh G :=
  fun H locs ls h1 h2 h3 h4 => lv_ishl C.1 C.2.1 d (kk H locs ls h1 h2 h3 h4)
theorem aw_ishr (C : cx p s m args meth c own cc nL D tA A) {x y : Int32} (d : decode cc pc = .ok (.ishr, 1)) (kk : aw p l e R s m args below meth c nL D tA A Q k n ad (pc + 1) lv (.int (x >>> (y &&& 31)) :: st) sh G) : aw p l e R s m args below meth c nL D tA A Q k n ad pc lv (.int y :: .int x :: st) sh G :=
  fun H locs ls h1 h2 h3 h4 => lv_ishr C.1 C.2.1 d (kk H locs ls h1 h2 h3 h4)
theorem aw_idiv (C : cx p s m args meth c own cc nL D tA A) {x y : Int32} (d : decode cc pc = .ok (.idiv, 1)) (hy : ¬ y = 0) (kk : aw p l e R s m args below meth c nL D tA A Q k n ad (pc + 1) lv (.int (x / y) :: st) sh G) : aw p l e R s m args below meth c nL D tA A Q k n ad pc lv (.int y :: .int x :: st) sh G :=
  fun H locs ls h1 h2 h3 h4 => lv_idiv C.1 C.2.1 d hy (kk H locs ls h1 h2 h3 h4)
theorem aw_irem (C : cx p s m args meth c own cc nL D tA A) {x y : Int32} (d : decode cc pc = .ok (.irem, 1)) (hy : ¬ y = 0) (kk : aw p l e R s m args below meth c nL D tA A Q k n ad (pc + 1) lv (.int (x - x / y * y) :: st) sh G) : aw p l e R s m args below meth c nL D tA A Q k n ad pc lv (.int y :: .int x :: st) sh G :=
  fun H locs ls h1 h2 h3 h4 => lv_irem C.1 C.2.1 d hy (kk H locs ls h1 h2 h3 h4)
theorem aw_i2l (C : cx p s m args meth c own cc nL D tA A) {x : Int32} (d : decode cc pc = .ok (.i2l, 1)) (kk : aw p l e R s m args below meth c nL D tA A Q k n ad (pc + 1) lv (.long x.toInt64 :: st) sh G) : aw p l e R s m args below meth c nL D tA A Q k n ad pc lv (.int x :: st) sh G :=
  fun H locs ls h1 h2 h3 h4 => lv_i2l C.1 C.2.1 d rfl (kk H locs ls h1 h2 h3 h4)
theorem aw_ic_eq (C : cx p s m args meth c own cc nL D tA A) {x y : Int32} {off : Int} {X Y : Prop} (d : decode cc pc = .ok (.if_icmp .eq off, 3)) (tgt : Nat) (ht : (pc : Int) + off = (tgt : Int)) (hw : pif (x = y) X Y) (kt : x = y → X → aw p l e R s m args below meth c nL D tA A Q k n ad tgt lv st sh G) (kf : ¬ (x = y) → Y → aw p l e R s m args below meth c nL D tA A Q k n ad (pc + 3) lv st sh G) : aw p l e R s m args below meth c nL D tA A Q k n ad pc lv (.int y :: .int x :: st) sh G := by
  intro H locs ls h1 h2 h3 h4
  refine lv_icmp_eq C.1 C.2.1 d ht (fun q => ?_) (fun q => ?_)
  · exact kt (by assumption) (hw.1 (by assumption)) H locs ls h1 h2 h3 h4
  · exact kf (by assumption) (hw.2 (by assumption)) H locs ls h1 h2 h3 h4
theorem aw_if_eq (C : cx p s m args meth c own cc nL D tA A) {x : Int32} {off : Int} {X Y : Prop} (d : decode cc pc = .ok (.ifCond .eq off, 3)) (tgt : Nat) (ht : (pc : Int) + off = (tgt : Int)) (hw : pif (x = 0) X Y) (kt : x = 0 → X → aw p l e R s m args below meth c nL D tA A Q k n ad tgt lv st sh G) (kf : ¬ (x = 0) → Y → aw p l e R s m args below meth c nL D tA A Q k n ad (pc + 3) lv st sh G) : aw p l e R s m args below meth c nL D tA A Q k n ad pc lv (.int x :: st) sh G := by
  intro H locs ls h1 h2 h3 h4
  refine lv_if_eq C.1 C.2.1 d ht (fun q => ?_) (fun q => ?_)
  · exact kt (by assumption) (hw.1 (by assumption)) H locs ls h1 h2 h3 h4
  · exact kf (by assumption) (hw.2 (by assumption)) H locs ls h1 h2 h3 h4
theorem aw_ic_lt (C : cx p s m args meth c own cc nL D tA A) {x y : Int32} {off : Int} {X Y : Prop} (d : decode cc pc = .ok (.if_icmp .lt off, 3)) (tgt : Nat) (ht : (pc : Int) + off = (tgt : Int)) (hw : pif (x < y) X Y) (kt : x < y → X → aw p l e R s m args below meth c nL D tA A Q k n ad tgt lv st sh G) (kf : ¬ (x < y) → Y → aw p l e R s m args below meth c nL D tA A Q k n ad (pc + 3) lv st sh G) : aw p l e R s m args below meth c nL D tA A Q k n ad pc lv (.int y :: .int x :: st) sh G := by
  intro H locs ls h1 h2 h3 h4
  refine lv_icmp_lt C.1 C.2.1 d ht (fun q => ?_) (fun q => ?_)
  · exact kt (by assumption) (hw.1 (by assumption)) H locs ls h1 h2 h3 h4
  · exact kf (by assumption) (hw.2 (by assumption)) H locs ls h1 h2 h3 h4
theorem aw_if_lt (C : cx p s m args meth c own cc nL D tA A) {x : Int32} {off : Int} {X Y : Prop} (d : decode cc pc = .ok (.ifCond .lt off, 3)) (tgt : Nat) (ht : (pc : Int) + off = (tgt : Int)) (hw : pif (x < 0) X Y) (kt : x < 0 → X → aw p l e R s m args below meth c nL D tA A Q k n ad tgt lv st sh G) (kf : ¬ (x < 0) → Y → aw p l e R s m args below meth c nL D tA A Q k n ad (pc + 3) lv st sh G) : aw p l e R s m args below meth c nL D tA A Q k n ad pc lv (.int x :: st) sh G := by
  intro H locs ls h1 h2 h3 h4
  refine lv_if_lt C.1 C.2.1 d ht (fun q => ?_) (fun q => ?_)
  · exact kt (by assumption) (hw.1 (by assumption)) H locs ls h1 h2 h3 h4
  · exact kf (by assumption) (hw.2 (by assumption)) H locs ls h1 h2 h3 h4
theorem aw_ic_ge (C : cx p s m args meth c own cc nL D tA A) {x y : Int32} {off : Int} {X Y : Prop} (d : decode cc pc = .ok (.if_icmp .ge off, 3)) (tgt : Nat) (ht : (pc : Int) + off = (tgt : Int)) (hw : pif (y ≤ x) X Y) (kt : y ≤ x → X → aw p l e R s m args below meth c nL D tA A Q k n ad tgt lv st sh G) (kf : ¬ (y ≤ x) → Y → aw p l e R s m args below meth c nL D tA A Q k n ad (pc + 3) lv st sh G) : aw p l e R s m args below meth c nL D tA A Q k n ad pc lv (.int y :: .int x :: st) sh G := by
  intro H locs ls h1 h2 h3 h4
  refine lv_icmp_ge C.1 C.2.1 d ht (fun q => ?_) (fun q => ?_)
  · exact kt (by assumption) (hw.1 (by assumption)) H locs ls h1 h2 h3 h4
  · exact kf (by assumption) (hw.2 (by assumption)) H locs ls h1 h2 h3 h4
theorem aw_if_ge (C : cx p s m args meth c own cc nL D tA A) {x : Int32} {off : Int} {X Y : Prop} (d : decode cc pc = .ok (.ifCond .ge off, 3)) (tgt : Nat) (ht : (pc : Int) + off = (tgt : Int)) (hw : pif (0 ≤ x) X Y) (kt : 0 ≤ x → X → aw p l e R s m args below meth c nL D tA A Q k n ad tgt lv st sh G) (kf : ¬ (0 ≤ x) → Y → aw p l e R s m args below meth c nL D tA A Q k n ad (pc + 3) lv st sh G) : aw p l e R s m args below meth c nL D tA A Q k n ad pc lv (.int x :: st) sh G := by
  intro H locs ls h1 h2 h3 h4
  refine lv_if_ge C.1 C.2.1 d ht (fun q => ?_) (fun q => ?_)
  · exact kt (by assumption) (hw.1 (by assumption)) H locs ls h1 h2 h3 h4
  · exact kf (by assumption) (hw.2 (by assumption)) H locs ls h1 h2 h3 h4
theorem aw_ic_gt (C : cx p s m args meth c own cc nL D tA A) {x y : Int32} {off : Int} {X Y : Prop} (d : decode cc pc = .ok (.if_icmp .gt off, 3)) (tgt : Nat) (ht : (pc : Int) + off = (tgt : Int)) (hw : pif (y < x) X Y) (kt : y < x → X → aw p l e R s m args below meth c nL D tA A Q k n ad tgt lv st sh G) (kf : ¬ (y < x) → Y → aw p l e R s m args below meth c nL D tA A Q k n ad (pc + 3) lv st sh G) : aw p l e R s m args below meth c nL D tA A Q k n ad pc lv (.int y :: .int x :: st) sh G := by
  intro H locs ls h1 h2 h3 h4
  refine lv_icmp_gt C.1 C.2.1 d ht (fun q => ?_) (fun q => ?_)
  · exact kt (by assumption) (hw.1 (by assumption)) H locs ls h1 h2 h3 h4
  · exact kf (by assumption) (hw.2 (by assumption)) H locs ls h1 h2 h3 h4
theorem aw_if_gt (C : cx p s m args meth c own cc nL D tA A) {x : Int32} {off : Int} {X Y : Prop} (d : decode cc pc = .ok (.ifCond .gt off, 3)) (tgt : Nat) (ht : (pc : Int) + off = (tgt : Int)) (hw : pif (0 < x) X Y) (kt : 0 < x → X → aw p l e R s m args below meth c nL D tA A Q k n ad tgt lv st sh G) (kf : ¬ (0 < x) → Y → aw p l e R s m args below meth c nL D tA A Q k n ad (pc + 3) lv st sh G) : aw p l e R s m args below meth c nL D tA A Q k n ad pc lv (.int x :: st) sh G := by
  intro H locs ls h1 h2 h3 h4
  refine lv_if_gt C.1 C.2.1 d ht (fun q => ?_) (fun q => ?_)
  · exact kt (by assumption) (hw.1 (by assumption)) H locs ls h1 h2 h3 h4
  · exact kf (by assumption) (hw.2 (by assumption)) H locs ls h1 h2 h3 h4
theorem aw_ic_le (C : cx p s m args meth c own cc nL D tA A) {x y : Int32} {off : Int} {X Y : Prop} (d : decode cc pc = .ok (.if_icmp .le off, 3)) (tgt : Nat) (ht : (pc : Int) + off = (tgt : Int)) (hw : pif (x ≤ y) X Y) (kt : x ≤ y → X → aw p l e R s m args below meth c nL D tA A Q k n ad tgt lv st sh G) (kf : ¬ (x ≤ y) → Y → aw p l e R s m args below meth c nL D tA A Q k n ad (pc + 3) lv st sh G) : aw p l e R s m args below meth c nL D tA A Q k n ad pc lv (.int y :: .int x :: st) sh G := by
  intro H locs ls h1 h2 h3 h4
  refine lv_icmp_le C.1 C.2.1 d ht (fun q => ?_) (fun q => ?_)
  · exact kt (by assumption) (hw.1 (by assumption)) H locs ls h1 h2 h3 h4
  · exact kf (by assumption) (hw.2 (by assumption)) H locs ls h1 h2 h3 h4
theorem aw_if_le (C : cx p s m args meth c own cc nL D tA A) {x : Int32} {off : Int} {X Y : Prop} (d : decode cc pc = .ok (.ifCond .le off, 3)) (tgt : Nat) (ht : (pc : Int) + off = (tgt : Int)) (hw : pif (x ≤ 0) X Y) (kt : x ≤ 0 → X → aw p l e R s m args below meth c nL D tA A Q k n ad tgt lv st sh G) (kf : ¬ (x ≤ 0) → Y → aw p l e R s m args below meth c nL D tA A Q k n ad (pc + 3) lv st sh G) : aw p l e R s m args below meth c nL D tA A Q k n ad pc lv (.int x :: st) sh G := by
  intro H locs ls h1 h2 h3 h4
  refine lv_if_le C.1 C.2.1 d ht (fun q => ?_) (fun q => ?_)
  · exact kt (by assumption) (hw.1 (by assumption)) H locs ls h1 h2 h3 h4
  · exact kf (by assumption) (hw.2 (by assumption)) H locs ls h1 h2 h3 h4
theorem aw_ic_ne (C : cx p s m args meth c own cc nL D tA A) {x y : Int32} {off : Int} {X Y : Prop} (d : decode cc pc = .ok (.if_icmp .ne off, 3)) (tgt : Nat) (ht : (pc : Int) + off = (tgt : Int)) (hw : pif (x = y) Y X) (kt : ¬ x = y → X → aw p l e R s m args below meth c nL D tA A Q k n ad tgt lv st sh G) (kf : x = y → Y → aw p l e R s m args below meth c nL D tA A Q k n ad (pc + 3) lv st sh G) : aw p l e R s m args below meth c nL D tA A Q k n ad pc lv (.int y :: .int x :: st) sh G := by
  intro H locs ls h1 h2 h3 h4
  refine lv_icmp_ne C.1 C.2.1 d ht (fun q => ?_) (fun q => ?_)
  · exact kt (by assumption) (hw.2 (by assumption)) H locs ls h1 h2 h3 h4
  · have q : x = y := Decidable.not_not.mp (fun z => by first | exact z q | exact q z)
    exact kf (by assumption) (hw.1 (by assumption)) H locs ls h1 h2 h3 h4
theorem aw_if_ne (C : cx p s m args meth c own cc nL D tA A) {x : Int32} {off : Int} {X Y : Prop} (d : decode cc pc = .ok (.ifCond .ne off, 3)) (tgt : Nat) (ht : (pc : Int) + off = (tgt : Int)) (hw : pif (x = 0) Y X) (kt : ¬ x = 0 → X → aw p l e R s m args below meth c nL D tA A Q k n ad tgt lv st sh G) (kf : x = 0 → Y → aw p l e R s m args below meth c nL D tA A Q k n ad (pc + 3) lv st sh G) : aw p l e R s m args below meth c nL D tA A Q k n ad pc lv (.int x :: st) sh G := by
  intro H locs ls h1 h2 h3 h4
  refine lv_if_ne C.1 C.2.1 d ht (fun q => ?_) (fun q => ?_)
  · exact kt (by assumption) (hw.2 (by assumption)) H locs ls h1 h2 h3 h4
  · have q : x = 0 := Decidable.not_not.mp (fun z => by first | exact z q | exact q z)
    exact kf (by assumption) (hw.1 (by assumption)) H locs ls h1 h2 h3 h4
theorem aw_ifnull (C : cx p s m args meth c own cc nL D tA A) {x : Nat} {off : Int} (d : decode cc pc = .ok (.ifnull off, 3)) (kk : aw p l e R s m args below meth c nL D tA A Q k n ad (pc + 3) lv st sh G) : aw p l e R s m args below meth c nL D tA A Q k n ad pc lv (.ref x :: st) sh G :=
  fun H locs ls h1 h2 h3 h4 => lv_ifnull C.1 C.2.1 d (kk H locs ls h1 h2 h3 h4)
theorem aw_ifnullN (C : cx p s m args meth c own cc nL D tA A) {off : Int} (tgt : Nat) (d : decode cc pc = .ok (.ifnull off, 3)) (ht : (pc : Int) + off = (tgt : Int)) (kk : aw p l e R s m args below meth c nL D tA A Q k n ad tgt lv st sh G) : aw p l e R s m args below meth c nL D tA A Q k n ad pc lv (.null :: st) sh G :=
  fun H locs ls h1 h2 h3 h4 => lv_ifnullN C.1 C.2.1 d ht (kk H locs ls h1 h2 h3 h4)
theorem aw_ifnonnull (C : cx p s m args meth c own cc nL D tA A) {x : Nat} {off : Int} (tgt : Nat) (d : decode cc pc = .ok (.ifnonnull off, 3)) (ht : (pc : Int) + off = (tgt : Int)) (kk : aw p l e R s m args below meth c nL D tA A Q k n ad tgt lv st sh G) : aw p l e R s m args below meth c nL D tA A Q k n ad pc lv (.ref x :: st) sh G :=
  fun H locs ls h1 h2 h3 h4 => lv_ifnonnull C.1 C.2.1 d ht (kk H locs ls h1 h2 h3 h4)
theorem aw_ifnonnullN (C : cx p s m args meth c own cc nL D tA A) {off : Int} (d : decode cc pc = .ok (.ifnonnull off, 3)) (kk : aw p l e R s m args below meth c nL D tA A Q k n ad (pc + 3) lv st sh G) : aw p l e R s m args below meth c nL D tA A Q k n ad pc lv (.null :: st) sh G :=
  fun H locs ls h1 h2 h3 h4 => lv_ifnonnullN C.1 C.2.1 d (kk H locs ls h1 h2 h3 h4)
/-- a switch: one value -/
theorem aw_tab (C : cx p s m args meth c own cc nL D tA A) {dflt lo hi : Int} {offs : Array Int} {len : Nat} {x v : Int32} {off : Int} (tgt : Nat) (d : decode cc pc = .ok (.tableswitch dflt lo hi offs, len)) (hx : x = v) (h1 : ¬ v.toInt < lo) (h2 : ¬ hi < v.toInt) (ho : offs[(v.toInt - lo).toNat]? = some off) (ht : (pc : Int) + off = (tgt : Int)) (kk : aw p l e R s m args below meth c nL D tA A Q k n ad tgt lv st sh G) : aw p l e R s m args below meth c nL D tA A Q k n ad pc lv (.int x :: st) sh G := by
  subst hx
  exact fun H locs ls g1 g2 g3 g4 => lv_tableIn C.1 C.2.1 d h1 h2 ho ht (kk H locs ls g1 g2 g3 g4)
theorem aw_tabOut (C : cx p s m args meth c own cc nL D tA A) {dflt lo hi : Int} {offs : Array Int} {len : Nat} {x : Int32} (tgt : Nat) (d : decode cc pc = .ok (.tableswitch dflt lo hi offs, len)) (hx : x.toInt < lo ∨ hi < x.toInt) (ht : (pc : Int) + dflt = (tgt : Int)) (kk : aw p l e R s m args below meth c nL D tA A Q k n ad tgt lv st sh G) : aw p l e R s m args below meth c nL D tA A Q k n ad pc lv (.int x :: st) sh G :=
  fun H locs ls g1 g2 g3 g4 => lv_tableOut C.1 C.2.1 d hx ht (kk H locs ls g1 g2 g3 g4)
theorem aw_lookup (C : cx p s m args meth c own cc nL D tA A) {dflt : Int} {ps : Array (Int × Int)} {len : Nat} {x : Int32} {off : Int} (tgt : Nat) (d : decode cc pc = .ok (.lookupswitch dflt ps, len)) (hp : (ps.toList.zip (ps.toList.drop 1)).all (fun (a, next) => a.1 < next.1) = true) (ho : Op.lookupswitch.offset ps.toList dflt x.toInt = off) (ht : (pc : Int) + off = (tgt : Int)) (kk : aw p l e R s m args below meth c nL D tA A Q k n ad tgt lv st sh G) : aw p l e R s m args below meth c nL D tA A Q k n ad pc lv (.int x :: st) sh G :=
  fun H locs ls g1 g2 g3 g4 => lv_lookup C.1 C.2.1 d hp ho ht (kk H locs ls g1 g2 g3 g4)
/-- none of a table's values -/
theorem tab_out {x : Int32} (lo : Int) (w : Nat) (h0 : -2147483648 ≤ lo) (h1 : lo + w < 2147483648) (h : ∀ i : Nat, i ≤ w → ¬ x = Int32.ofInt (lo + i)) : x.toInt < lo ∨ lo + w < x.toInt := by
  rcases Int.lt_or_le x.toInt lo with a | a
  · exact Or.inl a
  · rcases Int.lt_or_le (lo + w) x.toInt with b | b
    · exact Or.inr b
    · exfalso
      refine h (x.toInt - lo).toNat (by omega) ?_
      have e : lo + ((x.toInt - lo).toNat : Int) = x.toInt := by omega
      rw [e]
      exact (Int32.ofInt_toInt x).symm
/-! memory -/
def pt (G : Gt) (F : Gt → Prop) : Prop := ∃ G1, G1 = G ∧ F G1
theorem pt_iff {G : Gt} {F : Gt → Prop} : pt G F ↔ F G := ⟨fun ⟨_, e, h⟩ => e ▸ h, fun h => ⟨G, rfl, h⟩⟩
def bz (x : Int32) : Prop := x = 0 ∨ x = 1
theorem bz_n {x : Int32} (h : bz x) : narrow .boolean (.int x) = .int x := by rcases h with rfl | rfl <;> rfl
theorem bz_f {x : Int32} (h : bz x) : fits .boolean (.int x) = true := by rcases h with rfl | rfl <;> rfl
theorem bz_v {x : Int32} (h : bz x) : vp_nar .boolean x = x := by rcases h with rfl | rfl <;> rfl
theorem sw_if {P X Y Z : Prop} (hw : pif P X Y) (a : P → X → Z) (b : ¬ P → Y → Z) : Z := by
  by_cases h : P
  · exact a h (hw.1 h)
  · exact b h (hw.2 h)
theorem aw_tabDef (C : cx p s m args meth c own cc nL D tA A) {dflt lo hi : Int} {offs : Array Int} {len : Nat} {x : Int32} (tgt : Nat) (d : decode cc pc = .ok (.tableswitch dflt lo hi offs, len)) (w : Nat) (hhi : hi = lo + w) (h0 : -2147483648 ≤ lo) (h1 : lo + w < 2147483648) (hx : ∀ i : Nat, i ≤ w → x = Int32.ofInt (lo + i) → offs[i]? = some dflt) (ht : (pc : Int) + dflt = (tgt : Int)) (kk : aw p l e R s m args below meth c nL D tA A Q k n ad tgt lv st sh G) : aw p l e R s m args below meth c nL D tA A Q k n ad pc lv (.int x :: st) sh G := by
  subst hhi
  by_cases a : x.toInt < lo
  · exact aw_tabOut C tgt d (Or.inl a) ht kk
  · by_cases b : lo + (w : Int) < x.toInt
    · exact aw_tabOut C tgt d (Or.inr b) ht kk
    · have e : x = Int32.ofInt (lo + ((x.toInt - lo).toNat : Int)) := by
        rw [show lo + ((x.toInt - lo).toNat : Int) = x.toInt by omega]; exact (Int32.ofInt_toInt x).symm
      exact fun H locs ls g1 g2 g3 g4 => lv_tableIn C.1 C.2.1 d a b (hx _ (by omega) e) ht (kk H locs ls g1 g2 g3 g4)
variable {ci N : Nat} {Cn : String} {T : u_T} {ty : Nat → FieldType} {fs : List fE} {b idx : Nat}
theorem aw_getI (C : cx p s m args meth c own cc nL D tA A) (d : decode cc pc = .ok (.getfield idx, 3)) (K : kc ci Cn T N ty) (hs : sh[b]? = some (.inr (ci, fs))) (j : Nat) (hj : j < N) (hf : fs[j]? = some none) (hl : Cond.fieldLink own idx (T j).1 (T j).2.1 (T j).2.2.1 ∈ GW) (kk : aw p l e R s m args below meth c nL D tA A Q k n ad (pc + 3) lv (.int (G b j) :: st) sh G) : aw p l e R s m args below meth c nL D tA A Q k n ad pc lv (.ref b :: st) sh G :=
  fun H locs ls h1 h2 h3 h4 => va_get C.1 C.2.1 C.2.2.2.2.1 K.2.1 C.2.2.2.1 C.2.2.2.2.2.1 h1 (ps sh b) (cW_at hs) K.1 j hj (C.2.2.2.2.1 _ hl) (fun _ h => h) (v := .int (G b j)) (by rw [List.getElem?_mapIdx, hf]; rfl) d (kk H locs ls h1 h2 h3 h4)
theorem aw_getR (C : cx p s m args meth c own cc nL D tA A) (d : decode cc pc = .ok (.getfield idx, 3)) (K : kc ci Cn T N ty) (hs : sh[b]? = some (.inr (ci, fs))) (j : Nat) {r : Nat} (hj : j < N) (hf : fs[j]? = some (some (some (r, r)))) (hl : Cond.fieldLink own idx (T j).1 (T j).2.1 (T j).2.2.1 ∈ GW) (kk : aw p l e R s m args below meth c nL D tA A Q k n ad (pc + 3) lv (.ref r :: st) sh G) : aw p l e R s m args below meth c nL D tA A Q k n ad pc lv (.ref b :: st) sh G :=
  fun H locs ls h1 h2 h3 h4 => va_get C.1 C.2.1 C.2.2.2.2.1 K.2.1 C.2.2.2.1 C.2.2.2.2.2.1 h1 (ps sh b) (cW_at hs) K.1 j hj (C.2.2.2.2.1 _ hl) (fun _ h => h) (v := .ref (ad r)) (by rw [List.getElem?_mapIdx, hf]; show some (Value.ref (ad (if _ then r else r))) = _; rw [ite_self]) d (kk H locs ls h1 h2 h3 h4)
theorem aw_getC (C : cx p s m args meth c own cc nL D tA A) (d : decode cc pc = .ok (.getfield idx, 3)) (K : kc ci Cn T N ty) (hs : sh[b]? = some (.inr (ci, fs))) (j : Nat) {r q : Nat} (hj : j < N) (hf : fs[j]? = some (some (some (r, q)))) (hl : Cond.fieldLink own idx (T j).1 (T j).2.1 (T j).2.2.1 ∈ GW) (kk : aw p l e R s m args below meth c nL D tA A Q k n ad (pc + 3) lv (.ref (if G b j = 0 then r else q) :: st) sh G) : aw p l e R s m args below meth c nL D tA A Q k n ad pc lv (.ref b :: st) sh G :=
  fun H locs ls h1 h2 h3 h4 => va_get C.1 C.2.1 C.2.2.2.2.1 K.2.1 C.2.2.2.1 C.2.2.2.2.2.1 h1 (ps sh b) (cW_at hs) K.1 j hj (C.2.2.2.2.1 _ hl) (fun _ h => h) (v := .ref (ad (if G b j = 0 then r else q))) (by rw [List.getElem?_mapIdx, hf]; rfl) d (kk H locs ls h1 h2 h3 h4)
theorem aw_putC (C : cx p s m args meth c own cc nL D tA A) {r : Nat} {q : Nat × Nat} {F : Gt → Prop} (d : decode cc pc = .ok (.putfield idx, 3)) (K : kc ci Cn T N ty) (hs : sh[b]? = some (.inr (ci, fs))) (j : Nat) (hj : j < N) (hf : fs[j]? = some (some (some q))) (hr : r = q.1 ∨ r = q.2) (hl : Cond.fieldLink own idx (T j).1 (T j).2.1 (T j).2.2.1 ∈ GW) (hfin : (T j).2.2.2 = false) {on : String} (hty : ty j = .object on) (hw : pt (gu G b j (if r = q.1 then 0 else 1)) F) (kk : ∀ G1, F G1 → aw p l e R s m args below meth c nL D tA A Q k n ad (pc + 3) lv st sh G1) : aw p l e R s m args below meth c nL D tA A Q k n ad pc lv (.ref r :: .ref b :: st) sh G := by
  intro H locs ls h1 h2 h3 h4
  refine va_put C.1 C.2.1 C.2.2.2.2.1 K.2.1 ty K.2.2.1 K.2.2.2 C.2.2.2.1 C.2.2.2.2.2.1 h1 h2 h3 (ps sh b) (cW_at hs) K.1 j hj (C.2.2.2.2.1 _ hl) (fun _ h => h) hfin (K.2.2.1 j hj) (by rw [hty]; rfl) (by rw [hty]; rfl) (by rw [List.length_mapIdx]; exact (List.getElem?_eq_some_iff.mp hf).1) d (fun H1 locs1 g1 g2 g3 => ?_)
  rw [show tv ad (Value.ref r) = .ref (ad r) from rfl, cW_setc hs hf hr] at g1 g2
  exact kk _ (pt_iff.mp hw) H1 locs1 ls g1 g2 g3 h4
theorem aw_getN (C : cx p s m args meth c own cc nL D tA A) (d : decode cc pc = .ok (.getfield idx, 3)) (K : kc ci Cn T N ty) (hs : sh[b]? = some (.inr (ci, fs))) (j : Nat) (hj : j < N) (hf : fs[j]? = some (some none)) (hl : Cond.fieldLink own idx (T j).1 (T j).2.1 (T j).2.2.1 ∈ GW) (kk : aw p l e R s m args below meth c nL D tA A Q k n ad (pc + 3) lv (.null :: st) sh G) : aw p l e R s m args below meth c nL D tA A Q k n ad pc lv (.ref b :: st) sh G :=
  fun H locs ls h1 h2 h3 h4 => va_get C.1 C.2.1 C.2.2.2.2.1 K.2.1 C.2.2.2.1 C.2.2.2.2.2.1 h1 (ps sh b) (cW_at hs) K.1 j hj (C.2.2.2.2.1 _ hl) (fun _ h => h) (v := .null) (by rw [List.getElem?_mapIdx, hf]; rfl) d (kk H locs ls h1 h2 h3 h4)
/-- an int field is written; hn: a boolean one is 0 or 1 -/
theorem aw_putI (C : cx p s m args meth c own cc nL D tA A) {x : Int32} (d : decode cc pc = .ok (.putfield idx, 3)) (K : kc ci Cn T N ty) (hs : sh[b]? = some (.inr (ci, fs))) (j : Nat) (hj : j < N) (hf : fs[j]? = some none) (hl : Cond.fieldLink own idx (T j).1 (T j).2.1 (T j).2.2.1 ∈ GW) (hfin : (T j).2.2.2 = false) (hn : narrow (ty j) (.int x) = .int x) (hfit : fits (ty j) (.int x) = true) {F : Gt → Prop} (hw : pt (gu G b j x) F) (kk : ∀ G1, F G1 → aw p l e R s m args below meth c nL D tA A Q k n ad (pc + 3) lv st sh G1) : aw p l e R s m args below meth c nL D tA A Q k n ad pc lv (.int x :: .ref b :: st) sh G := by
  intro H locs ls h1 h2 h3 h4
  refine va_put C.1 C.2.1 C.2.2.2.2.1 K.2.1 ty K.2.2.1 K.2.2.2 C.2.2.2.1 C.2.2.2.2.2.1 h1 h2 h3 (ps sh b) (cW_at hs) K.1 j hj (C.2.2.2.2.1 _ hl) (fun _ h => h) hfin (K.2.2.1 j hj) hn hfit (by rw [List.length_mapIdx]; exact (List.getElem?_eq_some_iff.mp hf).1) d (fun H1 locs1 g1 g2 g3 => ?_)
  rw [show tv ad (Value.int x) = .int x from rfl, cW_setf hs hf] at g1 g2
  exact kk _ (pt_iff.mp hw) H1 locs1 ls g1 g2 g3 h4
theorem aw_iald (C : cx p s m args meth c own cc nL D tA A) {N : Nat} {i : Int32} (d : decode cc pc = .ok (.iaload, 1)) (hs : sh[b]? = some (.inl (0, N))) (hi : vp_in i N) (kk : aw p l e R s m args below meth c nL D tA A Q k n ad (pc + 1) lv (.int (G b i.toNatClampNeg) :: st) sh G) : aw p l e R s m args below meth c nL D tA A Q k n ad pc lv (.int i :: .ref b :: st) sh G :=
  fun H locs ls h1 h2 h3 h4 => va_iald C.1 C.2.1 C.2.2.2.2.2.1 h1 (ps sh b) 0 (cW_at hs) rfl hi d (kk H locs ls h1 h2 h3 h4)
theorem aw_iast (C : cx p s m args meth c own cc nL D tA A) {N : Nat} {i x : Int32} (d : decode cc pc = .ok (.iastore, 1)) (hs : sh[b]? = some (.inl (0, N))) (hi : vp_in i N) {F : Gt → Prop} (hw : pt (gu G b i.toNatClampNeg x) F) (kk : ∀ G1, F G1 → aw p l e R s m args below meth c nL D tA A Q k n ad (pc + 1) lv st sh G1) : aw p l e R s m args below meth c nL D tA A Q k n ad pc lv (.int x :: .int i :: .ref b :: st) sh G := by
  intro H locs ls h1 h2 h3 h4
  refine va_iast C.1 C.2.1 C.2.2.2.2.2.1 h1 h2 h3 (ps sh b) 0 (cW_at hs) rfl hi d (fun H1 locs1 g1 g2 g3 => ?_)
  have e : (cW tA ad G sh).set (ps sh b) (ad b, .inl (tA 0, N, .inl (upd (G b) i.toNatClampNeg x))) = cW tA ad (gu G b i.toNatClampNeg x) sh := by
    rw [← gu_same]; exact cW_seta hs (fun a ha => gu_ne ha)
  rw [e] at g1 g2
  exact kk _ (pt_iff.mp hw) H1 locs1 ls g1 g2 g3 h4
theorem aw_alen (C : cx p s m args meth c own cc nL D tA A) {kd N : Nat} (d : decode cc pc = .ok (.arraylength, 1)) (hs : sh[b]? = some (.inl (kd, N))) (hk : kd < 1) (kk : aw p l e R s m args below meth c nL D tA A Q k n ad (pc + 1) lv (.int (nI N) :: st) sh G) : aw p l e R s m args below meth c nL D tA A Q k n ad pc lv (.ref b :: st) sh G := by
  intro H locs ls h1 h2 h3 h4
  match kd, hk, hs with
  | 0, _, hs => exact va_alen C.1 C.2.1 C.2.2.2.2.2.1 h1 (ps sh b) 0 (cW_at hs) (ty := .int) rfl rfl d (kk H locs ls h1 h2 h3 h4)
end AW2
/-! contracts: a method that makes nothing, and whose world keeps its cells -/
def PW (D : va_G) (tA : Nat → ClassId) (ad : Nat → Nat) (sz : Nat) (sh : Sh) (G : Gt) : State → Prop := fun U => U.heap.size = sz ∧ va_P D vwCl (cW tA ad G sh) U.heap ∧ va_K D vwCl (ty3 tA) U ∧ va_D (fun _ => True) (cW tA ad G sh) ∧ sx (va_A (cW tA ad G sh) sz) U U.heap
def QC0 (D : va_G) (tA : Nat → ClassId) (ad : Nat → Nat) (A : Nat → Prop) (sh : Sh) (K : Option Value → Gt → Prop) : Array Value → State → Outcome → State → Prop := fun _ st o t => (∃ (r : Option Value) (G' : Gt), o = .returned (r.map (tv ad)) ∧ K r G' ∧ va_P D vwCl (cW tA ad G' sh) t.heap) ∧ va_F A st t
def CT0 (l : Launch) (y : MethodName) (cc : ByteArray) (nL : Nat) (ret : Option FieldType) (fr lc : Nat) (av : List Value) (sh : Sh) (G : Gt) (K : Option Value → Gt → Prop) : Prop :=
  ∀ (D : va_G) (tA : Nat → ClassId) (ad : Nat → Nat) (sz : Nat), Met l y (.code y cc nL ret :: GW) { frames := fr, cells := 0, slots := 0, locals := lc } (va_Pc (av.map (tv ad)) (PW D tA ad sz sh G)) (QC0 D tA ad (va_A (cW tA ad G sh) sz) sh K) 0 0 (va_A (cW tA ad G sh) sz)
theorem PW_blind {D : va_G} {tA : Nat → ClassId} {ad : Nat → Nat} {sz : Nat} {sh : Sh} {G : Gt} {av : List Value} : FrameBlind (va_Pc av (PW D tA ad sz sh G)) := by
  intro a U g mk q
  obtain ⟨q0, q1, qP, qK, qD, qS⟩ := q
  exact ⟨q0, q1, qP, va_K.moved (u := U) (U := U.calling g mk a) (Vm.Alike.refl U.vm) qK, qD, sx.same (s := U) (U := U.calling g mk a) rfl qS⟩
def pad (l : List (Option Value)) (n : Nat) : List (Option Value) := l ++ List.replicate (n - l.length) none
theorem lo_pad {ad : Nat → Nat} {l : List (Option Value)} {n : Nat} {q : Nat × Value} (h : q ∈ lo ad 0 (pad l n)) : q ∈ lo ad 0 l := by
  obtain ⟨k, v, hk, rfl⟩ := lo_inv _ _ _ h
  refine lo_mem _ _ _ _ ?_
  by_cases hl : k < l.length
  · rwa [pad, List.getElem?_append_left hl] at hk
  · rw [pad, List.getElem?_append_right (by omega), List.getElem?_replicate] at hk
    split at hk <;> simp at hk
/-- a method's contract out of its walk -/
theorem CT0_of {l : Launch} {y : MethodName} {cc : ByteArray} {nL : Nat} {ret : Option FieldType} {fr lc : Nat} {av : List Value} {sh : Sh} {G : Gt} {K : Option Value → Gt → Prop} (hy : plainName y.cls = true) (hav : (lg_sl (av.map (tv (fun q => q)))).length ≤ nL) (h1 : l1 (av.map some) = true)
    (body : ∀ (p : Program) (e : Env) (s : State) (m : MethodId) (args : Array Value) (below : List Frame) (meth : Method) (c : Code) (D : va_G) (tA : Nat → ClassId) (ad : Nat → Nat) (A : Nat → Prop), cx p s m args meth c y.cls cc nL D tA A → meth.sig.returnType = ret → (∀ q, A q → A q) →
      aw p l e { frames := fr, cells := 0, slots := 0, locals := lc } s m args below meth c nL D tA A (MQ below (QC0 D tA ad A sh K) args s 0 0 A) 0 0 ad 0 (pad (av.map some) nL) [] sh G) : CT0 l y cc nL ret fr lc av sh G K := by
  intro D tA ad sz
  refine Met.ofW (cc := cc) (maxL := nL) (ret := ret) hy rfl ?_
  intro p e s m args below meth c s₁ B hml hv
  obtain ⟨rfl, hsz, hP, hK, hD0, hsx⟩ := hv
  have hts := atoms_spec (ws := .code y cc nL ret :: GW) B.pre
  have hown : s.vm.findClass y.cls = some m.cls := findClass_of_methodNamed B.named
  have hlocks := B.notSynchronized
  subst hsz
  have C : cx p s m (av.map (tv ad)).toArray meth c y.cls cc nL D tA (va_A (cW tA ad G sh) s.heap.size) := ⟨B.exec, B.bytes, hml, hown, fun w hw => hts w (List.mem_cons_of_mem _ hw), hK, hlocks, fun q h => Or.inr h, hsx⟩
  have hlen : (lg_sl (av.map (tv ad))).length ≤ nL := by
    have e : ∀ (a b : Nat → Nat) (L : List Value), (lg_sl (L.map (tv a))).length = (lg_sl (L.map (tv b))).length := by
      intro a b L
      induction L with
      | nil => rfl
      | cons x L ih => cases x <;> simp_all [lg_sl, tv, Value.category]
    rw [e ad (fun q => q)]; exact hav
  have hl := lv_entry (av.map (tv ad)) (n := nL) hlen
  rw [lg_entry_eq]
  generalize (lg_sl (av.map (tv ad)) ++ List.replicate (nL - (lg_sl (av.map (tv ad))).length) Slot.unset).toArray = ls at hl ⊢
  have hl2 : lv_has ls nL (lo ad 0 (pad (av.map some) nL)) := by
    refine lv_less hl (fun q hq0 => ?_)
    have hq := lo_pad hq0
    have e : ∀ (L : List Value) (i : Nat), l1 (L.map some) = true → lo ad i (L.map some) = lv_args i (L.map (tv ad)) := by
      intro L
      induction L with
      | nil => intro i _; rfl
      | cons x L ih =>
        intro i hx
        have h2 : x.category = 1 ∧ l1 (L.map some) = true := by simpa [l1] using hx
        show (i, tv ad x) :: lo ad (i + 1) (L.map some) = lv_args i (tv ad x :: L.map (tv ad))
        rw [ih _ h2.2]
        simp [lv_args, tv_cat, h2.1]
    rw [← e _ _ h1]; exact hq
  exact body p e s m _ below meth c D tA ad _ C B.returns (fun _ h => h) s.heap [] ls hP hD0.self va_S.rf hl2
section AW3
variable {p : Program} {l : Launch} {e : Env} {R : Room} {s : State} {m : MethodId} {args : Array Value} {below : List Frame} {meth : Method} {c : Code} {D : va_G} {tA : Nat → ClassId} {A : Nat → Prop} {ad : Nat → Nat} {nL : Nat} {Q : State → Prop} {k n : Nat} {own : String} {cc : ByteArray}
variable {pc : Nat} {lv : List (Option Value)} {st : List Value} {sh : Sh} {G : Gt} {K : Option Value → Gt → Prop}
theorem aw_ireturn (C : cx p s m args meth c own cc nL D tA A) {v : Int32} (hr : meth.sig.returnType = some .int) (d : decode cc pc = .ok (.ireturn, 1)) (hK : K (some (.int v)) G) : aw p l e R s m args below meth c nL D tA A (MQ below (QC0 D tA ad A sh K) args s k n A) k n ad pc lv [.int v] sh G :=
  fun H locs ls h1 h2 h3 h4 => W.iret C.1 C.2.1 hr (fun t ht hW => ⟨⟨some (.int v), G, rfl, hK, by rw [ht]; exact h1⟩, h3.F ht⟩) h3.2.2 d C.2.2.2.2.2.2.1
theorem aw_zreturn (C : cx p s m args meth c own cc nL D tA A) {v : Int32} {rt : FieldType} (hr : meth.sig.returnType = some rt) (d : decode cc pc = .ok (.ireturn, 1)) (hn : narrow rt (.int v) = .int v) (hK : K (some (.int v)) G) : aw p l e R s m args below meth c nL D tA A (MQ below (QC0 D tA ad A sh K) args s k n A) k n ad pc lv [.int v] sh G :=
  fun H locs ls h1 h2 h3 h4 => W.zret C.1 C.2.1 hr hn (fun t ht hW => ⟨⟨some (.int v), G, rfl, hK, by rw [ht]; exact h1⟩, h3.F ht⟩) h3.2.2 d C.2.2.2.2.2.2.1
theorem aw_return (C : cx p s m args meth c own cc nL D tA A) (hr : meth.sig.returnType = none) (d : decode cc pc = .ok (.return_, 1)) (hK : K none G) : aw p l e R s m args below meth c nL D tA A (MQ below (QC0 D tA ad A sh K) args s k n A) k n ad pc lv [] sh G :=
  fun H locs ls h1 h2 h3 h4 => W.vret C.1 C.2.1 hr (fun t ht hW => ⟨⟨none, G, rfl, hK, by rw [ht]; exact h1⟩, h3.F ht⟩) h3.2.2 d C.2.2.2.2.2.2.1
theorem aw_areturn (C : cx p s m args meth c own cc nL D tA A) {v : Value} {cn : String} (hr : meth.sig.returnType = some (.object cn)) (d : decode cc pc = .ok (.areturn, 1)) (hv : v = .null ∨ ∃ a, v = .ref a) (hK : K (some v) G) : aw p l e R s m args below meth c nL D tA A (MQ below (QC0 D tA ad A sh K) args s k n A) k n ad pc lv [v] sh G := by
  intro H locs ls h1 h2 h3 h4
  refine W.aret (v := tv ad v) C.1 C.2.1 hr (Or.inl ⟨_, rfl⟩) ?_ (fun t ht hW => ⟨⟨some v, G, rfl, hK, by rw [ht]; exact h1⟩, h3.F ht⟩) h3.2.2 d C.2.2.2.2.2.2.1
  rcases hv with rfl | ⟨a, rfl⟩
  · exact Or.inl rfl
  · exact Or.inr ⟨_, rfl⟩
/-! calls -/
theorem tv_sum (ad : Nat → Nat) (st : List Value) : ((st.map (tv ad)).map fun v => v.category).sum = (st.map fun v => v.category).sum := by
  induction st with
  | nil => rfl
  | cons x st ih =>
    rw [List.map_cons, List.map_cons, List.map_cons, List.sum_cons, List.sum_cons, tv_cat, ih]
variable {y : MethodName} {bytes : ByteArray} {maxL fr lc idx b ci N : Nat} {ret : Option FieldType} {Cn : String} {T : u_T} {fs : List fE} {As : List Value} {na : Nat}
theorem gwGood (y : MethodName) (bytes : ByteArray) (maxL : Nat) (ret : Option FieldType) (h : Cond.code y bytes maxL ret ∈ GW) : GoodIn GW (Cond.code y bytes maxL ret :: GW) := by
  intro w hw
  rcases List.mem_cons.mp hw with rfl | hw
  · exact ⟨h, good_of_word (gw_good h)⟩
  · exact ⟨hw, good_of_word (gw_good hw)⟩
/-- behind a call of a method that makes nothing -/
theorem aw_run (C : cx p s m args meth c own cc nL D tA A) {rest : List Value} (hr : ∀ (H : Heap) (locs : List Loc) (ls : Array Slot), va_P D vwCl (cW tA ad G sh) H → va_D A (cW tA ad G sh) → va_S A s.heap H locs → lv_has ls nL (lo ad 0 lv) → ∃ a, va_Run p l e R s m args below meth c H locs k n 0 0 (F0 m pc ls (st.map (tv ad))) (rest.map (tv ad)) (QC0 D tA ad (va_A (cW tA ad G sh) H.size) sh K a) (va_A (cW tA ad G sh) H.size))
    (kk : ∀ (r : Option Value) (G' : Gt), K r G' → aw p l e R s m args below meth c nL D tA A Q k n ad (pc + 3) lv (r.toList ++ rest) sh G') : aw p l e R s m args below meth c nL D tA A Q k n ad pc lv st sh G := by
  intro H locs ls h1 h2 h3 h4
  intro T hT X
  obtain ⟨a, ha⟩ := hr H locs ls h1 h2 h3 h4
  obtain ⟨v, st₀, t, T', L, h0, X', hL, e1, e2, ⟨⟨r, G', hv, hp, hb⟩, hz, hk⟩, sp⟩ := ha T hT X
  cases hv
  rw [h0] at hz hk
  have hA1 : ∀ q, va_A (cW tA ad G sh) H.size q → A q := by
    intro q hq
    rcases hq with ⟨j, en, hq⟩ | hq
    · exact h2.2 j _ hq
    · exact C.2.2.2.2.2.2.2.1 q (Nat.le_trans h3.1 hq)
  have hw := kk r G' hp T'.heap (locs ++ L) ls (by rw [e1]; exact hb) h2.cW ⟨Nat.le_trans h3.1 (by rw [e1]; exact hz), fun q g1 g2 => by
      rw [e1, hk q (Nat.lt_of_lt_of_le g1 h3.1) (fun z => g2 (hA1 q z))]; exact h3.2.1 q g1 g2, fun q hq => by
      rcases List.mem_append.mp hq with h | h
      · exact h3.2.2 q h
      · exact hA1 _ (hL q h)⟩ h4
  obtain ⟨t2, a1, b1⟩ := hw T' rfl X'
  refine ⟨t2, sp t2 ?_, b1⟩
  have e : (r.toList ++ rest).map (tv ad) = (r.map (tv ad)).toList ++ rest.map (tv ad) := by cases r <;> rfl
  rw [e] at a1
  exact a1
theorem aw_callV (C : cx p s m args meth c own cc nL D tA A) (d : decode cc pc = .ok (.invokevirtual idx, 3)) (hM : CT0 l y bytes maxL ret fr lc (.ref b :: As) sh G K) (hlk : Cond.methodLink own idx y ∈ GW) (hy : gwV y bytes maxL ret Cn na) (hs : sh[b]? = some (.inr (ci, fs))) (hc : vwCl[ci]? = some (Cn, T, N)) (hn : As.length = na) (hR : fr + 1 ≤ R.frames ∧ 8 + (maxL + 11) + lc ≤ R.locals ∧ k ≤ R.cells ∧ n ≤ R.slots) (rest : List Value) (hst : st = As.reverse ++ .ref b :: rest) (hcat : (rest.map fun v => v.category).sum ≤ 8)
    (kk : ∀ (r : Option Value) (G' : Gt), K r G' → aw p l e R s m args below meth c nL D tA A Q k n ad (pc + 3) lv (r.toList ++ rest) sh G') : aw p l e R s m args below meth c nL D tA A Q k n ad pc lv st sh G := by
  refine aw_run C (K := K) (rest := rest) (fun H locs ls h1 h2 h3 h4 => ?_) kk
  subst hst
  refine ⟨_, va_runV (As := As.map (tv ad)) (b := ad b) (rest := rest.map (tv ad)) (C := Cn) (n := na) ⟨C.1, C.2.1, C.2.2.1, C.2.2.2.1, C.2.2.2.2.1⟩ (hM D tA ad H.size) (cwV na C.2.2.2.2.1 ?_ rfl rfl rfl hy.2.2.2.2 ⟨hR.1, hR.2.1⟩) ⟨PW_blind, va_recv C.2.2.2.2.2.1 h1 hc (cW_at hs), fun U hU hW => ⟨rfl, by rw [hU], by rw [hU]; exact h1, va_K.moved hW.alike C.2.2.2.2.2.1, h2.weaken (fun _ _ _ _ => trivial), ?_⟩⟩ rfl (by simp [hn]) h4.1 (by simp [tv]) (lv_room (by rw [tv_sum]; exact hcat)) d ⟨hR.2.2.1, hR.2.2.2⟩⟩
  · intro w hw
    rcases List.mem_append.mp hw with hw | hw
    · simp only [List.mem_cons, List.not_mem_nil, or_false] at hw
      have hin : w ∈ GW := by
        rcases hw with rfl | rfl | rfl | rfl
        · exact hlk
        · exact hy.2.1
        · exact hy.2.2.1
        · rw [← hy.2.2.2.2.1]; exact hy.2.2.2.1
      exact ⟨hin, good_of_word (gw_good hin)⟩
    · exact gwGood y bytes maxL ret hy.1 w hw
  · rw [hU]
    refine sx.warm hW C.2.2.2.2.2.2.2.2 (fun a g1 g2 => h3.2.1 a g1 g2) ?_
    intro q hq
    rcases hq with ⟨j, en, hq⟩ | hq
    · exact h2.2 j _ hq
    · exact C.2.2.2.2.2.2.2.1 q (Nat.le_trans h3.1 hq)
theorem aw_callS (C : cx p s m args meth c own cc nL D tA A) (d : decode cc pc = .ok (.invokestatic idx, 3)) (hM : CT0 l y bytes maxL ret fr lc As sh G K) (hlk : Cond.methodLink own idx y ∈ GW) (hy : gwS y bytes maxL ret na) (ho : y.cls = own) (hn : As.length = na) (hR : fr + 1 ≤ R.frames ∧ 8 + (maxL + 11) + lc ≤ R.locals ∧ k ≤ R.cells ∧ n ≤ R.slots) (rest : List Value) (hst : st = As.reverse ++ rest) (hcat : (rest.map fun v => v.category).sum ≤ 8)
    (kk : ∀ (r : Option Value) (G' : Gt), K r G' → aw p l e R s m args below meth c nL D tA A Q k n ad (pc + 3) lv (r.toList ++ rest) sh G') : aw p l e R s m args below meth c nL D tA A Q k n ad pc lv st sh G := by
  refine aw_run C (K := K) (rest := rest) (fun H locs ls h1 h2 h3 h4 => ?_) kk
  subst hst
  refine ⟨_, va_runS (As := As.map (tv ad)) (rest := rest.map (tv ad)) (n := na) ⟨C.1, C.2.1, C.2.2.1, C.2.2.2.1, C.2.2.2.2.1⟩ (hM D tA ad H.size) (cwS na C.2.2.2.2.1 ?_ rfl rfl rfl ⟨ho, hy.2.2.2⟩ ⟨hR.1, hR.2.1⟩) ⟨PW_blind, fun U hU hW => ⟨rfl, by rw [hU], by rw [hU]; exact h1, va_K.moved hW.alike C.2.2.2.2.2.1, h2.weaken (fun _ _ _ _ => trivial), ?_⟩⟩ rfl (by simp [hn]) h4.1 (by simp) (lv_room (by rw [tv_sum]; exact hcat)) d ⟨hR.2.2.1, hR.2.2.2⟩⟩
  · intro w hw
    rcases List.mem_append.mp hw with hw | hw
    · simp only [List.mem_cons, List.not_mem_nil, or_false] at hw
      have hin : w ∈ GW := by
        rcases hw with rfl | rfl | rfl
        · exact hlk
        · exact hy.2.1
        · rw [← ho]; exact hy.2.2.1
      exact ⟨hin, good_of_word (gw_good hin)⟩
    · exact gwGood y bytes maxL ret hy.1 w hw
  · rw [hU]
    refine sx.warm hW C.2.2.2.2.2.2.2.2 (fun a g1 g2 => h3.2.1 a g1 g2) ?_
    intro q hq
    rcases hq with ⟨j, en, hq⟩ | hq
    · exact h2.2 j _ hq
    · exact C.2.2.2.2.2.2.2.1 q (Nat.le_trans h3.1 hq)
theorem aw_callSN (C : cx p s m args meth c own cc nL D tA A) {host : String} (d : decode cc pc = .ok (.invokestatic idx, 3)) (hM : CT0 l y bytes maxL ret fr lc As sh G K) (hlk : Cond.methodLinkNest own idx y host ∈ nW) (hy : gwS y bytes maxL ret na) (hn : As.length = na) (hR : fr + 1 ≤ R.frames ∧ 8 + (maxL + 11) + lc ≤ R.locals ∧ k ≤ R.cells ∧ n ≤ R.slots) (rest : List Value) (hst : st = As.reverse ++ rest) (hcat : (rest.map fun v => v.category).sum ≤ 8)
    (kk : ∀ (r : Option Value) (G' : Gt), K r G' → aw p l e R s m args below meth c nL D tA A Q k n ad (pc + 3) lv (r.toList ++ rest) sh G') : aw p l e R s m args below meth c nL D tA A Q k n ad pc lv st sh G := by
  refine aw_run C (K := K) (rest := rest) (fun H locs ls h1 h2 h3 h4 => ?_) kk
  subst hst
  refine ⟨_, va_runSN (As := As.map (tv ad)) (rest := rest.map (tv ad)) (n := na) (host := host) ⟨C.1, C.2.1, C.2.2.1, C.2.2.2.1, C.2.2.2.2.1⟩ (hM D tA ad H.size) ⟨va_cnB na C.2.2.2.2.1 (gwGood y bytes maxL ret hy.1) rfl rfl rfl (C.2.2.2.2.2.2.2.2.1.1 _ hlk) (C.2.2.2.2.1 _ hy.2.2.1) hy.2.2.2 ⟨hR.1, hR.2.1⟩, C.2.2.2.2.1 _ hy.2.1, trivial⟩ ⟨PW_blind, fun U hU hW => ⟨rfl, by rw [hU], by rw [hU]; exact h1, va_K.moved hW.alike C.2.2.2.2.2.1, h2.weaken (fun _ _ _ _ => trivial), ?_⟩⟩ rfl (by simp [hn]) h4.1 (by simp) (lv_room (by rw [tv_sum]; exact hcat)) d ⟨hR.2.2.1, hR.2.2.2⟩⟩
  rw [hU]
  refine sx.warm hW C.2.2.2.2.2.2.2.2 (fun a g1 g2 => h3.2.1 a g1 g2) ?_
  intro q hq
  rcases hq with ⟨j, en, hq⟩ | hq
  · exact h2.2 j _ hq
  · exact C.2.2.2.2.2.2.2.1 q (Nat.le_trans h3.1 hq)
end AW3
