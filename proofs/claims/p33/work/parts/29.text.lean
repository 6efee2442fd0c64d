def w_X8_append (t : Nat) (K : Gt → Prop) (p0 : Int32) (G0 : Gt) : Prop :=
  pt (rput G0 (t + 2) 40 (G0 t 2) p0) fun G1 =>
  pt (gu G1 t 2 ((G1 t 2) + 1)) fun G2 =>
  K G2
set_option maxHeartbeats 4000000 in
set_option maxRecDepth 100000 in
theorem t_X8_append {l : Launch} {sh : Sh} {t : Nat} (hT : isText sh t) (p0 : Int32) (G0 : Gt) (K : Gt → Prop) (hw : w_X8_append t K p0 G0) : CT0 l yX8_append cX8_append 2 none 1 22 [.ref t, .int p0] sh G0 (fun r G' => r = none ∧ K G') := by
  refine CT0_of (by decide) (Nat.le_of_ble_eq_true rfl) rfl ?_
  intro p e s m args below meth c D tA ad A C hr _
  unfold w_X8_append at hw
  show aw p l e { frames := 1, cells := 0, slots := 0, locals := 22 } s m args below meth c 2 D tA A (MQ below (QC0 D tA ad A sh (fun r G' => r = none ∧ K G')) args s 0 0 A) 0 0 ad 0 [some (.ref t), some (.int p0)] [] sh G0
  refine aw_aloadn C dX8_append_0 rfl ?_
  refine aw_getR (r := (t + 1)) C dX8_append_1 kcX8 hT.1 0 (by decide) rfl mF_X8_14 ?_
  refine aw_aloadn C dX8_append_4 rfl ?_
  refine aw_getI C dX8_append_5 kcX8 hT.1 2 (by decide) rfl mF_X8_30 ?_
  refine aw_iloadn C dX8_append_8 rfl ?_
  refine aw_callV C dX8_append_9 (t_put hT.2.1 (Nat.le_of_ble_eq_true rfl) (G0 t 2) p0 _) mM_X8_23 bX6_put hT.2.1.1 rfl rfl ⟨Nat.le_of_ble_eq_true rfl, Nat.le_of_ble_eq_true rfl, Nat.zero_le _, Nat.zero_le _⟩ _ rfl (Nat.le_of_ble_eq_true rfl) (fun r9 G1 hq => ?_)
  obtain ⟨rfl, hq⟩ := hq
  replace hw := pt_eq hw hq
  refine aw_aloadn C dX8_append_12 rfl ?_
  refine aw_dup C dX8_append_13 rfl ?_
  refine aw_getI C dX8_append_14 kcX8 hT.1 2 (by decide) rfl mF_X8_30 ?_
  refine aw_iconst (v := 1) C dX8_append_17 (by decide) ?_
  refine aw_iadd C dX8_append_18 ?_
  refine aw_putI C dX8_append_19 kcX8 hT.1 2 (by decide) rfl mF_X8_30 rfl rfl rfl hw (fun G2 hw => ?_)
  exact aw_return C hr dX8_append_22 ⟨rfl, hw⟩
def w_X8_hasPlace_j17 (t : Nat) (K : Int32 → Gt → Prop) (y0 : Int32) (G0 : Gt) : Prop :=
  bz y0 ∧ K y0 G0
def w_X8_hasPlace_j16 (t : Nat) (K : Int32 → Gt → Prop)  (G0 : Gt) : Prop :=
  w_X8_hasPlace_j17 t K 0 G0
def w_X8_hasPlace (t : Nat) (K : Int32 → Gt → Prop) (p0 : Int32) (G0 : Gt) : Prop :=
  pif (p0 < 0) (
    w_X8_hasPlace_j16 t K G0) (
    pif ((G0 t 2) < p0) (
      w_X8_hasPlace_j16 t K G0) (
      w_X8_hasPlace_j17 t K 1 G0))
set_option maxHeartbeats 4000000 in
set_option maxRecDepth 100000 in
theorem t_X8_hasPlace {l : Launch} {sh : Sh} {t : Nat} (hT : isText sh t) (p0 : Int32) (G0 : Gt) (K : Int32 → Gt → Prop) (hw : w_X8_hasPlace t K p0 G0) : CT0 l yX8_hasPlace cX8_hasPlace 2 (some .boolean) 0 0 [.ref t, .int p0] sh G0 (fun r G' => ∃ v, r = some (.int v) ∧ K v G') := by
  refine CT0_of (by decide) (Nat.le_of_ble_eq_true rfl) rfl ?_
  intro p e s m args below meth c D tA ad A C hr _
  have h17 : ∀ (y0 : Int32) (G0 : Gt), w_X8_hasPlace_j17 t K y0 G0 → aw p l e { frames := 0, cells := 0, slots := 0, locals := 0 } s m args below meth c 2 D tA A (MQ below (QC0 D tA ad A sh (fun r G' => ∃ v, r = some (.int v) ∧ K v G')) args s 0 0 A) 0 0 ad 17 [none, none] [.int y0] sh G0 := by
    intro  y0 G0 hw
    unfold w_X8_hasPlace_j17 at hw
    exact aw_zreturn C hr dX8_hasPlace_17 (bz_n hw.1) ⟨_, rfl, hw.2⟩
  have h16 : ∀ (G0 : Gt), w_X8_hasPlace_j16 t K  G0 → aw p l e { frames := 0, cells := 0, slots := 0, locals := 0 } s m args below meth c 2 D tA A (MQ below (QC0 D tA ad A sh (fun r G' => ∃ v, r = some (.int v) ∧ K v G')) args s 0 0 A) 0 0 ad 16 [none, none] [] sh G0 := by
    intro   G0 hw
    unfold w_X8_hasPlace_j16 at hw
    refine aw_iconst (v := 0) C dX8_hasPlace_16 (by decide) ?_
    exact aw_msk [false, false] (h17 0 _ hw)
  unfold w_X8_hasPlace at hw
  show aw p l e { frames := 0, cells := 0, slots := 0, locals := 0 } s m args below meth c 2 D tA A (MQ below (QC0 D tA ad A sh (fun r G' => ∃ v, r = some (.int v) ∧ K v G')) args s 0 0 A) 0 0 ad 0 [some (.ref t), some (.int p0)] [] sh G0
  refine aw_iloadn C dX8_hasPlace_0 rfl ?_
  refine aw_if_lt C dX8_hasPlace_1 16 (by decide) hw (fun hc1 hw => ?_) (fun hc1 hw => ?_)
  · exact aw_msk [false, false] (h16 _ hw)
  · refine aw_iloadn C dX8_hasPlace_4 rfl ?_
    refine aw_aloadn C dX8_hasPlace_5 rfl ?_
    refine aw_getI C dX8_hasPlace_6 kcX8 hT.1 2 (by decide) rfl mF_X8_30 ?_
    refine aw_ic_gt C dX8_hasPlace_9 16 (by decide) hw (fun hc9 hw => ?_) (fun hc9 hw => ?_)
    · exact aw_msk [false, false] (h16 _ hw)
    · refine aw_iconst (v := 1) C dX8_hasPlace_12 (by decide) ?_
      refine aw_goto (tgt := 17) C dX8_hasPlace_13 (by decide) ?_
      exact aw_msk [false, false] (h17 1 _ hw)
def w_X8_activePlace (t : Nat) (K : Int32 → Gt → Prop) (G0 : Gt) : Prop :=
  K (rat G0 (t + 4) 4 (G0 t 3)) G0
set_option maxHeartbeats 4000000 in
set_option maxRecDepth 100000 in
theorem t_X8_activePlace {l : Launch} {sh : Sh} {t : Nat} (hT : isText sh t) (G0 : Gt) (K : Int32 → Gt → Prop) (hw : w_X8_activePlace t K G0) : CT0 l yX8_activePlace cX8_activePlace 1 (some .int) 1 21 [.ref t] sh G0 (fun r G' => ∃ v, r = some (.int v) ∧ K v G') := by
  refine CT0_of (by decide) (Nat.le_of_ble_eq_true rfl) rfl ?_
  intro p e s m args below meth c D tA ad A C hr _
  unfold w_X8_activePlace at hw
  show aw p l e { frames := 1, cells := 0, slots := 0, locals := 21 } s m args below meth c 1 D tA A (MQ below (QC0 D tA ad A sh (fun r G' => ∃ v, r = some (.int v) ∧ K v G')) args s 0 0 A) 0 0 ad 0 [some (.ref t)] [] sh G0
  refine aw_aloadn C dX8_activePlace_0 rfl ?_
  refine aw_getR (r := (t + 3)) C dX8_activePlace_1 kcX8 hT.1 1 (by decide) rfl mF_X8_20 ?_
  refine aw_aloadn C dX8_activePlace_4 rfl ?_
  refine aw_getI C dX8_activePlace_5 kcX8 hT.1 3 (by decide) rfl mF_X8_34 ?_
  refine aw_callV C dX8_activePlace_8 (t_at hT.2.2 (Nat.le_of_ble_eq_true rfl) (G0 t 3) _) mM_X8_37 bX6_at hT.2.2.1 rfl rfl ⟨Nat.le_of_ble_eq_true rfl, Nat.le_of_ble_eq_true rfl, Nat.zero_le _, Nat.zero_le _⟩ _ rfl (Nat.le_of_ble_eq_true rfl) (fun r8 G8x hq => ?_)
  obtain ⟨rfl, rfl⟩ := hq
  exact aw_ireturn C hr dX8_activePlace_11 ⟨_, rfl, hw⟩
def w_X8_insertLetter_j101 (t : Nat) (K : Gt → Prop) (rec60 : Int32 → Int32 → Gt → Prop) (x2 : Int32) (x3 : Int32) (G0 : Gt) : Prop :=
  rec60 x2 (x3 + 1) G0
def w_X8_insertLetter_j89 (t : Nat) (K : Gt → Prop) (rec60 : Int32 → Int32 → Gt → Prop) (x2 : Int32) (x3 : Int32) (x4 : Int32) (G0 : Gt) : Prop :=
  pt (rput G0 (t + 4) 4 x3 (x4 + 1)) fun G5 =>
  w_X8_insertLetter_j101 t K rec60 x2 x3 G5
def w_X8_insertLetter_h60 (t : Nat) (K : Gt → Prop) : Nat → Int32 → Int32 → Gt → Prop
  | 0, _, _, _ => False
  | n + 1, x2, x3, G0 =>
    pif (4 ≤ x3) (
      K G0) (
      pif (x3 = (G0 t 3)) (
        w_X8_insertLetter_j89 t K (fun z0 z1 z2 => w_X8_insertLetter_h60 t K n z0 z1 z2) x2 x3 (rat G0 (t + 4) 4 x3) G0) (
        pif ((rat G0 (t + 4) 4 x3) ≤ x2) (
          w_X8_insertLetter_j101 t K (fun z0 z1 z2 => w_X8_insertLetter_h60 t K n z0 z1 z2) x2 x3 G0) (
          w_X8_insertLetter_j89 t K (fun z0 z1 z2 => w_X8_insertLetter_h60 t K n z0 z1 z2) x2 x3 (rat G0 (t + 4) 4 x3) G0)))
def w_X8_insertLetter_h10 (t : Nat) (K : Gt → Prop) : Nat → Int32 → Int32 → Int32 → Gt → Prop
  | 0, _, _, _, _ => False
  | n + 1, x1, x2, x3, G0 =>
    pif (x3 ≤ x2) (
      pt (rput G0 (t + 2) 40 x2 x1) fun G3 =>
      pt (gu G3 t 2 ((G3 t 2) + 1)) fun G4 =>
      ∃ i, w_X8_insertLetter_h60 t K i x2 0 G4) (
      pt (rput G0 (t + 2) 40 x3 (rat G0 (t + 2) 40 (x3 - 1))) fun G6 =>
      (w_X8_insertLetter_h10 t K n) x1 x2 (x3 + (-1)) G6)
def w_X8_insertLetter (t : Nat) (K : Gt → Prop) (p0 : Int32) (G0 : Gt) : Prop :=
  w_X8_activePlace t (fun v2 G1 =>
    ∃ i, w_X8_insertLetter_h10 t K i p0 v2 (G1 t 2) G1) G0
set_option maxHeartbeats 4000000 in
set_option maxRecDepth 100000 in
theorem t_X8_insertLetter {l : Launch} {sh : Sh} {t : Nat} (hT : isText sh t) (p0 : Int32) (G0 : Gt) (K : Gt → Prop) (hw : w_X8_insertLetter t K p0 G0) : CT0 l yX8_insertLetter cX8_insertLetter 5 none 2 41 [.ref t, .int p0] sh G0 (fun r G' => r = none ∧ K G') := by
  refine CT0_of (by decide) (Nat.le_of_ble_eq_true rfl) rfl ?_
  intro p e s m args below meth c D tA ad A C hr _
  have h101 : ∀ (rec60 : Int32 → Int32 → Gt → Prop) (hrec60 : ∀ (x2 : Int32) (x3 : Int32) (G0 : Gt), rec60 x2 x3 G0 → aw p l e { frames := 2, cells := 0, slots := 0, locals := 41 } s m args below meth c 5 D tA A (MQ below (QC0 D tA ad A sh (fun r G' => r = none ∧ K G')) args s 0 0 A) 0 0 ad 60 [some (.ref t), none, some (.int x2), some (.int x3), none] [] sh G0) (x2 : Int32) (x3 : Int32) (G0 : Gt), w_X8_insertLetter_j101 t K rec60 x2 x3 G0 → aw p l e { frames := 2, cells := 0, slots := 0, locals := 41 } s m args below meth c 5 D tA A (MQ below (QC0 D tA ad A sh (fun r G' => r = none ∧ K G')) args s 0 0 A) 0 0 ad 101 [some (.ref t), none, some (.int x2), some (.int x3), none] [] sh G0 := by
    intro rec60 hrec60 x2 x3 G0 hw
    unfold w_X8_insertLetter_j101 at hw
    refine aw_iinc (w := (x3 + 1)) C dX8_insertLetter_101 rfl rfl (by decide) rfl ?_
    refine aw_goto (tgt := 60) C dX8_insertLetter_104 (by decide) ?_
    exact aw_msk [true, false, true, true, false] (hrec60 x2 (x3 + 1) _ hw)
  have h89 : ∀ (rec60 : Int32 → Int32 → Gt → Prop) (hrec60 : ∀ (x2 : Int32) (x3 : Int32) (G0 : Gt), rec60 x2 x3 G0 → aw p l e { frames := 2, cells := 0, slots := 0, locals := 41 } s m args below meth c 5 D tA A (MQ below (QC0 D tA ad A sh (fun r G' => r = none ∧ K G')) args s 0 0 A) 0 0 ad 60 [some (.ref t), none, some (.int x2), some (.int x3), none] [] sh G0) (x2 : Int32) (x3 : Int32) (x4 : Int32) (G0 : Gt), w_X8_insertLetter_j89 t K rec60 x2 x3 x4 G0 → aw p l e { frames := 2, cells := 0, slots := 0, locals := 41 } s m args below meth c 5 D tA A (MQ below (QC0 D tA ad A sh (fun r G' => r = none ∧ K G')) args s 0 0 A) 0 0 ad 89 [some (.ref t), none, some (.int x2), some (.int x3), some (.int x4)] [] sh G0 := by
    intro rec60 hrec60 x2 x3 x4 G0 hw
    unfold w_X8_insertLetter_j89 at hw
    refine aw_aloadn C dX8_insertLetter_89 rfl ?_
    refine aw_getR (r := (t + 3)) C dX8_insertLetter_90 kcX8 hT.1 1 (by decide) rfl mF_X8_20 ?_
    refine aw_iloadn C dX8_insertLetter_93 rfl ?_
    refine aw_iload C dX8_insertLetter_94 rfl ?_
    refine aw_iconst (v := 1) C dX8_insertLetter_96 (by decide) ?_
    refine aw_iadd C dX8_insertLetter_97 ?_
    refine aw_callV C dX8_insertLetter_98 (t_put hT.2.2 (Nat.le_of_ble_eq_true rfl) x3 (x4 + 1) _) mM_X8_23 bX6_put hT.2.2.1 rfl rfl ⟨Nat.le_of_ble_eq_true rfl, Nat.le_of_ble_eq_true rfl, Nat.zero_le _, Nat.zero_le _⟩ _ rfl (Nat.le_of_ble_eq_true rfl) (fun r98 G5 hq => ?_)
    obtain ⟨rfl, hq⟩ := hq
    replace hw := pt_eq hw hq
    exact aw_msk [true, false, true, true, false] (h101 _ hrec60 x2 x3 _ hw)
  have h60 : ∀ (n : Nat) (x2 : Int32) (x3 : Int32) (G0 : Gt), w_X8_insertLetter_h60 t K n x2 x3 G0 → aw p l e { frames := 2, cells := 0, slots := 0, locals := 41 } s m args below meth c 5 D tA A (MQ below (QC0 D tA ad A sh (fun r G' => r = none ∧ K G')) args s 0 0 A) 0 0 ad 60 [some (.ref t), none, some (.int x2), some (.int x3), none] [] sh G0 := by
    intro  n
    induction n with
    | zero => intro x2 x3 G0 hw; exact hw.elim
    | succ n ih =>
      intro x2 x3 G0 hw
      rw [w_X8_insertLetter_h60] at hw
      refine aw_iloadn C dX8_insertLetter_60 rfl ?_
      refine aw_iconst (v := 4) C dX8_insertLetter_61 (by decide) ?_
      refine aw_ic_ge C dX8_insertLetter_62 107 (by decide) hw (fun hc62 hw => ?_) (fun hc62 hw => ?_)
      · exact aw_return C hr dX8_insertLetter_107 ⟨rfl, hw⟩
      · refine aw_aloadn C dX8_insertLetter_65 rfl ?_
        refine aw_getR (r := (t + 3)) C dX8_insertLetter_66 kcX8 hT.1 1 (by decide) rfl mF_X8_20 ?_
        refine aw_iloadn C dX8_insertLetter_69 rfl ?_
        refine aw_callV C dX8_insertLetter_70 (t_at hT.2.2 (Nat.le_of_ble_eq_true rfl) x3 _) mM_X8_37 bX6_at hT.2.2.1 rfl rfl ⟨Nat.le_of_ble_eq_true rfl, Nat.le_of_ble_eq_true rfl, Nat.zero_le _, Nat.zero_le _⟩ _ rfl (Nat.le_of_ble_eq_true rfl) (fun r70 G70x hq => ?_)
        obtain ⟨rfl, rfl⟩ := hq
        refine aw_istore C dX8_insertLetter_73 (by decide) rfl ?_
        refine aw_iloadn C dX8_insertLetter_75 rfl ?_
        refine aw_aloadn C dX8_insertLetter_76 rfl ?_
        refine aw_getI C dX8_insertLetter_77 kcX8 hT.1 3 (by decide) rfl mF_X8_34 ?_
        refine aw_ic_eq C dX8_insertLetter_80 89 (by decide) hw (fun hc80 hw => ?_) (fun hc80 hw => ?_)
        · exact aw_msk [true, false, true, true, true] (h89 _ ih x2 x3 (rat G0 (t + 4) 4 x3) _ hw)
        · refine aw_iload C dX8_insertLetter_83 rfl ?_
          refine aw_iloadn C dX8_insertLetter_85 rfl ?_
          refine aw_ic_le C dX8_insertLetter_86 101 (by decide) hw (fun hc86 hw => ?_) (fun hc86 hw => ?_)
          · exact aw_msk [true, false, true, true, false] (h101 _ ih x2 x3 _ hw)
          · exact aw_msk [true, false, true, true, true] (h89 _ ih x2 x3 (rat G0 (t + 4) 4 x3) _ hw)
  have h10 : ∀ (n : Nat) (x1 : Int32) (x2 : Int32) (x3 : Int32) (G0 : Gt), w_X8_insertLetter_h10 t K n x1 x2 x3 G0 → aw p l e { frames := 2, cells := 0, slots := 0, locals := 41 } s m args below meth c 5 D tA A (MQ below (QC0 D tA ad A sh (fun r G' => r = none ∧ K G')) args s 0 0 A) 0 0 ad 10 [some (.ref t), some (.int x1), some (.int x2), some (.int x3), none] [] sh G0 := by
    intro  n
    induction n with
    | zero => intro x1 x2 x3 G0 hw; exact hw.elim
    | succ n ih =>
      intro x1 x2 x3 G0 hw
      rw [w_X8_insertLetter_h10] at hw
      refine aw_iloadn C dX8_insertLetter_10 rfl ?_
      refine aw_iloadn C dX8_insertLetter_11 rfl ?_
      refine aw_ic_le C dX8_insertLetter_12 39 (by decide) hw (fun hc12 hw => ?_) (fun hc12 hw => ?_)
      · refine aw_aloadn C dX8_insertLetter_39 rfl ?_
        refine aw_getR (r := (t + 1)) C dX8_insertLetter_40 kcX8 hT.1 0 (by decide) rfl mF_X8_14 ?_
        refine aw_iloadn C dX8_insertLetter_43 rfl ?_
        refine aw_iloadn C dX8_insertLetter_44 rfl ?_
        refine aw_callV C dX8_insertLetter_45 (t_put hT.2.1 (Nat.le_of_ble_eq_true rfl) x2 x1 _) mM_X8_23 bX6_put hT.2.1.1 rfl rfl ⟨Nat.le_of_ble_eq_true rfl, Nat.le_of_ble_eq_true rfl, Nat.zero_le _, Nat.zero_le _⟩ _ rfl (Nat.le_of_ble_eq_true rfl) (fun r45 G3 hq => ?_)
        obtain ⟨rfl, hq⟩ := hq
        replace hw := pt_eq hw hq
        refine aw_aloadn C dX8_insertLetter_48 rfl ?_
        refine aw_dup C dX8_insertLetter_49 rfl ?_
        refine aw_getI C dX8_insertLetter_50 kcX8 hT.1 2 (by decide) rfl mF_X8_30 ?_
        refine aw_iconst (v := 1) C dX8_insertLetter_53 (by decide) ?_
        refine aw_iadd C dX8_insertLetter_54 ?_
        refine aw_putI C dX8_insertLetter_55 kcX8 hT.1 2 (by decide) rfl mF_X8_30 rfl rfl rfl hw (fun G4 hw => ?_)
        refine aw_iconst (v := 0) C dX8_insertLetter_58 (by decide) ?_
        refine aw_istoren C dX8_insertLetter_59 (by decide) rfl ?_
        obtain ⟨n0, hw⟩ := hw
        exact aw_msk [true, false, true, true, false] (h60 n0 x2 0 _ hw)
      · refine aw_aloadn C dX8_insertLetter_15 rfl ?_
        refine aw_getR (r := (t + 1)) C dX8_insertLetter_16 kcX8 hT.1 0 (by decide) rfl mF_X8_14 ?_
        refine aw_iloadn C dX8_insertLetter_19 rfl ?_
        refine aw_aloadn C dX8_insertLetter_20 rfl ?_
        refine aw_getR (r := (t + 1)) C dX8_insertLetter_21 kcX8 hT.1 0 (by decide) rfl mF_X8_14 ?_
        refine aw_iloadn C dX8_insertLetter_24 rfl ?_
        refine aw_iconst (v := 1) C dX8_insertLetter_25 (by decide) ?_
        refine aw_isub C dX8_insertLetter_26 ?_
        refine aw_callV C dX8_insertLetter_27 (t_at hT.2.1 (Nat.le_of_ble_eq_true rfl) (x3 - 1) _) mM_X8_37 bX6_at hT.2.1.1 rfl rfl ⟨Nat.le_of_ble_eq_true rfl, Nat.le_of_ble_eq_true rfl, Nat.zero_le _, Nat.zero_le _⟩ _ rfl (Nat.le_of_ble_eq_true rfl) (fun r27 G27x hq => ?_)
        obtain ⟨rfl, rfl⟩ := hq
        refine aw_callV C dX8_insertLetter_30 (t_put hT.2.1 (Nat.le_of_ble_eq_true rfl) x3 (rat G0 (t + 2) 40 (x3 - 1)) _) mM_X8_23 bX6_put hT.2.1.1 rfl rfl ⟨Nat.le_of_ble_eq_true rfl, Nat.le_of_ble_eq_true rfl, Nat.zero_le _, Nat.zero_le _⟩ _ rfl (Nat.le_of_ble_eq_true rfl) (fun r30 G6 hq => ?_)
        obtain ⟨rfl, hq⟩ := hq
        replace hw := pt_eq hw hq
        refine aw_iinc (w := (x3 + (-1))) C dX8_insertLetter_33 rfl rfl (by decide) rfl ?_
        refine aw_goto (tgt := 10) C dX8_insertLetter_36 (by decide) ?_
        exact aw_msk [true, true, true, true, false] (ih x1 x2 (x3 + (-1)) _ hw)
  unfold w_X8_insertLetter at hw
  show aw p l e { frames := 2, cells := 0, slots := 0, locals := 41 } s m args below meth c 5 D tA A (MQ below (QC0 D tA ad A sh (fun r G' => r = none ∧ K G')) args s 0 0 A) 0 0 ad 0 [some (.ref t), some (.int p0), none, none, none] [] sh G0
  refine aw_aloadn C dX8_insertLetter_0 rfl ?_
  refine aw_callV C dX8_insertLetter_1 (t_X8_activePlace hT _ _ hw) mM_X8_41 bX8_activePlace hT.1 rfl rfl ⟨Nat.le_of_ble_eq_true rfl, Nat.le_of_ble_eq_true rfl, Nat.zero_le _, Nat.zero_le _⟩ _ rfl (Nat.le_of_ble_eq_true rfl) (fun r1 G1 hq => ?_)
  obtain ⟨v2, rfl, hw⟩ := hq
  refine aw_istoren C dX8_insertLetter_4 (by decide) rfl ?_
  refine aw_aloadn C dX8_insertLetter_5 rfl ?_
  refine aw_getI C dX8_insertLetter_6 kcX8 hT.1 2 (by decide) rfl mF_X8_30 ?_
  refine aw_istoren C dX8_insertLetter_9 (by decide) rfl ?_
  obtain ⟨n0, hw⟩ := hw
  exact aw_msk [true, true, true, true, false] (h10 n0 p0 v2 (G1 t 2) _ hw)
def w_X8_eraseLetter_j121 (t : Nat) (K : Int32 → Gt → Prop) (rec62 : Int32 → Int32 → Int32 → Gt → Prop) (x1 : Int32) (x2 : Int32) (x3 : Int32) (y1 : Int32) (y2 : Int32) (G0 : Gt) : Prop :=
  pt (rput G0 (t + 4) 4 y1 y2) fun G4 =>
  rec62 x1 x2 (x3 + 1) G4
def w_X8_eraseLetter_j119 (t : Nat) (K : Int32 → Gt → Prop) (rec62 : Int32 → Int32 → Int32 → Gt → Prop) (x1 : Int32) (x2 : Int32) (x3 : Int32) (x5 : Int32) (y1 : Int32) (G0 : Gt) : Prop :=
  w_X8_eraseLetter_j121 t K rec62 x1 x2 x3 y1 x5 G0
def w_X8_eraseLetter_j92 (t : Nat) (K : Int32 → Gt → Prop) (rec62 : Int32 → Int32 → Int32 → Gt → Prop) (x1 : Int32) (x2 : Int32) (x3 : Int32) (y0 : Int32) (G0 : Gt) : Prop :=
  pif (x3 = (G0 t 3)) (
    w_X8_eraseLetter_j119 t K rec62 x1 x2 x3 y0 x3 G0) (
    pif (y0 = (x1 - 1)) (
      w_X8_eraseLetter_j121 t K rec62 x1 x2 x3 x3 (-1) G0) (
      w_X8_eraseLetter_j119 t K rec62 x1 x2 x3 y0 x3 G0))
def w_X8_eraseLetter_h62 (t : Nat) (K : Int32 → Gt → Prop) : Nat → Int32 → Int32 → Int32 → Gt → Prop
  | 0, _, _, _, _ => False
  | n + 1, x1, x2, x3, G0 =>
    pif (4 ≤ x3) (
      K x2 G0) (
      pif ((rat G0 (t + 4) 4 x3) < x1) (
        w_X8_eraseLetter_j92 t K (fun z0 z1 z2 z3 => w_X8_eraseLetter_h62 t K n z0 z1 z2 z3) x1 x2 x3 (rat G0 (t + 4) 4 x3) G0) (
        w_X8_eraseLetter_j92 t K (fun z0 z1 z2 z3 => w_X8_eraseLetter_h62 t K n z0 z1 z2 z3) x1 x2 x3 ((rat G0 (t + 4) 4 x3) - 1) G0))
def w_X8_eraseLetter_h18 (t : Nat) (K : Int32 → Gt → Prop) : Nat → Int32 → Int32 → Int32 → Gt → Prop
  | 0, _, _, _, _ => False
  | n + 1, x1, x2, x3, G0 =>
    pif ((G0 t 2) ≤ x3) (
      pt (gu G0 t 2 ((G0 t 2) - 1)) fun G3 =>
      ∃ i, w_X8_eraseLetter_h62 t K i x1 x2 0 G3) (
      pt (rput G0 (t + 2) 40 (x3 - 1) (rat G0 (t + 2) 40 x3)) fun G5 =>
      (w_X8_eraseLetter_h18 t K n) x1 x2 (x3 + 1) G5)
def w_X8_eraseLetter (t : Nat) (K : Int32 → Gt → Prop) (G0 : Gt) : Prop :=
  w_X8_activePlace t (fun v2 G1 =>
    ∃ i, w_X8_eraseLetter_h18 t K i v2 (rat G1 (t + 2) 40 (v2 - 1)) v2 G1) G0
set_option maxHeartbeats 4000000 in
set_option maxRecDepth 100000 in
theorem t_X8_eraseLetter {l : Launch} {sh : Sh} {t : Nat} (hT : isText sh t) (G0 : Gt) (K : Int32 → Gt → Prop) (hw : w_X8_eraseLetter t K G0) : CT0 l yX8_eraseLetter cX8_eraseLetter 6 (some .int) 2 41 [.ref t] sh G0 (fun r G' => ∃ v, r = some (.int v) ∧ K v G') := by
  refine CT0_of (by decide) (Nat.le_of_ble_eq_true rfl) rfl ?_
  intro p e s m args below meth c D tA ad A C hr _
  have h121 : ∀ (rec62 : Int32 → Int32 → Int32 → Gt → Prop) (hrec62 : ∀ (x1 : Int32) (x2 : Int32) (x3 : Int32) (G0 : Gt), rec62 x1 x2 x3 G0 → aw p l e { frames := 2, cells := 0, slots := 0, locals := 41 } s m args below meth c 6 D tA A (MQ below (QC0 D tA ad A sh (fun r G' => ∃ v, r = some (.int v) ∧ K v G')) args s 0 0 A) 0 0 ad 62 [some (.ref t), some (.int x1), some (.int x2), some (.int x3), none, none] [] sh G0) (x1 : Int32) (x2 : Int32) (x3 : Int32) (y1 : Int32) (y2 : Int32) (G0 : Gt), w_X8_eraseLetter_j121 t K rec62 x1 x2 x3 y1 y2 G0 → aw p l e { frames := 2, cells := 0, slots := 0, locals := 41 } s m args below meth c 6 D tA A (MQ below (QC0 D tA ad A sh (fun r G' => ∃ v, r = some (.int v) ∧ K v G')) args s 0 0 A) 0 0 ad 121 [some (.ref t), some (.int x1), some (.int x2), some (.int x3), none, none] [.int y2, .int y1, .ref (t + 3)] sh G0 := by
    intro rec62 hrec62 x1 x2 x3 y1 y2 G0 hw
    unfold w_X8_eraseLetter_j121 at hw
    refine aw_callV C dX8_eraseLetter_121 (t_put hT.2.2 (Nat.le_of_ble_eq_true rfl) y1 y2 _) mM_X8_23 bX6_put hT.2.2.1 rfl rfl ⟨Nat.le_of_ble_eq_true rfl, Nat.le_of_ble_eq_true rfl, Nat.zero_le _, Nat.zero_le _⟩ _ rfl (Nat.le_of_ble_eq_true rfl) (fun r121 G4 hq => ?_)
    obtain ⟨rfl, hq⟩ := hq
    replace hw := pt_eq hw hq
    refine aw_iinc (w := (x3 + 1)) C dX8_eraseLetter_124 rfl rfl (by decide) rfl ?_
    refine aw_goto (tgt := 62) C dX8_eraseLetter_127 (by decide) ?_
    exact aw_msk [true, true, true, true, false, false] (hrec62 x1 x2 (x3 + 1) _ hw)
  have h119 : ∀ (rec62 : Int32 → Int32 → Int32 → Gt → Prop) (hrec62 : ∀ (x1 : Int32) (x2 : Int32) (x3 : Int32) (G0 : Gt), rec62 x1 x2 x3 G0 → aw p l e { frames := 2, cells := 0, slots := 0, locals := 41 } s m args below meth c 6 D tA A (MQ below (QC0 D tA ad A sh (fun r G' => ∃ v, r = some (.int v) ∧ K v G')) args s 0 0 A) 0 0 ad 62 [some (.ref t), some (.int x1), some (.int x2), some (.int x3), none, none] [] sh G0) (x1 : Int32) (x2 : Int32) (x3 : Int32) (x5 : Int32) (y1 : Int32) (G0 : Gt), w_X8_eraseLetter_j119 t K rec62 x1 x2 x3 x5 y1 G0 → aw p l e { frames := 2, cells := 0, slots := 0, locals := 41 } s m args below meth c 6 D tA A (MQ below (QC0 D tA ad A sh (fun r G' => ∃ v, r = some (.int v) ∧ K v G')) args s 0 0 A) 0 0 ad 119 [some (.ref t), some (.int x1), some (.int x2), some (.int x3), none, some (.int x5)] [.int y1, .ref (t + 3)] sh G0 := by
    intro rec62 hrec62 x1 x2 x3 x5 y1 G0 hw
    unfold w_X8_eraseLetter_j119 at hw
    refine aw_iload C dX8_eraseLetter_119 rfl ?_
    exact aw_msk [true, true, true, true, false, false] (h121 _ hrec62 x1 x2 x3 y1 x5 _ hw)
  have h92 : ∀ (rec62 : Int32 → Int32 → Int32 → Gt → Prop) (hrec62 : ∀ (x1 : Int32) (x2 : Int32) (x3 : Int32) (G0 : Gt), rec62 x1 x2 x3 G0 → aw p l e { frames := 2, cells := 0, slots := 0, locals := 41 } s m args below meth c 6 D tA A (MQ below (QC0 D tA ad A sh (fun r G' => ∃ v, r = some (.int v) ∧ K v G')) args s 0 0 A) 0 0 ad 62 [some (.ref t), some (.int x1), some (.int x2), some (.int x3), none, none] [] sh G0) (x1 : Int32) (x2 : Int32) (x3 : Int32) (y0 : Int32) (G0 : Gt), w_X8_eraseLetter_j92 t K rec62 x1 x2 x3 y0 G0 → aw p l e { frames := 2, cells := 0, slots := 0, locals := 41 } s m args below meth c 6 D tA A (MQ below (QC0 D tA ad A sh (fun r G' => ∃ v, r = some (.int v) ∧ K v G')) args s 0 0 A) 0 0 ad 92 [some (.ref t), some (.int x1), some (.int x2), some (.int x3), none, none] [.int y0] sh G0 := by
    intro rec62 hrec62 x1 x2 x3 y0 G0 hw
    unfold w_X8_eraseLetter_j92 at hw
    refine aw_istore C dX8_eraseLetter_92 (by decide) rfl ?_
    refine aw_aloadn C dX8_eraseLetter_94 rfl ?_
    refine aw_getR (r := (t + 3)) C dX8_eraseLetter_95 kcX8 hT.1 1 (by decide) rfl mF_X8_20 ?_
    refine aw_iloadn C dX8_eraseLetter_98 rfl ?_
    refine aw_iloadn C dX8_eraseLetter_99 rfl ?_
    refine aw_aloadn C dX8_eraseLetter_100 rfl ?_
    refine aw_getI C dX8_eraseLetter_101 kcX8 hT.1 3 (by decide) rfl mF_X8_34 ?_
    refine aw_ic_eq C dX8_eraseLetter_104 119 (by decide) hw (fun hc104 hw => ?_) (fun hc104 hw => ?_)
    · exact aw_msk [true, true, true, true, false, true] (h119 _ hrec62 x1 x2 x3 y0 x3 _ hw)
    · refine aw_iload C dX8_eraseLetter_107 rfl ?_
      refine aw_iloadn C dX8_eraseLetter_109 rfl ?_
      refine aw_iconst (v := 1) C dX8_eraseLetter_110 (by decide) ?_
      refine aw_isub C dX8_eraseLetter_111 ?_
      refine aw_ic_ne C dX8_eraseLetter_112 119 (by decide) hw (fun hc112 hw => ?_) (fun hc112 hw => ?_)
      · exact aw_msk [true, true, true, true, false, true] (h119 _ hrec62 x1 x2 x3 y0 x3 _ hw)
      · refine aw_iconst (v := (-1)) C dX8_eraseLetter_115 (by decide) ?_
        refine aw_goto (tgt := 121) C dX8_eraseLetter_116 (by decide) ?_
        exact aw_msk [true, true, true, true, false, false] (h121 _ hrec62 x1 x2 x3 x3 (-1) _ hw)
  have h62 : ∀ (n : Nat) (x1 : Int32) (x2 : Int32) (x3 : Int32) (G0 : Gt), w_X8_eraseLetter_h62 t K n x1 x2 x3 G0 → aw p l e { frames := 2, cells := 0, slots := 0, locals := 41 } s m args below meth c 6 D tA A (MQ below (QC0 D tA ad A sh (fun r G' => ∃ v, r = some (.int v) ∧ K v G')) args s 0 0 A) 0 0 ad 62 [some (.ref t), some (.int x1), some (.int x2), some (.int x3), none, none] [] sh G0 := by
    intro  n
    induction n with
    | zero => intro x1 x2 x3 G0 hw; exact hw.elim
    | succ n ih =>
      intro x1 x2 x3 G0 hw
      rw [w_X8_eraseLetter_h62] at hw
      refine aw_iloadn C dX8_eraseLetter_62 rfl ?_
      refine aw_iconst (v := 4) C dX8_eraseLetter_63 (by decide) ?_
      refine aw_ic_ge C dX8_eraseLetter_64 130 (by decide) hw (fun hc64 hw => ?_) (fun hc64 hw => ?_)
      · refine aw_iloadn C dX8_eraseLetter_130 rfl ?_
        exact aw_ireturn C hr dX8_eraseLetter_131 ⟨_, rfl, hw⟩
      · refine aw_aloadn C dX8_eraseLetter_67 rfl ?_
        refine aw_getR (r := (t + 3)) C dX8_eraseLetter_68 kcX8 hT.1 1 (by decide) rfl mF_X8_20 ?_
        refine aw_iloadn C dX8_eraseLetter_71 rfl ?_
        refine aw_callV C dX8_eraseLetter_72 (t_at hT.2.2 (Nat.le_of_ble_eq_true rfl) x3 _) mM_X8_37 bX6_at hT.2.2.1 rfl rfl ⟨Nat.le_of_ble_eq_true rfl, Nat.le_of_ble_eq_true rfl, Nat.zero_le _, Nat.zero_le _⟩ _ rfl (Nat.le_of_ble_eq_true rfl) (fun r72 G72x hq => ?_)
        obtain ⟨rfl, rfl⟩ := hq
        refine aw_istore C dX8_eraseLetter_75 (by decide) rfl ?_
        refine aw_iload C dX8_eraseLetter_77 rfl ?_
        refine aw_iloadn C dX8_eraseLetter_79 rfl ?_
        refine aw_ic_lt C dX8_eraseLetter_80 90 (by decide) hw (fun hc80 hw => ?_) (fun hc80 hw => ?_)
        · refine aw_iload C dX8_eraseLetter_90 rfl ?_
          exact aw_msk [true, true, true, true, false, false] (h92 _ ih x1 x2 x3 (rat G0 (t + 4) 4 x3) _ hw)
        · refine aw_iload C dX8_eraseLetter_83 rfl ?_
          refine aw_iconst (v := 1) C dX8_eraseLetter_85 (by decide) ?_
          refine aw_isub C dX8_eraseLetter_86 ?_
          refine aw_goto (tgt := 92) C dX8_eraseLetter_87 (by decide) ?_
          exact aw_msk [true, true, true, true, false, false] (h92 _ ih x1 x2 x3 ((rat G0 (t + 4) 4 x3) - 1) _ hw)
  have h18 : ∀ (n : Nat) (x1 : Int32) (x2 : Int32) (x3 : Int32) (G0 : Gt), w_X8_eraseLetter_h18 t K n x1 x2 x3 G0 → aw p l e { frames := 2, cells := 0, slots := 0, locals := 41 } s m args below meth c 6 D tA A (MQ below (QC0 D tA ad A sh (fun r G' => ∃ v, r = some (.int v) ∧ K v G')) args s 0 0 A) 0 0 ad 18 [some (.ref t), some (.int x1), some (.int x2), some (.int x3), none, none] [] sh G0 := by
    intro  n
    induction n with
    | zero => intro x1 x2 x3 G0 hw; exact hw.elim
    | succ n ih =>
      intro x1 x2 x3 G0 hw
      rw [w_X8_eraseLetter_h18] at hw
      refine aw_iloadn C dX8_eraseLetter_18 rfl ?_
      refine aw_aloadn C dX8_eraseLetter_19 rfl ?_
      refine aw_getI C dX8_eraseLetter_20 kcX8 hT.1 2 (by decide) rfl mF_X8_30 ?_
      refine aw_ic_ge C dX8_eraseLetter_23 50 (by decide) hw (fun hc23 hw => ?_) (fun hc23 hw => ?_)
      · refine aw_aloadn C dX8_eraseLetter_50 rfl ?_
        refine aw_dup C dX8_eraseLetter_51 rfl ?_
        refine aw_getI C dX8_eraseLetter_52 kcX8 hT.1 2 (by decide) rfl mF_X8_30 ?_
        refine aw_iconst (v := 1) C dX8_eraseLetter_55 (by decide) ?_
        refine aw_isub C dX8_eraseLetter_56 ?_
        refine aw_putI C dX8_eraseLetter_57 kcX8 hT.1 2 (by decide) rfl mF_X8_30 rfl rfl rfl hw (fun G3 hw => ?_)
        refine aw_iconst (v := 0) C dX8_eraseLetter_60 (by decide) ?_
        refine aw_istoren C dX8_eraseLetter_61 (by decide) rfl ?_
        obtain ⟨n0, hw⟩ := hw
        exact aw_msk [true, true, true, true, false, false] (h62 n0 x1 x2 0 _ hw)
      · refine aw_aloadn C dX8_eraseLetter_26 rfl ?_
        refine aw_getR (r := (t + 1)) C dX8_eraseLetter_27 kcX8 hT.1 0 (by decide) rfl mF_X8_14 ?_
        refine aw_iloadn C dX8_eraseLetter_30 rfl ?_
        refine aw_iconst (v := 1) C dX8_eraseLetter_31 (by decide) ?_
        refine aw_isub C dX8_eraseLetter_32 ?_
        refine aw_aloadn C dX8_eraseLetter_33 rfl ?_
        refine aw_getR (r := (t + 1)) C dX8_eraseLetter_34 kcX8 hT.1 0 (by decide) rfl mF_X8_14 ?_
        refine aw_iloadn C dX8_eraseLetter_37 rfl ?_
        refine aw_callV C dX8_eraseLetter_38 (t_at hT.2.1 (Nat.le_of_ble_eq_true rfl) x3 _) mM_X8_37 bX6_at hT.2.1.1 rfl rfl ⟨Nat.le_of_ble_eq_true rfl, Nat.le_of_ble_eq_true rfl, Nat.zero_le _, Nat.zero_le _⟩ _ rfl (Nat.le_of_ble_eq_true rfl) (fun r38 G38x hq => ?_)
        obtain ⟨rfl, rfl⟩ := hq
        refine aw_callV C dX8_eraseLetter_41 (t_put hT.2.1 (Nat.le_of_ble_eq_true rfl) (x3 - 1) (rat G0 (t + 2) 40 x3) _) mM_X8_23 bX6_put hT.2.1.1 rfl rfl ⟨Nat.le_of_ble_eq_true rfl, Nat.le_of_ble_eq_true rfl, Nat.zero_le _, Nat.zero_le _⟩ _ rfl (Nat.le_of_ble_eq_true rfl) (fun r41 G5 hq => ?_)
        obtain ⟨rfl, hq⟩ := hq
        replace hw := pt_eq hw hq
        refine aw_iinc (w := (x3 + 1)) C dX8_eraseLetter_44 rfl rfl (by decide) rfl ?_
        refine aw_goto (tgt := 18) C dX8_eraseLetter_47 (by decide) ?_
        exact aw_msk [true, true, true, true, false, false] (ih x1 x2 (x3 + 1) _ hw)
  unfold w_X8_eraseLetter at hw
  show aw p l e { frames := 2, cells := 0, slots := 0, locals := 41 } s m args below meth c 6 D tA A (MQ below (QC0 D tA ad A sh (fun r G' => ∃ v, r = some (.int v) ∧ K v G')) args s 0 0 A) 0 0 ad 0 [some (.ref t), none, none, none, none, none] [] sh G0
  refine aw_aloadn C dX8_eraseLetter_0 rfl ?_
  refine aw_callV C dX8_eraseLetter_1 (t_X8_activePlace hT _ _ hw) mM_X8_41 bX8_activePlace hT.1 rfl rfl ⟨Nat.le_of_ble_eq_true rfl, Nat.le_of_ble_eq_true rfl, Nat.zero_le _, Nat.zero_le _⟩ _ rfl (Nat.le_of_ble_eq_true rfl) (fun r1 G1 hq => ?_)
  obtain ⟨v2, rfl, hw⟩ := hq
  refine aw_istoren C dX8_eraseLetter_4 (by decide) rfl ?_
  refine aw_aloadn C dX8_eraseLetter_5 rfl ?_
  refine aw_getR (r := (t + 1)) C dX8_eraseLetter_6 kcX8 hT.1 0 (by decide) rfl mF_X8_14 ?_
  refine aw_iloadn C dX8_eraseLetter_9 rfl ?_
  refine aw_iconst (v := 1) C dX8_eraseLetter_10 (by decide) ?_
  refine aw_isub C dX8_eraseLetter_11 ?_
  refine aw_callV C dX8_eraseLetter_12 (t_at hT.2.1 (Nat.le_of_ble_eq_true rfl) (v2 - 1) _) mM_X8_37 bX6_at hT.2.1.1 rfl rfl ⟨Nat.le_of_ble_eq_true rfl, Nat.le_of_ble_eq_true rfl, Nat.zero_le _, Nat.zero_le _⟩ _ rfl (Nat.le_of_ble_eq_true rfl) (fun r12 G12x hq => ?_)
  obtain ⟨rfl, rfl⟩ := hq
  refine aw_istoren C dX8_eraseLetter_15 (by decide) rfl ?_
  refine aw_iloadn C dX8_eraseLetter_16 rfl ?_
  refine aw_istoren C dX8_eraseLetter_17 (by decide) rfl ?_
  obtain ⟨n0, hw⟩ := hw
  exact aw_msk [true, true, true, true, false, false] (h18 n0 v2 (rat G1 (t + 2) 40 (v2 - 1)) v2 _ hw)
def w_X8_freeCursor_h2 (t : Nat) (K : Int32 → Gt → Prop) : Nat → Int32 → Gt → Prop
  | 0, _, _ => False
  | n + 1, x1, G0 =>
    pif (4 ≤ x1) (
      K (-1) G0) (
      pif ((rat G0 (t + 4) 4 x1) = (-1)) (
        K x1 G0) (
        (w_X8_freeCursor_h2 t K n) (x1 + 1) G0))
def w_X8_freeCursor (t : Nat) (K : Int32 → Gt → Prop) (G0 : Gt) : Prop :=
  ∃ i, w_X8_freeCursor_h2 t K i 0 G0
set_option maxHeartbeats 4000000 in
set_option maxRecDepth 100000 in
theorem t_X8_freeCursor {l : Launch} {sh : Sh} {t : Nat} (hT : isText sh t) (G0 : Gt) (K : Int32 → Gt → Prop) (hw : w_X8_freeCursor t K G0) : CT0 l yX8_freeCursor cX8_freeCursor 2 (some .int) 1 21 [.ref t] sh G0 (fun r G' => ∃ v, r = some (.int v) ∧ K v G') := by
  refine CT0_of (by decide) (Nat.le_of_ble_eq_true rfl) rfl ?_
  intro p e s m args below meth c D tA ad A C hr _
  have h2 : ∀ (n : Nat) (x1 : Int32) (G0 : Gt), w_X8_freeCursor_h2 t K n x1 G0 → aw p l e { frames := 1, cells := 0, slots := 0, locals := 21 } s m args below meth c 2 D tA A (MQ below (QC0 D tA ad A sh (fun r G' => ∃ v, r = some (.int v) ∧ K v G')) args s 0 0 A) 0 0 ad 2 [some (.ref t), some (.int x1)] [] sh G0 := by
    intro  n
    induction n with
    | zero => intro x1 G0 hw; exact hw.elim
    | succ n ih =>
      intro x1 G0 hw
      rw [w_X8_freeCursor_h2] at hw
      refine aw_iloadn C dX8_freeCursor_2 rfl ?_
      refine aw_iconst (v := 4) C dX8_freeCursor_3 (by decide) ?_
      refine aw_ic_ge C dX8_freeCursor_4 27 (by decide) hw (fun hc4 hw => ?_) (fun hc4 hw => ?_)
      · refine aw_iconst (v := (-1)) C dX8_freeCursor_27 (by decide) ?_
        exact aw_ireturn C hr dX8_freeCursor_28 ⟨_, rfl, hw⟩
      · refine aw_aloadn C dX8_freeCursor_7 rfl ?_
        refine aw_getR (r := (t + 3)) C dX8_freeCursor_8 kcX8 hT.1 1 (by decide) rfl mF_X8_20 ?_
        refine aw_iloadn C dX8_freeCursor_11 rfl ?_
        refine aw_callV C dX8_freeCursor_12 (t_at hT.2.2 (Nat.le_of_ble_eq_true rfl) x1 _) mM_X8_37 bX6_at hT.2.2.1 rfl rfl ⟨Nat.le_of_ble_eq_true rfl, Nat.le_of_ble_eq_true rfl, Nat.zero_le _, Nat.zero_le _⟩ _ rfl (Nat.le_of_ble_eq_true rfl) (fun r12 G12x hq => ?_)
        obtain ⟨rfl, rfl⟩ := hq
        refine aw_iconst (v := (-1)) C dX8_freeCursor_15 (by decide) ?_
        refine aw_ic_ne C dX8_freeCursor_16 21 (by decide) hw (fun hc16 hw => ?_) (fun hc16 hw => ?_)
        · refine aw_iinc (w := (x1 + 1)) C dX8_freeCursor_21 rfl rfl (by decide) rfl ?_
          refine aw_goto (tgt := 2) C dX8_freeCursor_24 (by decide) ?_
          exact aw_msk [true, true] (ih (x1 + 1) _ hw)
        · refine aw_iloadn C dX8_freeCursor_19 rfl ?_
          exact aw_ireturn C hr dX8_freeCursor_20 ⟨_, rfl, hw⟩
  unfold w_X8_freeCursor at hw
  show aw p l e { frames := 1, cells := 0, slots := 0, locals := 21 } s m args below meth c 2 D tA A (MQ below (QC0 D tA ad A sh (fun r G' => ∃ v, r = some (.int v) ∧ K v G')) args s 0 0 A) 0 0 ad 0 [some (.ref t), none] [] sh G0
  refine aw_iconst (v := 0) C dX8_freeCursor_0 (by decide) ?_
  refine aw_istoren C dX8_freeCursor_1 (by decide) rfl ?_
  obtain ⟨n0, hw⟩ := hw
  exact aw_msk [true, true] (h2 n0 0 _ hw)
def w_X8_packedOrder_j48 (t : Nat) (K : Int32 → Gt → Prop) (rec6 : Int32 → Int32 → Int32 → Gt → Prop) (rec17 : Int32 → Int32 → Int32 → Int32 → Gt → Prop) (x1 : Int32) (x2 : Int32) (x3 : Int32) (x4 : Int32) (G0 : Gt) : Prop :=
  rec17 x1 x2 x3 (x4 + 1) G0
def w_X8_packedOrder_h17 (t : Nat) (K : Int32 → Gt → Prop) (rec6 : Int32 → Int32 → Int32 → Gt → Prop) : Nat → Int32 → Int32 → Int32 → Int32 → Gt → Prop
  | 0, _, _, _, _, _ => False
  | n + 1, x1, x2, x3, x4, G0 =>
    pif (4 ≤ x4) (
      rec6 x1 x2 (x3 + 1) G0) (
      pif ((rat G0 (t + 4) 4 x4) = x3) (
        w_X8_packedOrder_j48 t K rec6 (fun z0 z1 z2 z3 z4 => w_X8_packedOrder_h17 t K rec6 n z0 z1 z2 z3 z4) (x1 ||| ((x4 + 1) <<< (x2 &&& 31))) (x2 + 3) x3 x4 G0) (
        w_X8_packedOrder_j48 t K rec6 (fun z0 z1 z2 z3 z4 => w_X8_packedOrder_h17 t K rec6 n z0 z1 z2 z3 z4) x1 x2 x3 x4 G0))
def w_X8_packedOrder_h6 (t : Nat) (K : Int32 → Gt → Prop) : Nat → Int32 → Int32 → Int32 → Gt → Prop
  | 0, _, _, _, _ => False
  | n + 1, x1, x2, x3, G0 =>
    pif ((G0 t 2) < x3) (
      K x1 G0) (
      ∃ i, w_X8_packedOrder_h17 t K (fun z0 z1 z2 z3 => w_X8_packedOrder_h6 t K n z0 z1 z2 z3) i x1 x2 x3 0 G0)
def w_X8_packedOrder (t : Nat) (K : Int32 → Gt → Prop) (G0 : Gt) : Prop :=
  ∃ i, w_X8_packedOrder_h6 t K i 0 0 0 G0
set_option maxHeartbeats 4000000 in
set_option maxRecDepth 100000 in
theorem t_X8_packedOrder {l : Launch} {sh : Sh} {t : Nat} (hT : isText sh t) (G0 : Gt) (K : Int32 → Gt → Prop) (hw : w_X8_packedOrder t K G0) : CT0 l yX8_packedOrder cX8_packedOrder 5 (some .int) 1 21 [.ref t] sh G0 (fun r G' => ∃ v, r = some (.int v) ∧ K v G') := by
  refine CT0_of (by decide) (Nat.le_of_ble_eq_true rfl) rfl ?_
  intro p e s m args below meth c D tA ad A C hr _
  have h48 : ∀ (rec6 : Int32 → Int32 → Int32 → Gt → Prop) (hrec6 : ∀ (x1 : Int32) (x2 : Int32) (x3 : Int32) (G0 : Gt), rec6 x1 x2 x3 G0 → aw p l e { frames := 1, cells := 0, slots := 0, locals := 21 } s m args below meth c 5 D tA A (MQ below (QC0 D tA ad A sh (fun r G' => ∃ v, r = some (.int v) ∧ K v G')) args s 0 0 A) 0 0 ad 6 [some (.ref t), some (.int x1), some (.int x2), some (.int x3), none] [] sh G0) (rec17 : Int32 → Int32 → Int32 → Int32 → Gt → Prop) (hrec17 : ∀ (x1 : Int32) (x2 : Int32) (x3 : Int32) (x4 : Int32) (G0 : Gt), rec17 x1 x2 x3 x4 G0 → aw p l e { frames := 1, cells := 0, slots := 0, locals := 21 } s m args below meth c 5 D tA A (MQ below (QC0 D tA ad A sh (fun r G' => ∃ v, r = some (.int v) ∧ K v G')) args s 0 0 A) 0 0 ad 17 [some (.ref t), some (.int x1), some (.int x2), some (.int x3), some (.int x4)] [] sh G0) (x1 : Int32) (x2 : Int32) (x3 : Int32) (x4 : Int32) (G0 : Gt), w_X8_packedOrder_j48 t K rec6 rec17 x1 x2 x3 x4 G0 → aw p l e { frames := 1, cells := 0, slots := 0, locals := 21 } s m args below meth c 5 D tA A (MQ below (QC0 D tA ad A sh (fun r G' => ∃ v, r = some (.int v) ∧ K v G')) args s 0 0 A) 0 0 ad 48 [some (.ref t), some (.int x1), some (.int x2), some (.int x3), some (.int x4)] [] sh G0 := by
    intro rec6 hrec6 rec17 hrec17 x1 x2 x3 x4 G0 hw
    unfold w_X8_packedOrder_j48 at hw
    refine aw_iinc (w := (x4 + 1)) C dX8_packedOrder_48 rfl rfl (by decide) rfl ?_
    refine aw_goto (tgt := 17) C dX8_packedOrder_51 (by decide) ?_
    exact aw_msk [true, true, true, true, true] (hrec17 x1 x2 x3 (x4 + 1) _ hw)
  have h17 : ∀ (rec6 : Int32 → Int32 → Int32 → Gt → Prop) (hrec6 : ∀ (x1 : Int32) (x2 : Int32) (x3 : Int32) (G0 : Gt), rec6 x1 x2 x3 G0 → aw p l e { frames := 1, cells := 0, slots := 0, locals := 21 } s m args below meth c 5 D tA A (MQ below (QC0 D tA ad A sh (fun r G' => ∃ v, r = some (.int v) ∧ K v G')) args s 0 0 A) 0 0 ad 6 [some (.ref t), some (.int x1), some (.int x2), some (.int x3), none] [] sh G0) (n : Nat) (x1 : Int32) (x2 : Int32) (x3 : Int32) (x4 : Int32) (G0 : Gt), w_X8_packedOrder_h17 t K rec6 n x1 x2 x3 x4 G0 → aw p l e { frames := 1, cells := 0, slots := 0, locals := 21 } s m args below meth c 5 D tA A (MQ below (QC0 D tA ad A sh (fun r G' => ∃ v, r = some (.int v) ∧ K v G')) args s 0 0 A) 0 0 ad 17 [some (.ref t), some (.int x1), some (.int x2), some (.int x3), some (.int x4)] [] sh G0 := by
    intro rec6 hrec6 n
    induction n with
    | zero => intro x1 x2 x3 x4 G0 hw; exact hw.elim
    | succ n ih =>
      intro x1 x2 x3 x4 G0 hw
      rw [w_X8_packedOrder_h17] at hw
      refine aw_iload C dX8_packedOrder_17 rfl ?_
      refine aw_iconst (v := 4) C dX8_packedOrder_19 (by decide) ?_
      refine aw_ic_ge C dX8_packedOrder_20 54 (by decide) hw (fun hc20 hw => ?_) (fun hc20 hw => ?_)
      · refine aw_iinc (w := (x3 + 1)) C dX8_packedOrder_54 rfl rfl (by decide) rfl ?_
        refine aw_goto (tgt := 6) C dX8_packedOrder_57 (by decide) ?_
        exact aw_msk [true, true, true, true, false] (hrec6 x1 x2 (x3 + 1) _ hw)
      · refine aw_aloadn C dX8_packedOrder_23 rfl ?_
        refine aw_getR (r := (t + 3)) C dX8_packedOrder_24 kcX8 hT.1 1 (by decide) rfl mF_X8_20 ?_
        refine aw_iload C dX8_packedOrder_27 rfl ?_
        refine aw_callV C dX8_packedOrder_29 (t_at hT.2.2 (Nat.le_of_ble_eq_true rfl) x4 _) mM_X8_37 bX6_at hT.2.2.1 rfl rfl ⟨Nat.le_of_ble_eq_true rfl, Nat.le_of_ble_eq_true rfl, Nat.zero_le _, Nat.zero_le _⟩ _ rfl (Nat.le_of_ble_eq_true rfl) (fun r29 G29x hq => ?_)
        obtain ⟨rfl, rfl⟩ := hq
        refine aw_iloadn C dX8_packedOrder_32 rfl ?_
        refine aw_ic_ne C dX8_packedOrder_33 48 (by decide) hw (fun hc33 hw => ?_) (fun hc33 hw => ?_)
        · exact aw_msk [true, true, true, true, true] (h48 _ hrec6 _ ih x1 x2 x3 x4 _ hw)
        · refine aw_iloadn C dX8_packedOrder_36 rfl ?_
          refine aw_iload C dX8_packedOrder_37 rfl ?_
          refine aw_iconst (v := 1) C dX8_packedOrder_39 (by decide) ?_
          refine aw_iadd C dX8_packedOrder_40 ?_
          refine aw_iloadn C dX8_packedOrder_41 rfl ?_
          refine aw_ishl C dX8_packedOrder_42 ?_
          refine aw_ior C dX8_packedOrder_43 ?_
          refine aw_istoren C dX8_packedOrder_44 (by decide) rfl ?_
          refine aw_iinc (w := (x2 + 3)) C dX8_packedOrder_45 rfl rfl (by decide) rfl ?_
          exact aw_msk [true, true, true, true, true] (h48 _ hrec6 _ ih (x1 ||| ((x4 + 1) <<< (x2 &&& 31))) (x2 + 3) x3 x4 _ hw)
  have h6 : ∀ (n : Nat) (x1 : Int32) (x2 : Int32) (x3 : Int32) (G0 : Gt), w_X8_packedOrder_h6 t K n x1 x2 x3 G0 → aw p l e { frames := 1, cells := 0, slots := 0, locals := 21 } s m args below meth c 5 D tA A (MQ below (QC0 D tA ad A sh (fun r G' => ∃ v, r = some (.int v) ∧ K v G')) args s 0 0 A) 0 0 ad 6 [some (.ref t), some (.int x1), some (.int x2), some (.int x3), none] [] sh G0 := by
    intro  n
    induction n with
    | zero => intro x1 x2 x3 G0 hw; exact hw.elim
    | succ n ih =>
      intro x1 x2 x3 G0 hw
      rw [w_X8_packedOrder_h6] at hw
      refine aw_iloadn C dX8_packedOrder_6 rfl ?_
      refine aw_aloadn C dX8_packedOrder_7 rfl ?_
      refine aw_getI C dX8_packedOrder_8 kcX8 hT.1 2 (by decide) rfl mF_X8_30 ?_
      refine aw_ic_gt C dX8_packedOrder_11 60 (by decide) hw (fun hc11 hw => ?_) (fun hc11 hw => ?_)
      · refine aw_iloadn C dX8_packedOrder_60 rfl ?_
        exact aw_ireturn C hr dX8_packedOrder_61 ⟨_, rfl, hw⟩
      · refine aw_iconst (v := 0) C dX8_packedOrder_14 (by decide) ?_
        refine aw_istore C dX8_packedOrder_15 (by decide) rfl ?_
        obtain ⟨n0, hw⟩ := hw
        exact aw_msk [true, true, true, true, true] (h17 _ ih n0 x1 x2 x3 0 _ hw)
  unfold w_X8_packedOrder at hw
  show aw p l e { frames := 1, cells := 0, slots := 0, locals := 21 } s m args below meth c 5 D tA A (MQ below (QC0 D tA ad A sh (fun r G' => ∃ v, r = some (.int v) ∧ K v G')) args s 0 0 A) 0 0 ad 0 [some (.ref t), none, none, none, none] [] sh G0
  refine aw_iconst (v := 0) C dX8_packedOrder_0 (by decide) ?_
  refine aw_istoren C dX8_packedOrder_1 (by decide) rfl ?_
  refine aw_iconst (v := 0) C dX8_packedOrder_2 (by decide) ?_
  refine aw_istoren C dX8_packedOrder_3 (by decide) rfl ?_
  refine aw_iconst (v := 0) C dX8_packedOrder_4 (by decide) ?_
  refine aw_istoren C dX8_packedOrder_5 (by decide) rfl ?_
  obtain ⟨n0, hw⟩ := hw
  exact aw_msk [true, true, true, true, false] (h6 n0 0 0 0 _ hw)
def w_X8_chooseAgain_j41 (t : Nat) (K : Gt → Prop) (rec20 : Int32 → Gt → Prop) (x2 : Int32) (G0 : Gt) : Prop :=
  rec20 (x2 + (-1)) G0
def w_X8_chooseAgain_h20 (t : Nat) (K : Gt → Prop) : Nat → Int32 → Gt → Prop
  | 0, _, _ => False
  | n + 1, x2, G0 =>
    pif (x2 < 0) (
      K G0) (
      pif ((rat G0 (t + 4) 4 x2) = (-1)) (
        w_X8_chooseAgain_j41 t K (fun z0 z1 => w_X8_chooseAgain_h20 t K n z0 z1) x2 G0) (
        pt (gu G0 t 3 x2) fun G1 =>
        w_X8_chooseAgain_j41 t K (fun z0 z1 => w_X8_chooseAgain_h20 t K n z0 z1) x2 G1))
def w_X8_chooseAgain (t : Nat) (K : Gt → Prop) (p0 : Int32) (G0 : Gt) : Prop :=
  pif ((rat G0 (t + 4) 4 p0) = (-1)) (
    ∃ i, w_X8_chooseAgain_h20 t K i 3 G0) (
    pt (gu G0 t 3 p0) fun G2 =>
    K G2)
set_option maxHeartbeats 4000000 in
set_option maxRecDepth 100000 in
theorem t_X8_chooseAgain {l : Launch} {sh : Sh} {t : Nat} (hT : isText sh t) (p0 : Int32) (G0 : Gt) (K : Gt → Prop) (hw : w_X8_chooseAgain t K p0 G0) : CT0 l yX8_chooseAgain cX8_chooseAgain 3 none 1 21 [.ref t, .int p0] sh G0 (fun r G' => r = none ∧ K G') := by
  refine CT0_of (by decide) (Nat.le_of_ble_eq_true rfl) rfl ?_
  intro p e s m args below meth c D tA ad A C hr _
  have h41 : ∀ (rec20 : Int32 → Gt → Prop) (hrec20 : ∀ (x2 : Int32) (G0 : Gt), rec20 x2 G0 → aw p l e { frames := 1, cells := 0, slots := 0, locals := 21 } s m args below meth c 3 D tA A (MQ below (QC0 D tA ad A sh (fun r G' => r = none ∧ K G')) args s 0 0 A) 0 0 ad 20 [some (.ref t), none, some (.int x2)] [] sh G0) (x2 : Int32) (G0 : Gt), w_X8_chooseAgain_j41 t K rec20 x2 G0 → aw p l e { frames := 1, cells := 0, slots := 0, locals := 21 } s m args below meth c 3 D tA A (MQ below (QC0 D tA ad A sh (fun r G' => r = none ∧ K G')) args s 0 0 A) 0 0 ad 41 [some (.ref t), none, some (.int x2)] [] sh G0 := by
    intro rec20 hrec20 x2 G0 hw
    unfold w_X8_chooseAgain_j41 at hw
    refine aw_iinc (w := (x2 + (-1))) C dX8_chooseAgain_41 rfl rfl (by decide) rfl ?_
    refine aw_goto (tgt := 20) C dX8_chooseAgain_44 (by decide) ?_
    exact aw_msk [true, false, true] (hrec20 (x2 + (-1)) _ hw)
  have h20 : ∀ (n : Nat) (x2 : Int32) (G0 : Gt), w_X8_chooseAgain_h20 t K n x2 G0 → aw p l e { frames := 1, cells := 0, slots := 0, locals := 21 } s m args below meth c 3 D tA A (MQ below (QC0 D tA ad A sh (fun r G' => r = none ∧ K G')) args s 0 0 A) 0 0 ad 20 [some (.ref t), none, some (.int x2)] [] sh G0 := by
    intro  n
    induction n with
    | zero => intro x2 G0 hw; exact hw.elim
    | succ n ih =>
      intro x2 G0 hw
      rw [w_X8_chooseAgain_h20] at hw
      refine aw_iloadn C dX8_chooseAgain_20 rfl ?_
      refine aw_if_lt C dX8_chooseAgain_21 47 (by decide) hw (fun hc21 hw => ?_) (fun hc21 hw => ?_)
      · exact aw_return C hr dX8_chooseAgain_47 ⟨rfl, hw⟩
      · refine aw_aloadn C dX8_chooseAgain_24 rfl ?_
        refine aw_getR (r := (t + 3)) C dX8_chooseAgain_25 kcX8 hT.1 1 (by decide) rfl mF_X8_20 ?_
        refine aw_iloadn C dX8_chooseAgain_28 rfl ?_
        refine aw_callV C dX8_chooseAgain_29 (t_at hT.2.2 (Nat.le_of_ble_eq_true rfl) x2 _) mM_X8_37 bX6_at hT.2.2.1 rfl rfl ⟨Nat.le_of_ble_eq_true rfl, Nat.le_of_ble_eq_true rfl, Nat.zero_le _, Nat.zero_le _⟩ _ rfl (Nat.le_of_ble_eq_true rfl) (fun r29 G29x hq => ?_)
        obtain ⟨rfl, rfl⟩ := hq
        refine aw_iconst (v := (-1)) C dX8_chooseAgain_32 (by decide) ?_
        refine aw_ic_eq C dX8_chooseAgain_33 41 (by decide) hw (fun hc33 hw => ?_) (fun hc33 hw => ?_)
        · exact aw_msk [true, false, true] (h41 _ ih x2 _ hw)
        · refine aw_aloadn C dX8_chooseAgain_36 rfl ?_
          refine aw_iloadn C dX8_chooseAgain_37 rfl ?_
          refine aw_putI C dX8_chooseAgain_38 kcX8 hT.1 3 (by decide) rfl mF_X8_34 rfl rfl rfl hw (fun G1 hw => ?_)
          exact aw_msk [true, false, true] (h41 _ ih x2 _ hw)
  unfold w_X8_chooseAgain at hw
  show aw p l e { frames := 1, cells := 0, slots := 0, locals := 21 } s m args below meth c 3 D tA A (MQ below (QC0 D tA ad A sh (fun r G' => r = none ∧ K G')) args s 0 0 A) 0 0 ad 0 [some (.ref t), some (.int p0), none] [] sh G0
  refine aw_aloadn C dX8_chooseAgain_0 rfl ?_
  refine aw_getR (r := (t + 3)) C dX8_chooseAgain_1 kcX8 hT.1 1 (by decide) rfl mF_X8_20 ?_
  refine aw_iloadn C dX8_chooseAgain_4 rfl ?_
  refine aw_callV C dX8_chooseAgain_5 (t_at hT.2.2 (Nat.le_of_ble_eq_true rfl) p0 _) mM_X8_37 bX6_at hT.2.2.1 rfl rfl ⟨Nat.le_of_ble_eq_true rfl, Nat.le_of_ble_eq_true rfl, Nat.zero_le _, Nat.zero_le _⟩ _ rfl (Nat.le_of_ble_eq_true rfl) (fun r5 G5x hq => ?_)
  obtain ⟨rfl, rfl⟩ := hq
  refine aw_iconst (v := (-1)) C dX8_chooseAgain_8 (by decide) ?_
  refine aw_ic_eq C dX8_chooseAgain_9 18 (by decide) hw (fun hc9 hw => ?_) (fun hc9 hw => ?_)
  · refine aw_iconst (v := 3) C dX8_chooseAgain_18 (by decide) ?_
    refine aw_istoren C dX8_chooseAgain_19 (by decide) rfl ?_
    obtain ⟨n0, hw⟩ := hw
    exact aw_msk [true, false, true] (h20 n0 3 _ hw)
  · refine aw_aloadn C dX8_chooseAgain_12 rfl ?_
    refine aw_iloadn C dX8_chooseAgain_13 rfl ?_
    refine aw_putI C dX8_chooseAgain_14 kcX8 hT.1 3 (by decide) rfl mF_X8_34 rfl rfl rfl hw (fun G2 hw => ?_)
    exact aw_return C hr dX8_chooseAgain_17 ⟨rfl, hw⟩
