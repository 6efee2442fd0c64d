def w_X11_thrown (K : Int32 → Gt → Prop) (G0 : Gt) : Prop :=
  K (G0 46 71) G0
def w_X11_in_j15 (K : Int32 → Gt → Prop) (y0 : Int32) (G0 : Gt) : Prop :=
  bz y0 ∧ K y0 G0
def w_X11_in_j14 (K : Int32 → Gt → Prop)  (G0 : Gt) : Prop :=
  w_X11_in_j15 K 0 G0
def w_X11_in (K : Int32 → Gt → Prop) (p0 : Int32) (p1 : Int32) (p2 : Int32) (G0 : Gt) : Prop :=
  pif (p0 < p1) (
    w_X11_in_j14 K G0) (
    pif (p2 < p0) (
      w_X11_in_j14 K G0) (
      w_X11_in_j15 K 1 G0))
def w_X11_partsOf_j184 (K : Int32 → Gt → Prop)  (G0 : Gt) : Prop :=
  K 310 G0
def w_X11_partsOf_j225 (K : Int32 → Gt → Prop)  (G0 : Gt) : Prop :=
  K 100 G0
def w_X11_partsOf_j196 (K : Int32 → Gt → Prop)  (G0 : Gt) : Prop :=
  K 210 G0
def w_X11_partsOf_j200 (K : Int32 → Gt → Prop)  (G0 : Gt) : Prop :=
  K 200 G0
def w_X11_partsOf_j223 (K : Int32 → Gt → Prop)  (G0 : Gt) : Prop :=
  K 0 G0
def w_X11_partsOf_j228 (K : Int32 → Gt → Prop)  (G0 : Gt) : Prop :=
  K 110 G0
def w_X11_partsOf (K : Int32 → Gt → Prop) (p0 : Int32) (G0 : Gt) : Prop :=
  pif (p0 = 0) (
    K 500 G0) (
  pif (p0 = 1) (
    K 300 G0) (
  pif (p0 = 2) (
    w_X11_partsOf_j184 K G0) (
  pif (p0 = 3) (
    w_X11_partsOf_j184 K G0) (
  pif (p0 = 10) (
    K 111 G0) (
  pif (p0 = 12) (
    w_X11_partsOf_j225 K G0) (
  pif (p0 = 13) (
    w_X11_partsOf_j196 K G0) (
  pif (p0 = 14) (
    w_X11_partsOf_j196 K G0) (
  pif (p0 = 15) (
    w_X11_partsOf_j200 K G0) (
  pif (p0 = 16) (
    K 310 G0) (
  pif (p0 = 18) (
    K 488 G0) (
  pif (p0 = 19) (
    w_X11_partsOf_j225 K G0) (
  pif (p0 = 20) (
    K 311 G0) (
  pif (p0 = 22) (
    w_X11_partsOf_j225 K G0) (
  pif (p0 = 23) (
    w_X11_partsOf_j225 K G0) (
  pif (p0 = 24) (
    w_X11_partsOf_j225 K G0) (
  pif (p0 = 25) (
    w_X11_partsOf_j225 K G0) (
  pif (p0 = 26) (
    K 211 G0) (
  pif (p0 = 27) (
    w_X11_partsOf_j200 K G0) (
  pif (p0 = 28) (
    w_X11_partsOf_j196 K G0) (
  pif (p0 = 29) (
    w_X11_partsOf_j225 K G0) (
  pif (p0 = 30) (
    w_X11_partsOf_j223 K G0) (
  pif (p0 = 31) (
    w_X11_partsOf_j225 K G0) (
  pif (p0 = 32) (
    w_X11_partsOf_j223 K G0) (
  pif (p0 = 33) (
    w_X11_partsOf_j223 K G0) (
  pif (p0 = 34) (
    w_X11_partsOf_j223 K G0) (
  pif (p0 = 35) (
    w_X11_partsOf_j225 K G0) (
  pif (p0 = 36) (
    w_X11_partsOf_j225 K G0) (
  pif (p0 = 37) (
    w_X11_partsOf_j225 K G0) (
  pif (p0 = 38) (
    K 470 G0) (
  pif (p0 = 39) (
    K 600 G0) (
    w_X11_partsOf_j228 K G0)))))))))))))))))))))))))))))))
def w_X11_isNode (K : Int32 → Gt → Prop) (p0 : Int32) (G0 : Gt) : Prop :=
  w_X11_in (fun v2 G1 =>
    bz v2 ∧ K v2 G1) p0 0 ((G0 46 0) - 1) G0
def w_X11_isFew (K : Int32 → Gt → Prop) (p0 : Int32) (G0 : Gt) : Prop :=
  w_X11_in (fun v2 G1 =>
    bz v2 ∧ K v2 G1) p0 0 3 G0
def w_X11_isName (K : Int32 → Gt → Prop) (p0 : Int32) (G0 : Gt) : Prop :=
  w_X11_in (fun v2 G1 =>
    bz v2 ∧ K v2 G1) p0 0 7 G0
def w_X11_isSlot (K : Int32 → Gt → Prop) (p0 : Int32) (G0 : Gt) : Prop :=
  w_X11_in (fun v2 G1 =>
    bz v2 ∧ K v2 G1) p0 0 5 G0
def w_X11_sizeOf_j26 (K : Int32 → Gt → Prop) (y0 : Int32) (G0 : Gt) : Prop :=
  K y0 G0
def w_X11_sizeOf_j16 (K : Int32 → Gt → Prop) (x2 : Int32) (G0 : Gt) : Prop :=
  vp_in x2 120 ∧
  w_X11_sizeOf_j26 K (G0 51 (x2 : Int32).toNatClampNeg) G0
def w_X11_sizeOf_j25 (K : Int32 → Gt → Prop)  (G0 : Gt) : Prop :=
  w_X11_sizeOf_j26 K 0 G0
def w_X11_sizeOf (K : Int32 → Gt → Prop) (p0 : Int32) (p1 : Int32) (G0 : Gt) : Prop :=
  pif (p0 = 1) (
    w_X11_sizeOf_j16 K p1 G0) (
    pif (p0 = 8) (
      pif (p1 = (-1)) (
        w_X11_sizeOf_j25 K G0) (
        w_X11_sizeOf_j16 K p1 G0)) (
      w_X11_sizeOf_j25 K G0))
def w_X11_goes_j41 (K : Int32 → Gt → Prop) (y0 : Int32) (G0 : Gt) : Prop :=
  bz y0 ∧ K y0 G0
def w_X11_goes_j26 (K : Int32 → Gt → Prop) (y1 : Int32) (G0 : Gt) : Prop :=
  pt (gu G0 46 71 y1) fun G1 =>
  pif ((G1 46 71) = 0) (
    w_X11_goes_j41 K 1 G1) (
    w_X11_goes_j41 K 0 G1)
def w_X11_goes (K : Int32 → Gt → Prop) (p0 : Int32) (p1 : Int32) (p2 : Int32) (G0 : Gt) : Prop :=
  pif (p0 = 0) (
    w_X11_goes_j26 K 1 G0) (
    pif (p1 = 0) (
      w_X11_goes_j26 K 2 G0) (
      pif (p2 = 0) (
        w_X11_goes_j26 K 3 G0) (
        w_X11_goes_j26 K 0 G0)))
def w_X11_define_j77 (K : Int32 → Gt → Prop) (x1 : Int32) (x2 : Int32) (x3 : Int32) (x4 : Int32) (y1 : Int32) (y2 : Int32) (y3 : Int32) (G0 : Gt) : Prop :=
  w_X11_goes (fun v6 G5 =>
    pif (v6 = 0) (
      K 0 G5) (
      vp_in x1 6 ∧
      vp_in x1 6 ∧
      pt (gu G5 53 (x1 : Int32).toNatClampNeg x2) fun G7 =>
      vp_in x1 6 ∧
      pt (gu G7 54 (x1 : Int32).toNatClampNeg x3) fun G8 =>
      vp_in x1 6 ∧
      pt (gu G8 55 (x1 : Int32).toNatClampNeg x4) fun G9 =>
      K (G5 54 (x1 : Int32).toNatClampNeg) G9)) y1 y2 y3 G0
def w_X11_define_j65 (K : Int32 → Gt → Prop) (x1 : Int32) (x2 : Int32) (x3 : Int32) (x4 : Int32) (y1 : Int32) (y2 : Int32) (G0 : Gt) : Prop :=
  pif ((G0 46 52) = 0) (
    w_X11_define_j77 K x1 x2 x3 x4 y1 y2 1 G0) (
    w_X11_define_j77 K x1 x2 x3 x4 y1 y2 0 G0)
def w_X11_define_j64 (K : Int32 → Gt → Prop) (x1 : Int32) (x2 : Int32) (x3 : Int32) (x4 : Int32) (y1 : Int32) (G0 : Gt) : Prop :=
  w_X11_define_j65 K x1 x2 x3 x4 y1 0 G0
def w_X11_define_j60 (K : Int32 → Gt → Prop) (x1 : Int32) (x2 : Int32) (x3 : Int32) (x4 : Int32) (y1 : Int32) (G0 : Gt) : Prop :=
  w_X11_define_j65 K x1 x2 x3 x4 y1 1 G0
def w_X11_define_j35 (K : Int32 → Gt → Prop) (x1 : Int32) (x2 : Int32) (x3 : Int32) (x4 : Int32) (y0 : Int32) (G0 : Gt) : Prop :=
  w_X11_in (fun v4 G3 =>
    pif (v4 = 0) (
      w_X11_define_j64 K x1 x2 x3 x4 y0 G3) (
      pif (x4 = (-1)) (
        w_X11_define_j60 K x1 x2 x3 x4 y0 G3) (
        pif (x2 = 2) (
          w_X11_define_j60 K x1 x2 x3 x4 y0 G3) (
          w_X11_define_j64 K x1 x2 x3 x4 y0 G3)))) x2 0 2 G0
def w_X11_define_j34 (K : Int32 → Gt → Prop) (x1 : Int32) (x2 : Int32) (x3 : Int32) (x4 : Int32) (G0 : Gt) : Prop :=
  w_X11_define_j35 K x1 x2 x3 x4 0 G0
def w_X11_define_j30 (K : Int32 → Gt → Prop) (x1 : Int32) (x2 : Int32) (x3 : Int32) (x4 : Int32) (G0 : Gt) : Prop :=
  w_X11_define_j35 K x1 x2 x3 x4 1 G0
def w_X11_define (K : Int32 → Gt → Prop) (p0 : Int32) (p1 : Int32) (p2 : Int32) (p3 : Int32) (G0 : Gt) : Prop :=
  w_X11_isSlot (fun v2 G1 =>
    pif (v2 = 0) (
      w_X11_define_j34 K p0 p1 p2 p3 G1) (
      w_X11_isNode (fun v11 G10 =>
        pif (v11 = 0) (
          w_X11_define_j34 K p0 p1 p2 p3 G10) (
          pif (p3 = (-1)) (
            w_X11_define_j30 K p0 p1 p2 p3 G10) (
            w_X11_isNode (fun v13 G12 =>
              pif (v13 = 0) (
                w_X11_define_j34 K p0 p1 p2 p3 G12) (
                w_X11_define_j30 K p0 p1 p2 p3 G12)) p3 G10))) p2 G1)) p0 G0
def w_X11_size_j24 (K : Int32 → Gt → Prop) (y0 : Int32) (G0 : Gt) : Prop :=
  K y0 G0
def w_X11_size (K : Int32 → Gt → Prop) (p0 : Int32) (G0 : Gt) : Prop :=
  w_X11_isNode (fun v2 G1 =>
    w_X11_goes (fun v4 G3 =>
      pif (v4 = 0) (
        w_X11_size_j24 K 0 G3) (
        vp_in p0 120 ∧
        w_X11_size_j24 K (G3 51 (p0 : Int32).toNatClampNeg) G3)) v2 1 1 G1) p0 G0
def w_X11_setOption_j27 (K : Int32 → Gt → Prop) (x1 : Int32) (x2 : Int32) (y1 : Int32) (y2 : Int32) (y3 : Int32) (G0 : Gt) : Prop :=
  w_X11_goes (fun v6 G5 =>
    pif (v6 = 0) (
      K 0 G5) (
      vp_in x1 4 ∧
      vp_in x1 4 ∧
      pt (gu G5 56 (x1 : Int32).toNatClampNeg x2) fun G7 =>
      K (G5 56 (x1 : Int32).toNatClampNeg) G7)) y1 y2 y3 G0
def w_X11_setOption (K : Int32 → Gt → Prop) (p0 : Int32) (p1 : Int32) (G0 : Gt) : Prop :=
  w_X11_isFew (fun v2 G1 =>
    w_X11_in (fun v4 G3 =>
      pif ((G3 46 52) = 0) (
        w_X11_setOption_j27 K p0 p1 v2 v4 1 G3) (
        w_X11_setOption_j27 K p0 p1 v2 v4 0 G3)) p1 (-9999) 9999 G1) p0 G0
def w_X11_setBudget (K : Int32 → Gt → Prop) (p0 : Int32) (G0 : Gt) : Prop :=
  w_X11_in (fun v2 G1 =>
    w_X11_goes (fun v4 G3 =>
      pif (v4 = 0) (
        K 0 G3) (
        pt (gu G3 46 13 p0) fun G5 =>
        K (G3 46 13) G5)) v2 1 1 G1) p0 1 600 G0
def w_X11_isBuffer_j14 (K : Int32 → Gt → Prop) (y0 : Int32) (G0 : Gt) : Prop :=
  bz y0 ∧ K y0 G0
def w_X11_isBuffer_j9 (K : Int32 → Gt → Prop)  (G0 : Gt) : Prop :=
  w_X11_isBuffer_j14 K 1 G0
def w_X11_isBuffer (K : Int32 → Gt → Prop) (p0 : Int32) (G0 : Gt) : Prop :=
  pif (p0 = 0) (
    w_X11_isBuffer_j9 K G0) (
    pif (p0 = 1) (
      w_X11_isBuffer_j9 K G0) (
      w_X11_isBuffer_j14 K 0 G0))
def w_X11_keptAt_j122 (K : Int32 → Gt → Prop) (y0 : Int32) (G0 : Gt) : Prop :=
  K y0 G0
def w_X11_keptAt (K : Int32 → Gt → Prop) (p0 : Int32) (G0 : Gt) : Prop :=
  pif (80 ≤ p0) (
    pif (82 ≤ p0) (
      pif (90 ≤ p0) (
        pif (92 ≤ p0) (
          pif (96 ≤ p0) (
            pif (102 ≤ p0) (
              pif (p0 = 102) (
                w_X11_keptAt_j122 K (G0 46 12) G0) (
                w_X11_keptAt_j122 K (G0 46 14) G0)) (
              vp_in (p0 - 96) 6 ∧
              w_X11_keptAt_j122 K (G0 54 ((p0 - 96) : Int32).toNatClampNeg) G0)) (
            vp_in (p0 - 92) 4 ∧
            w_X11_keptAt_j122 K (G0 56 ((p0 - 92) : Int32).toNatClampNeg) G0)) (
          vp_in (p0 - 90) 2 ∧
          w_X11_keptAt_j122 K (G0 61 ((p0 - 90) : Int32).toNatClampNeg) G0)) (
        vp_in (p0 - 82) 8 ∧
        w_X11_keptAt_j122 K (G0 60 ((p0 - 82) : Int32).toNatClampNeg) G0)) (
      vp_in (p0 - 80) 2 ∧
      w_X11_keptAt_j122 K (G0 59 ((p0 - 80) : Int32).toNatClampNeg) G0)) (
    vp_in p0 80 ∧
    w_X11_keptAt_j122 K (G0 58 (p0 : Int32).toNatClampNeg) G0)
def w_X11_opens_h12 (K : Int32 → Gt → Prop) : Nat → Int32 → Gt → Prop
  | 0, _, _ => False
  | n + 1, x2, G0 =>
    pif (8 ≤ x2) (
      pt (gu G0 46 29 ((G0 46 29) + 1)) fun G2 =>
      K ((G2 46 29) - 1) G2) (
      vp_in ((8 * (G0 46 29)) + x2) 4960 ∧
      pt (gu G0 72 (((8 * (G0 46 29)) + x2) : Int32).toNatClampNeg (-100000)) fun G3 =>
      (w_X11_opens_h12 K n) (x2 + 1) G3)
def w_X11_opens (K : Int32 → Gt → Prop) (p0 : Int32) (G0 : Gt) : Prop :=
  vp_in (G0 46 29) 620 ∧
  pt (gu G0 71 ((G0 46 29) : Int32).toNatClampNeg p0) fun G1 =>
  ∃ i, w_X11_opens_h12 K i 0 G1
def w_X11_lays (K : Int32 → Gt → Prop) (p0 : Int32) (p1 : Int32) (p2 : Int32) (p3 : Int32) (G0 : Gt) : Prop :=
  vp_in (G0 46 21) 1220 ∧
  pt (gu G0 64 ((G0 46 21) : Int32).toNatClampNeg p0) fun G1 =>
  vp_in (G1 46 21) 1220 ∧
  pt (gu G1 65 ((G1 46 21) : Int32).toNatClampNeg p1) fun G2 =>
  vp_in (G2 46 21) 1220 ∧
  pt (gu G2 66 ((G2 46 21) : Int32).toNatClampNeg p2) fun G3 =>
  vp_in (G3 46 21) 1220 ∧
  pt (gu G3 67 ((G3 46 21) : Int32).toNatClampNeg p3) fun G4 =>
  pt (gu G4 46 21 ((G4 46 21) + 1)) fun G5 =>
  K ((G5 46 21) - 1) G5
def w_X11_asks (K : Gt → Prop) (p0 : Int32) (p1 : Int32) (p2 : Int32) (G0 : Gt) : Prop :=
  pt (gu G0 46 54 p0) fun G1 =>
  pt (gu G1 46 56 p1) fun G2 =>
  pt (gu G2 46 55 p2) fun G3 =>
  pt (gu G3 46 41 0) fun G4 =>
  K G4
def w_X11_restores_h128 (K : Gt → Prop) : Nat → Int32 → Gt → Prop
  | 0, _, _ => False
  | n + 1, x1, G0 =>
    pif (6 ≤ x1) (
      vp_in 102 112 ∧
      pt (gu G0 46 12 (G0 62 (102 : Int32).toNatClampNeg)) fun G1 =>
      vp_in 103 112 ∧
      pt (gu G1 46 14 (G1 62 (103 : Int32).toNatClampNeg)) fun G2 =>
      K G2) (
      vp_in (96 + x1) 112 ∧
      vp_in x1 6 ∧
      pt (gu G0 54 (x1 : Int32).toNatClampNeg (G0 62 ((96 + x1) : Int32).toNatClampNeg)) fun G3 =>
      (w_X11_restores_h128 K n) (x1 + 1) G3)
def w_X11_restores_h100 (K : Gt → Prop) : Nat → Int32 → Gt → Prop
  | 0, _, _ => False
  | n + 1, x1, G0 =>
    pif (4 ≤ x1) (
      ∃ i, w_X11_restores_h128 K i 0 G0) (
      vp_in (92 + x1) 112 ∧
      vp_in x1 4 ∧
      pt (gu G0 56 (x1 : Int32).toNatClampNeg (G0 62 ((92 + x1) : Int32).toNatClampNeg)) fun G4 =>
      (w_X11_restores_h100 K n) (x1 + 1) G4)
def w_X11_restores_h71 (K : Gt → Prop) : Nat → Int32 → Gt → Prop
  | 0, _, _ => False
  | n + 1, x1, G0 =>
    pif (8 ≤ x1) (
      ∃ i, w_X11_restores_h100 K i 0 G0) (
      vp_in (82 + x1) 112 ∧
      vp_in x1 8 ∧
      pt (gu G0 60 (x1 : Int32).toNatClampNeg (G0 62 ((82 + x1) : Int32).toNatClampNeg)) fun G5 =>
      (w_X11_restores_h71 K n) (x1 + 1) G5)
def w_X11_restores_h28 (K : Gt → Prop) : Nat → Int32 → Gt → Prop
  | 0, _, _ => False
  | n + 1, x1, G0 =>
    pif (2 ≤ x1) (
      ∃ i, w_X11_restores_h71 K i 0 G0) (
      vp_in (80 + x1) 112 ∧
      vp_in x1 2 ∧
      pt (gu G0 59 (x1 : Int32).toNatClampNeg (G0 62 ((80 + x1) : Int32).toNatClampNeg)) fun G6 =>
      vp_in (90 + x1) 112 ∧
      vp_in x1 2 ∧
      pt (gu G6 61 (x1 : Int32).toNatClampNeg (G6 62 ((90 + x1) : Int32).toNatClampNeg)) fun G7 =>
      (w_X11_restores_h28 K n) (x1 + 1) G7)
def w_X11_restores_h2 (K : Gt → Prop) : Nat → Int32 → Gt → Prop
  | 0, _, _ => False
  | n + 1, x1, G0 =>
    pif (80 ≤ x1) (
      ∃ i, w_X11_restores_h28 K i 0 G0) (
      vp_in x1 112 ∧
      vp_in x1 80 ∧
      pt (gu G0 58 (x1 : Int32).toNatClampNeg (G0 62 (x1 : Int32).toNatClampNeg)) fun G8 =>
      (w_X11_restores_h2 K n) (x1 + 1) G8)
def w_X11_restores (K : Gt → Prop) (G0 : Gt) : Prop :=
  ∃ i, w_X11_restores_h2 K i 0 G0
def w_X11_ends (K : Gt → Prop) (p0 : Int32) (p1 : Int32) (G0 : Gt) : Prop :=
  pt (gu G0 46 41 1) fun G1 =>
  pt (gu G1 46 42 p1) fun G2 =>
  vp_in p0 1220 ∧
  pt (gu G2 46 57 (G2 65 (p0 : Int32).toNatClampNeg)) fun G3 =>
  K G3
def w_X11_cellOf_j48 (K : Int32 → Gt → Prop) (y0 : Int32) (G0 : Gt) : Prop :=
  K y0 G0
def w_X11_cellOf_j33 (K : Int32 → Gt → Prop) (x2 : Int32) (x3 : Int32) (G0 : Gt) : Prop :=
  pif (x3 = (-1)) (
    w_X11_cellOf_j48 K (-1) G0) (
    w_X11_cellOf_j48 K ((8 * x3) + x2) G0)
def w_X11_cellOf_h2 (K : Int32 → Gt → Prop) : Nat → Int32 → Int32 → Gt → Prop
  | 0, _, _, _ => False
  | n + 1, x2, x3, G0 =>
    pif (x3 = (-1)) (
      w_X11_cellOf_j33 K x2 x3 G0) (
      vp_in ((8 * x3) + x2) 4960 ∧
      pif ((G0 72 (((8 * x3) + x2) : Int32).toNatClampNeg) = (-100000)) (
        vp_in x3 620 ∧
        (w_X11_cellOf_h2 K n) x2 (G0 71 (x3 : Int32).toNatClampNeg) G0) (
        w_X11_cellOf_j33 K x2 x3 G0))
def w_X11_cellOf (K : Int32 → Gt → Prop) (p0 : Int32) (p1 : Int32) (G0 : Gt) : Prop :=
  ∃ i, w_X11_cellOf_h2 K i p1 p0 G0
def w_X11_fails (K : Gt → Prop) (p0 : Int32) (p1 : Int32) (G0 : Gt) : Prop :=
  pt (gu G0 46 41 2) fun G1 =>
  pt (gu G1 46 42 p1) fun G2 =>
  pt (gu G2 46 44 (-100000)) fun G3 =>
  vp_in p0 1220 ∧
  pt (gu G3 46 45 (G3 64 (p0 : Int32).toNatClampNeg)) fun G4 =>
  pt (gu G4 46 46 (G4 46 49)) fun G5 =>
  vp_in p0 1220 ∧
  pt (gu G5 46 57 (G5 65 (p0 : Int32).toNatClampNeg)) fun G6 =>
  K G6
def w_X11_parts (K : Gt → Prop) (p0 : Int32) (p1 : Int32) (p2 : Int32) (G0 : Gt) : Prop :=
  vp_in p1 1220 ∧
  pt (gu G0 67 (p1 : Int32).toNatClampNeg p2) fun G1 =>
  vp_in p1 1220 ∧
  w_X11_asks (fun G2 =>
    K G2) p0 p1 (G1 66 (p1 : Int32).toNatClampNeg) G1
def w_X11_hasLoop_j73 (K : Int32 → Gt → Prop) (x4 : Int32) (G0 : Gt) : Prop :=
  bz x4 ∧ K x4 G0
def w_X11_hasLoop_j61 (K : Int32 → Gt → Prop) (rec10 : Int32 → Int32 → Int32 → Gt → Prop) (x2 : Int32) (x3 : Int32) (y0 : Int32) (G0 : Gt) : Prop :=
  vp_in x3 1220 ∧
  rec10 x2 (G0 65 (x3 : Int32).toNatClampNeg) y0 G0
def w_X11_hasLoop_j60 (K : Int32 → Gt → Prop) (rec10 : Int32 → Int32 → Int32 → Gt → Prop) (x2 : Int32) (x3 : Int32) (G0 : Gt) : Prop :=
  w_X11_hasLoop_j61 K rec10 x2 x3 0 G0
def w_X11_hasLoop_h10 (K : Int32 → Gt → Prop) : Nat → Int32 → Int32 → Int32 → Gt → Prop
  | 0, _, _, _, _ => False
  | n + 1, x2, x3, x4, G0 =>
    vp_in x3 1220 ∧
    pif ((G0 64 (x3 : Int32).toNatClampNeg) = (-1)) (
      w_X11_hasLoop_j73 K x4 G0) (
      pif (x4 = 0) (
        vp_in x3 1220 ∧
        vp_in (G0 64 (x3 : Int32).toNatClampNeg) 120 ∧
        pif ((G0 47 ((G0 64 (x3 : Int32).toNatClampNeg) : Int32).toNatClampNeg) = 13) (
          vp_in x3 1220 ∧
          vp_in (G0 64 (x3 : Int32).toNatClampNeg) 120 ∧
          pif ((G0 48 ((G0 64 (x3 : Int32).toNatClampNeg) : Int32).toNatClampNeg) = x2) (
            w_X11_hasLoop_j61 K (fun z0 z1 z2 z3 => w_X11_hasLoop_h10 K n z0 z1 z2 z3) x2 x3 1 G0) (
            w_X11_hasLoop_j60 K (fun z0 z1 z2 z3 => w_X11_hasLoop_h10 K n z0 z1 z2 z3) x2 x3 G0)) (
          w_X11_hasLoop_j60 K (fun z0 z1 z2 z3 => w_X11_hasLoop_h10 K n z0 z1 z2 z3) x2 x3 G0)) (
        w_X11_hasLoop_j73 K x4 G0))
def w_X11_hasLoop (K : Int32 → Gt → Prop) (p0 : Int32) (p1 : Int32) (G0 : Gt) : Prop :=
  vp_in p0 1220 ∧
  ∃ i, w_X11_hasLoop_h10 K i p1 (G0 65 (p0 : Int32).toNatClampNeg) 0 G0
def w_X11_leaves (K : Gt → Prop) (p0 : Int32) (p1 : Int32) (p2 : Int32) (p3 : Int32) (G0 : Gt) : Prop :=
  pt (gu G0 46 41 p1) fun G1 =>
  pt (gu G1 46 43 p2) fun G2 =>
  pt (gu G2 46 42 p3) fun G3 =>
  vp_in p0 1220 ∧
  pt (gu G3 46 57 (G3 65 (p0 : Int32).toNatClampNeg)) fun G4 =>
  K G4
def w_X11_calls (K : Int32 → Gt → Prop) (p0 : Int32) (G0 : Gt) : Prop :=
  pif ((G0 46 50) = 12) (
    w_X11_fails (fun G4 =>
      K 0 G4) p0 (-5) G0) (
    vp_in p0 1220 ∧
    pt (gu G0 70 (p0 : Int32).toNatClampNeg (G0 46 49)) fun G1 =>
    pt (gu G1 46 49 p0) fun G2 =>
    pt (gu G2 46 50 ((G2 46 50) + 1)) fun G3 =>
    K 1 G3)
def w_X11_reloads_j32 (K : Gt → Prop)  (G0 : Gt) : Prop :=
  K G0
def w_X11_reloads (K : Gt → Prop) (p0 : Int32) (p1 : Int32) (p2 : Int32) (G0 : Gt) : Prop :=
  vp_in p1 6 ∧
  pif ((G0 54 (p1 : Int32).toNatClampNeg) = (-1)) (
    w_X11_fails (fun G3 =>
      w_X11_reloads_j32 K G3) p0 (-1) G0) (
    vp_in p1 6 ∧
    pt (gu G0 54 (p1 : Int32).toNatClampNeg p2) fun G1 =>
    w_X11_ends (fun G2 =>
      w_X11_reloads_j32 K G2) p0 0 G1)
def w_X11_place (K : Int32 → Gt → Prop) (G0 : Gt) : Prop :=
  vp_in (G0 46 14) 2 ∧
  vp_in ((4 * (G0 46 14)) + (G0 61 ((G0 46 14) : Int32).toNatClampNeg)) 8 ∧
  K (G0 60 (((4 * (G0 46 14)) + (G0 61 ((G0 46 14) : Int32).toNatClampNeg)) : Int32).toNatClampNeg) G0
def w_X11_erases_j174 (K : Int32 → Gt → Prop) (rec90 : Int32 → Int32 → Int32 → Gt → Prop) (x1 : Int32) (x2 : Int32) (x3 : Int32) (y1 : Int32) (y2 : Int32) (G0 : Gt) : Prop :=
  vp_in y1 8 ∧
  pt (gu G0 60 (y1 : Int32).toNatClampNeg y2) fun G5 =>
  rec90 x1 x2 (x3 + 1) G5
def w_X11_erases_j167 (K : Int32 → Gt → Prop) (rec90 : Int32 → Int32 → Int32 → Gt → Prop) (x1 : Int32) (x2 : Int32) (x3 : Int32) (x4 : Int32) (y1 : Int32) (G0 : Gt) : Prop :=
  vp_in x4 8 ∧
  w_X11_erases_j174 K rec90 x1 x2 x3 y1 (G0 60 (x4 : Int32).toNatClampNeg) G0
def w_X11_erases_j129 (K : Int32 → Gt → Prop) (rec90 : Int32 → Int32 → Int32 → Gt → Prop) (x1 : Int32) (x2 : Int32) (x3 : Int32) (x4 : Int32) (y1 : Int32) (y2 : Int32) (y3 : Int32) (G0 : Gt) : Prop :=
  vp_in y1 8 ∧
  pt (gu G0 60 (y1 : Int32).toNatClampNeg (y2 - y3)) fun G4 =>
  vp_in x4 8 ∧
  pif ((G4 60 (x4 : Int32).toNatClampNeg) = (x1 - 1)) (
    vp_in (G4 46 14) 2 ∧
    pif (x3 = (G4 61 ((G4 46 14) : Int32).toNatClampNeg)) (
      w_X11_erases_j167 K rec90 x1 x2 x3 x4 x4 G4) (
      w_X11_erases_j174 K rec90 x1 x2 x3 x4 (-1) G4)) (
    w_X11_erases_j167 K rec90 x1 x2 x3 x4 x4 G4)
def w_X11_erases_h90 (K : Int32 → Gt → Prop) : Nat → Int32 → Int32 → Int32 → Gt → Prop
  | 0, _, _, _, _ => False
  | n + 1, x1, x2, x3, G0 =>
    pif (4 ≤ x3) (
      K x2 G0) (
      vp_in ((4 * (G0 46 14)) + x3) 8 ∧
      vp_in ((4 * (G0 46 14)) + x3) 8 ∧
      pif ((G0 60 (((4 * (G0 46 14)) + x3) : Int32).toNatClampNeg) < x1) (
        w_X11_erases_j129 K (fun z0 z1 z2 z3 => w_X11_erases_h90 K n z0 z1 z2 z3) x1 x2 x3 ((4 * (G0 46 14)) + x3) ((4 * (G0 46 14)) + x3) (G0 60 (((4 * (G0 46 14)) + x3) : Int32).toNatClampNeg) 0 G0) (
        w_X11_erases_j129 K (fun z0 z1 z2 z3 => w_X11_erases_h90 K n z0 z1 z2 z3) x1 x2 x3 ((4 * (G0 46 14)) + x3) ((4 * (G0 46 14)) + x3) (G0 60 (((4 * (G0 46 14)) + x3) : Int32).toNatClampNeg) 1 G0))
def w_X11_erases_h39 (K : Int32 → Gt → Prop) : Nat → Int32 → Int32 → Int32 → Gt → Prop
  | 0, _, _, _, _ => False
  | n + 1, x1, x2, x3, G0 =>
    vp_in (G0 46 14) 2 ∧
    pif ((G0 59 ((G0 46 14) : Int32).toNatClampNeg) ≤ x3) (
      ∃ i, w_X11_erases_h90 K i x1 x2 0 G0) (
      vp_in (((40 * (G0 46 14)) + x3) + 1) 80 ∧
      vp_in ((40 * (G0 46 14)) + x3) 80 ∧
      pt (gu G0 58 (((40 * (G0 46 14)) + x3) : Int32).toNatClampNeg (G0 58 ((((40 * (G0 46 14)) + x3) + 1) : Int32).toNatClampNeg)) fun G6 =>
      (w_X11_erases_h39 K n) x1 x2 (x3 + 1) G6)
def w_X11_erases (K : Int32 → Gt → Prop) (G0 : Gt) : Prop :=
  w_X11_place (fun v2 G1 =>
    vp_in (((40 * (G1 46 14)) + v2) - 1) 80 ∧
    vp_in (G1 46 14) 2 ∧
    vp_in (G1 46 14) 2 ∧
    pt (gu G1 59 ((G1 46 14) : Int32).toNatClampNeg ((G1 59 ((G1 46 14) : Int32).toNatClampNeg) - 1)) fun G3 =>
    ∃ i, w_X11_erases_h39 K i v2 (G1 58 ((((40 * (G1 46 14)) + v2) - 1) : Int32).toNatClampNeg) (v2 - 1) G3) G0
def w_X11_letterHere_j37 (K : Int32 → Gt → Prop) (y0 : Int32) (G0 : Gt) : Prop :=
  K y0 G0
def w_X11_letterHere (K : Int32 → Gt → Prop) (G0 : Gt) : Prop :=
  w_X11_place (fun v2 G1 =>
    vp_in (G1 46 14) 2 ∧
    pif ((G1 59 ((G1 46 14) : Int32).toNatClampNeg) ≤ v2) (
      w_X11_letterHere_j37 K (-1) G1) (
      w_X11_place (fun v4 G3 =>
        vp_in ((40 * (G1 46 14)) + v4) 80 ∧
        w_X11_letterHere_j37 K (G3 58 (((40 * (G1 46 14)) + v4) : Int32).toNatClampNeg) G3) G1)) G0
def w_X11_inOrder_j44 (K : Int32 → Gt → Prop) (rec5 : Int32 → Int32 → Gt → Prop) (rec11 : Int32 → Int32 → Int32 → Gt → Prop) (x2 : Int32) (x3 : Int32) (y0 : Int32) (G0 : Gt) : Prop :=
  rec11 y0 x2 (x3 + (-1)) G0
def w_X11_inOrder_h11 (K : Int32 → Gt → Prop) (rec5 : Int32 → Int32 → Gt → Prop) : Nat → Int32 → Int32 → Int32 → Gt → Prop
  | 0, _, _, _, _ => False
  | n + 1, x1, x2, x3, G0 =>
    pif (x3 < 0) (
      rec5 x1 (x2 + (-1)) G0) (
      vp_in ((4 * (G0 46 14)) + x3) 8 ∧
      pif ((G0 60 (((4 * (G0 46 14)) + x3) : Int32).toNatClampNeg) = x2) (
        w_X11_inOrder_j44 K rec5 (fun z0 z1 z2 z3 => w_X11_inOrder_h11 K rec5 n z0 z1 z2 z3) x2 x3 (((8 * x1) + x3) + 1) G0) (
        w_X11_inOrder_j44 K rec5 (fun z0 z1 z2 z3 => w_X11_inOrder_h11 K rec5 n z0 z1 z2 z3) x2 x3 x1 G0))
def w_X11_inOrder_h5 (K : Int32 → Gt → Prop) : Nat → Int32 → Int32 → Gt → Prop
  | 0, _, _, _ => False
  | n + 1, x1, x2, G0 =>
    pif (x2 < 0) (
      K x1 G0) (
      ∃ i, w_X11_inOrder_h11 K (fun z0 z1 z2 => w_X11_inOrder_h5 K n z0 z1 z2) i x1 x2 3 G0)
def w_X11_inOrder (K : Int32 → Gt → Prop) (G0 : Gt) : Prop :=
  ∃ i, w_X11_inOrder_h5 K i 0 40 G0
def w_X11_setsBack_j56 (K : Gt → Prop) (x2 : Int32) (x3 : Int32) (G0 : Gt) : Prop :=
  vp_in x2 2 ∧
  pt (gu G0 61 (x2 : Int32).toNatClampNeg x3) fun G1 =>
  K G1
def w_X11_setsBack_h36 (K : Gt → Prop) : Nat → Int32 → Int32 → Gt → Prop
  | 0, _, _, _ => False
  | n + 1, x2, x3, G0 =>
    vp_in ((4 * x2) + x3) 8 ∧
    pif ((G0 60 (((4 * x2) + x3) : Int32).toNatClampNeg) = (-1)) (
      (w_X11_setsBack_h36 K n) x2 (x3 + 1) G0) (
      w_X11_setsBack_j56 K x2 x3 G0)
def w_X11_setsBack (K : Gt → Prop) (p0 : Int32) (G0 : Gt) : Prop :=
  vp_in p0 1220 ∧
  vp_in p0 1220 ∧
  vp_in ((4 * ((G0 69 (p0 : Int32).toNatClampNeg) / 8)) + ((G0 69 (p0 : Int32).toNatClampNeg) - (G0 69 (p0 : Int32).toNatClampNeg) / 8 * 8)) 8 ∧
  pif ((G0 60 (((4 * ((G0 69 (p0 : Int32).toNatClampNeg) / 8)) + ((G0 69 (p0 : Int32).toNatClampNeg) - (G0 69 (p0 : Int32).toNatClampNeg) / 8 * 8)) : Int32).toNatClampNeg) = (-1)) (
    ∃ i, w_X11_setsBack_h36 K i ((G0 69 (p0 : Int32).toNatClampNeg) / 8) 0 G0) (
    w_X11_setsBack_j56 K ((G0 69 (p0 : Int32).toNatClampNeg) / 8) ((G0 69 (p0 : Int32).toNatClampNeg) - (G0 69 (p0 : Int32).toNatClampNeg) / 8 * 8) G0)
def w_X11_closes_j26 (K : Gt → Prop) (x1 : Int32) (G0 : Gt) : Prop :=
  pif (x1 = (G0 46 35)) (
    pt (gu G0 46 41 0) fun G4 =>
    pt (gu G4 46 53 1) fun G5 =>
    K G5) (
    vp_in x1 610 ∧
    pt (gu G0 77 (x1 : Int32).toNatClampNeg 3) fun G1 =>
    vp_in x1 610 ∧
    vp_in (G1 79 (x1 : Int32).toNatClampNeg) 1220 ∧
    pt (gu G1 65 ((G1 79 (x1 : Int32).toNatClampNeg) : Int32).toNatClampNeg (-1)) fun G2 =>
    vp_in x1 610 ∧
    w_X11_leaves (fun G3 =>
      K G3) (G2 78 (x1 : Int32).toNatClampNeg) 5 0 0 G2)
def w_X11_closes_h2 (K : Gt → Prop) : Nat → Int32 → Gt → Prop
  | 0, _, _ => False
  | n + 1, x1, G0 =>
    pif ((G0 46 35) ≤ x1) (
      w_X11_closes_j26 K x1 G0) (
      vp_in x1 610 ∧
      pif ((G0 77 (x1 : Int32).toNatClampNeg) = 1) (
        w_X11_closes_j26 K x1 G0) (
        (w_X11_closes_h2 K n) (x1 + 1) G0))
def w_X11_closes (K : Gt → Prop) (G0 : Gt) : Prop :=
  ∃ i, w_X11_closes_h2 K i 0 G0
def w_X11_comesBack (K : Gt → Prop) (p0 : Int32) (G0 : Gt) : Prop :=
  vp_in p0 1220 ∧
  pt (gu G0 46 49 (G0 70 (p0 : Int32).toNatClampNeg)) fun G1 =>
  pt (gu G1 46 50 ((G1 46 50) - 1)) fun G2 =>
  K G2
def w_X11_slotOf_j39 (K : Int32 → Gt → Prop) (y0 : Int32) (G0 : Gt) : Prop :=
  K y0 G0
def w_X11_slotOf (K : Int32 → Gt → Prop) (p0 : Int32) (G0 : Gt) : Prop :=
  vp_in p0 1220 ∧
  vp_in (G0 64 (p0 : Int32).toNatClampNeg) 120 ∧
  pif ((G0 47 ((G0 64 (p0 : Int32).toNatClampNeg) : Int32).toNatClampNeg) = 18) (
    vp_in p0 1220 ∧
    vp_in (G0 64 (p0 : Int32).toNatClampNeg) 120 ∧
    w_X11_slotOf_j39 K (G0 48 ((G0 64 (p0 : Int32).toNatClampNeg) : Int32).toNatClampNeg) G0) (
    vp_in p0 1220 ∧
    w_X11_slotOf_j39 K ((G0 67 (p0 : Int32).toNatClampNeg) - 10) G0)
def w_X11_puts_j27 (K : Gt → Prop)  (G0 : Gt) : Prop :=
  K G0
def w_X11_puts (K : Gt → Prop) (p0 : Int32) (p1 : Int32) (p2 : Int32) (G0 : Gt) : Prop :=
  pif (p1 = (-1)) (
    w_X11_fails (fun G3 =>
      w_X11_puts_j27 K G3) p0 (-1) G0) (
    vp_in p1 4960 ∧
    pt (gu G0 72 (p1 : Int32).toNatClampNeg p2) fun G1 =>
    w_X11_ends (fun G2 =>
      w_X11_puts_j27 K G2) p0 p2 G1)
def w_X11_isNumber_j12 (K : Int32 → Gt → Prop) (y0 : Int32) (G0 : Gt) : Prop :=
  bz y0 ∧ K y0 G0
def w_X11_isNumber (K : Int32 → Gt → Prop) (p0 : Int32) (G0 : Gt) : Prop :=
  pif (20000 ≤ p0) (
    w_X11_isNumber_j12 K 0 G0) (
    w_X11_isNumber_j12 K 1 G0)
def w_X11_within_j27 (K : Int32 → Gt → Prop) (y0 : Int32) (G0 : Gt) : Prop :=
  K y0 G0
def w_X11_within (K : Int32 → Gt → Prop) (p0 : Int32) (G0 : Gt) : Prop :=
  pif (p0 ≤ 9999) (
    pif ((-9999) ≤ p0) (
      w_X11_within_j27 K p0 G0) (
      w_X11_within_j27 K (-9999) G0)) (
    w_X11_within_j27 K 9999 G0)
def w_X11_bodyOf_h2 (K : Int32 → Gt → Prop) : Nat → Int32 → Gt → Prop
  | 0, _, _ => False
  | n + 1, x2, G0 =>
    vp_in x2 1220 ∧
    pif ((G0 64 (x2 : Int32).toNatClampNeg) = (-1)) (
      K x2 G0) (
      vp_in x2 1220 ∧
      (w_X11_bodyOf_h2 K n) (G0 65 (x2 : Int32).toNatClampNeg) G0)
def w_X11_bodyOf (K : Int32 → Gt → Prop) (p0 : Int32) (G0 : Gt) : Prop :=
  ∃ i, w_X11_bodyOf_h2 K i p0 G0
def w_X11_waits (K : Gt → Prop) (p0 : Int32) (p1 : Int32) (G0 : Gt) : Prop :=
  vp_in (6 * (G0 46 47)) 3660 ∧
  pt (gu G0 80 ((6 * (G0 46 47)) : Int32).toNatClampNeg (G0 46 41)) fun G1 =>
  vp_in ((6 * (G0 46 47)) + 1) 3660 ∧
  pt (gu G1 80 (((6 * (G0 46 47)) + 1) : Int32).toNatClampNeg (G1 46 42)) fun G2 =>
  vp_in ((6 * (G0 46 47)) + 2) 3660 ∧
  pt (gu G2 80 (((6 * (G0 46 47)) + 2) : Int32).toNatClampNeg (G2 46 43)) fun G3 =>
  vp_in ((6 * (G0 46 47)) + 3) 3660 ∧
  pt (gu G3 80 (((6 * (G0 46 47)) + 3) : Int32).toNatClampNeg (G3 46 44)) fun G4 =>
  vp_in ((6 * (G0 46 47)) + 4) 3660 ∧
  pt (gu G4 80 (((6 * (G0 46 47)) + 4) : Int32).toNatClampNeg (G4 46 45)) fun G5 =>
  vp_in ((6 * (G0 46 47)) + 5) 3660 ∧
  pt (gu G5 80 (((6 * (G0 46 47)) + 5) : Int32).toNatClampNeg (G5 46 46)) fun G6 =>
  vp_in p0 1220 ∧
  pt (gu G6 68 (p0 : Int32).toNatClampNeg (6 * (G0 46 47))) fun G7 =>
  pt (gu G7 46 47 ((G7 46 47) + 1)) fun G8 =>
  vp_in p1 120 ∧
  w_X11_parts (fun G9 =>
    K G9) (G8 49 (p1 : Int32).toNatClampNeg) p0 1 G8
def w_X11_isOver (K : Gt → Prop) (p0 : Int32) (G0 : Gt) : Prop :=
  vp_in p0 1220 ∧
  vp_in (G0 68 (p0 : Int32).toNatClampNeg) 3660 ∧
  pt (gu G0 46 41 (G0 80 ((G0 68 (p0 : Int32).toNatClampNeg) : Int32).toNatClampNeg)) fun G1 =>
  vp_in ((G0 68 (p0 : Int32).toNatClampNeg) + 1) 3660 ∧
  pt (gu G1 46 42 (G1 80 (((G0 68 (p0 : Int32).toNatClampNeg) + 1) : Int32).toNatClampNeg)) fun G2 =>
  vp_in ((G0 68 (p0 : Int32).toNatClampNeg) + 2) 3660 ∧
  pt (gu G2 46 43 (G2 80 (((G0 68 (p0 : Int32).toNatClampNeg) + 2) : Int32).toNatClampNeg)) fun G3 =>
  vp_in ((G0 68 (p0 : Int32).toNatClampNeg) + 3) 3660 ∧
  pt (gu G3 46 44 (G3 80 (((G0 68 (p0 : Int32).toNatClampNeg) + 3) : Int32).toNatClampNeg)) fun G4 =>
  vp_in ((G0 68 (p0 : Int32).toNatClampNeg) + 4) 3660 ∧
  pt (gu G4 46 45 (G4 80 (((G0 68 (p0 : Int32).toNatClampNeg) + 4) : Int32).toNatClampNeg)) fun G5 =>
  vp_in ((G0 68 (p0 : Int32).toNatClampNeg) + 5) 3660 ∧
  pt (gu G5 46 46 (G5 80 (((G0 68 (p0 : Int32).toNatClampNeg) + 5) : Int32).toNatClampNeg)) fun G6 =>
  vp_in p0 1220 ∧
  pt (gu G6 46 57 (G6 65 (p0 : Int32).toNatClampNeg)) fun G7 =>
  K G7
def w_X11_isBound_j70 (K : Int32 → Gt → Prop) (rec9 : Int32 → Int32 → Gt → Prop) (x2 : Int32) (y0 : Int32) (G0 : Gt) : Prop :=
  vp_in x2 1220 ∧
  rec9 (G0 65 (x2 : Int32).toNatClampNeg) y0 G0
def w_X11_isBound_j65 (K : Int32 → Gt → Prop) (rec9 : Int32 → Int32 → Gt → Prop) (x2 : Int32) (G0 : Gt) : Prop :=
  w_X11_isBound_j70 K rec9 x2 1 G0
def w_X11_isBound_j69 (K : Int32 → Gt → Prop) (rec9 : Int32 → Int32 → Gt → Prop) (x2 : Int32) (G0 : Gt) : Prop :=
  w_X11_isBound_j70 K rec9 x2 0 G0
def w_X11_isBound_h9 (K : Int32 → Gt → Prop) : Nat → Int32 → Int32 → Gt → Prop
  | 0, _, _, _ => False
  | n + 1, x2, x3, G0 =>
    vp_in x2 1220 ∧
    pif ((G0 64 (x2 : Int32).toNatClampNeg) = (-1)) (
      bz x3 ∧ K x3 G0) (
      pif (x3 = 0) (
        vp_in x2 1220 ∧
        vp_in (G0 64 (x2 : Int32).toNatClampNeg) 120 ∧
        pif ((G0 47 ((G0 64 (x2 : Int32).toNatClampNeg) : Int32).toNatClampNeg) = 36) (
          w_X11_isBound_j65 K (fun z0 z1 z2 => w_X11_isBound_h9 K n z0 z1 z2) x2 G0) (
          vp_in x2 1220 ∧
          vp_in (G0 64 (x2 : Int32).toNatClampNeg) 120 ∧
          pif ((G0 47 ((G0 64 (x2 : Int32).toNatClampNeg) : Int32).toNatClampNeg) = 26) (
            vp_in x2 1220 ∧
            pif ((G0 67 (x2 : Int32).toNatClampNeg) = 1) (
              w_X11_isBound_j65 K (fun z0 z1 z2 => w_X11_isBound_h9 K n z0 z1 z2) x2 G0) (
              w_X11_isBound_j69 K (fun z0 z1 z2 => w_X11_isBound_h9 K n z0 z1 z2) x2 G0)) (
            w_X11_isBound_j69 K (fun z0 z1 z2 => w_X11_isBound_h9 K n z0 z1 z2) x2 G0))) (
        w_X11_isBound_j65 K (fun z0 z1 z2 => w_X11_isBound_h9 K n z0 z1 z2) x2 G0))
def w_X11_isBound (K : Int32 → Gt → Prop) (p0 : Int32) (G0 : Gt) : Prop :=
  vp_in p0 1220 ∧
  ∃ i, w_X11_isBound_h9 K i (G0 65 (p0 : Int32).toNatClampNeg) 0 G0
def w_X11_inserts_j138 (K : Gt → Prop) (rec86 : Int32 → Int32 → Gt → Prop) (x2 : Int32) (x3 : Int32) (y1 : Int32) (y2 : Int32) (y3 : Int32) (G0 : Gt) : Prop :=
  vp_in y1 8 ∧
  pt (gu G0 60 (y1 : Int32).toNatClampNeg (y2 + y3)) fun G5 =>
  rec86 x2 (x3 + 1) G5
def w_X11_inserts_j133 (K : Gt → Prop) (rec86 : Int32 → Int32 → Gt → Prop) (x2 : Int32) (x3 : Int32) (y1 : Int32) (y2 : Int32) (G0 : Gt) : Prop :=
  w_X11_inserts_j138 K rec86 x2 x3 y1 y2 1 G0
def w_X11_inserts_h86 (K : Gt → Prop) : Nat → Int32 → Int32 → Gt → Prop
  | 0, _, _, _ => False
  | n + 1, x2, x3, G0 =>
    pif (4 ≤ x3) (
      K G0) (
      vp_in ((4 * (G0 46 14)) + x3) 8 ∧
      vp_in ((4 * (G0 46 14)) + x3) 8 ∧
      pif (x2 < (G0 60 (((4 * (G0 46 14)) + x3) : Int32).toNatClampNeg)) (
        w_X11_inserts_j133 K (fun z0 z1 z2 => w_X11_inserts_h86 K n z0 z1 z2) x2 x3 ((4 * (G0 46 14)) + x3) (G0 60 (((4 * (G0 46 14)) + x3) : Int32).toNatClampNeg) G0) (
        vp_in (G0 46 14) 2 ∧
        pif (x3 = (G0 61 ((G0 46 14) : Int32).toNatClampNeg)) (
          w_X11_inserts_j133 K (fun z0 z1 z2 => w_X11_inserts_h86 K n z0 z1 z2) x2 x3 ((4 * (G0 46 14)) + x3) (G0 60 (((4 * (G0 46 14)) + x3) : Int32).toNatClampNeg) G0) (
          w_X11_inserts_j138 K (fun z0 z1 z2 => w_X11_inserts_h86 K n z0 z1 z2) x2 x3 ((4 * (G0 46 14)) + x3) (G0 60 (((4 * (G0 46 14)) + x3) : Int32).toNatClampNeg) 0 G0)))
def w_X11_inserts_h15 (K : Gt → Prop) : Nat → Int32 → Int32 → Int32 → Gt → Prop
  | 0, _, _, _, _ => False
  | n + 1, x1, x2, x3, G0 =>
    pif (x3 ≤ x2) (
      vp_in ((40 * (G0 46 14)) + x2) 80 ∧
      pt (gu G0 58 (((40 * (G0 46 14)) + x2) : Int32).toNatClampNeg x1) fun G3 =>
      vp_in (G3 46 14) 2 ∧
      vp_in (G3 46 14) 2 ∧
      pt (gu G3 59 ((G3 46 14) : Int32).toNatClampNeg ((G3 59 ((G3 46 14) : Int32).toNatClampNeg) + 1)) fun G4 =>
      ∃ i, w_X11_inserts_h86 K i x2 0 G4) (
      vp_in (((40 * (G0 46 14)) + x3) - 1) 80 ∧
      vp_in ((40 * (G0 46 14)) + x3) 80 ∧
      pt (gu G0 58 (((40 * (G0 46 14)) + x3) : Int32).toNatClampNeg (G0 58 ((((40 * (G0 46 14)) + x3) - 1) : Int32).toNatClampNeg)) fun G6 =>
      (w_X11_inserts_h15 K n) x1 x2 (x3 + (-1)) G6)
def w_X11_inserts (K : Gt → Prop) (p0 : Int32) (G0 : Gt) : Prop :=
  w_X11_place (fun v2 G1 =>
    vp_in (G1 46 14) 2 ∧
    ∃ i, w_X11_inserts_h15 K i p0 v2 (G1 59 ((G1 46 14) : Int32).toNatClampNeg) G1) G0
def w_X11_places_j32 (K : Int32 → Gt → Prop) (rec4 : Int32 → Int32 → Gt → Prop) (x2 : Int32) (y0 : Int32) (y1 : Int32) (G0 : Gt) : Prop :=
  rec4 (y0 + y1) (x2 + 1) G0
def w_X11_places_h4 (K : Int32 → Gt → Prop) : Nat → Int32 → Int32 → Gt → Prop
  | 0, _, _, _ => False
  | n + 1, x1, x2, G0 =>
    pif (4 ≤ x2) (
      K x1 G0) (
      vp_in ((4 * (G0 46 14)) + x2) 8 ∧
      pif ((G0 60 (((4 * (G0 46 14)) + x2) : Int32).toNatClampNeg) = (-1)) (
        w_X11_places_j32 K (fun z0 z1 z2 => w_X11_places_h4 K n z0 z1 z2) x2 x1 0 G0) (
        w_X11_places_j32 K (fun z0 z1 z2 => w_X11_places_h4 K n z0 z1 z2) x2 x1 1 G0))
def w_X11_places (K : Int32 → Gt → Prop) (G0 : Gt) : Prop :=
  ∃ i, w_X11_places_h4 K i 0 0 G0
def w_X11_hasNone_j333 (K : Gt → Prop)  (G0 : Gt) : Prop :=
  K G0
def w_X11_hasNone_j105 (K : Gt → Prop) (x1 : Int32) (x2 : Int32) (G0 : Gt) : Prop :=
  pif ((G0 46 41) = 4) (
    vp_in x2 120 ∧
    pif ((G0 46 43) = (G0 48 (x2 : Int32).toNatClampNeg)) (
      vp_in x2 120 ∧
      vp_in x1 1220 ∧
      w_X11_opens (fun v3 G2 =>
        w_X11_asks (fun G4 =>
          w_X11_hasNone_j333 K G4) (G0 49 (x2 : Int32).toNatClampNeg) x1 v3 G2) (G0 66 (x1 : Int32).toNatClampNeg) G0) (
      w_X11_hasNone_j333 K G0)) (
    w_X11_hasNone_j333 K G0)
def w_X11_hasNone_j321 (K : Gt → Prop) (y1 : Int32) (y2 : Int32) (G0 : Gt) : Prop :=
  vp_in y1 4 ∧
  pt (gu G0 56 (y1 : Int32).toNatClampNeg y2) fun G13 =>
  w_X11_hasNone_j333 K G13
def w_X11_hasNone (K : Gt → Prop) (p0 : Int32) (G0 : Gt) : Prop :=
  vp_in p0 1220 ∧
  vp_in p0 1220 ∧
  pt (gu G0 46 57 (G0 65 (p0 : Int32).toNatClampNeg)) fun G1 =>
  vp_in (G0 64 (p0 : Int32).toNatClampNeg) 120 ∧
  pif ((G1 47 ((G0 64 (p0 : Int32).toNatClampNeg) : Int32).toNatClampNeg) = 13) (
    pif ((G1 46 41) = 3) (
      vp_in (G0 64 (p0 : Int32).toNatClampNeg) 120 ∧
      pif ((G1 46 43) = (G1 48 ((G0 64 (p0 : Int32).toNatClampNeg) : Int32).toNatClampNeg)) (
        w_X11_ends (fun G5 =>
          w_X11_hasNone_j333 K G5) p0 (G1 46 42) G1) (
        w_X11_hasNone_j105 K p0 (G0 64 (p0 : Int32).toNatClampNeg) G1)) (
      w_X11_hasNone_j105 K p0 (G0 64 (p0 : Int32).toNatClampNeg) G1)) (
  pif ((G1 47 ((G0 64 (p0 : Int32).toNatClampNeg) : Int32).toNatClampNeg) = 20) (
    pif ((G1 46 41) = 2) (
      vp_in p0 1220 ∧
      pif ((G1 67 (p0 : Int32).toNatClampNeg) = 0) (
        vp_in p0 1220 ∧
        w_X11_opens (fun v7 G6 =>
          vp_in (G0 64 (p0 : Int32).toNatClampNeg) 120 ∧
          vp_in ((8 * v7) + (G6 48 ((G0 64 (p0 : Int32).toNatClampNeg) : Int32).toNatClampNeg)) 4960 ∧
          pt (gu G6 72 (((8 * v7) + (G6 48 ((G0 64 (p0 : Int32).toNatClampNeg) : Int32).toNatClampNeg)) : Int32).toNatClampNeg (G6 46 42)) fun G8 =>
          vp_in p0 1220 ∧
          pt (gu G8 67 (p0 : Int32).toNatClampNeg 1) fun G9 =>
          vp_in (G0 64 (p0 : Int32).toNatClampNeg) 120 ∧
          w_X11_asks (fun G10 =>
            w_X11_hasNone_j333 K G10) (G9 50 ((G0 64 (p0 : Int32).toNatClampNeg) : Int32).toNatClampNeg) p0 v7 G9) (G1 66 (p0 : Int32).toNatClampNeg) G1) (
        w_X11_hasNone_j333 K G1)) (
      w_X11_hasNone_j333 K G1)) (
  pif ((G1 47 ((G0 64 (p0 : Int32).toNatClampNeg) : Int32).toNatClampNeg) = 21) (
    vp_in p0 1220 ∧
    pif ((G1 67 (p0 : Int32).toNatClampNeg) = 0) (
      w_X11_waits (fun G12 =>
        w_X11_hasNone_j333 K G12) p0 (G0 64 (p0 : Int32).toNatClampNeg) G1) (
      pif ((G1 46 41) = 2) (
        vp_in p0 1220 ∧
        vp_in (G1 68 (p0 : Int32).toNatClampNeg) 3660 ∧
        pif ((G1 80 ((G1 68 (p0 : Int32).toNatClampNeg) : Int32).toNatClampNeg) = 2) (
          vp_in p0 1220 ∧
          vp_in ((G1 68 (p0 : Int32).toNatClampNeg) + 1) 3660 ∧
          pt (gu G1 46 44 (G1 80 (((G1 68 (p0 : Int32).toNatClampNeg) + 1) : Int32).toNatClampNeg)) fun G11 =>
          w_X11_hasNone_j333 K G11) (
          w_X11_hasNone_j333 K G1)) (
        w_X11_hasNone_j333 K G1))) (
  pif ((G1 47 ((G0 64 (p0 : Int32).toNatClampNeg) : Int32).toNatClampNeg) = 26) (
    vp_in (G0 64 (p0 : Int32).toNatClampNeg) 120 ∧
    vp_in p0 1220 ∧
    pif ((G1 67 (p0 : Int32).toNatClampNeg) = 1) (
      vp_in p0 1220 ∧
      w_X11_hasNone_j321 K (G1 48 ((G0 64 (p0 : Int32).toNatClampNeg) : Int32).toNatClampNeg) (G1 68 (p0 : Int32).toNatClampNeg) G1) (
      vp_in (G0 64 (p0 : Int32).toNatClampNeg) 120 ∧
      vp_in (G1 48 ((G0 64 (p0 : Int32).toNatClampNeg) : Int32).toNatClampNeg) 4 ∧
      w_X11_hasNone_j321 K (G1 48 ((G0 64 (p0 : Int32).toNatClampNeg) : Int32).toNatClampNeg) (G1 56 ((G1 48 ((G0 64 (p0 : Int32).toNatClampNeg) : Int32).toNatClampNeg) : Int32).toNatClampNeg) G1)) (
  pif ((G1 47 ((G0 64 (p0 : Int32).toNatClampNeg) : Int32).toNatClampNeg) = 36) (
    w_X11_setsBack (fun G14 =>
      w_X11_hasNone_j333 K G14) p0 G1) (
    w_X11_hasNone_j333 K G1)))))
def w_X11_lasts_h34 (K : Gt → Prop) : Nat → Int32 → Gt → Prop
  | 0, _, _ => False
  | n + 1, x1, G0 =>
    pif ((G0 46 64) ≤ x1) (
      K G0) (
      vp_in x1 14 ∧
      vp_in x1 14 ∧
      pt (gu G0 82 (x1 : Int32).toNatClampNeg (G0 81 (x1 : Int32).toNatClampNeg)) fun G5 =>
      (w_X11_lasts_h34 K n) (x1 + 1) G5)
def w_X11_lasts (K : Gt → Prop) (G0 : Gt) : Prop :=
  pt (gu G0 46 66 (G0 46 62)) fun G1 =>
  pt (gu G1 46 67 (G1 46 58)) fun G2 =>
  pt (gu G2 46 68 (G2 46 63)) fun G3 =>
  pt (gu G3 46 69 (G3 46 64)) fun G4 =>
  ∃ i, w_X11_lasts_h34 K i 0 G4
def w_X11_giveUp (K : Int32 → Gt → Prop) (G0 : Gt) : Prop :=
  w_X11_goes (fun v2 G1 =>
    pif (v2 = 0) (
      K 0 G1) (
      w_X11_restores (fun G3 =>
        pt (gu G3 46 52 0) fun G4 =>
        K (G4 46 58) G4) G1)) (G0 46 52) 1 1 G0
def w_X11_breakAt (K : Int32 → Gt → Prop) (p0 : Int32) (p1 : Int32) (G0 : Gt) : Prop :=
  w_X11_isNode (fun v2 G1 =>
    w_X11_goes (fun v4 G3 =>
      pif (v4 = 0) (
        K 0 G3) (
        vp_in p0 120 ∧
        vp_in p0 120 ∧
        bz p1 ∧
        pt (gu G3 52 (p0 : Int32).toNatClampNeg p1) fun G5 =>
        bz (G3 52 (p0 : Int32).toNatClampNeg) ∧ K (G3 52 (p0 : Int32).toNatClampNeg) G5)) v2 1 1 G1) p0 G0
def w_X11_tells (K : Int32 → Gt → Prop) (p0 : Int32) (G0 : Gt) : Prop :=
  pt (gu G0 46 71 0) fun G1 =>
  K p0 G1
def w_X11_look_j45 (K : Int32 → Gt → Prop) (y0 : Int32) (G0 : Gt) : Prop :=
  K y0 G0
def w_X11_look (K : Int32 → Gt → Prop) (p0 : Int32) (G0 : Gt) : Prop :=
  w_X11_isName (fun v2 G1 =>
    w_X11_goes (fun v4 G3 =>
      pif (v4 = 0) (
        K 0 G3) (
        w_X11_cellOf (fun v6 G5 =>
          pif (v6 = (-1)) (
            w_X11_look_j45 K 49999 G5) (
            vp_in v6 4960 ∧
            w_X11_look_j45 K (G5 72 (v6 : Int32).toNatClampNeg) G5)) (G3 46 55) p0 G3)) v2 (G1 46 52) 1 G1) p0 G0
def w_X11_active_j16 (K : Int32 → Gt → Prop) (y1 : Int32) (G0 : Gt) : Prop :=
  w_X11_tells (fun v2 G1 =>
    K v2 G1) y1 G0
def w_X11_active (K : Int32 → Gt → Prop) (G0 : Gt) : Prop :=
  pif ((G0 46 52) = 0) (
    w_X11_active_j16 K 0 G0) (
    w_X11_active_j16 K (G0 46 50) G0)
def w_X11_outcome (K : Int32 → Gt → Prop) (G0 : Gt) : Prop :=
  w_X11_tells (fun v2 G1 =>
    K v2 G1) (G0 46 66) G0
def w_X11_steps (K : Int32 → Gt → Prop) (G0 : Gt) : Prop :=
  w_X11_tells (fun v2 G1 =>
    K v2 G1) (G0 46 67) G0
def w_X11_cause (K : Int32 → Gt → Prop) (G0 : Gt) : Prop :=
  w_X11_tells (fun v2 G1 =>
    K v2 G1) (G0 46 68) G0
def w_X11_traced (K : Int32 → Gt → Prop) (G0 : Gt) : Prop :=
  w_X11_tells (fun v2 G1 =>
    K v2 G1) (G0 46 69) G0
def w_X11_traceAt_j30 (K : Int32 → Gt → Prop) (y0 : Int32) (G0 : Gt) : Prop :=
  K y0 G0
def w_X11_traceAt (K : Int32 → Gt → Prop) (p0 : Int32) (G0 : Gt) : Prop :=
  w_X11_in (fun v2 G1 =>
    w_X11_goes (fun v4 G3 =>
      pif (v4 = 0) (
        w_X11_traceAt_j30 K 0 G3) (
        vp_in p0 14 ∧
        w_X11_traceAt_j30 K (G3 82 (p0 : Int32).toNatClampNeg) G3)) v2 1 1 G1) p0 0 ((G0 46 69) - 1) G0
def w_X11_buffer (K : Int32 → Gt → Prop) (G0 : Gt) : Prop :=
  w_X11_tells (fun v2 G1 =>
    K v2 G1) (G0 46 14) G0
def w_X11_length_j23 (K : Int32 → Gt → Prop) (y0 : Int32) (G0 : Gt) : Prop :=
  K y0 G0
def w_X11_length (K : Int32 → Gt → Prop) (p0 : Int32) (G0 : Gt) : Prop :=
  w_X11_isBuffer (fun v2 G1 =>
    w_X11_goes (fun v4 G3 =>
      pif (v4 = 0) (
        w_X11_length_j23 K 0 G3) (
        vp_in p0 2 ∧
        w_X11_length_j23 K (G3 59 (p0 : Int32).toNatClampNeg) G3)) v2 1 1 G1) p0 G0
def w_X11_letter_j61 (K : Int32 → Gt → Prop) (y0 : Int32) (G0 : Gt) : Prop :=
  K y0 G0
def w_X11_letter_j38 (K : Int32 → Gt → Prop) (x1 : Int32) (x2 : Int32) (y1 : Int32) (G0 : Gt) : Prop :=
  w_X11_goes (fun v4 G3 =>
    pif (v4 = 0) (
      w_X11_letter_j61 K 0 G3) (
      vp_in ((40 * x1) + x2) 80 ∧
      w_X11_letter_j61 K (G3 58 (((40 * x1) + x2) : Int32).toNatClampNeg) G3)) y1 1 1 G0
def w_X11_letter_j37 (K : Int32 → Gt → Prop) (x1 : Int32) (x2 : Int32) (G0 : Gt) : Prop :=
  w_X11_letter_j38 K x1 x2 0 G0
def w_X11_letter_j24 (K : Int32 → Gt → Prop) (x1 : Int32) (x2 : Int32) (y1 : Int32) (y2 : Int32) (y4 : Int32) (G0 : Gt) : Prop :=
  vp_in y4 2 ∧
  w_X11_in (fun v6 G5 =>
    pif (v6 = 0) (
      w_X11_letter_j37 K x1 x2 G5) (
      w_X11_letter_j38 K x1 x2 1 G5)) y1 y2 ((G0 59 (y4 : Int32).toNatClampNeg) - 1) G0
def w_X11_letter (K : Int32 → Gt → Prop) (p0 : Int32) (p1 : Int32) (G0 : Gt) : Prop :=
  w_X11_isBuffer (fun v2 G1 =>
    pif (v2 = 0) (
      w_X11_letter_j37 K p0 p1 G1) (
      pif (p0 = 1) (
        w_X11_letter_j24 K p0 p1 p1 0 1 G1) (
        w_X11_letter_j24 K p0 p1 p1 0 0 G1))) p0 G0
def w_X11_cursor_j42 (K : Int32 → Gt → Prop) (y0 : Int32) (G0 : Gt) : Prop :=
  K y0 G0
def w_X11_cursor_j20 (K : Int32 → Gt → Prop) (x1 : Int32) (x2 : Int32) (y1 : Int32) (G0 : Gt) : Prop :=
  w_X11_goes (fun v4 G3 =>
    pif (v4 = 0) (
      w_X11_cursor_j42 K 0 G3) (
      vp_in ((4 * x1) + x2) 8 ∧
      w_X11_cursor_j42 K (G3 60 (((4 * x1) + x2) : Int32).toNatClampNeg) G3)) y1 1 1 G0
def w_X11_cursor_j19 (K : Int32 → Gt → Prop) (x1 : Int32) (x2 : Int32) (G0 : Gt) : Prop :=
  w_X11_cursor_j20 K x1 x2 0 G0
def w_X11_cursor (K : Int32 → Gt → Prop) (p0 : Int32) (p1 : Int32) (G0 : Gt) : Prop :=
  w_X11_isBuffer (fun v2 G1 =>
    pif (v2 = 0) (
      w_X11_cursor_j19 K p0 p1 G1) (
      w_X11_isFew (fun v6 G5 =>
        pif (v6 = 0) (
          w_X11_cursor_j19 K p0 p1 G5) (
          w_X11_cursor_j20 K p0 p1 1 G5)) p1 G1)) p0 G0
def w_X11_activeCursor_j23 (K : Int32 → Gt → Prop) (y0 : Int32) (G0 : Gt) : Prop :=
  K y0 G0
def w_X11_activeCursor (K : Int32 → Gt → Prop) (p0 : Int32) (G0 : Gt) : Prop :=
  w_X11_isBuffer (fun v2 G1 =>
    w_X11_goes (fun v4 G3 =>
      pif (v4 = 0) (
        w_X11_activeCursor_j23 K 0 G3) (
        vp_in p0 2 ∧
        w_X11_activeCursor_j23 K (G3 61 (p0 : Int32).toNatClampNeg) G3)) v2 1 1 G1) p0 G0
def w_X11_option_j23 (K : Int32 → Gt → Prop) (y0 : Int32) (G0 : Gt) : Prop :=
  K y0 G0
def w_X11_option (K : Int32 → Gt → Prop) (p0 : Int32) (G0 : Gt) : Prop :=
  w_X11_isFew (fun v2 G1 =>
    w_X11_goes (fun v4 G3 =>
      pif (v4 = 0) (
        w_X11_option_j23 K 0 G3) (
        vp_in p0 4 ∧
        w_X11_option_j23 K (G3 56 (p0 : Int32).toNatClampNeg) G3)) v2 1 1 G1) p0 G0
def w_X11_register_j23 (K : Int32 → Gt → Prop) (y0 : Int32) (G0 : Gt) : Prop :=
  K y0 G0
def w_X11_register (K : Int32 → Gt → Prop) (p0 : Int32) (G0 : Gt) : Prop :=
  w_X11_isFew (fun v2 G1 =>
    w_X11_goes (fun v4 G3 =>
      pif (v4 = 0) (
        w_X11_register_j23 K 0 G3) (
        vp_in p0 4 ∧
        w_X11_register_j23 K (G3 57 (p0 : Int32).toNatClampNeg) G3)) v2 1 1 G1) p0 G0
def w_X11_body_j23 (K : Int32 → Gt → Prop) (y0 : Int32) (G0 : Gt) : Prop :=
  K y0 G0
def w_X11_body (K : Int32 → Gt → Prop) (p0 : Int32) (G0 : Gt) : Prop :=
  w_X11_isSlot (fun v2 G1 =>
    w_X11_goes (fun v4 G3 =>
      pif (v4 = 0) (
        w_X11_body_j23 K 0 G3) (
        vp_in p0 6 ∧
        w_X11_body_j23 K (G3 54 (p0 : Int32).toNatClampNeg) G3)) v2 1 1 G1) p0 G0
def w_X11_hook (K : Int32 → Gt → Prop) (G0 : Gt) : Prop :=
  w_X11_tells (fun v2 G1 =>
    K v2 G1) (G0 46 12) G0
def w_X11_canBeNode_j51 (K : Int32 → Gt → Prop) (y0 : Int32) (G0 : Gt) : Prop :=
  bz y0 ∧ K y0 G0
def w_X11_canBeNode_j46 (K : Int32 → Gt → Prop)  (G0 : Gt) : Prop :=
  w_X11_canBeNode_j51 K 1 G0
def w_X11_canBeNode_j31 (K : Int32 → Gt → Prop) (x2 : Int32) (y0 : Int32) (G0 : Gt) : Prop :=
  pif (y0 = 0) (
    w_X11_canBeNode_j46 K G0) (
    w_X11_isNode (fun v2 G1 =>
      pif (v2 = 0) (
        w_X11_canBeNode_j51 K 0 G1) (
        w_X11_canBeNode_j46 K G1)) x2 G0)
def w_X11_canBeNode_j26 (K : Int32 → Gt → Prop) (x2 : Int32) (G0 : Gt) : Prop :=
  w_X11_canBeNode_j31 K x2 1 G0
def w_X11_canBeNode_j30 (K : Int32 → Gt → Prop) (x2 : Int32) (G0 : Gt) : Prop :=
  w_X11_canBeNode_j31 K x2 0 G0
def w_X11_canBeNode (K : Int32 → Gt → Prop) (p0 : Int32) (p1 : Int32) (p2 : Int32) (G0 : Gt) : Prop :=
  pif (p0 = 1) (
    w_X11_canBeNode_j26 K p1 G0) (
    pif (p0 = 7) (
      w_X11_canBeNode_j26 K p1 G0) (
      pif (p0 = 8) (
        pif (p1 = (-1)) (
          w_X11_canBeNode_j30 K p1 G0) (
          pif (p2 = 0) (
            w_X11_canBeNode_j30 K p1 G0) (
            w_X11_canBeNode_j26 K p1 G0))) (
        w_X11_canBeNode_j30 K p1 G0)))
def w_X11_canBe_j54 (K : Int32 → Gt → Prop) (y0 : Int32) (G0 : Gt) : Prop :=
  bz y0 ∧ K y0 G0
def w_X11_canBe_j98 (K : Int32 → Gt → Prop) (y0 : Int32) (G0 : Gt) : Prop :=
  bz y0 ∧ K y0 G0
def w_X11_canBe_j93 (K : Int32 → Gt → Prop)  (G0 : Gt) : Prop :=
  w_X11_canBe_j98 K 1 G0
def w_X11_canBe_j99 (K : Int32 → Gt → Prop)  (G0 : Gt) : Prop :=
  K 1 G0
def w_X11_canBe (K : Int32 → Gt → Prop) (p0 : Int32) (p1 : Int32) (G0 : Gt) : Prop :=
  pif (p0 = 0) (
    pif (p1 = (-1)) (
      w_X11_canBe_j54 K 1 G0) (
      w_X11_canBe_j54 K 0 G0)) (
  pif (p0 = 2) (
    w_X11_isFew (fun v2 G1 =>
      bz v2 ∧ K v2 G1) p1 G0) (
  pif (p0 = 3) (
    w_X11_isName (fun v4 G3 =>
      bz v4 ∧ K v4 G3) p1 G0) (
  pif (p0 = 4) (
    w_X11_isSlot (fun v6 G5 =>
      bz v6 ∧ K v6 G5) p1 G0) (
  pif (p0 = 5) (
    w_X11_in (fun v8 G7 =>
      bz v8 ∧ K v8 G7) p1 (-9999) 9999 G0) (
  pif (p0 = 6) (
    pif (p1 = (-1)) (
      w_X11_canBe_j93 K G0) (
      w_X11_isSlot (fun v10 G9 =>
        pif (v10 = 0) (
          w_X11_canBe_j98 K 0 G9) (
          w_X11_canBe_j93 K G9)) p1 G0)) (
    w_X11_canBe_j99 K G0))))))
def w_X11_write_j41 (K : Int32 → Gt → Prop) (x1 : Int32) (x2 : Int32) (y1 : Int32) (y2 : Int32) (y3 : Int32) (G0 : Gt) : Prop :=
  w_X11_goes (fun v6 G5 =>
    pif (v6 = 0) (
      K 0 G5) (
      vp_in x1 2 ∧
      vp_in ((40 * x1) + (G5 59 (x1 : Int32).toNatClampNeg)) 80 ∧
      pt (gu G5 58 (((40 * x1) + (G5 59 (x1 : Int32).toNatClampNeg)) : Int32).toNatClampNeg x2) fun G7 =>
      vp_in x1 2 ∧
      vp_in x1 2 ∧
      pt (gu G7 59 (x1 : Int32).toNatClampNeg ((G7 59 (x1 : Int32).toNatClampNeg) + 1)) fun G8 =>
      vp_in x1 2 ∧
      K (G8 59 (x1 : Int32).toNatClampNeg) G8)) y1 y2 y3 G0
def w_X11_write_j40 (K : Int32 → Gt → Prop) (x1 : Int32) (x2 : Int32) (y1 : Int32) (y2 : Int32) (G0 : Gt) : Prop :=
  w_X11_write_j41 K x1 x2 y1 y2 0 G0
def w_X11_write (K : Int32 → Gt → Prop) (p0 : Int32) (p1 : Int32) (G0 : Gt) : Prop :=
  w_X11_isBuffer (fun v2 G1 =>
    w_X11_in (fun v4 G3 =>
      pif (v2 = 0) (
        w_X11_write_j40 K p0 p1 v2 v4 G3) (
        vp_in p0 2 ∧
        pif (40 ≤ (G3 59 (p0 : Int32).toNatClampNeg)) (
          w_X11_write_j40 K p0 p1 v2 v4 G3) (
          pif ((G3 46 52) = 0) (
            w_X11_write_j41 K p0 p1 v2 v4 1 G3) (
            w_X11_write_j40 K p0 p1 v2 v4 G3)))) p1 0 25 G1) p0 G0
def w_X11_keeps_h2 (K : Gt → Prop) : Nat → Int32 → Gt → Prop
  | 0, _, _ => False
  | n + 1, x1, G0 =>
    pif (104 ≤ x1) (
      K G0) (
      w_X11_keptAt (fun v2 G1 =>
        vp_in x1 112 ∧
        pt (gu G1 62 (x1 : Int32).toNatClampNeg v2) fun G3 =>
        (w_X11_keeps_h2 K n) (x1 + 1) G3) x1 G0)
def w_X11_keeps (K : Gt → Prop) (G0 : Gt) : Prop :=
  ∃ i, w_X11_keeps_h2 K i 0 G0
def w_X11_begins (K : Int32 → Gt → Prop) (p0 : Int32) (p1 : Int32) (p2 : Int32) (p3 : Int32) (G0 : Gt) : Prop :=
  w_X11_lays (fun v2 G1 =>
    w_X11_asks (fun G3 =>
      K v2 G3) p0 v2 p3 G1) (-1) p2 p3 p1 G0
def w_X11_stops_h53 (K : Gt → Prop) : Nat → Int32 → Gt → Prop
  | 0, _, _ => False
  | n + 1, x1, G0 =>
    pif (x1 = (-1)) (
      w_X11_restores (fun G5 =>
        pt (gu G5 46 41 0) fun G6 =>
        pt (gu G6 46 53 1) fun G7 =>
        K G7) G0) (
      vp_in x1 1220 ∧
      vp_in (G0 46 64) 14 ∧
      pt (gu G0 81 ((G0 46 64) : Int32).toNatClampNeg (G0 64 (x1 : Int32).toNatClampNeg)) fun G8 =>
      pt (gu G8 46 64 ((G8 46 64) + 1)) fun G9 =>
      vp_in x1 1220 ∧
      (w_X11_stops_h53 K n) (G9 70 (x1 : Int32).toNatClampNeg) G9)
def w_X11_stops_j30 (K : Gt → Prop) (y1 : Int32) (G0 : Gt) : Prop :=
  pt (gu G0 46 63 y1) fun G2 =>
  vp_in 0 14 ∧
  pt (gu G2 81 (0 : Int32).toNatClampNeg (G2 46 45)) fun G3 =>
  pt (gu G3 46 64 1) fun G4 =>
  ∃ i, w_X11_stops_h53 K i (G4 46 46) G4
def w_X11_stops (K : Gt → Prop) (G0 : Gt) : Prop :=
  pt (gu G0 46 62 (50000 + (G0 46 42))) fun G1 =>
  pif ((G1 46 44) = (-100000)) (
    w_X11_stops_j30 K 50000 G1) (
    w_X11_stops_j30 K (G1 46 44) G1)
def w_X11_names_j25 (K : Gt → Prop)  (G0 : Gt) : Prop :=
  K G0
def w_X11_names (K : Gt → Prop) (p0 : Int32) (p1 : Int32) (G0 : Gt) : Prop :=
  pif (p1 = (-1)) (
    w_X11_fails (fun G2 =>
      w_X11_names_j25 K G2) p0 (-1) G0) (
    vp_in p1 4960 ∧
    w_X11_ends (fun G1 =>
      w_X11_names_j25 K G1) p0 (G0 72 (p1 : Int32).toNatClampNeg) G0)
def w_X11_leavesTo_j28 (K : Gt → Prop)  (G0 : Gt) : Prop :=
  K G0
def w_X11_leavesTo (K : Gt → Prop) (p0 : Int32) (p1 : Int32) (p2 : Int32) (p3 : Int32) (G0 : Gt) : Prop :=
  w_X11_hasLoop (fun v2 G1 =>
    pif (v2 = 0) (
      w_X11_fails (fun G3 =>
        w_X11_leavesTo_j28 K G3) p0 (-6) G1) (
      w_X11_leaves (fun G4 =>
        w_X11_leavesTo_j28 K G4) p0 p1 p2 p3 G1)) p0 p2 G0
def w_X11_enters_j62 (K : Gt → Prop)  (G0 : Gt) : Prop :=
  K G0
def w_X11_enters_j59 (K : Gt → Prop) (y1 : Int32) (G0 : Gt) : Prop :=
  bz y1 ∧
  pt (gu G0 46 51 y1) fun G3 =>
  w_X11_enters_j62 K G3
def w_X11_enters_j58 (K : Gt → Prop)  (G0 : Gt) : Prop :=
  w_X11_enters_j59 K 0 G0
def w_X11_enters (K : Gt → Prop) (p0 : Int32) (p1 : Int32) (G0 : Gt) : Prop :=
  w_X11_calls (fun v2 G1 =>
    pif (v2 = 0) (
      pif ((G1 46 51) = 0) (
        w_X11_enters_j58 K G1) (
        vp_in p0 1220 ∧
        vp_in (G1 64 (p0 : Int32).toNatClampNeg) 120 ∧
        pif ((G1 47 ((G1 64 (p0 : Int32).toNatClampNeg) : Int32).toNatClampNeg) = 29) (
          w_X11_enters_j58 K G1) (
          w_X11_enters_j59 K 1 G1))) (
      vp_in p1 6 ∧
      vp_in p0 1220 ∧
      w_X11_begins (fun v5 G4 =>
        w_X11_enters_j62 K G4) (G1 54 (p1 : Int32).toNatClampNeg) 1 p0 (G1 69 (p0 : Int32).toNatClampNeg) G1)) p0 G0
def w_X11_looks_j76 (K : Gt → Prop)  (G0 : Gt) : Prop :=
  K G0
def w_X11_looks_j73 (K : Gt → Prop) (y1 : Int32) (y2 : Int32) (G0 : Gt) : Prop :=
  w_X11_ends (fun G1 =>
    w_X11_looks_j76 K G1) y1 y2 G0
def w_X11_looks_j23 (K : Gt → Prop) (x1 : Int32) (x2 : Int32) (G0 : Gt) : Prop :=
  pif (x2 = 30) (
    w_X11_erases (fun v7 G6 =>
      w_X11_looks_j73 K x1 v7 G6) G0) (
    pif (x2 = 32) (
      w_X11_place (fun v5 G4 =>
        w_X11_looks_j73 K x1 v5 G4) G0) (
      pif (x2 = 33) (
        w_X11_letterHere (fun v3 G2 =>
          w_X11_looks_j73 K x1 v3 G2) G0) (
        vp_in (G0 46 14) 2 ∧
        w_X11_looks_j73 K x1 (G0 59 ((G0 46 14) : Int32).toNatClampNeg) G0)))
def w_X11_looks (K : Gt → Prop) (p0 : Int32) (p1 : Int32) (G0 : Gt) : Prop :=
  pif (p1 = 30) (
    w_X11_place (fun v9 G8 =>
      pif (v9 = 0) (
        w_X11_fails (fun G10 =>
          w_X11_looks_j76 K G10) p0 (-4) G8) (
        w_X11_looks_j23 K p0 p1 G8)) G0) (
    w_X11_looks_j23 K p0 p1 G0)
def w_X11_goesOn_j122 (K : Gt → Prop)  (G0 : Gt) : Prop :=
  K G0
def w_X11_goesOn_j77 (K : Gt → Prop) (x1 : Int32) (x3 : Int32) (G0 : Gt) : Prop :=
  pif (x3 = 0) (
    w_X11_setsBack (fun G1 =>
      vp_in x1 1220 ∧
      w_X11_ends (fun G2 =>
        w_X11_goesOn_j122 K G2) x1 (G1 67 (x1 : Int32).toNatClampNeg) G1) x1 G0) (
    vp_in x1 1220 ∧
    vp_in (G0 64 (x1 : Int32).toNatClampNeg) 120 ∧
    vp_in x1 1220 ∧
    w_X11_parts (fun G3 =>
      w_X11_goesOn_j122 K G3) (G0 48 ((G0 64 (x1 : Int32).toNatClampNeg) : Int32).toNatClampNeg) x1 (G0 67 (x1 : Int32).toNatClampNeg) G0)
def w_X11_goesOn_j74 (K : Gt → Prop) (rec12 : Int32 → Int32 → Int32 → Gt → Prop) (x1 : Int32) (x2 : Int32) (x3 : Int32) (G0 : Gt) : Prop :=
  rec12 x1 x2 x3 G0
def w_X11_goesOn_h12 (K : Gt → Prop) : Nat → Int32 → Int32 → Int32 → Gt → Prop
  | 0, _, _, _, _ => False
  | n + 1, x1, x2, x3, G0 =>
    vp_in x1 1220 ∧
    pif ((G0 68 (x1 : Int32).toNatClampNeg) ≤ 0) (
      w_X11_goesOn_j77 K x1 x3 G0) (
      pif (x3 = 0) (
        vp_in x1 1220 ∧
        vp_in x1 1220 ∧
        vp_in x1 1220 ∧
        pt (gu G0 68 (x1 : Int32).toNatClampNeg ((G0 68 (x1 : Int32).toNatClampNeg) / 8)) fun G4 =>
        vp_in ((4 * x2) + (((G0 68 (x1 : Int32).toNatClampNeg) - (G0 68 (x1 : Int32).toNatClampNeg) / 8 * 8) - 1)) 8 ∧
        pif ((G4 60 (((4 * x2) + (((G0 68 (x1 : Int32).toNatClampNeg) - (G0 68 (x1 : Int32).toNatClampNeg) / 8 * 8) - 1)) : Int32).toNatClampNeg) = (-1)) (
          w_X11_goesOn_j74 K (fun z0 z1 z2 z3 => w_X11_goesOn_h12 K n z0 z1 z2 z3) x1 x2 x3 G4) (
          vp_in x2 2 ∧
          pt (gu G4 61 (x2 : Int32).toNatClampNeg (((G0 68 (x1 : Int32).toNatClampNeg) - (G0 68 (x1 : Int32).toNatClampNeg) / 8 * 8) - 1)) fun G5 =>
          w_X11_goesOn_j74 K (fun z0 z1 z2 z3 => w_X11_goesOn_h12 K n z0 z1 z2 z3) x1 x2 1 G5)) (
        w_X11_goesOn_j77 K x1 x3 G0))
def w_X11_goesOn (K : Gt → Prop) (p0 : Int32) (G0 : Gt) : Prop :=
  vp_in p0 1220 ∧
  ∃ i, w_X11_goesOn_h12 K i p0 ((G0 69 (p0 : Int32).toNatClampNeg) / 8) 0 G0
def w_X11_generatorEnds_j92 (K : Gt → Prop)  (G0 : Gt) : Prop :=
  K G0
def w_X11_generatorEnds_j52 (K : Gt → Prop) (x2 : Int32) (x3 : Int32) (G0 : Gt) : Prop :=
  pif (x3 = 0) (
    w_X11_comesBack (fun G2 =>
      vp_in x2 1220 ∧
      pt (gu G2 46 57 (G2 65 (x2 : Int32).toNatClampNeg)) fun G3 =>
      pif ((G3 46 41) = 2) (
        w_X11_generatorEnds_j92 K G3) (
        w_X11_ends (fun G4 =>
          w_X11_generatorEnds_j92 K G4) x2 (-1) G3)) x2 G0) (
    w_X11_closes (fun G5 =>
      w_X11_generatorEnds_j92 K G5) G0)
def w_X11_generatorEnds_j20 (K : Gt → Prop) (x1 : Int32) (x2 : Int32) (y0 : Int32) (G0 : Gt) : Prop :=
  vp_in x1 1220 ∧
  vp_in (G0 68 (x1 : Int32).toNatClampNeg) 610 ∧
  pt (gu G0 77 ((G0 68 (x1 : Int32).toNatClampNeg) : Int32).toNatClampNeg 4) fun G1 =>
  pif (y0 = 0) (
    w_X11_generatorEnds_j52 K x2 y0 G1) (
    pif ((G1 46 41) = 2) (
      w_X11_stops (fun G6 =>
        w_X11_generatorEnds_j92 K G6) G1) (
      w_X11_generatorEnds_j52 K x2 y0 G1))
def w_X11_generatorEnds (K : Gt → Prop) (p0 : Int32) (p1 : Int32) (G0 : Gt) : Prop :=
  vp_in p0 1220 ∧
  vp_in (G0 68 (p0 : Int32).toNatClampNeg) 610 ∧
  pif ((G0 77 ((G0 68 (p0 : Int32).toNatClampNeg) : Int32).toNatClampNeg) = 3) (
    w_X11_generatorEnds_j20 K p0 p1 1 G0) (
    w_X11_generatorEnds_j20 K p0 p1 0 G0)
def w_X11_makes_j67 (K : Int32 → Gt → Prop) (y0 : Int32) (G0 : Gt) : Prop :=
  K y0 G0
def w_X11_makes (K : Int32 → Gt → Prop) (p0 : Int32) (p1 : Int32) (p2 : Int32) (G0 : Gt) : Prop :=
  pif (p0 = 4) (
    w_X11_within (fun v2 G1 =>
      K v2 G1) (p1 + p2) G0) (
  pif (p0 = 5) (
    w_X11_within (fun v4 G3 =>
      K v4 G3) (p1 - p2) G0) (
  pif (p0 = 6) (
    w_X11_within (fun v6 G5 =>
      K v6 G5) (p1 * p2) G0) (
  pif (p0 = 7) (
    ¬ p2 = 0 ∧
    K (p1 / p2) G0) (
    pif (p2 ≤ p1) (
      w_X11_makes_j67 K 0 G0) (
      w_X11_makes_j67 K 1 G0)))))
def w_X11_applies_j96 (K : Gt → Prop)  (G0 : Gt) : Prop :=
  K G0
def w_X11_applies_j14 (K : Gt → Prop) (x1 : Int32) (G0 : Gt) : Prop :=
  w_X11_fails (fun G1 =>
    w_X11_applies_j96 K G1) x1 (-3) G0
def w_X11_applies (K : Gt → Prop) (p0 : Int32) (p1 : Int32) (p2 : Int32) (G0 : Gt) : Prop :=
  pif (p1 < 20000) (
    w_X11_applies_j14 K p0 G0) (
    pif (p1 < 30000) (
      w_X11_calls (fun v3 G2 =>
        pif (v3 = 0) (
          w_X11_applies_j96 K G2) (
          vp_in (p1 - 20000) 610 ∧
          vp_in (p1 - 20000) 610 ∧
          w_X11_opens (fun v5 G4 =>
            vp_in (G2 73 ((p1 - 20000) : Int32).toNatClampNeg) 120 ∧
            vp_in ((8 * v5) + (G4 48 ((G2 73 ((p1 - 20000) : Int32).toNatClampNeg) : Int32).toNatClampNeg)) 4960 ∧
            pt (gu G4 72 (((8 * v5) + (G4 48 ((G2 73 ((p1 - 20000) : Int32).toNatClampNeg) : Int32).toNatClampNeg)) : Int32).toNatClampNeg p2) fun G6 =>
            vp_in (G2 73 ((p1 - 20000) : Int32).toNatClampNeg) 120 ∧
            w_X11_begins (fun v8 G7 =>
              w_X11_applies_j96 K G7) (G6 49 ((G2 73 ((p1 - 20000) : Int32).toNatClampNeg) : Int32).toNatClampNeg) 1 p0 v5 G6) (G2 74 ((p1 - 20000) : Int32).toNatClampNeg) G2)) p0 G0) (
      w_X11_applies_j14 K p0 G0))
def w_X11_yields_j39 (K : Gt → Prop) (x1 : Int32) (G0 : Gt) : Prop :=
  w_X11_fails (fun G3 =>
    K G3) x1 (-6) G0
def w_X11_yields (K : Gt → Prop) (p0 : Int32) (p1 : Int32) (G0 : Gt) : Prop :=
  w_X11_bodyOf (fun v2 G1 =>
    vp_in v2 1220 ∧
    pif ((G1 67 (v2 : Int32).toNatClampNeg) = 2) (
      w_X11_isBound (fun v5 G4 =>
        pif (v5 = 0) (
          vp_in v2 1220 ∧
          vp_in (G4 68 (v2 : Int32).toNatClampNeg) 610 ∧
          pif ((G4 77 ((G4 68 (v2 : Int32).toNatClampNeg) : Int32).toNatClampNeg) = 3) (
            w_X11_yields_j39 K p0 G4) (
            vp_in v2 1220 ∧
            vp_in (G4 68 (v2 : Int32).toNatClampNeg) 610 ∧
            pt (gu G4 77 ((G4 68 (v2 : Int32).toNatClampNeg) : Int32).toNatClampNeg 1) fun G6 =>
            vp_in v2 1220 ∧
            vp_in (G6 68 (v2 : Int32).toNatClampNeg) 610 ∧
            pt (gu G6 78 ((G6 68 (v2 : Int32).toNatClampNeg) : Int32).toNatClampNeg p0) fun G7 =>
            vp_in v2 1220 ∧
            w_X11_comesBack (fun G8 =>
              vp_in v2 1220 ∧
              w_X11_ends (fun G9 =>
                K G9) (G8 65 (v2 : Int32).toNatClampNeg) p1 G8) (G7 65 (v2 : Int32).toNatClampNeg) G7)) (
          w_X11_yields_j39 K p0 G4)) p0 G1) (
      w_X11_yields_j39 K p0 G1)) p0 G0
def w_X11_asksOf_j166 (K : Gt → Prop)  (G0 : Gt) : Prop :=
  K G0
def w_X11_asksOf_j30 (K : Gt → Prop) (x1 : Int32) (G0 : Gt) : Prop :=
  w_X11_fails (fun G1 =>
    w_X11_asksOf_j166 K G1) x1 (-3) G0
def w_X11_asksOf_j81 (K : Gt → Prop) (x1 : Int32) (x3 : Int32) (y0 : Int32) (G0 : Gt) : Prop :=
  vp_in x3 610 ∧
  pt (gu G0 77 (x3 : Int32).toNatClampNeg 2) fun G4 =>
  pif (y0 = 0) (
    vp_in x3 610 ∧
    vp_in (G4 79 (x3 : Int32).toNatClampNeg) 1220 ∧
    pt (gu G4 65 ((G4 79 (x3 : Int32).toNatClampNeg) : Int32).toNatClampNeg x1) fun G5 =>
    vp_in x3 610 ∧
    w_X11_ends (fun G6 =>
      w_X11_asksOf_j166 K G6) (G5 78 (x3 : Int32).toNatClampNeg) 0 G5) (
    vp_in x3 610 ∧
    vp_in (G4 75 (x3 : Int32).toNatClampNeg) 120 ∧
    vp_in x3 610 ∧
    w_X11_opens (fun v8 G7 =>
      w_X11_begins (fun v10 G9 =>
        vp_in x3 610 ∧
        pt (gu G9 79 (x3 : Int32).toNatClampNeg v10) fun G11 =>
        vp_in x3 610 ∧
        vp_in (G11 79 (x3 : Int32).toNatClampNeg) 1220 ∧
        pt (gu G11 68 ((G11 79 (x3 : Int32).toNatClampNeg) : Int32).toNatClampNeg x3) fun G12 =>
        w_X11_asksOf_j166 K G12) (G4 48 ((G4 75 (x3 : Int32).toNatClampNeg) : Int32).toNatClampNeg) 2 x1 v8 G7) (G4 76 (x3 : Int32).toNatClampNeg) G4)
def w_X11_asksOf (K : Gt → Prop) (p0 : Int32) (p1 : Int32) (G0 : Gt) : Prop :=
  pif ((p1 - 30000) < 0) (
    w_X11_asksOf_j30 K p0 G0) (
    vp_in (p1 - 30000) 610 ∧
    pif ((G0 77 ((p1 - 30000) : Int32).toNatClampNeg) = 2) (
      w_X11_asksOf_j30 K p0 G0) (
      vp_in (p1 - 30000) 610 ∧
      pif ((G0 77 ((p1 - 30000) : Int32).toNatClampNeg) = 3) (
        w_X11_asksOf_j30 K p0 G0) (
        vp_in (p1 - 30000) 610 ∧
        pif ((G0 77 ((p1 - 30000) : Int32).toNatClampNeg) = 4) (
          w_X11_ends (fun G13 =>
            w_X11_asksOf_j166 K G13) p0 (-1) G0) (
          w_X11_calls (fun v3 G2 =>
            pif (v3 = 0) (
              w_X11_asksOf_j166 K G2) (
              vp_in (p1 - 30000) 610 ∧
              pif ((G2 77 ((p1 - 30000) : Int32).toNatClampNeg) = 0) (
                w_X11_asksOf_j81 K p0 (p1 - 30000) 1 G2) (
                w_X11_asksOf_j81 K p0 (p1 - 30000) 0 G2))) p0 G0))))
def w_X11_putsCursor_j25 (K : Gt → Prop) (x1 : Int32) (G0 : Gt) : Prop :=
  w_X11_fails (fun G3 =>
    K G3) x1 (-4) G0
def w_X11_putsCursor_h35 (K : Gt → Prop) : Nat → Int32 → Int32 → Int32 → Gt → Prop
  | 0, _, _, _, _ => False
  | n + 1, x1, x2, x3, G0 =>
    vp_in ((4 * (G0 46 14)) + x3) 8 ∧
    pif ((G0 60 (((4 * (G0 46 14)) + x3) : Int32).toNatClampNeg) = (-1)) (
      vp_in ((4 * (G0 46 14)) + x3) 8 ∧
      pt (gu G0 60 (((4 * (G0 46 14)) + x3) : Int32).toNatClampNeg x2) fun G6 =>
      w_X11_ends (fun G7 =>
        K G7) x1 x3 G6) (
      (w_X11_putsCursor_h35 K n) x1 x2 (x3 + 1) G0)
def w_X11_putsCursor (K : Gt → Prop) (p0 : Int32) (p1 : Int32) (G0 : Gt) : Prop :=
  vp_in (G0 46 14) 2 ∧
  w_X11_in (fun v2 G1 =>
    pif (v2 = 0) (
      w_X11_putsCursor_j25 K p0 G1) (
      w_X11_places (fun v5 G4 =>
        pif (v5 = 4) (
          w_X11_putsCursor_j25 K p0 G4) (
          ∃ i, w_X11_putsCursor_h35 K i p0 p1 0 G4)) G1)) p1 0 (G0 59 ((G0 46 14) : Int32).toNatClampNeg) G0
def w_X11_next_j16 (K : Int32 → Gt → Prop) (y1 : Int32) (G0 : Gt) : Prop :=
  w_X11_tells (fun v2 G1 =>
    K v2 G1) y1 G0
def w_X11_next (K : Int32 → Gt → Prop) (G0 : Gt) : Prop :=
  pif ((G0 46 52) = 0) (
    w_X11_next_j16 K (-1) G0) (
    w_X11_next_j16 K (G0 46 54) G0)
def w_X11_node_j241 (K : Int32 → Gt → Prop) (x1 : Int32) (x2 : Int32) (x3 : Int32) (x4 : Int32) (x9 : Int32) (y1 : Int32) (y2 : Int32) (y3 : Int32) (G0 : Gt) : Prop :=
  w_X11_goes (fun v4 G3 =>
    pif (v4 = 0) (
      K 0 G3) (
      vp_in (G3 46 0) 120 ∧
      pt (gu G3 47 ((G3 46 0) : Int32).toNatClampNeg x1) fun G5 =>
      vp_in (G5 46 0) 120 ∧
      pt (gu G5 48 ((G5 46 0) : Int32).toNatClampNeg x2) fun G6 =>
      vp_in (G6 46 0) 120 ∧
      pt (gu G6 49 ((G6 46 0) : Int32).toNatClampNeg x3) fun G7 =>
      vp_in (G7 46 0) 120 ∧
      pt (gu G7 50 ((G7 46 0) : Int32).toNatClampNeg x4) fun G8 =>
      vp_in (G8 46 0) 120 ∧
      pt (gu G8 51 ((G8 46 0) : Int32).toNatClampNeg x9) fun G9 =>
      pt (gu G9 46 0 ((G9 46 0) + 1)) fun G10 =>
      K ((G10 46 0) - 1) G10)) y1 y2 y3 G0
def w_X11_node_j240 (K : Int32 → Gt → Prop) (x1 : Int32) (x2 : Int32) (x3 : Int32) (x4 : Int32) (x9 : Int32) (y1 : Int32) (y2 : Int32) (G0 : Gt) : Prop :=
  w_X11_node_j241 K x1 x2 x3 x4 x9 y1 y2 0 G0
def w_X11_node_j212 (K : Int32 → Gt → Prop) (x1 : Int32) (x2 : Int32) (x3 : Int32) (x4 : Int32) (x7 : Int32) (x8 : Int32) (y0 : Int32) (G0 : Gt) : Prop :=
  pif (120 ≤ (G0 46 0)) (
    w_X11_node_j240 K x1 x2 x3 x4 y0 x7 x8 G0) (
    pif (150 < y0) (
      w_X11_node_j240 K x1 x2 x3 x4 y0 x7 x8 G0) (
      w_X11_node_j241 K x1 x2 x3 x4 y0 x7 x8 1 G0))
def w_X11_node_j211 (K : Int32 → Gt → Prop) (x1 : Int32) (x2 : Int32) (x3 : Int32) (x4 : Int32) (x7 : Int32) (x8 : Int32) (G0 : Gt) : Prop :=
  w_X11_node_j212 K x1 x2 x3 x4 x7 x8 0 G0
def w_X11_node_j158 (K : Int32 → Gt → Prop) (x1 : Int32) (x2 : Int32) (x3 : Int32) (x4 : Int32) (x6 : Int32) (x7 : Int32) (y0 : Int32) (G0 : Gt) : Prop :=
  pif (x7 = 0) (
    w_X11_node_j211 K x1 x2 x3 x4 x7 y0 G0) (
    pif (y0 = 0) (
      w_X11_node_j211 K x1 x2 x3 x4 x7 y0 G0) (
      w_X11_sizeOf (fun v12 G11 =>
        w_X11_sizeOf (fun v14 G13 =>
          w_X11_sizeOf (fun v16 G15 =>
            w_X11_node_j212 K x1 x2 x3 x4 x7 y0 (((1 + v12) + v14) + v16) G15) (x6 - x6 / 10 * 10) x4 G13) ((x6 / 10) - (x6 / 10) / 10 * 10) x3 G11) (x6 / 100) x2 G0))
def w_X11_node_j157 (K : Int32 → Gt → Prop) (x1 : Int32) (x2 : Int32) (x3 : Int32) (x4 : Int32) (x6 : Int32) (x7 : Int32) (G0 : Gt) : Prop :=
  w_X11_node_j158 K x1 x2 x3 x4 x6 x7 0 G0
def w_X11_node_j153 (K : Int32 → Gt → Prop) (x1 : Int32) (x2 : Int32) (x3 : Int32) (x4 : Int32) (x6 : Int32) (x7 : Int32) (G0 : Gt) : Prop :=
  w_X11_node_j158 K x1 x2 x3 x4 x6 x7 1 G0
def w_X11_node_j89 (K : Int32 → Gt → Prop) (x1 : Int32) (x2 : Int32) (x3 : Int32) (x4 : Int32) (x5 : Int32) (x6 : Int32) (y0 : Int32) (G0 : Gt) : Prop :=
  pif (x5 = 0) (
    w_X11_node_j157 K x1 x2 x3 x4 x6 y0 G0) (
    w_X11_canBe (fun v18 G17 =>
      pif (v18 = 0) (
        w_X11_node_j157 K x1 x2 x3 x4 x6 y0 G17) (
        w_X11_canBe (fun v20 G19 =>
          pif (v20 = 0) (
            w_X11_node_j157 K x1 x2 x3 x4 x6 y0 G19) (
            w_X11_canBe (fun v22 G21 =>
              pif (v22 = 0) (
                w_X11_node_j157 K x1 x2 x3 x4 x6 y0 G21) (
                pif (x1 = 18) (
                  pif (x3 = (-1)) (
                    pif (x4 = (-1)) (
                      w_X11_node_j153 K x1 x2 x3 x4 x6 y0 G21) (
                      w_X11_node_j157 K x1 x2 x3 x4 x6 y0 G21)) (
                    w_X11_node_j153 K x1 x2 x3 x4 x6 y0 G21)) (
                  w_X11_node_j153 K x1 x2 x3 x4 x6 y0 G21))) (x6 - x6 / 10 * 10) x4 G19)) ((x6 / 10) - (x6 / 10) / 10 * 10) x3 G17)) (x6 / 100) x2 G0)
def w_X11_node_j84 (K : Int32 → Gt → Prop) (x1 : Int32) (x2 : Int32) (x3 : Int32) (x4 : Int32) (x5 : Int32) (x6 : Int32) (G0 : Gt) : Prop :=
  w_X11_node_j89 K x1 x2 x3 x4 x5 x6 1 G0
def w_X11_node_j88 (K : Int32 → Gt → Prop) (x1 : Int32) (x2 : Int32) (x3 : Int32) (x4 : Int32) (x5 : Int32) (x6 : Int32) (G0 : Gt) : Prop :=
  w_X11_node_j89 K x1 x2 x3 x4 x5 x6 0 G0
def w_X11_node_j78 (K : Int32 → Gt → Prop) (x1 : Int32) (x2 : Int32) (x3 : Int32) (x4 : Int32) (x5 : Int32) (x6 : Int32) (y1 : Int32) (y2 : Int32) (y3 : Int32) (G0 : Gt) : Prop :=
  w_X11_canBeNode (fun v28 G27 =>
    pif (v28 = 0) (
      w_X11_node_j88 K x1 x2 x3 x4 x5 x6 G27) (
      w_X11_node_j84 K x1 x2 x3 x4 x5 x6 G27)) y1 y2 y3 G0
def w_X11_node_j22 (K : Int32 → Gt → Prop) (x1 : Int32) (x2 : Int32) (x3 : Int32) (x4 : Int32) (x5 : Int32) (y0 : Int32) (G0 : Gt) : Prop :=
  pif (x5 = 0) (
    w_X11_node_j84 K x1 x2 x3 x4 x5 y0 G0) (
    w_X11_canBeNode (fun v24 G23 =>
      pif (v24 = 0) (
        w_X11_node_j88 K x1 x2 x3 x4 x5 y0 G23) (
        w_X11_canBeNode (fun v26 G25 =>
          pif (v26 = 0) (
            w_X11_node_j88 K x1 x2 x3 x4 x5 y0 G25) (
            pif (x3 = (-1)) (
              w_X11_node_j78 K x1 x2 x3 x4 x5 y0 (y0 - y0 / 10 * 10) x4 0 G25) (
              w_X11_node_j78 K x1 x2 x3 x4 x5 y0 (y0 - y0 / 10 * 10) x4 1 G25))) ((y0 / 10) - (y0 / 10) / 10 * 10) x3 1 G23)) (y0 / 100) x2 1 G0)
def w_X11_node (K : Int32 → Gt → Prop) (p0 : Int32) (p1 : Int32) (p2 : Int32) (p3 : Int32) (G0 : Gt) : Prop :=
  w_X11_in (fun v2 G1 =>
    pif (v2 = 0) (
      w_X11_node_j22 K p0 p1 p2 p3 v2 0 G1) (
      w_X11_partsOf (fun v30 G29 =>
        w_X11_node_j22 K p0 p1 p2 p3 v2 v30 G29) p0 G1)) p0 0 39 G0
def w_X11_prepares (K : Gt → Prop) (p0 : Int32) (G0 : Gt) : Prop :=
  w_X11_keeps (fun G1 =>
    pt (gu G1 46 21 0) fun G2 =>
    pt (gu G2 46 29 0) fun G3 =>
    pt (gu G3 46 32 0) fun G4 =>
    pt (gu G4 46 35 0) fun G5 =>
    pt (gu G5 46 47 0) fun G6 =>
    pt (gu G6 46 49 (-1)) fun G7 =>
    pt (gu G7 46 50 0) fun G8 =>
    pt (gu G8 46 51 0) fun G9 =>
    pt (gu G9 46 53 0) fun G10 =>
    pt (gu G10 46 58 0) fun G11 =>
    pt (gu G11 46 59 (G11 46 13)) fun G12 =>
    pt (gu G12 46 62 0) fun G13 =>
    pt (gu G13 46 63 50000) fun G14 =>
    pt (gu G14 46 64 0) fun G15 =>
    w_X11_opens (fun v17 G16 =>
      w_X11_begins (fun v19 G18 =>
        K G18) p0 0 (-1) v17 G16) (-1) G15) G0
def w_X11_callsSlot_j70 (K : Gt → Prop) (y1 : Int32) (y2 : Int32) (G0 : Gt) : Prop :=
  w_X11_fails (fun G2 =>
    K G2) y1 y2 G0
def w_X11_callsSlot_j49 (K : Gt → Prop) (x1 : Int32) (x2 : Int32) (y1 : Int32) (G0 : Gt) : Prop :=
  bz y1 ∧
  pt (gu G0 46 51 y1) fun G1 =>
  vp_in x2 6 ∧
  pif ((G1 54 (x2 : Int32).toNatClampNeg) = (-1)) (
    w_X11_callsSlot_j70 K x1 (-1) G1) (
    w_X11_callsSlot_j70 K x1 (-3) G1)
def w_X11_callsSlot_j48 (K : Gt → Prop) (x1 : Int32) (x2 : Int32) (G0 : Gt) : Prop :=
  w_X11_callsSlot_j49 K x1 x2 0 G0
def w_X11_callsSlot_j20 (K : Gt → Prop) (x1 : Int32) (x2 : Int32) (G0 : Gt) : Prop :=
  pif ((G0 46 51) = 0) (
    w_X11_callsSlot_j48 K x1 x2 G0) (
    vp_in x1 1220 ∧
    vp_in (G0 64 (x1 : Int32).toNatClampNeg) 120 ∧
    pif ((G0 47 ((G0 64 (x1 : Int32).toNatClampNeg) : Int32).toNatClampNeg) = 29) (
      w_X11_callsSlot_j48 K x1 x2 G0) (
      w_X11_callsSlot_j49 K x1 x2 1 G0))
def w_X11_callsSlot_j215 (K : Gt → Prop)  (G0 : Gt) : Prop :=
  K G0
def w_X11_callsSlot_j209 (K : Gt → Prop) (x1 : Int32) (x2 : Int32) (G0 : Gt) : Prop :=
  w_X11_enters (fun G6 =>
    w_X11_callsSlot_j215 K G6) x1 x2 G0
def w_X11_callsSlot_j151 (K : Gt → Prop) (x1 : Int32) (x2 : Int32) (x3 : Int32) (x6 : Int32) (G0 : Gt) : Prop :=
  vp_in x2 6 ∧
  pif ((G0 53 (x2 : Int32).toNatClampNeg) = 2) (
    pif (2 ≤ x3) (
      w_X11_callsSlot_j209 K x1 x2 G0) (
      vp_in x2 6 ∧
      pif ((G0 55 (x2 : Int32).toNatClampNeg) = (-1)) (
        w_X11_callsSlot_j209 K x1 x2 G0) (
        vp_in ((8 * x6) + 1) 4960 ∧
        pt (gu G0 72 (((8 * x6) + 1) : Int32).toNatClampNeg (-100000)) fun G7 =>
        vp_in x2 6 ∧
        w_X11_begins (fun v9 G8 =>
          w_X11_callsSlot_j215 K G8) (G7 55 (x2 : Int32).toNatClampNeg) 3 x1 x6 G7))) (
    w_X11_callsSlot_j209 K x1 x2 G0)
def w_X11_callsSlot_j150 (K : Gt → Prop) (x1 : Int32) (x2 : Int32) (x3 : Int32) (x6 : Int32) (y1 : Int32) (y2 : Int32) (G0 : Gt) : Prop :=
  vp_in y1 4960 ∧
  pt (gu G0 72 (y1 : Int32).toNatClampNeg y2) fun G10 =>
  w_X11_callsSlot_j151 K x1 x2 x3 x6 G10
def w_X11_callsSlot_j118 (K : Gt → Prop) (x1 : Int32) (x2 : Int32) (x3 : Int32) (x5 : Int32) (x6 : Int32) (G0 : Gt) : Prop :=
  vp_in x2 6 ∧
  pif ((G0 53 (x2 : Int32).toNatClampNeg) = 2) (
    pif (x3 ≤ 1) (
      w_X11_callsSlot_j150 K x1 x2 x3 x6 ((8 * x6) + 1) 0 G0) (
      w_X11_callsSlot_j150 K x1 x2 x3 x6 ((8 * x6) + 1) x5 G0)) (
    w_X11_callsSlot_j151 K x1 x2 x3 x6 G0)
def w_X11_callsSlot_j117 (K : Gt → Prop) (x1 : Int32) (x2 : Int32) (x3 : Int32) (x5 : Int32) (x6 : Int32) (y1 : Int32) (y2 : Int32) (G0 : Gt) : Prop :=
  vp_in y1 4960 ∧
  pt (gu G0 72 (y1 : Int32).toNatClampNeg y2) fun G11 =>
  w_X11_callsSlot_j118 K x1 x2 x3 x5 x6 G11
def w_X11_callsSlot (K : Gt → Prop) (p0 : Int32) (p1 : Int32) (p2 : Int32) (p3 : Int32) (p4 : Int32) (G0 : Gt) : Prop :=
  vp_in p1 6 ∧
  pif ((G0 54 (p1 : Int32).toNatClampNeg) = (-1)) (
    w_X11_callsSlot_j20 K p0 p1 G0) (
    vp_in p1 6 ∧
    pif (p2 ≤ (G0 53 (p1 : Int32).toNatClampNeg)) (
      w_X11_opens (fun v4 G3 =>
        vp_in p0 1220 ∧
        pt (gu G3 69 (p0 : Int32).toNatClampNeg v4) fun G5 =>
        vp_in p1 6 ∧
        pif ((G5 53 (p1 : Int32).toNatClampNeg) ≤ 0) (
          w_X11_callsSlot_j118 K p0 p1 p2 p4 v4 G5) (
          pif (p2 ≤ 0) (
            w_X11_callsSlot_j117 K p0 p1 p2 p4 v4 (8 * v4) 0 G5) (
            w_X11_callsSlot_j117 K p0 p1 p2 p4 v4 (8 * v4) p3 G5))) (-1) G0) (
      w_X11_callsSlot_j20 K p0 p1 G0))
def w_X11_bodyEnds_j256 (K : Gt → Prop)  (G0 : Gt) : Prop :=
  K G0
def w_X11_bodyEnds_j158 (K : Gt → Prop) (y1 : Int32) (y2 : Int32) (G0 : Gt) : Prop :=
  w_X11_ends (fun G7 =>
    w_X11_bodyEnds_j256 K G7) y1 y2 G0
def w_X11_bodyEnds_j113 (K : Gt → Prop) (x2 : Int32) (x3 : Int32) (y1 : Int32) (G0 : Gt) : Prop :=
  bz y1 ∧
  pt (gu G0 46 51 y1) fun G4 =>
  w_X11_comesBack (fun G5 =>
    vp_in x2 1220 ∧
    pt (gu G5 46 57 (G5 65 (x2 : Int32).toNatClampNeg)) fun G6 =>
    pif ((G6 46 41) = 2) (
      w_X11_bodyEnds_j256 K G6) (
      pif (x3 = 0) (
        w_X11_bodyEnds_j158 K x2 (G6 46 42) G6) (
        vp_in x2 1220 ∧
        w_X11_bodyEnds_j158 K x2 (G6 68 (x2 : Int32).toNatClampNeg) G6))) x2 G4
def w_X11_bodyEnds_j112 (K : Gt → Prop) (x2 : Int32) (x3 : Int32) (G0 : Gt) : Prop :=
  w_X11_bodyEnds_j113 K x2 x3 0 G0
def w_X11_bodyEnds_j95 (K : Gt → Prop) (x2 : Int32) (y0 : Int32) (G0 : Gt) : Prop :=
  pif ((G0 46 51) = 0) (
    w_X11_bodyEnds_j112 K x2 y0 G0) (
    pif (y0 = 0) (
      w_X11_bodyEnds_j113 K x2 y0 1 G0) (
      w_X11_bodyEnds_j112 K x2 y0 G0))
def w_X11_bodyEnds_j201 (K : Gt → Prop) (x2 : Int32) (y1 : Int32) (G0 : Gt) : Prop :=
  bz y1 ∧
  pt (gu G0 46 51 y1) fun G12 =>
  vp_in x2 1220 ∧
  pt (gu G12 46 57 (G12 65 (x2 : Int32).toNatClampNeg)) fun G13 =>
  w_X11_bodyEnds_j256 K G13
def w_X11_bodyEnds_j200 (K : Gt → Prop) (x2 : Int32) (G0 : Gt) : Prop :=
  w_X11_bodyEnds_j201 K x2 0 G0
def w_X11_bodyEnds_j250 (K : Gt → Prop) (x1 : Int32) (x2 : Int32) (G0 : Gt) : Prop :=
  w_X11_generatorEnds (fun G14 =>
    w_X11_bodyEnds_j256 K G14) x1 x2 G0
def w_X11_bodyEnds (K : Gt → Prop) (p0 : Int32) (G0 : Gt) : Prop :=
  vp_in p0 1220 ∧
  vp_in p0 1220 ∧
  pif ((G0 67 (p0 : Int32).toNatClampNeg) = 0) (
    pif ((G0 46 41) = 2) (
      w_X11_stops (fun G3 =>
        w_X11_bodyEnds_j256 K G3) G0) (
      pt (gu G0 46 62 (G0 46 42)) fun G1 =>
      w_X11_closes (fun G2 =>
        w_X11_bodyEnds_j256 K G2) G1)) (
  pif ((G0 67 (p0 : Int32).toNatClampNeg) = 1) (
    vp_in (G0 65 (p0 : Int32).toNatClampNeg) 1220 ∧
    vp_in (G0 64 ((G0 65 (p0 : Int32).toNatClampNeg) : Int32).toNatClampNeg) 120 ∧
    pif ((G0 47 ((G0 64 ((G0 65 (p0 : Int32).toNatClampNeg) : Int32).toNatClampNeg) : Int32).toNatClampNeg) = 29) (
      w_X11_bodyEnds_j95 K (G0 65 (p0 : Int32).toNatClampNeg) 1 G0) (
      w_X11_bodyEnds_j95 K (G0 65 (p0 : Int32).toNatClampNeg) 0 G0)) (
  pif ((G0 67 (p0 : Int32).toNatClampNeg) = 3) (
    pif ((G0 46 41) = 2) (
      pif ((G0 46 51) = 0) (
        w_X11_bodyEnds_j200 K (G0 65 (p0 : Int32).toNatClampNeg) G0) (
        vp_in (G0 65 (p0 : Int32).toNatClampNeg) 1220 ∧
        vp_in (G0 64 ((G0 65 (p0 : Int32).toNatClampNeg) : Int32).toNatClampNeg) 120 ∧
        pif ((G0 47 ((G0 64 ((G0 65 (p0 : Int32).toNatClampNeg) : Int32).toNatClampNeg) : Int32).toNatClampNeg) = 29) (
          w_X11_bodyEnds_j200 K (G0 65 (p0 : Int32).toNatClampNeg) G0) (
          w_X11_bodyEnds_j201 K (G0 65 (p0 : Int32).toNatClampNeg) 1 G0))) (
      vp_in (G0 65 (p0 : Int32).toNatClampNeg) 1220 ∧
      vp_in ((8 * (G0 69 ((G0 65 (p0 : Int32).toNatClampNeg) : Int32).toNatClampNeg)) + 1) 4960 ∧
      pt (gu G0 72 (((8 * (G0 69 ((G0 65 (p0 : Int32).toNatClampNeg) : Int32).toNatClampNeg)) + 1) : Int32).toNatClampNeg (G0 46 42)) fun G8 =>
      w_X11_slotOf (fun v10 G9 =>
        w_X11_enters (fun G11 =>
          w_X11_bodyEnds_j256 K G11) (G0 65 (p0 : Int32).toNatClampNeg) v10 G9) (G0 65 (p0 : Int32).toNatClampNeg) G8)) (
    w_X11_bodyEnds_j250 K p0 (G0 65 (p0 : Int32).toNatClampNeg) G0)))
def w_X11_reckons_j83 (K : Gt → Prop)  (G0 : Gt) : Prop :=
  K G0
def w_X11_reckons_j40 (K : Gt → Prop) (x1 : Int32) (G0 : Gt) : Prop :=
  w_X11_fails (fun G3 =>
    w_X11_reckons_j83 K G3) x1 (-3) G0
def w_X11_reckons_j71 (K : Gt → Prop) (x1 : Int32) (x2 : Int32) (x3 : Int32) (x4 : Int32) (G0 : Gt) : Prop :=
  w_X11_makes (fun v7 G6 =>
    w_X11_ends (fun G8 =>
      w_X11_reckons_j83 K G8) x1 v7 G6) x2 x3 x4 G0
def w_X11_reckons_j19 (K : Gt → Prop) (y1 : Int32) (y2 : Int32) (G0 : Gt) : Prop :=
  w_X11_ends (fun G10 =>
    w_X11_reckons_j83 K G10) y1 y2 G0
def w_X11_reckons (K : Gt → Prop) (p0 : Int32) (p1 : Int32) (p2 : Int32) (p3 : Int32) (G0 : Gt) : Prop :=
  pif (p1 = 9) (
    pif (p2 = p3) (
      w_X11_reckons_j19 K p0 1 G0) (
      w_X11_reckons_j19 K p0 0 G0)) (
    w_X11_isNumber (fun v2 G1 =>
      pif (v2 = 0) (
        w_X11_reckons_j40 K p0 G1) (
        w_X11_isNumber (fun v5 G4 =>
          pif (v5 = 0) (
            w_X11_reckons_j40 K p0 G4) (
            pif (p1 = 7) (
              pif (p3 = 0) (
                w_X11_fails (fun G9 =>
                  w_X11_reckons_j83 K G9) p0 (-2) G4) (
                w_X11_reckons_j71 K p0 p1 p2 p3 G4)) (
              w_X11_reckons_j71 K p0 p1 p2 p3 G4))) p3 G1)) p2 G0)
def w_X11_hasArgument_j74 (K : Gt → Prop)  (G0 : Gt) : Prop :=
  K G0
def w_X11_hasArgument (K : Gt → Prop) (p0 : Int32) (p1 : Int32) (p2 : Int32) (p3 : Int32) (G0 : Gt) : Prop :=
  pif (p2 = 1) (
    vp_in p1 120 ∧
    vp_in p0 1220 ∧
    w_X11_callsSlot (fun G4 =>
      K G4) p0 (G0 48 (p1 : Int32).toNatClampNeg) 2 (G0 68 (p0 : Int32).toNatClampNeg) p3 G0) (
    vp_in p0 1220 ∧
    pt (gu G0 68 (p0 : Int32).toNatClampNeg p3) fun G1 =>
    vp_in p1 120 ∧
    pif ((G1 50 (p1 : Int32).toNatClampNeg) = (-1)) (
      vp_in p1 120 ∧
      w_X11_callsSlot (fun G3 =>
        w_X11_hasArgument_j74 K G3) p0 (G1 48 (p1 : Int32).toNatClampNeg) 1 p3 0 G1) (
      vp_in p1 120 ∧
      w_X11_parts (fun G2 =>
        w_X11_hasArgument_j74 K G2) (G1 50 (p1 : Int32).toNatClampNeg) p0 1 G1))
def w_X11_putsLetter_j24 (K : Gt → Prop) (x1 : Int32) (G0 : Gt) : Prop :=
  w_X11_fails (fun G3 =>
    K G3) x1 (-4) G0
def w_X11_putsLetter_j98 (K : Gt → Prop)  (G0 : Gt) : Prop :=
  K G0
def w_X11_putsLetter_j59 (K : Gt → Prop) (x1 : Int32) (x2 : Int32) (G0 : Gt) : Prop :=
  w_X11_ends (fun G6 =>
    w_X11_putsLetter_j98 K G6) x1 x2 G0
def w_X11_putsLetter (K : Gt → Prop) (p0 : Int32) (p1 : Int32) (G0 : Gt) : Prop :=
  w_X11_in (fun v2 G1 =>
    pif (v2 = 0) (
      w_X11_putsLetter_j24 K p0 G1) (
      vp_in (G1 46 14) 2 ∧
      pif ((G1 59 ((G1 46 14) : Int32).toNatClampNeg) = 40) (
        w_X11_putsLetter_j24 K p0 G1) (
        w_X11_inserts (fun G4 =>
          vp_in p0 1220 ∧
          pt (gu G4 68 (p0 : Int32).toNatClampNeg p1) fun G5 =>
          pif ((G5 46 12) = (-1)) (
            w_X11_putsLetter_j59 K p0 p1 G5) (
            pif ((G5 46 51) = 0) (
              pt (gu G5 46 51 1) fun G7 =>
              vp_in p0 1220 ∧
              pt (gu G7 67 (p0 : Int32).toNatClampNeg (10 + (G7 46 12))) fun G8 =>
              w_X11_callsSlot (fun G9 =>
                w_X11_putsLetter_j98 K G9) p0 (G8 46 12) 1 p1 0 G8) (
              w_X11_putsLetter_j59 K p0 p1 G5))) p1 G1))) p1 0 25 G0
def w_X11_start_j35 (K : Gt → Prop)  (G0 : Gt) : Prop :=
  K G0
def w_X11_start_j18 (K : Gt → Prop) (x1 : Int32) (y1 : Int32) (y2 : Int32) (G0 : Gt) : Prop :=
  w_X11_goes (fun v4 G3 =>
    pif (v4 = 0) (
      w_X11_start_j35 K G3) (
      w_X11_prepares (fun G5 =>
        pt (gu G5 46 52 1) fun G6 =>
        w_X11_start_j35 K G6) x1 G3)) y1 y2 1 G0
def w_X11_start (K : Gt → Prop) (p0 : Int32) (G0 : Gt) : Prop :=
  w_X11_isNode (fun v2 G1 =>
    pif ((G1 46 52) = 0) (
      w_X11_start_j18 K p0 v2 1 G1) (
      w_X11_start_j18 K p0 v2 0 G1)) p0 G0
def w_X11_beginsCall_j24 (K : Gt → Prop)  (G0 : Gt) : Prop :=
  K G0
def w_X11_beginsCall (K : Gt → Prop) (p0 : Int32) (p1 : Int32) (p2 : Int32) (G0 : Gt) : Prop :=
  pif (p2 = (-1)) (
    w_X11_callsSlot (fun G2 =>
      w_X11_beginsCall_j24 K G2) p0 p1 0 0 0 G0) (
    w_X11_parts (fun G1 =>
      w_X11_beginsCall_j24 K G1) p2 p0 0 G0)
def w_X11_takes_j211 (K : Gt → Prop)  (G0 : Gt) : Prop :=
  K G0
def w_X11_takes_j183 (K : Gt → Prop) (x1 : Int32) (x3 : Int32) (G0 : Gt) : Prop :=
  w_X11_isBuffer (fun v12 G11 =>
    pif (v12 = 0) (
      w_X11_fails (fun G13 =>
        w_X11_takes_j211 K G13) x1 (-4) G11) (
      pt (gu G11 46 14 x3) fun G14 =>
      w_X11_ends (fun G15 =>
        w_X11_takes_j211 K G15) x1 x3 G14)) x3 G0
def w_X11_takes (K : Gt → Prop) (p0 : Int32) (p1 : Int32) (p2 : Int32) (G0 : Gt) : Prop :=
  pif (p1 = 22) (
    w_X11_fails (fun G1 =>
      w_X11_takes_j211 K G1) p0 p2 G0) (
  pif (p1 = 28) (
    vp_in p0 1220 ∧
    vp_in (G0 64 (p0 : Int32).toNatClampNeg) 120 ∧
    vp_in (G0 48 ((G0 64 (p0 : Int32).toNatClampNeg) : Int32).toNatClampNeg) 4 ∧
    pt (gu G0 57 ((G0 48 ((G0 64 (p0 : Int32).toNatClampNeg) : Int32).toNatClampNeg) : Int32).toNatClampNeg p2) fun G2 =>
    w_X11_ends (fun G3 =>
      w_X11_takes_j211 K G3) p0 p2 G2) (
  pif (p1 = 29) (
    w_X11_putsLetter (fun G4 =>
      w_X11_takes_j211 K G4) p0 p2 G0) (
  pif (p1 = 31) (
    vp_in (G0 46 14) 2 ∧
    w_X11_in (fun v6 G5 =>
      pif (v6 = 0) (
        w_X11_fails (fun G7 =>
          w_X11_takes_j211 K G7) p0 (-4) G5) (
        vp_in (G5 46 14) 2 ∧
        vp_in ((4 * (G5 46 14)) + (G5 61 ((G5 46 14) : Int32).toNatClampNeg)) 8 ∧
        pt (gu G5 60 (((4 * (G5 46 14)) + (G5 61 ((G5 46 14) : Int32).toNatClampNeg)) : Int32).toNatClampNeg p2) fun G8 =>
        w_X11_ends (fun G9 =>
          w_X11_takes_j211 K G9) p0 p2 G8)) p2 0 (G0 59 ((G0 46 14) : Int32).toNatClampNeg) G0) (
  pif (p1 = 35) (
    w_X11_putsCursor (fun G10 =>
      w_X11_takes_j211 K G10) p0 p2 G0) (
    w_X11_takes_j183 K p0 p2 G0)))))
def w_X11_beginsNode_j531 (K : Gt → Prop)  (G0 : Gt) : Prop :=
  K G0
def w_X11_beginsNode_j234 (K : Gt → Prop) (x1 : Int32) (x2 : Int32) (G0 : Gt) : Prop :=
  vp_in x1 120 ∧
  w_X11_parts (fun G7 =>
    w_X11_beginsNode_j531 K G7) (G0 49 (x1 : Int32).toNatClampNeg) x2 0 G0
def w_X11_beginsNode_j469 (K : Gt → Prop) (x1 : Int32) (x2 : Int32) (G0 : Gt) : Prop :=
  vp_in x1 120 ∧
  w_X11_looks (fun G26 =>
    w_X11_beginsNode_j531 K G26) x2 (G0 47 (x1 : Int32).toNatClampNeg) G0
def w_X11_beginsNode_j524 (K : Gt → Prop) (x2 : Int32) (x3 : Int32) (G0 : Gt) : Prop :=
  w_X11_parts (fun G35 =>
    w_X11_beginsNode_j531 K G35) x3 x2 0 G0
def w_X11_beginsNode (K : Gt → Prop) (G0 : Gt) : Prop :=
  w_X11_lays (fun v2 G1 =>
    vp_in (G0 46 54) 120 ∧
    vp_in (G0 46 54) 120 ∧
    pif ((G1 47 ((G0 46 54) : Int32).toNatClampNeg) = 0) (
      w_X11_ends (fun G3 =>
        w_X11_beginsNode_j531 K G3) v2 (G1 48 ((G0 46 54) : Int32).toNatClampNeg) G1) (
    pif ((G1 47 ((G0 46 54) : Int32).toNatClampNeg) = 1) (
      w_X11_cellOf (fun v5 G4 =>
        w_X11_names (fun G6 =>
          w_X11_beginsNode_j531 K G6) v2 v5 G4) (G1 46 55) (G1 48 ((G0 46 54) : Int32).toNatClampNeg) G1) (
    pif ((G1 47 ((G0 46 54) : Int32).toNatClampNeg) = 2) (
      w_X11_beginsNode_j234 K (G0 46 54) v2 G1) (
    pif ((G1 47 ((G0 46 54) : Int32).toNatClampNeg) = 3) (
      w_X11_beginsNode_j234 K (G0 46 54) v2 G1) (
    pif ((G1 47 ((G0 46 54) : Int32).toNatClampNeg) = 12) (
      w_X11_opens (fun v9 G8 =>
        w_X11_asks (fun G10 =>
          w_X11_beginsNode_j531 K G10) (G1 48 ((G0 46 54) : Int32).toNatClampNeg) v2 v9 G8) (G1 46 55) G1) (
    pif ((G1 47 ((G0 46 54) : Int32).toNatClampNeg) = 13) (
      vp_in (G0 46 54) 120 ∧
      w_X11_opens (fun v12 G11 =>
        w_X11_asks (fun G13 =>
          w_X11_beginsNode_j531 K G13) (G1 49 ((G0 46 54) : Int32).toNatClampNeg) v2 v12 G11) (G1 46 55) G1) (
    pif ((G1 47 ((G0 46 54) : Int32).toNatClampNeg) = 14) (
      w_X11_beginsNode_j234 K (G0 46 54) v2 G1) (
    pif ((G1 47 ((G0 46 54) : Int32).toNatClampNeg) = 15) (
      w_X11_leavesTo (fun G14 =>
        w_X11_beginsNode_j531 K G14) v2 4 (G1 48 ((G0 46 54) : Int32).toNatClampNeg) 0 G1) (
    pif ((G1 47 ((G0 46 54) : Int32).toNatClampNeg) = 16) (
      vp_in (G1 46 32) 610 ∧
      pt (gu G1 73 ((G1 46 32) : Int32).toNatClampNeg (G0 46 54)) fun G15 =>
      vp_in (G15 46 32) 610 ∧
      pt (gu G15 74 ((G15 46 32) : Int32).toNatClampNeg (G15 46 55)) fun G16 =>
      pt (gu G16 46 32 ((G16 46 32) + 1)) fun G17 =>
      w_X11_ends (fun G18 =>
        w_X11_beginsNode_j531 K G18) v2 ((20000 + (G17 46 32)) - 1) G17) (
    pif ((G1 47 ((G0 46 54) : Int32).toNatClampNeg) = 18) (
      vp_in (G0 46 54) 120 ∧
      w_X11_beginsCall (fun G19 =>
        w_X11_beginsNode_j531 K G19) v2 (G1 48 ((G0 46 54) : Int32).toNatClampNeg) (G1 49 ((G0 46 54) : Int32).toNatClampNeg) G1) (
    pif ((G1 47 ((G0 46 54) : Int32).toNatClampNeg) = 20) (
      w_X11_beginsNode_j234 K (G0 46 54) v2 G1) (
    pif ((G1 47 ((G0 46 54) : Int32).toNatClampNeg) = 23) (
      vp_in (G1 46 35) 610 ∧
      pt (gu G1 75 ((G1 46 35) : Int32).toNatClampNeg (G0 46 54)) fun G20 =>
      vp_in (G20 46 35) 610 ∧
      pt (gu G20 76 ((G20 46 35) : Int32).toNatClampNeg (G20 46 55)) fun G21 =>
      vp_in (G21 46 35) 610 ∧
      pt (gu G21 77 ((G21 46 35) : Int32).toNatClampNeg 0) fun G22 =>
      pt (gu G22 46 35 ((G22 46 35) + 1)) fun G23 =>
      w_X11_ends (fun G24 =>
        w_X11_beginsNode_j531 K G24) v2 ((30000 + (G23 46 35)) - 1) G23) (
    pif ((G1 47 ((G0 46 54) : Int32).toNatClampNeg) = 26) (
      w_X11_beginsNode_j234 K (G0 46 54) v2 G1) (
    pif ((G1 47 ((G0 46 54) : Int32).toNatClampNeg) = 27) (
      vp_in (G1 48 ((G0 46 54) : Int32).toNatClampNeg) 4 ∧
      w_X11_ends (fun G25 =>
        w_X11_beginsNode_j531 K G25) v2 (G1 56 ((G1 48 ((G0 46 54) : Int32).toNatClampNeg) : Int32).toNatClampNeg) G1) (
    pif ((G1 47 ((G0 46 54) : Int32).toNatClampNeg) = 28) (
      w_X11_beginsNode_j234 K (G0 46 54) v2 G1) (
    pif ((G1 47 ((G0 46 54) : Int32).toNatClampNeg) = 30) (
      w_X11_beginsNode_j469 K (G0 46 54) v2 G1) (
    pif ((G1 47 ((G0 46 54) : Int32).toNatClampNeg) = 32) (
      w_X11_beginsNode_j469 K (G0 46 54) v2 G1) (
    pif ((G1 47 ((G0 46 54) : Int32).toNatClampNeg) = 33) (
      w_X11_beginsNode_j469 K (G0 46 54) v2 G1) (
    pif ((G1 47 ((G0 46 54) : Int32).toNatClampNeg) = 34) (
      w_X11_beginsNode_j469 K (G0 46 54) v2 G1) (
    pif ((G1 47 ((G0 46 54) : Int32).toNatClampNeg) = 36) (
      w_X11_inOrder (fun v28 G27 =>
        vp_in v2 1220 ∧
        pt (gu G27 68 (v2 : Int32).toNatClampNeg v28) fun G29 =>
        vp_in (G29 46 14) 2 ∧
        vp_in v2 1220 ∧
        pt (gu G29 69 (v2 : Int32).toNatClampNeg ((8 * (G29 46 14)) + (G29 61 ((G29 46 14) : Int32).toNatClampNeg))) fun G30 =>
        w_X11_goesOn (fun G31 =>
          w_X11_beginsNode_j531 K G31) v2 G30) G1) (
    pif ((G1 47 ((G0 46 54) : Int32).toNatClampNeg) = 38) (
      vp_in (G0 46 54) 120 ∧
      w_X11_reloads (fun G32 =>
        w_X11_beginsNode_j531 K G32) v2 (G1 48 ((G0 46 54) : Int32).toNatClampNeg) (G1 49 ((G0 46 54) : Int32).toNatClampNeg) G1) (
    pif ((G1 47 ((G0 46 54) : Int32).toNatClampNeg) = 39) (
      pt (gu G1 46 12 (G1 48 ((G0 46 54) : Int32).toNatClampNeg)) fun G33 =>
      w_X11_ends (fun G34 =>
        w_X11_beginsNode_j531 K G34) v2 0 G33) (
      w_X11_beginsNode_j524 K v2 (G1 48 ((G0 46 54) : Int32).toNatClampNeg) G1))))))))))))))))))))))) (G0 46 54) (G0 46 56) (G0 46 55) 0 G0
def w_X11_hasValue_j661 (K : Gt → Prop)  (G0 : Gt) : Prop :=
  K G0
def w_X11_hasValue_j236 (K : Gt → Prop) (x1 : Int32) (x2 : Int32) (x3 : Int32) (x4 : Int32) (x5 : Int32) (G0 : Gt) : Prop :=
  pif (x4 = 0) (
    vp_in x1 1220 ∧
    pt (gu G0 68 (x1 : Int32).toNatClampNeg x2) fun G7 =>
    vp_in x3 120 ∧
    w_X11_parts (fun G8 =>
      w_X11_hasValue_j661 K G8) (G7 49 (x3 : Int32).toNatClampNeg) x1 1 G7) (
    vp_in x1 1220 ∧
    w_X11_reckons (fun G6 =>
      w_X11_hasValue_j661 K G6) x1 x5 (G0 68 (x1 : Int32).toNatClampNeg) x2 G0)
def w_X11_hasValue_j305 (K : Gt → Prop) (x1 : Int32) (y1 : Int32) (G0 : Gt) : Prop :=
  w_X11_parts (fun G10 =>
    w_X11_hasValue_j661 K G10) y1 x1 1 G0
def w_X11_hasValue_j627 (K : Gt → Prop) (x1 : Int32) (x2 : Int32) (G0 : Gt) : Prop :=
  w_X11_ends (fun G13 =>
    w_X11_hasValue_j661 K G13) x1 x2 G0
def w_X11_hasValue_j473 (K : Gt → Prop) (x1 : Int32) (x2 : Int32) (G0 : Gt) : Prop :=
  w_X11_leaves (fun G24 =>
    w_X11_hasValue_j661 K G24) x1 5 0 x2 G0
def w_X11_hasValue_j636 (K : Gt → Prop) (x1 : Int32) (x2 : Int32) (x5 : Int32) (G0 : Gt) : Prop :=
  w_X11_isNumber (fun v40 G39 =>
    pif (v40 = 0) (
      w_X11_fails (fun G41 =>
        w_X11_hasValue_j661 K G41) x1 (-3) G39) (
      w_X11_takes (fun G42 =>
        w_X11_hasValue_j661 K G42) x1 x5 x2 G39)) x2 G0
def w_X11_hasValue (K : Gt → Prop) (p0 : Int32) (p1 : Int32) (G0 : Gt) : Prop :=
  vp_in p0 1220 ∧
  vp_in p0 1220 ∧
  vp_in (G0 64 (p0 : Int32).toNatClampNeg) 120 ∧
  pif ((G0 47 ((G0 64 (p0 : Int32).toNatClampNeg) : Int32).toNatClampNeg) = 2) (
    vp_in p0 1220 ∧
    vp_in (G0 64 (p0 : Int32).toNatClampNeg) 120 ∧
    vp_in ((8 * (G0 66 (p0 : Int32).toNatClampNeg)) + (G0 48 ((G0 64 (p0 : Int32).toNatClampNeg) : Int32).toNatClampNeg)) 4960 ∧
    pt (gu G0 72 (((8 * (G0 66 (p0 : Int32).toNatClampNeg)) + (G0 48 ((G0 64 (p0 : Int32).toNatClampNeg) : Int32).toNatClampNeg)) : Int32).toNatClampNeg p1) fun G1 =>
    w_X11_ends (fun G2 =>
      w_X11_hasValue_j661 K G2) p0 p1 G1) (
  pif ((G0 47 ((G0 64 (p0 : Int32).toNatClampNeg) : Int32).toNatClampNeg) = 3) (
    vp_in p0 1220 ∧
    vp_in (G0 64 (p0 : Int32).toNatClampNeg) 120 ∧
    w_X11_cellOf (fun v4 G3 =>
      w_X11_puts (fun G5 =>
        w_X11_hasValue_j661 K G5) p0 v4 p1 G3) (G0 66 (p0 : Int32).toNatClampNeg) (G0 48 ((G0 64 (p0 : Int32).toNatClampNeg) : Int32).toNatClampNeg) G0) (
  pif ((G0 47 ((G0 64 (p0 : Int32).toNatClampNeg) : Int32).toNatClampNeg) = 4) (
    w_X11_hasValue_j236 K p0 p1 (G0 64 (p0 : Int32).toNatClampNeg) (G0 67 (p0 : Int32).toNatClampNeg) (G0 47 ((G0 64 (p0 : Int32).toNatClampNeg) : Int32).toNatClampNeg) G0) (
  pif ((G0 47 ((G0 64 (p0 : Int32).toNatClampNeg) : Int32).toNatClampNeg) = 5) (
    w_X11_hasValue_j236 K p0 p1 (G0 64 (p0 : Int32).toNatClampNeg) (G0 67 (p0 : Int32).toNatClampNeg) (G0 47 ((G0 64 (p0 : Int32).toNatClampNeg) : Int32).toNatClampNeg) G0) (
  pif ((G0 47 ((G0 64 (p0 : Int32).toNatClampNeg) : Int32).toNatClampNeg) = 6) (
    w_X11_hasValue_j236 K p0 p1 (G0 64 (p0 : Int32).toNatClampNeg) (G0 67 (p0 : Int32).toNatClampNeg) (G0 47 ((G0 64 (p0 : Int32).toNatClampNeg) : Int32).toNatClampNeg) G0) (
  pif ((G0 47 ((G0 64 (p0 : Int32).toNatClampNeg) : Int32).toNatClampNeg) = 7) (
    w_X11_hasValue_j236 K p0 p1 (G0 64 (p0 : Int32).toNatClampNeg) (G0 67 (p0 : Int32).toNatClampNeg) (G0 47 ((G0 64 (p0 : Int32).toNatClampNeg) : Int32).toNatClampNeg) G0) (
  pif ((G0 47 ((G0 64 (p0 : Int32).toNatClampNeg) : Int32).toNatClampNeg) = 8) (
    w_X11_hasValue_j236 K p0 p1 (G0 64 (p0 : Int32).toNatClampNeg) (G0 67 (p0 : Int32).toNatClampNeg) (G0 47 ((G0 64 (p0 : Int32).toNatClampNeg) : Int32).toNatClampNeg) G0) (
  pif ((G0 47 ((G0 64 (p0 : Int32).toNatClampNeg) : Int32).toNatClampNeg) = 9) (
    w_X11_hasValue_j236 K p0 p1 (G0 64 (p0 : Int32).toNatClampNeg) (G0 67 (p0 : Int32).toNatClampNeg) (G0 47 ((G0 64 (p0 : Int32).toNatClampNeg) : Int32).toNatClampNeg) G0) (
  pif ((G0 47 ((G0 64 (p0 : Int32).toNatClampNeg) : Int32).toNatClampNeg) = 10) (
    pif ((G0 67 (p0 : Int32).toNatClampNeg) = 0) (
      pif (p1 = 0) (
        vp_in (G0 64 (p0 : Int32).toNatClampNeg) 120 ∧
        w_X11_hasValue_j305 K p0 (G0 50 ((G0 64 (p0 : Int32).toNatClampNeg) : Int32).toNatClampNeg) G0) (
        vp_in (G0 64 (p0 : Int32).toNatClampNeg) 120 ∧
        w_X11_hasValue_j305 K p0 (G0 49 ((G0 64 (p0 : Int32).toNatClampNeg) : Int32).toNatClampNeg) G0)) (
      w_X11_ends (fun G9 =>
        w_X11_hasValue_j661 K G9) p0 p1 G0)) (
  pif ((G0 47 ((G0 64 (p0 : Int32).toNatClampNeg) : Int32).toNatClampNeg) = 11) (
    pif ((G0 67 (p0 : Int32).toNatClampNeg) = 0) (
      vp_in (G0 64 (p0 : Int32).toNatClampNeg) 120 ∧
      w_X11_parts (fun G12 =>
        w_X11_hasValue_j661 K G12) (G0 49 ((G0 64 (p0 : Int32).toNatClampNeg) : Int32).toNatClampNeg) p0 1 G0) (
      w_X11_ends (fun G11 =>
        w_X11_hasValue_j661 K G11) p0 p1 G0)) (
  pif ((G0 47 ((G0 64 (p0 : Int32).toNatClampNeg) : Int32).toNatClampNeg) = 12) (
    w_X11_hasValue_j627 K p0 p1 G0) (
  pif ((G0 47 ((G0 64 (p0 : Int32).toNatClampNeg) : Int32).toNatClampNeg) = 13) (
    vp_in (G0 64 (p0 : Int32).toNatClampNeg) 120 ∧
    vp_in p0 1220 ∧
    w_X11_opens (fun v15 G14 =>
      w_X11_asks (fun G16 =>
        w_X11_hasValue_j661 K G16) (G0 49 ((G0 64 (p0 : Int32).toNatClampNeg) : Int32).toNatClampNeg) p0 v15 G14) (G0 66 (p0 : Int32).toNatClampNeg) G0) (
  pif ((G0 47 ((G0 64 (p0 : Int32).toNatClampNeg) : Int32).toNatClampNeg) = 14) (
    vp_in (G0 64 (p0 : Int32).toNatClampNeg) 120 ∧
    w_X11_leavesTo (fun G17 =>
      w_X11_hasValue_j661 K G17) p0 3 (G0 48 ((G0 64 (p0 : Int32).toNatClampNeg) : Int32).toNatClampNeg) p1 G0) (
  pif ((G0 47 ((G0 64 (p0 : Int32).toNatClampNeg) : Int32).toNatClampNeg) = 17) (
    pif ((G0 67 (p0 : Int32).toNatClampNeg) = 0) (
      vp_in p0 1220 ∧
      pt (gu G0 68 (p0 : Int32).toNatClampNeg p1) fun G19 =>
      vp_in (G0 64 (p0 : Int32).toNatClampNeg) 120 ∧
      w_X11_parts (fun G20 =>
        w_X11_hasValue_j661 K G20) (G19 49 ((G0 64 (p0 : Int32).toNatClampNeg) : Int32).toNatClampNeg) p0 1 G19) (
      vp_in p0 1220 ∧
      w_X11_applies (fun G18 =>
        w_X11_hasValue_j661 K G18) p0 (G0 68 (p0 : Int32).toNatClampNeg) p1 G0)) (
  pif ((G0 47 ((G0 64 (p0 : Int32).toNatClampNeg) : Int32).toNatClampNeg) = 18) (
    w_X11_hasArgument (fun G21 =>
      w_X11_hasValue_j661 K G21) p0 (G0 64 (p0 : Int32).toNatClampNeg) (G0 67 (p0 : Int32).toNatClampNeg) p1 G0) (
  pif ((G0 47 ((G0 64 (p0 : Int32).toNatClampNeg) : Int32).toNatClampNeg) = 19) (
    w_X11_bodyOf (fun v23 G22 =>
      vp_in v23 1220 ∧
      pif ((G22 67 (v23 : Int32).toNatClampNeg) = 1) (
        w_X11_hasValue_j473 K p0 p1 G22) (
        w_X11_bodyOf (fun v26 G25 =>
          vp_in v26 1220 ∧
          pif ((G25 67 (v26 : Int32).toNatClampNeg) = 2) (
            w_X11_hasValue_j473 K p0 p1 G25) (
            w_X11_fails (fun G27 =>
              w_X11_hasValue_j661 K G27) p0 (-6) G25)) p0 G22)) p0 G0) (
  pif ((G0 47 ((G0 64 (p0 : Int32).toNatClampNeg) : Int32).toNatClampNeg) = 20) (
    w_X11_hasValue_j627 K p0 p1 G0) (
  pif ((G0 47 ((G0 64 (p0 : Int32).toNatClampNeg) : Int32).toNatClampNeg) = 21) (
    pif ((G0 67 (p0 : Int32).toNatClampNeg) = 0) (
      w_X11_waits (fun G29 =>
        w_X11_hasValue_j661 K G29) p0 (G0 64 (p0 : Int32).toNatClampNeg) G0) (
      w_X11_isOver (fun G28 =>
        w_X11_hasValue_j661 K G28) p0 G0)) (
  pif ((G0 47 ((G0 64 (p0 : Int32).toNatClampNeg) : Int32).toNatClampNeg) = 24) (
    w_X11_yields (fun G30 =>
      w_X11_hasValue_j661 K G30) p0 p1 G0) (
  pif ((G0 47 ((G0 64 (p0 : Int32).toNatClampNeg) : Int32).toNatClampNeg) = 25) (
    w_X11_asksOf (fun G31 =>
      w_X11_hasValue_j661 K G31) p0 p1 G0) (
  pif ((G0 47 ((G0 64 (p0 : Int32).toNatClampNeg) : Int32).toNatClampNeg) = 26) (
    pif ((G0 67 (p0 : Int32).toNatClampNeg) = 0) (
      vp_in (G0 64 (p0 : Int32).toNatClampNeg) 120 ∧
      vp_in (G0 48 ((G0 64 (p0 : Int32).toNatClampNeg) : Int32).toNatClampNeg) 4 ∧
      vp_in p0 1220 ∧
      pt (gu G0 68 (p0 : Int32).toNatClampNeg (G0 56 ((G0 48 ((G0 64 (p0 : Int32).toNatClampNeg) : Int32).toNatClampNeg) : Int32).toNatClampNeg)) fun G34 =>
      vp_in (G0 64 (p0 : Int32).toNatClampNeg) 120 ∧
      vp_in (G34 48 ((G0 64 (p0 : Int32).toNatClampNeg) : Int32).toNatClampNeg) 4 ∧
      pt (gu G34 56 ((G34 48 ((G0 64 (p0 : Int32).toNatClampNeg) : Int32).toNatClampNeg) : Int32).toNatClampNeg p1) fun G35 =>
      vp_in (G0 64 (p0 : Int32).toNatClampNeg) 120 ∧
      w_X11_parts (fun G36 =>
        w_X11_hasValue_j661 K G36) (G35 50 ((G0 64 (p0 : Int32).toNatClampNeg) : Int32).toNatClampNeg) p0 1 G35) (
      vp_in (G0 64 (p0 : Int32).toNatClampNeg) 120 ∧
      vp_in p0 1220 ∧
      vp_in (G0 48 ((G0 64 (p0 : Int32).toNatClampNeg) : Int32).toNatClampNeg) 4 ∧
      pt (gu G0 56 ((G0 48 ((G0 64 (p0 : Int32).toNatClampNeg) : Int32).toNatClampNeg) : Int32).toNatClampNeg (G0 68 (p0 : Int32).toNatClampNeg)) fun G32 =>
      w_X11_ends (fun G33 =>
        w_X11_hasValue_j661 K G33) p0 p1 G32)) (
  pif ((G0 47 ((G0 64 (p0 : Int32).toNatClampNeg) : Int32).toNatClampNeg) = 36) (
    vp_in p0 1220 ∧
    vp_in p0 1220 ∧
    pt (gu G0 67 (p0 : Int32).toNatClampNeg ((G0 67 (p0 : Int32).toNatClampNeg) + 1)) fun G37 =>
    w_X11_goesOn (fun G38 =>
      w_X11_hasValue_j661 K G38) p0 G37) (
    w_X11_hasValue_j636 K p0 p1 (G0 47 ((G0 64 (p0 : Int32).toNatClampNeg) : Int32).toNatClampNeg) G0))))))))))))))))))))))
def w_X11_beginsNext_h59 (K : Int32 → Gt → Prop) : Nat → Gt → Prop
  | 0, _ => False
  | n + 1, G0 =>
    pif ((G0 46 41) = 0) (
      K 1 G0) (
      vp_in (G0 46 57) 1220 ∧
      pif ((G0 64 ((G0 46 57) : Int32).toNatClampNeg) = (-1)) (
        w_X11_bodyEnds (fun G5 =>
          (w_X11_beginsNext_h59 K n) G5) (G0 46 57) G0) (
        pif ((G0 46 41) = 1) (
          w_X11_hasValue (fun G4 =>
            (w_X11_beginsNext_h59 K n) G4) (G0 46 57) (G0 46 42) G0) (
          w_X11_hasNone (fun G3 =>
            (w_X11_beginsNext_h59 K n) G3) (G0 46 57) G0)))
def w_X11_beginsNext (K : Int32 → Gt → Prop) (G0 : Gt) : Prop :=
  pif ((G0 46 58) = (G0 46 59)) (
    pt (gu G0 46 42 (-7)) fun G6 =>
    pt (gu G6 46 44 (-100000)) fun G7 =>
    pt (gu G7 46 45 (G7 46 54)) fun G8 =>
    pt (gu G8 46 46 (G8 46 49)) fun G9 =>
    w_X11_stops (fun G10 =>
      K 0 G10) G9) (
    pt (gu G0 46 58 ((G0 46 58) + 1)) fun G1 =>
    w_X11_beginsNode (fun G2 =>
      ∃ i, w_X11_beginsNext_h59 K i G2) G1)
def w_X11_step_j94 (K : Int32 → Gt → Prop) (x2 : Int32) (G0 : Gt) : Prop :=
  K x2 G0
def w_X11_step_j74 (K : Int32 → Gt → Prop) (rec26 : Int32 → Int32 → Int32 → Gt → Prop) (x1 : Int32) (x2 : Int32) (y0 : Int32) (G0 : Gt) : Prop :=
  rec26 x1 x2 y0 G0
def w_X11_step_j73 (K : Int32 → Gt → Prop) (rec26 : Int32 → Int32 → Int32 → Gt → Prop) (x1 : Int32) (x2 : Int32) (G0 : Gt) : Prop :=
  w_X11_step_j74 K rec26 x1 x2 0 G0
def w_X11_step_j43 (K : Int32 → Gt → Prop) (rec26 : Int32 → Int32 → Int32 → Gt → Prop) (x1 : Int32) (y0 : Int32) (y1 : Int32) (G0 : Gt) : Prop :=
  pif ((G0 46 53) = 0) (
    pif (x1 ≤ (y0 + y1)) (
      w_X11_step_j73 K rec26 x1 (y0 + y1) G0) (
      vp_in (G0 46 54) 120 ∧
      pif ((G0 52 ((G0 46 54) : Int32).toNatClampNeg) = 0) (
        w_X11_step_j74 K rec26 x1 (y0 + y1) 1 G0) (
        w_X11_step_j73 K rec26 x1 (y0 + y1) G0))) (
    w_X11_step_j73 K rec26 x1 (y0 + y1) G0)
def w_X11_step_h26 (K : Int32 → Gt → Prop) : Nat → Int32 → Int32 → Int32 → Gt → Prop
  | 0, _, _, _, _ => False
  | n + 1, x1, x2, x3, G0 =>
    pif (x3 = 0) (
      pif ((G0 46 53) = 0) (
        w_X11_step_j94 K x2 G0) (
        pt (gu G0 46 52 0) fun G5 =>
        w_X11_lasts (fun G6 =>
          w_X11_step_j94 K x2 G6) G5)) (
      w_X11_beginsNext (fun v8 G7 =>
        pif (v8 = 0) (
          w_X11_step_j43 K (fun z0 z1 z2 z3 => w_X11_step_h26 K n z0 z1 z2 z3) x1 x2 0 G7) (
          w_X11_step_j43 K (fun z0 z1 z2 z3 => w_X11_step_h26 K n z0 z1 z2 z3) x1 x2 1 G7)) G0)
def w_X11_step (K : Int32 → Gt → Prop) (p0 : Int32) (G0 : Gt) : Prop :=
  w_X11_in (fun v2 G1 =>
    w_X11_goes (fun v4 G3 =>
      pif (v4 = 0) (
        K 0 G3) (
        ∃ i, w_X11_step_h26 K i p0 0 1 G3)) v2 (G1 46 52) 1 G1) p0 1 600 G0
def w_X11_runsAll_h5 (K : Gt → Prop) : Nat → Gt → Prop
  | 0, _ => False
  | n + 1, G0 =>
    pif ((G0 46 53) = 0) (
      w_X11_beginsNext (fun v3 G2 =>
        (w_X11_runsAll_h5 K n) G2) G0) (
      K G0)
def w_X11_runsAll (K : Gt → Prop) (p0 : Int32) (G0 : Gt) : Prop :=
  w_X11_prepares (fun G1 =>
    ∃ i, w_X11_runsAll_h5 K i G1) p0 G0
def w_X11_tries_h63 (K : Int32 → Gt → Prop) : Nat → Int32 → Gt → Prop
  | 0, _, _ => False
  | n + 1, x2, G0 =>
    pif (4 ≤ x2) (
      K 1 G0) (
      vp_in x2 4 ∧
      vp_in x2 4 ∧
      pt (gu G0 57 (x2 : Int32).toNatClampNeg (G0 63 (x2 : Int32).toNatClampNeg)) fun G7 =>
      (w_X11_tries_h63 K n) (x2 + 1) G7)
def w_X11_tries_h29 (K : Int32 → Gt → Prop) : Nat → Int32 → Int32 → Gt → Prop
  | 0, _, _, _ => False
  | n + 1, x1, x2, G0 =>
    pif (4 ≤ x2) (
      w_X11_runsAll (fun G5 =>
        w_X11_restores (fun G6 =>
          ∃ i, w_X11_tries_h63 K i 0 G6) G5) x1 G0) (
      vp_in x2 4 ∧
      vp_in x2 4 ∧
      pt (gu G0 63 (x2 : Int32).toNatClampNeg (G0 57 (x2 : Int32).toNatClampNeg)) fun G8 =>
      (w_X11_tries_h29 K n) x1 (x2 + 1) G8)
def w_X11_tries_j18 (K : Int32 → Gt → Prop) (x1 : Int32) (y1 : Int32) (y2 : Int32) (G0 : Gt) : Prop :=
  w_X11_goes (fun v4 G3 =>
    pif (v4 = 0) (
      K 0 G3) (
      ∃ i, w_X11_tries_h29 K i x1 0 G3)) y1 y2 1 G0
def w_X11_tries (K : Int32 → Gt → Prop) (p0 : Int32) (G0 : Gt) : Prop :=
  w_X11_isNode (fun v2 G1 =>
    pif ((G1 46 52) = 0) (
      w_X11_tries_j18 K p0 v2 1 G1) (
      w_X11_tries_j18 K p0 v2 0 G1)) p0 G0
def w_X11_triedSteps_j16 (K : Int32 → Gt → Prop) (y0 : Int32) (G0 : Gt) : Prop :=
  K y0 G0
def w_X11_triedSteps (K : Int32 → Gt → Prop) (p0 : Int32) (G0 : Gt) : Prop :=
  w_X11_tries (fun v2 G1 =>
    pif (v2 = 0) (
      w_X11_triedSteps_j16 K 0 G1) (
      w_X11_triedSteps_j16 K (G1 46 58) G1)) p0 G0
def w_X11_run_j18 (K : Int32 → Gt → Prop) (x1 : Int32) (y1 : Int32) (y2 : Int32) (G0 : Gt) : Prop :=
  w_X11_goes (fun v4 G3 =>
    pif (v4 = 0) (
      K 0 G3) (
      w_X11_runsAll (fun G5 =>
        w_X11_lasts (fun G6 =>
          K (G6 46 66) G6) G5) x1 G3)) y1 y2 1 G0
def w_X11_run (K : Int32 → Gt → Prop) (p0 : Int32) (G0 : Gt) : Prop :=
  w_X11_isNode (fun v2 G1 =>
    pif ((G1 46 52) = 0) (
      w_X11_run_j18 K p0 v2 1 G1) (
      w_X11_run_j18 K p0 v2 0 G1)) p0 G0
def w_X11_tried_j16 (K : Int32 → Gt → Prop) (y0 : Int32) (G0 : Gt) : Prop :=
  K y0 G0
def w_X11_tried (K : Int32 → Gt → Prop) (p0 : Int32) (G0 : Gt) : Prop :=
  w_X11_tries (fun v2 G1 =>
    pif (v2 = 0) (
      w_X11_tried_j16 K 0 G1) (
      w_X11_tried_j16 K (G1 46 62) G1)) p0 G0
