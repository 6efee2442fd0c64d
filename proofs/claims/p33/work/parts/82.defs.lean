/-! THE RUN: what class and reference hold while a run goes on. z: the ghost (cells of numbers, as G's): 0 counts (0 steps, 1 frames of the reference, 2 its scopes, 3 the class's, 4 functions, 5 generators, 6 waits, 7 the current frame, 8 the class's frames), 1 node, 2 body, 3 the part's frame above, 4 the body's caller and one, 5 scope (of the reference), 6 frame of the reference, 8 root, 9 phase (0 dead, 1 to 5 waits, 6 goes on, 7 has not begun), 10 child, 11 depth as a call, 12 calls of a body, 13 scope of the class, 14 maker of a function, 15 to 18 of a generator: maker, state, root, where it rests; 19, 20 credits, 21 lives, 22, 23 the OPTION around -/
abbrev Zt : Type := Nat → Nat → Nat
def zu (z : Zt) (k j v : Nat) : Zt := fun a b => if a = k then (if b = j then v else z a b) else z a b
def itp (f : Nat → Nat) : Nat → Nat → Nat
  | 0, u => u
  | k + 1, u => itp f k (f u)
/-- a number, a function or a generator of this run -/
def vV (z : Zt) (x : Int32) : Prop := isnum x ∨ (∃ j, j < z 0 4 ∧ x = nI (20000 + j)) ∨ ∃ j, j < z 0 5 ∧ x = nI (30000 + j)
def isL (z : Zt) (G : Gt) (l v : Nat) : Prop := G 47 (z 1 v) = 13 ∧ G 48 (z 1 v) = nI l
/-- the innermost LOOP with a label from u on is t -/
def lW (z : Zt) (G : Gt) (l u t : Nat) : Prop := ∃ k, (∀ j, j < k → ¬ isL z G l (itp (z 3) j u) ∧ z 2 (itp (z 3) j u) = 0) ∧ isL z G l (itp (z 3) k u) ∧ itp (z 3) k u = t
/-- a chain of calls, of length d -/
def cH (z : Zt) (c r : Int32) (d : Nat) : Prop := (d = 0 ∧ c = -1 ∧ r = -1) ∨ ∃ i, i < z 0 0 ∧ c = nI i ∧ r = nI (z 6 i) ∧ z 11 i = d ∧ ¬ d = 0
/-- how a frame has ended: class's ending, value, detail, cause; the reference's end, value, label, cause, origin, calls -/
def oU (z : Zt) (G : Gt) (i c : Nat) (c15 c16 c18 c17 r41 r42 r43 r44 r45 r46 : Int32) : Prop :=
  (c15 = 0 ∧ r41 = 1 ∧ c16 = r42 ∧ vV z c16) ∨
  (c15 = 1 ∧ r41 = 2 ∧ c16 = r42 ∧ isnum c16 ∧ ((r44 = -100000 ∧ c17 = 50000) ∨ (isnum r44 ∧ c17 = r44)) ∧ ∃ d t, d < z 0 0 ∧ c18 = nI d ∧ r45 = nI (z 1 d) ∧ t ≤ 12 ∧ cH z (G 120 d) r46 t ∧ (z 9 d = 0 ∨ d = c)) ∨
  (c15 = 2 ∧ r41 = 3 ∧ c16 = r42 ∧ vV z c16 ∧ z 2 i = 0 ∧ ∃ l t, l < 4 ∧ r43 = nI l ∧ c18 = nI t ∧ t < z 0 0 ∧ lW z G l (z 3 i) t) ∨
  (c15 = 3 ∧ r41 = 4 ∧ z 2 i = 0 ∧ ∃ l t, l < 4 ∧ r43 = nI l ∧ c18 = nI t ∧ t < z 0 0 ∧ lW z G l (z 3 i) t) ∨
  (c15 = 4 ∧ r41 = 5 ∧ ((z 2 (z 8 i) = 3 ∧ c16 = r42 ∧ vV z c16) ∨ 4 ≤ z 2 (z 8 i)))
/-- the digits of an EACH -/
def dG : Nat → Nat → Prop
  | 0, q => q = 0
  | d + 1, q => q = 0 ∨ (1 ≤ q % 8 ∧ q % 8 ≤ 4 ∧ dG d (q / 8))
def cO (b c : Int32) : Nat := if b = -1 then 0 else if c = -1 then 1 else 3
def plo (k p co : Nat) : Nat :=
  if p = 1 then (if k = 13 ∨ k = 20 ∨ k = 21 then 2 else if k = 36 then 4 else 1)
  else if p = 2 then (if k = 11 then 2 else if k = 20 ∨ k = 21 then 5 else if k = 26 then 4 else 3)
  else if p = 3 then (if k = 18 then co + 1 else 2)
  else if p = 4 then (if k = 18 then co + 3 else if k = 25 then 2 else 4)
  else 2
def lao (k p : Nat) : Nat :=
  if p = 1 then (if k = 13 ∨ k = 20 then 3 else if k = 21 then 2 else if k = 36 then 6 else 0)
  else if p = 2 then (if k = 21 then 7 else if k = 26 then 4 else 0)
  else if k = 29 then 5 else 0
/-- which kinds wait in which phase -/
def kP (k p : Nat) : Prop :=
  (p = 1 ∧ ((2 ≤ k ∧ k ≤ 14) ∨ (17 ≤ k ∧ k ≤ 22) ∨ k = 24 ∨ k = 25 ∨ k = 26 ∨ k = 28 ∨ k = 29 ∨ k = 31 ∨ (35 ≤ k ∧ k ≤ 37))) ∨
  (p = 2 ∧ ((4 ≤ k ∧ k ≤ 11) ∨ k = 17 ∨ k = 18 ∨ k = 20 ∨ k = 21 ∨ k = 26)) ∨
  (p = 3 ∧ (k = 18 ∨ k = 29)) ∨ (p = 4 ∧ (k = 17 ∨ k = 18 ∨ k = 25 ∨ k = 29)) ∨ (p = 5 ∧ k = 24)
/-- what a frame that waits holds, by its kind -/
def xV (z : Zt) (G : Gt) (i k p : Nat) : Prop :=
  ((p = 1 → ¬ k = 36 → G 67 (z 6 i) = 0) ∧ (p = 2 → G 67 (z 6 i) = 1)) ∧
  (k = 36 → ∃ b c n d q, b < 2 ∧ c < 4 ∧ n + 1 + d ≤ 4 ∧ dG d q ∧ q < 4096 ∧ G 122 i = nI q ∧ G 68 (z 6 i) = nI q ∧ G 126 i = nI (2 * c + b) ∧ G 69 (z 6 i) = nI (8 * b + c) ∧ G 124 i = nI (n + 1) ∧ G 67 (z 6 i) = nI n) ∧
  (p = 2 → ((4 ≤ k ∧ k ≤ 9) ∨ k = 17 ∨ k = 18 ∨ k = 26) → G 122 i = G 68 (z 6 i) ∧ vV z (G 122 i)) ∧
  (k = 26 → (p = 1 → G 124 i = 0) ∧ (p = 2 → G 124 i = 1)) ∧
  (k = 21 → p = 2 → ∃ w, w < z 0 6 ∧ G 68 (z 6 i) = nI (6 * w) ∧ oU z G i 100000 (G 124 i) (G 122 i) (G 126 i) (G 128 i) (G 80 (6 * w)) (G 80 (6 * w + 1)) (G 80 (6 * w + 2)) (G 80 (6 * w + 3)) (G 80 (6 * w + 4)) (G 80 (6 * w + 5))) ∧
  (((k = 20 ∧ p = 1) ∨ (k = 17 ∧ p ≤ 2) ∨ (k = 18 ∧ p ≤ 2) ∨ (k = 25 ∧ p = 1) ∨ (k = 29 ∧ p = 1)) → z 19 i = 1 ∧ (k = 18 → ¬ G 49 (z 1 i) = -1 ∧ (p = 2 → ¬ G 50 (z 1 i) = -1))) ∧
  (k = 21 → p = 1 → z 20 i = 1) ∧
  (p = 3 → ∃ s l, s < z 0 2 ∧ l < 6 ∧ G 124 i = nI (z 13 s) ∧ G 69 (z 6 i) = nI s ∧ G 126 i = nI l ∧ ¬ G 54 l = -1 ∧ (k = 18 → G 48 (z 1 i) = nI l) ∧ (k = 29 → G 67 (z 6 i) = nI (10 + l))) ∧
  (k = 29 → 3 ≤ p → G 122 i = G 68 (z 6 i) ∧ isnum (G 122 i))
def dV (z : Zt) (G : Gt) (i : Nat) : Prop :=
  ∃ k e, k < 40 ∧ e < 1081 ∧ G 47 (z 1 i) = nI k ∧ G 13 (z 1 i) = nI e ∧ kP k (z 9 i) ∧
    (G 116 i = nI (e + plo k (z 9 i) (cO (G 49 (z 1 i)) (G 50 (z 1 i)))) ∨ (k = 10 ∧ z 9 i = 2 ∧ G 116 i = nI (e + 5))) ∧
    G 118 i = (if lao k (z 9 i) = 0 then 0 else nI (e + lao k (z 9 i))) ∧ xV z G i k (z 9 i)
/-- what a waiting body is, in the reference -/
def wH (b : Nat) : Nat := if b = 1 then 0 else if b = 2 then 3 else if b = 3 then 1 else 2
def oM (c : Nat) (x : Int32) : Int32 := if c = 0 then -1 else x
/-- the frames as they were laid, in the class -/
def qA (N : Nat) (z : Zt) (G : Gt) : Prop := ∀ i, i < z 0 8 → G 108 i = nI (z 1 i) ∧ z 1 i < N
def qB (z : Zt) (G : Gt) : Prop := ∀ i, i < z 0 8 → G 112 i = nI (z 13 (z 5 i)) ∧ z 5 i < z 0 2
def qC (z : Zt) (G : Gt) : Prop := ∀ i, i < z 0 8 → G 114 i = nI (z 2 i) ∧ (z 2 i = 0 → z 3 i < i ∧ z 8 i = z 8 (z 3 i)) ∧ (¬ z 2 i = 0 → z 8 i = i ∧ z 4 i ≤ z 0 0) ∧ z 2 i ≤ 603 ∧ z 8 i ≤ i ∧ ¬ z 2 (z 8 i) = 0
def qD (z : Zt) (G : Gt) : Prop := ∀ i, i < z 0 8 → (z 2 i = 0 → G 110 i = nI (z 3 i)) ∧ (¬ z 2 i = 0 → G 110 i = oM (z 4 i) (nI (z 4 i - 1)))
/-- .. in the reference -/
def qE (z : Zt) (G : Gt) : Prop := ∀ i, i < z 0 0 → G 64 (z 6 i) = nI (z 1 i) ∧ G 66 (z 6 i) = nI (z 5 i) ∧ (z 2 i = 0 → G 65 (z 6 i) = nI (z 6 (z 3 i))) ∧ (¬ z 2 i = 0 → G 65 (z 6 i) = nI (z 6 i - 1))
def qF (z : Zt) (G : Gt) : Prop := ∀ i, i < z 0 8 → ¬ z 2 i = 0 → 1 ≤ z 6 i ∧ G 64 (z 6 i - 1) = -1 ∧ G 67 (z 6 i - 1) = nI (wH (z 2 i)) ∧ G 65 (z 6 i - 1) = oM (z 4 i) (nI (z 6 (z 4 i - 1))) ∧ (4 ≤ z 2 i → G 68 (z 6 i - 1) = nI (z 2 i - 4))
def qG (z : Zt) : Prop := (∀ i j, i < j → j < z 0 8 → z 6 i < z 6 j ∧ (¬ z 2 j = 0 → z 6 i + 1 < z 6 j)) ∧ (∀ i, i < z 0 8 → z 6 i ≤ z 0 1) ∧ (∀ i, i < z 0 0 → z 6 i < z 0 1)
/-- frames that wait -/
def qH (z : Zt) (G : Gt) : Prop := ∀ i, i < z 0 0 → 1 ≤ z 9 i → z 9 i ≤ 5 → dV z G i
/-- the tree of those that live -/
def rst (z : Zt) (j : Nat) : Prop := 4 ≤ z 2 j ∧ z 16 (z 2 j - 4) = 1
def qI (z : Zt) : Prop := ∀ j, j < z 0 8 → ¬ z 9 j = 0 →
  (z 2 j = 0 → (z 9 (z 3 j) = 1 ∨ z 9 (z 3 j) = 2) ∧ z 10 (z 3 j) = j) ∧
  (¬ z 2 j = 0 → ¬ z 4 j = 0 → ¬ rst z j → z 9 (z 4 j - 1) = (if z 2 j = 2 then 3 else 4) ∧ z 10 (z 4 j - 1) = j) ∧
  (z 2 j = 1 → z 4 j = 0) ∧ (z 2 j = 2 ∨ z 2 j = 3 → ¬ z 4 j = 0) ∧
  (4 ≤ z 2 j → z 2 j - 4 < z 0 5 ∧ z 17 (z 2 j - 4) = j ∧ ((z 16 (z 2 j - 4) = 1) ∨ (z 16 (z 2 j - 4) = 2 ∧ ¬ z 4 j = 0) ∨ (z 16 (z 2 j - 4) = 3 ∧ z 4 j = 0)))
def qJ (z : Zt) : Prop := ∀ u, u < z 0 8 → (z 9 u = 1 ∨ z 9 u = 2) → u < z 10 u ∧ z 10 u < z 0 8 ∧ ¬ z 9 (z 10 u) = 0 ∧ z 2 (z 10 u) = 0 ∧ z 3 (z 10 u) = u
def qK (z : Zt) : Prop := (∀ i j, i < z 0 8 → j < z 0 8 → 3 ≤ z 9 i → 3 ≤ z 9 j → z 8 i = z 8 j → i = j) ∧ (∀ i, i < z 0 8 → z 9 i ≤ 7) ∧ (∀ i, i < z 0 8 → 6 ≤ z 9 i → i = z 0 7) ∧ z 0 7 < z 0 8 ∧ 6 ≤ z 9 (z 0 7)
/-- calls -/
def qL (z : Zt) (G : Gt) : Prop := (∀ j, j < z 0 8 → ¬ z 9 j = 0 → ¬ z 2 j = 0 → ¬ rst z j → (z 4 j = 0 → z 12 j = 0) ∧ (¬ z 4 j = 0 → (z 2 j = 2 → z 12 j = z 12 (z 8 (z 4 j - 1))) ∧ (¬ z 2 j = 2 → z 11 (z 4 j - 1) = z 12 j ∧ z 12 j = z 12 (z 8 (z 4 j - 1)) + 1))) ∧
  ∃ d, d ≤ 12 ∧ z 12 (z 8 (z 0 7)) = d ∧ G 84 8 = nI d ∧ G 46 50 = nI d ∧ cH z (G 84 13) (G 46 49) d
def qM (z : Zt) (G : Gt) : Prop := (∀ i, i < z 0 0 → ¬ z 11 i = 0 → z 11 i ≤ 12 ∧ cH z (G 120 i) (G 70 (z 6 i)) (z 11 i - 1)) ∧ (∀ i, i < z 0 0 → 1 ≤ z 9 i → z 9 i ≤ 3 → z 11 i = 0)
/-- scopes -/
def qN (z : Zt) (G : Gt) : Prop := (∀ s t, s < t → t < z 0 2 → z 13 s < z 13 t) ∧ (∀ s, s < z 0 2 → z 13 s < z 0 3 ∧ s ≤ z 13 s ∧ ((G 71 s = -1 ∧ G 131 (z 13 s) = -1) ∨ ∃ o, o < s ∧ G 71 s = nI o ∧ G 131 (z 13 s) = nI (z 13 o)) ∧ ∀ k, k < 8 → ((G 72 (8 * s + k) = -100000 ∧ G 133 (8 * z 13 s + k) = 49999) ∨ (G 72 (8 * s + k) = G 133 (8 * z 13 s + k) ∧ vV z (G 72 (8 * s + k)))))
/-- functions and generators -/
def qO (z : Zt) (G : Gt) : Prop := ∀ j, j < z 0 4 → z 14 j < z 0 0 ∧ G 136 j = nI (z 14 j) ∧ G 73 j = nI (z 1 (z 14 j)) ∧ G 74 j = nI (z 5 (z 14 j)) ∧ G 47 (z 1 (z 14 j)) = 16
def qP (z : Zt) (G : Gt) : Prop := ∀ j, j < z 0 5 → z 15 j < z 0 0 ∧ G 138 j = nI (z 15 j) ∧ G 75 j = nI (z 1 (z 15 j)) ∧ G 76 j = nI (z 5 (z 15 j)) ∧ G 47 (z 1 (z 15 j)) = 23 ∧
  z 16 j ≤ 4 ∧ G 140 j = nI (z 16 j) ∧ G 77 j = nI (z 16 j) ∧
  ((1 ≤ z 16 j ∧ z 16 j ≤ 3) → z 17 j < z 0 8 ∧ z 2 (z 17 j) = 4 + j ∧ ¬ z 9 (z 17 j) = 0 ∧ G 142 j = nI (z 17 j) ∧ G 79 j = nI (z 6 (z 17 j) - 1) ∧ (z 16 j = 2 → z 4 (z 17 j) - 1 < z 0 0 ∧ G 47 (z 1 (z 4 (z 17 j) - 1)) = 25)) ∧
  (z 16 j = 1 → z 18 j < z 0 0 ∧ z 9 (z 18 j) = 5 ∧ z 8 (z 18 j) = z 17 j ∧ G 144 j = nI (z 18 j) ∧ G 78 j = nI (z 6 (z 18 j)))
/-- the machine's numbers -/
def qQ (B : Nat) (z : Zt) (G : Gt) : Prop := B ≤ 600 ∧ G 84 9 = nI B ∧ G 46 59 = nI B ∧ z 0 0 ≤ B ∧ z 0 0 ≤ z 0 8 ∧ z 0 8 ≤ z 0 0 + 1 ∧ G 84 10 = nI (z 0 0) ∧ G 46 58 = nI (z 0 0) ∧ G 84 11 = nI (z 0 7) ∧ G 84 7 = 1 ∧ G 46 53 = 0 ∧ G 84 14 = G 46 51 ∧ bz (G 46 51) ∧ G 84 19 = G 46 62 ∧ G 46 63 = 50000 ∧ G 46 64 = 0 ∧
  G 46 21 = nI (z 0 1) ∧ G 46 29 = nI (z 0 2) ∧ G 129 2 = nI (z 0 3) ∧ G 134 5 = nI (z 0 4) ∧ G 46 32 = nI (z 0 4) ∧ G 134 6 = nI (z 0 5) ∧ G 46 35 = nI (z 0 5) ∧ G 46 47 = nI (z 0 6) ∧ z 0 2 ≤ z 0 3
/-- counts -/
def qR (z : Zt) (sp fp : Nat) : Prop := z 0 3 + sm (z 19) (z 0 0) + sp ≤ 1 + z 0 0 ∧ z 0 6 + sm (z 20) (z 0 0) ≤ z 0 0 ∧ z 0 4 + z 0 5 + fp ≤ z 0 0 ∧ ∀ i, i < z 0 0 → (¬ z 9 i = 0 → z 21 i = 1) ∧ z 21 i ≤ 1
/-- options -/
def io (z : Zt) (i : Nat) : Nat := if z 22 i = 0 then z 23 (z 8 i) else z 22 i
def oK (z : Zt) (G : Gt) (o : Nat) : Nat → Int32 → Nat → Prop
  | 0, x, p => p = 0 ∧ isnum x
  | f + 1, x, p => ¬ p = 0 ∧ p - 1 < z 0 0 ∧ z 9 (p - 1) = 2 ∧ G 47 (z 1 (p - 1)) = 26 ∧ z 24 (p - 1) = f + 1 ∧ oK z G o f (if G 48 (z 1 (p - 1)) = nI o then G 122 (p - 1) else x) (io z (p - 1))
def qS (z : Zt) (G : Gt) (x : Nat → Int32) : Prop := ∃ f, ∀ o, o < 4 → oK z G o f (x o) (io z (z 0 7))
def qT (z : Zt) (G : Gt) : Prop := (∀ j, j < z 0 8 → ¬ z 9 j = 0 → (z 2 j = 0 → z 22 j = (if G 47 (z 1 (z 3 j)) = 26 ∧ z 9 (z 3 j) = 2 then z 3 j + 1 else z 22 (z 3 j))) ∧ (¬ z 2 j = 0 → z 22 j = 0 ∧ (¬ rst z j → (z 4 j = 0 → z 23 j = 0) ∧ (¬ z 4 j = 0 → z 23 j = io z (z 4 j - 1))))) ∧
  ∀ j, j < z 0 0 → z 9 j = 2 → G 47 (z 1 j) = 26 → ¬ rst z (z 8 j)
/-- the world: texts, slots, options -/
def qU (N : Nat) (z : Zt) (G : Gt) : Prop := gT 20 0 G G ∧ gT 25 1 G G ∧ gS0 N G G ∧ gS1 N G G ∧ gRg G G ∧ ∀ k, k < 4 → G 31 k = G 56 k ∧ vV z (G 31 k)
def sIM (N B : Nat) (z : Zt) (G : Gt) (x : Nat → Int32) (sp fp : Nat) : Prop :=
  gP N G G ∧ qA N z G ∧ qB z G ∧ qC z G ∧ qD z G ∧ qE z G ∧ qF z G ∧ qG z ∧ qH z G ∧ qI z ∧ qJ z ∧ qK z ∧ qL z G ∧ qM z G ∧ qN z G ∧ qO z G ∧ qP z G ∧ qQ B z G ∧ qR z sp fp ∧ qS z G x ∧ qT z G ∧ qU N z G
