/-! order: lines of pieces, and the next of a line -/
def gt : List Nat → Nat → Nat
  | [], _ => 0
  | a :: _, 0 => a
  | _ :: l, i + 1 => gt l i
def st : List Nat → Nat → Nat → List Nat
  | [], _, _ => []
  | _ :: l, 0, x => x :: l
  | a :: l, i + 1, x => a :: st l i x
def has : List Nat → Nat → Bool
  | [], _ => false
  | a :: l, x => Nat.beq a x || has l x
def swp (l : List Nat) (i j : Nat) : List Nat := st (st l i (gt l j)) j (gt l i)
def nxK (l : List Nat) : Nat → Nat
  | 0 => 0
  | k + 1 => bif Nat.ble (gt l k) (gt l (k + 1)) then k + 1 else nxK l k
def nxJ (l : List Nat) (x : Nat) : Nat → Nat
  | 0 => 0
  | j + 1 => bif Nat.ble x (gt l (j + 1)) then j + 1 else nxJ l x j
def rvL : Nat → Nat → Nat → List Nat → List Nat
  | 0, _, _, l => l
  | n + 1, a, b, l => bif Nat.ble b a then l else rvL n (a + 1) (b - 1) (swp l a b)
/-- the line behind a line; [] : there is none -/
def nxP (w : Nat) (l : List Nat) : List Nat := match nxK l (w - 1) with
  | 0 => []
  | k + 1 => rvL w (k + 1) (w - 1) (swp l k (nxJ l (gt l k) (w - 1)))
def nxB (w : Nat) (l : List Nat) : Bool := Nat.beq (nxK l (w - 1)) 0
def eqL : List Nat → List Nat → Bool
  | [], [] => true
  | a :: l, b :: m => Nat.beq a b && eqL l m
  | _, _ => false
def smL (w : Nat) : List Nat → Bool
  | [] => true
  | a :: l => Nat.ble (a + 1) w && smL w l
def okL (w : Nat) (l : List Nat) : Bool := Nat.beq l.length w && smL w l
def chk (w : Nat) : List Nat → List (List Nat) → Bool
  | l, [] => okL w l && nxB w l
  | l, m :: t => (okL w l && (!nxB w l && eqL (nxP w l) m)) && chk w m t
def chk0 (w : Nat) : List (List Nat) → Bool
  | [] => false
  | l :: t => chk w l t
/-- all lines that begin so -/
def cml (c : List Nat → List (List Nat)) (pre : List Nat) : Nat → Nat → List (List Nat)
  | 0, _ => []
  | m + 1, p => (bif has pre p then [] else c (pre ++ [p])) ++ cml c pre m (p + 1)
def cm (w : Nat) : Nat → List Nat → List (List Nat)
  | 0, pre => [pre]
  | d + 1, pre => cml (cm w d) pre w 0
theorem chk_0 : chk0 0 (cm 0 0 []) = true := by decide +kernel
theorem chk_1 : chk0 1 (cm 1 1 []) = true := by decide +kernel
theorem chk_2 : chk0 2 (cm 2 2 []) = true := by decide +kernel
theorem chk_3 : chk0 3 (cm 3 3 []) = true := by decide +kernel
theorem chk_4 : chk0 4 (cm 4 4 []) = true := by decide +kernel
theorem chk_5 : chk0 5 (cm 5 5 []) = true := by decide +kernel
theorem chk_6 : chk0 6 (cm 6 6 []) = true := by decide +kernel
set_option maxRecDepth 100000 in
theorem chk_7 : chk0 7 (cm 7 7 []) = true := by decide +kernel
theorem chk_all {w : Nat} (h : w ≤ 7) : chk0 w (cm w w []) = true := by
  match w, h with
  | 0, _ => exact chk_0
  | 1, _ => exact chk_1
  | 2, _ => exact chk_2
  | 3, _ => exact chk_3
  | 4, _ => exact chk_4
  | 5, _ => exact chk_5
  | 6, _ => exact chk_6
  | 7, _ => exact chk_7
