/-! whose hat each has on: rings and changes, by lists; checked for all of them -/
def dg (d : List Nat) (q : Nat) : Nat := d.getD q 7
def rgL (d : List Nat) (k : Nat) : Nat → Nat → Option Bool
  | 0, _ => none
  | f + 1, x => cond (Nat.beq x 7 || Nat.ble x k) (some (Nat.beq x k)) (rgL d k f (dg d x))
def rbL (d : List Nat) (k : Nat) : Bool := cond (Nat.beq (dg d k) k) false (match rgL d k 8 (dg d k) with | some b => b | none => false)
def edL (d : List Nat) (k : Nat) : Bool := !(Nat.beq (dg d k) 7 || Nat.beq (dg d k) k)
def wvL (d : List Nat) (o : Nat) : Nat → Nat → Nat
  | 0, _ => 7
  | j + 1, q => cond (Nat.beq (dg d q) o) q (wvL d o j (q + 1))
def jnL (a b : Nat) (G : List Nat) : List Nat := G.map (fun x => cond (Nat.beq x b) a x)
def bkL (w : Nat → Nat) : Nat → Nat → List Nat → Nat → Nat
  | 0, _, _, n => n
  | j + 1, k, G, n => cond (Nat.beq (w k) 7) (bkL w j (k + 1) G n) (bkL w j (k + 1) (jnL (G.getD k 0) (G.getD (w k) 0) G) (cond (Nat.beq (G.getD k 0) (G.getD (w k) 0)) n (n + 1)))
def cntB (p : Nat → Bool) : Nat → Nat → Nat → Nat
  | 0, _, n => n
  | j + 1, k, n => cntB p j (k + 1) (cond (p k) (n + 1) n)
def alL (p : Nat → Bool) : Nat → Nat → Bool
  | 0, _ => true
  | j + 1, k => p k && alL p j (k + 1)
def tstB (n : Nat) (d : List Nat) : Bool := Nat.beq (Nat.add (bkL (fun o => wvL d o n 0) n 0 [0, 1, 2, 3, 4, 5] 0) (cntB (rbL d) n 0 0)) (cntB (edL d) n 0 0) && alL (fun k => (rgL d k 8 (dg d k)).isSome) n 0
def memL (x : Nat) : List Nat → Bool
  | [] => false
  | y :: l => Nat.beq x y || memL x l
def allI (n : Nat) : Nat → List Nat → Bool
  | 0, l => tstB n l
  | j + 1, l => allI n j (7 :: l) && alL (fun i => memL i l || allI n j (i :: l)) n 0
theorem all_0 : allI 0 0 [] = true := by decide +kernel
theorem all_1 : allI 1 1 [] = true := by decide +kernel
theorem all_2 : allI 2 2 [] = true := by decide +kernel
theorem all_3 : allI 3 3 [] = true := by decide +kernel
theorem all_4 : allI 4 4 [] = true := by decide +kernel
theorem all_5 : allI 5 5 [] = true := by decide +kernel
theorem all_6a : allI 6 5 [7] = true := by decide +kernel
theorem all_60 : allI 6 5 [0] = true := by decide +kernel
theorem all_61 : allI 6 5 [1] = true := by decide +kernel
theorem all_62 : allI 6 5 [2] = true := by decide +kernel
theorem all_63 : allI 6 5 [3] = true := by decide +kernel
theorem all_64 : allI 6 5 [4] = true := by decide +kernel
theorem all_65 : allI 6 5 [5] = true := by decide +kernel
theorem all_6 : allI 6 6 [] = true := by
  show (allI 6 5 [7] && ((memL 0 [] || allI 6 5 [0]) && ((memL 1 [] || allI 6 5 [1]) && ((memL 2 [] || allI 6 5 [2]) && ((memL 3 [] || allI 6 5 [3]) && ((memL 4 [] || allI 6 5 [4]) && ((memL 5 [] || allI 6 5 [5]) && true))))))) = true
  rw [all_6a, all_60, all_61, all_62, all_63, all_64, all_65]
  rfl
