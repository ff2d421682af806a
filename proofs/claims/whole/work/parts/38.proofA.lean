/-! What proof answers. -/
/-- the days of codes a and b are seen alike of the set x -/
def alB (S : Nat → Nat → Nat) (x a b : Nat) : Bool := decide (∀ v, v < S 0 1 → inS x v = true → ∀ h, h < S 0 0 → ps S (wd S a) v (h + 1) = ps S (wd S b) v (h + 1))
/-- the set x tells the wind of hour k -/
def TL (S : Nat → Nat → Nat) (k x : Nat) : Bool := decide (∀ a, a < nc S → ∀ b, b < nc S → ft S (wd S a) = true → ft S (wd S b) = true → alB S x a b = true → wd S a k = wd S b k)
def proofR (S : Nat → Nat → Nat) (k j : Nat) : Int32 := if aAll S = 0 then -1 else soR (fw (TL S k) (2 ^ S 0 1)) j
def A_proof (S : Nat → Nat → Nat) (x y : Int32) : Int32 := cond (inb x (S 0 0)) (cond (inb y 2) (if S 0 1 = 0 ∨ 30 ≤ S 0 5 then -103 else proofR S x.toNatClampNeg y.toNatClampNeg) (-102)) (-101)
def N_proof (S : Nat → Nat → Nat) (x y : Int32) : Nat → Nat → Nat := cond (inb x (S 0 0)) (cond (inb y 2) (if S 0 1 = 0 ∨ 30 ≤ S 0 5 then S else incA S) S) S
theorem R_proof {S : Nat → Nat → Nat} {c : Nat} (hR : RS c S) (x y : Int32) : RS c (N_proof S x y) := by
  unfold N_proof
  cases inb x (S 0 0) with
  | false => exact hR
  | true =>
    cases inb y 2 with
    | false => exact hR
    | true =>
      simp only [cond_true]
      split
      · exact hR
      · exact R_inc hR ‹_›
