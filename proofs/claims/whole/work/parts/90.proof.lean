/-! proof: the faces (open). -/
section PROOF
variable {CT : sm_CT} {G : Nat → Nat → Int32} {L : Nat → Nat → Int64} {Q : sm_Q} {S : Nat → Nat → Nat} {c : Nat} {h : sm_H}
theorem f_proof (hC : sm_C 20 CT) (hR : RS c S) (hI : Ic S G) {x y : Int32} (hQ : ∀ G', eqx clsP G G' → Ic (N_proof S x y) G' → Q (some (.int (A_proof S x y))) (hp G' L)) : CT 57 [.ref 0, .int x, .int y] (hp G L) Q := by
  sorry
end PROOF
