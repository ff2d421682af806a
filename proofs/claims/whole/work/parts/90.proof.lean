/-! proof: the faces (open). -/
section PROOF
variable {CT : sm_CT} {G : Nat → Nat → Int32} {L : Nat → Nat → Int64} {Q : sm_Q} {S : Nat → Nat → Nat} {c : Nat} {h : sm_H}
theorem f_proof (hC : sm_C 20 CT) (hR : RS c S) (hI : Ic S G) {x y : Int32} (hQ : ∀ G', eqx clsP G G' → Ic (N_proof S x y) G' → Q (some (.int (A_proof S x y))) (hp G' L)) : CT 57 [.ref 0, .int x, .int y] (hp G L) Q := by
  sorry
theorem g_proof (hC : sm_C 12 CT) (hR : RS c S) (hI : Im c S G) (hc : c < 2 ^ 30) {x y : Int32} (hQ : ∀ G' L', eqx mdlP G G' → Im (c + 16) (N_proof S x y) G' → Q (some (.int (A_proof S x y))) (hp G' L')) : CT 121 [.ref 30, .int x, .int y] (hp G L) Q := by
  sorry
end PROOF
