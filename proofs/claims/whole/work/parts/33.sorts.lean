/-! sorts, oiling: the faces. -/
section FACE3
variable {CT : sm_CT} {G : Nat → Nat → Int32} {L : Nat → Nat → Int64} {Q : sm_Q} {S : Nat → Nat → Nat} {c : Nat} {h : sm_H}
def A_sorts (S : Nat → Nat → Nat) (x y : Int32) : Int32 := cond (inb x (S 0 1)) (cond (inb y 2) (if S 0 1 = 0 ∨ 30 ≤ S 0 5 then -103 else sortsR S x.toNatClampNeg y.toNatClampNeg) (-102)) (-101)
def N_sorts (S : Nat → Nat → Nat) (x y : Int32) : Nat → Nat → Nat := cond (inb x (S 0 1)) (cond (inb y 2) (if S 0 1 = 0 ∨ 30 ≤ S 0 5 then S else incA S) S) S
theorem R_sorts (hR : RS c S) (x y : Int32) : RS c (N_sorts S x y) := by
  unfold N_sorts
  cases inb x (S 0 1) with
  | false => exact hR
  | true =>
    cases inb y 2 with
    | false => exact hR
    | true =>
      simp only [cond_true]
      split
      · exact hR
      · exact R_inc hR ‹_›
theorem o_in {x : Int32} {n : Nat} (hn : n < 2 ^ 20) (h0 : ¬ x < nI 0) (h1 : x ≤ nI n) : inb x (n + 1) = true := by
  obtain ⟨j, hj, e⟩ := wi_t (x := x) (y := nI n) (n := n + 1) (by omega) (by rw [nI_toInt (by omega)]; omega) (Int32.not_lt.mp h0) h1
  rw [e]
  exact inb_n hj (by omega)
theorem o_gt {x : Int32} {n : Nat} (hn : n < 2 ^ 20) (h1 : ¬ x ≤ nI n) : inb x (n + 1) = false := by
  cases hb : inb x (n + 1) with
  | false => rfl
  | true =>
    obtain ⟨j, hj, e⟩ := inb_ex hb
    rw [e] at h1
    exact absurd (nI_le (by omega) (by omega)) h1
set_option maxRecDepth 100000 in
set_option maxHeartbeats 4000000 in
theorem f_sorts (hC : sm_C 16 CT) (hR : RS c S) (hI : Ic S G) {x y : Int32} (hQ : ∀ G', eqx clsP G G' → Ic (N_sorts S x y) G' → Q (some (.int (A_sorts S x y))) (hp G' L)) : CT 58 [.ref 0, .int x, .int y] (hp G L) Q := by
  obtain ⟨hdR, hnR, -⟩ := id hR
  obtain ⟨r1, r2, r3, r4⟩ := id hdR
  obtain ⟨e1, e2, -⟩ := id hI.1
  have ea := hI.2.2.1.2.2
  have r30 := hR.2.2.2.2.2.1
  have hD := hH_cD hI.1
  have hL := hH_cL hI.1
  refine sm_meth hC [some (.ref 0), some (.int x), some (.int y), none] rfl rfl rfl ?_
  unfold A_sorts N_sorts at hQ
  refine sm_body [] 80 sm_k58 (fun CT K hC hK => ?_)
  repeat' first
    | (with_reducible refine And.intro ?_ ?_)
    | ((with_reducible intro h9); first | exact absurd h9 (by decide) | (replace h9 := of_decide_eq_false (p := S 0 1 = 0 ∨ 30 ≤ S 0 5) (sb_f h9)) | (replace h9 := of_decide_eq_true (p := S 0 1 = 0 ∨ 30 ≤ S 0 5) (sb_t h9)) | (replace h9 := sb_f h9) | ((have h8 := inb_ex (x := x) (sb_t h9); obtain ⟨j, hj, rfl⟩ := h8)) | skip)
    | (with_reducible exact zn_in (by omega) (by decide))
    | (with_reducible exact z01) | (with_reducible exact z11) | (with_reducible exact zb01 _)
    | (with_reducible exact zn_inb (by omega) (by decide))
    | (with_reducible exact zn_ina (by omega) (by decide))
    | (with_reducible exact zn_inc (by omega) (by decide))
    | ((conv => whnf); first | (with_reducible refine And.intro ?_ ?_) | ((with_reducible intro h9); first | exact absurd h9 (by decide) | (replace h9 := of_decide_eq_false (p := S 0 1 = 0 ∨ 30 ≤ S 0 5) (sb_f h9)) | (replace h9 := of_decide_eq_true (p := S 0 1 = 0 ∨ 30 ≤ S 0 5) (sb_t h9)) | (replace h9 := sb_f h9) | ((have h8 := inb_ex (x := x) (sb_t h9); obtain ⟨j, hj, rfl⟩ := h8)) | skip) | (with_reducible refine hK _ _ _ _ (sm_un ?_)) | (with_reducible refine b_hasVane (hC.mono (by omega)) e2 r2 ?_) | (with_reducible refine s_isInquiryClosed (hC.mono (by omega)) e2 r2 ea r30 ?_))
end FACE3
