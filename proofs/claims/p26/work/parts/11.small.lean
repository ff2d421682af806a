/-! Small static methods, of both classes. -/
theorem nI_i {a b : Nat} (e : a = b) : nI a = nI b := congrArg nI e
section SMALL
variable {CT : sm_CT} {h : sm_H} {Q : sm_Q}
set_option maxRecDepth 100000 in
set_option maxHeartbeats 4000000 in
theorem s_isQuarter (hC : sm_C 1 CT) {x : Int32} (h1 : ∀ j, j < 4 → x = nI j → Q (some (.int (nI 1))) h) (h0 : inb x 4 = false → Q (some (.int (nI 0))) h) : CT 73 [.int x] h Q := by
  refine sm_meth hC [some (.int x)] rfl rfl rfl ?_
  refine sm_body [] 40 sm_k73 (fun CT K hC hK => ?_)
  repeat' first
    | (with_reducible refine And.intro ?_ ?_)
    | ((with_reducible intro h9); first | exact absurd h9 (by decide) | skip)
    | (with_reducible exact zn_in (by omega) (by decide))
    | (with_reducible exact z01) | (with_reducible exact z11) | (with_reducible exact zb01 _)
    | (with_reducible exact zn_inb (by omega) (by decide))
    | (with_reducible exact zn_ina (by omega) (by decide))
    | (with_reducible exact zn_inc (by omega) (by decide))
    | ((conv => whnf); first | (with_reducible refine And.intro ?_ ?_) | ((with_reducible intro h9); first | exact absurd h9 (by decide) | skip) | (with_reducible refine hK _ _ _ _ (sm_un ?_)) | (with_reducible exact z01) | (with_reducible exact z11))
  · exact h0 (inb_lo ‹_›)
  · exact h0 (inb_hi ‹_› (by decide))
  · obtain ⟨j, hj, e⟩ := inb_t ‹¬ x < nI 0› (Int32.not_le.mp ‹¬ nI 4 ≤ x›) (by decide)
    exact h1 j hj e
set_option maxRecDepth 100000 in
set_option maxHeartbeats 4000000 in
theorem s_isTwist (hC : sm_C 1 CT) {x : Int32} (h1 : ∀ j, j < 4 → x = nI j → Q (some (.int (nI 1))) h) (h0 : inb x 4 = false → Q (some (.int (nI 0))) h) : CT 74 [.int x] h Q := by
  refine sm_meth hC [some (.int x)] rfl rfl rfl ?_
  refine sm_body [] 40 sm_k74 (fun CT K hC hK => ?_)
  repeat' first
    | (with_reducible refine And.intro ?_ ?_)
    | ((with_reducible intro h9); first | exact absurd h9 (by decide) | skip)
    | (with_reducible exact zn_in (by omega) (by decide))
    | (with_reducible exact z01) | (with_reducible exact z11) | (with_reducible exact zb01 _)
    | (with_reducible exact zn_inb (by omega) (by decide))
    | (with_reducible exact zn_ina (by omega) (by decide))
    | (with_reducible exact zn_inc (by omega) (by decide))
    | ((conv => whnf); first | (with_reducible refine And.intro ?_ ?_) | ((with_reducible intro h9); first | exact absurd h9 (by decide) | skip) | (with_reducible refine hK _ _ _ _ (sm_un ?_)) | (with_reducible exact z01) | (with_reducible exact z11))
  · exact h0 (inb_lo ‹_›)
  · exact h0 (inb_hi ‹_› (by decide))
  · obtain ⟨j, hj, e⟩ := inb_t ‹¬ x < nI 0› (Int32.not_le.mp ‹¬ nI 4 ≤ x›) (by decide)
    exact h1 j hj e
set_option maxRecDepth 100000 in
set_option maxHeartbeats 4000000 in
theorem s_isKind (hC : sm_C 1 CT) {x : Int32} (h1 : ∀ j, j < 5 → x = nI j → Q (some (.int (nI 1))) h) (h0 : inb x 5 = false → Q (some (.int (nI 0))) h) : CT 75 [.int x] h Q := by
  refine sm_meth hC [some (.int x)] rfl rfl rfl ?_
  refine sm_body [] 40 sm_k75 (fun CT K hC hK => ?_)
  repeat' first
    | (with_reducible refine And.intro ?_ ?_)
    | ((with_reducible intro h9); first | exact absurd h9 (by decide) | skip)
    | (with_reducible exact zn_in (by omega) (by decide))
    | (with_reducible exact z01) | (with_reducible exact z11) | (with_reducible exact zb01 _)
    | (with_reducible exact zn_inb (by omega) (by decide))
    | (with_reducible exact zn_ina (by omega) (by decide))
    | (with_reducible exact zn_inc (by omega) (by decide))
    | ((conv => whnf); first | (with_reducible refine And.intro ?_ ?_) | ((with_reducible intro h9); first | exact absurd h9 (by decide) | skip) | (with_reducible refine hK _ _ _ _ (sm_un ?_)) | (with_reducible exact z01) | (with_reducible exact z11))
  · exact h0 (inb_lo ‹_›)
  · exact h0 (inb_hi ‹_› (by decide))
  · obtain ⟨j, hj, e⟩ := inb_t ‹¬ x < nI 0› (Int32.not_le.mp ‹¬ nI 5 ≤ x›) (by decide)
    exact h1 j hj e
def suchB (own kind : Nat) : Bool := kind == 0 || kind == own || (own == 4 && kind == 3)
theorem such_i : ∀ a, a < 5 → ∀ b, b < 5 → (nI b = nI 0 ∨ nI b = nI a ∨ (nI a = nI 4 ∧ nI b = nI 3) → suchB a b = true) ∧ (¬ nI b = nI 0 ∧ ¬ nI b = nI a ∧ ¬ (nI a = nI 4 ∧ nI b = nI 3) → suchB a b = false) := by decide +kernel
set_option maxRecDepth 100000 in
set_option maxHeartbeats 4000000 in
theorem s_isSuch (hC : sm_C 1 CT) {a b : Nat} (ha : a < 5) (hb : b < 5) (hQ : Q (some (.int (sm_b (suchB a b)))) h) : CT 76 [.int (nI a), .int (nI b)] h Q := by
  obtain ⟨e1, e2⟩ := such_i a ha b hb
  refine sm_meth hC [some (.int (nI a)), some (.int (nI b))] rfl rfl rfl ?_
  refine sm_body [] 40 sm_k76 (fun CT K hC hK => ?_)
  repeat' first
    | (with_reducible refine And.intro ?_ ?_)
    | ((with_reducible intro h9); first | exact absurd h9 (by decide) | skip)
    | (with_reducible exact zn_in (by omega) (by decide))
    | (with_reducible exact z01) | (with_reducible exact z11) | (with_reducible exact zb01 _)
    | (with_reducible exact zn_inb (by omega) (by decide))
    | (with_reducible exact zn_ina (by omega) (by decide))
    | (with_reducible exact zn_inc (by omega) (by decide))
    | ((conv => whnf); first | (with_reducible refine And.intro ?_ ?_) | ((with_reducible intro h9); first | exact absurd h9 (by decide) | skip) | (with_reducible refine hK _ _ _ _ (sm_un ?_)) | (with_reducible exact z01) | (with_reducible exact z11))
  all_goals first
    | (rw [e1 (Or.inl ‹_›)] at hQ; exact hQ)
    | (rw [e1 (Or.inr (Or.inl ‹_›))] at hQ; exact hQ)
    | (rw [e1 (Or.inr (Or.inr ⟨‹_›, ‹_›⟩))] at hQ; exact hQ)
    | (rw [e2 ⟨‹_›, ‹_›, fun q => absurd q.1 ‹_›⟩] at hQ; exact hQ)
    | (rw [e2 ⟨‹_›, ‹_›, fun q => absurd q.2 ‹_›⟩] at hQ; exact hQ)
set_option maxRecDepth 100000 in
set_option maxHeartbeats 4000000 in
theorem s_turned (hC : sm_C 2 CT) {k t a w : Nat} (hk : k ≤ 4) (ht : t < 4) (ha : a < 4) (hw : w < 4) (hQ : Q (some (.int (nI (trn k t a w)))) h) : CT 11 [.int (nI k), .int (nI t), .int (nI a), .int (nI w)] h Q := by
  have hk : k = 0 ∨ k = 1 ∨ k = 2 ∨ k = 3 ∨ k = 4 := by omega
  have hwt : (w + t) % 4 < 4 := by omega
  obtain ⟨c1, c2⟩ := nud_c a ha w hw
  obtain ⟨d1, d2⟩ := nud_c a ha _ hwt
  have ew : nI w + nI t &&& nI 3 = nI ((w + t) % 4) := by rw [nI_add, zn_a3]
  refine sm_meth hC [some (.int (nI k)), some (.int (nI t)), some (.int (nI a)), some (.int (nI w)), none, none] rfl rfl rfl ?_
  refine sm_body [] 60 sm_k11 (fun CT K hC hK => ?_)
  rcases hk with rfl | rfl | rfl | rfl | rfl
  all_goals
    repeat' first
      | (with_reducible refine And.intro ?_ ?_)
      | ((with_reducible intro h9); first | exact absurd h9 (by decide) | (rw [ew] at h9) | skip)
      | (with_reducible exact zn_in (by omega) (by decide))
      | (with_reducible exact z01) | (with_reducible exact z11) | (with_reducible exact zb01 _)
      | (with_reducible exact zn_inb (by omega) (by decide))
      | (with_reducible exact zn_ina (by omega) (by decide))
      | (with_reducible exact zn_inc (by omega) (by decide))
      | ((conv => whnf); first | (with_reducible refine And.intro ?_ ?_) | ((with_reducible intro h9); first | exact absurd h9 (by decide) | (rw [ew] at h9) | skip) | (with_reducible refine hK _ _ _ _ (sm_un ?_)))
  · exact hQ
  · exact zq (c2 ‹_›) hQ
  · exact zq (c1 ‹_›) hQ
  · refine zq ?_ hQ
    exact nI_i (if_neg fun e => ‹¬ nI w = nI t› (nI_i e)).symm
  · refine zq ?_ hQ
    exact nI_i (if_pos ((nI_eq (by omega) (by omega)).mp ‹nI w = nI t›)).symm
  · exact zq ew hQ
  · exact zq (ew.trans (d2 ‹_›)) hQ
  · exact zq (d1 ‹_›) hQ
end SMALL
