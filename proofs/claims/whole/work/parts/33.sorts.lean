/-! sorts, oiling: the faces. -/
section FACE3
variable {CT : sm_CT} {G : Nat → Nat → Int32} {L : Nat → Nat → Int64} {Q : sm_Q} {S : Nat → Nat → Nat} {c : Nat} {h : sm_H}
def A_sorts (S : Nat → Nat → Nat) (x y : Int32) : Int32 := cond (inb x (S 0 1)) (cond (inb y 2) (if S 0 1 = 0 ∨ 30 ≤ S 0 5 then -103 else sortsR S x.toNatClampNeg y.toNatClampNeg) (-102)) (-101)
def N_sorts (S : Nat → Nat → Nat) (x y : Int32) : Nat → Nat → Nat := cond (inb x (S 0 1)) (cond (inb y 2) (if S 0 1 = 0 ∨ 30 ≤ S 0 5 then S else incA S) S) S
theorem R_sorts (hR : RS c S) (x y : Int32) : RS c (N_sorts S x y) := by
  unfold N_sorts
  cases inb x (S 0 1) with
  | false => exact hR
  | true =>
    cases inb y 2 with
    | false => exact hR
    | true =>
      simp only [cond_true]
      split
      · exact hR
      · exact R_inc hR ‹_›
theorem o_in {x : Int32} {n : Nat} (hn : n < 2 ^ 20) (h0 : ¬ x < nI 0) (h1 : x ≤ nI n) : inb x (n + 1) = true := by
  obtain ⟨j, hj, e⟩ := wi_t (x := x) (y := nI n) (n := n + 1) (by omega) (by rw [nI_toInt (by omega)]; omega) (Int32.not_lt.mp h0) h1
  rw [e]
  exact inb_n hj (by omega)
theorem o_gt {x : Int32} {n : Nat} (hn : n < 2 ^ 20) (h1 : ¬ x ≤ nI n) : inb x (n + 1) = false := by
  cases hb : inb x (n + 1) with
  | false => rfl
  | true =>
    obtain ⟨j, hj, e⟩ := inb_ex hb
    rw [e] at h1
    exact absurd (nI_le (by omega) (by omega)) h1
set_option maxRecDepth 100000 in
set_option maxHeartbeats 4000000 in
theorem f_sorts (hC : sm_C 16 CT) (hR : RS c S) (hI : Ic S G) {x y : Int32} (hQ : ∀ G', eqx clsP G G' → Ic (N_sorts S x y) G' → Q (some (.int (A_sorts S x y))) (hp G' L)) : CT 58 [.ref 0, .int x, .int y] (hp G L) Q := by
  obtain ⟨hdR, hnR, -⟩ := id hR
  obtain ⟨r1, r2, r3, r4⟩ := id hdR
  obtain ⟨e1, e2, -⟩ := id hI.1
  have ea := hI.2.2.1.2.2
  have r30 := hR.2.2.2.2.2.1
  have hD := hH_cD hI.1
  have hL := hH_cL hI.1
  refine sm_meth hC [some (.ref 0), some (.int x), some (.int y), none] rfl rfl rfl ?_
  unfold A_sorts N_sorts at hQ
  refine sm_body [] 80 sm_k58 (fun CT K hC hK => ?_)
  repeat' first
    | (with_reducible refine And.intro ?_ ?_)
    | ((with_reducible intro h9); first | exact absurd h9 (by decide) | (replace h9 := of_decide_eq_false (p := S 0 1 = 0 ∨ 30 ≤ S 0 5) (sb_f h9)) | (replace h9 := of_decide_eq_true (p := S 0 1 = 0 ∨ 30 ≤ S 0 5) (sb_t h9)) | (replace h9 := sb_f h9) | ((have h8 := inb_ex (x := x) (sb_t h9); obtain ⟨j, hj, rfl⟩ := h8)) | skip)
    | (with_reducible exact zn_in (by omega) (by decide))
    | (with_reducible exact z01) | (with_reducible exact z11) | (with_reducible exact zb01 _)
    | (with_reducible exact zn_inb (by omega) (by decide))
    | (with_reducible exact zn_ina (by omega) (by decide))
    | (with_reducible exact zn_inc (by omega) (by decide))
    | ((conv => whnf); first | (with_reducible refine And.intro ?_ ?_) | ((with_reducible intro h9); first | exact absurd h9 (by decide) | (replace h9 := of_decide_eq_false (p := S 0 1 = 0 ∨ 30 ≤ S 0 5) (sb_f h9)) | (replace h9 := of_decide_eq_true (p := S 0 1 = 0 ∨ 30 ≤ S 0 5) (sb_t h9)) | (replace h9 := sb_f h9) | ((have h8 := inb_ex (x := x) (sb_t h9); obtain ⟨j, hj, rfl⟩ := h8)) | skip) | (with_reducible refine hK _ _ _ _ (sm_un ?_)) | (with_reducible refine b_hasVane (hC.mono (by omega)) e2 r2 ?_) | (with_reducible refine s_isInquiryClosed (hC.mono (by omega)) e2 r2 ea r30 ?_))
  · (simp only [i0 hj (show S 0 1 ≤ 100 by omega), (inb_lo h9 : inb y 2 = false), Bool.and_true, Bool.true_and, Bool.false_and, Bool.and_false, cond_true, cond_false] at hQ; exact hQ G eqx_rfl hI)
  · obtain ⟨k, hk, rfl⟩ := inb_ex (o_in (n := 1) (by decide) ‹¬ y < nI 0› ‹y ≤ nI 1›)
    simp only [i0 hj (show S 0 1 ≤ 100 by omega), i0 hk (show 2 ≤ 100 by decide), ci hj (show S 0 1 ≤ 100 by omega), ci hk (show 2 ≤ 100 by decide), cond_true, if_f ‹¬ (S 0 1 = 0 ∨ 30 ≤ S 0 5)›] at hQ
    have e := hQ _ (eqx_su 0 _ rfl eqx_rfl) (I_inc hI)
    have hlt := bq_lt (c := fun i => bn (fS S j i)) 20
    unfold sortsR at e
    conv => whnf
    simp only [hp_0, hp_1, hp_2, hp_3, hp_4, hp_5, hp_6, hp_7, hp_8, hp_9, hp_10, hp_11, hp_12, hp_13, hp_14, hp_15, hp_16, hp_17, hp_18, hp_19, hp_20, hp_22, hp_23, hp_24, hp_25, hp_26, hp_27, hp_28, hp_29, hp_30, hp_31, hp_32, hp_33, hp_34, hp_35, hp_36, hp_37, hp_38, hp_39, hp_40, hp_41, hp_42, hp_43, hp_44, hp_45, hp_46, hp_47, hp_48, hp_49, hf0_5, hf0_6, hf0_7, hf1_1, hf3_0, hf3_2, hf3_6, hf10_0, hf10_2, hf10_6, hf17_3, hf17_4, hf20_3, hf20_4, hf30_0, hf30_1, hf30_3, hf30_7, hf30_11, hf30_12, hf30_20, hf30_22, hf30_23, hf30_24, hf30_25, hf30_21, hf30_31, upd_su, updL_su]
    refine s_possibleSorts (S := S) (G := su G 0 (su (G 0) 7 (G 0 7 + nI 1))) (hC.mono (by omega)) hD hdR hL hnR hj ?_
    repeat' first
      | (with_reducible refine And.intro ?_ ?_)
      | ((with_reducible intro h9); first | exact absurd h9 (by decide) | skip)
      | (with_reducible exact zn_in (by omega) (by decide))
      | (with_reducible exact z01) | (with_reducible exact z11) | (with_reducible exact zb01 _)
      | (with_reducible exact zn_inb (by omega) (by decide))
      | (with_reducible exact zn_ina (by omega) (by decide))
      | (with_reducible exact zn_inc (by omega) (by decide))
      | ((conv => whnf); first | (with_reducible refine And.intro ?_ ?_) | ((with_reducible intro h9); first | exact absurd h9 (by decide) | skip) | (with_reducible refine hK _ _ _ _ (sm_un ?_)) | (with_reducible refine s_bitCount (hC.mono (by omega)) hlt ?_) | (with_reducible refine s_leastOf (hC.mono (by omega)) ?_))
    · rw [if_f (zneq ‹¬ nI k = nI 0›)] at e
      exact e
    · rw [if_t (zeq (by omega) (by omega) ‹nI k = nI 0›), ← pc_ct] at e
      exact e
  · obtain ⟨k, hk, rfl⟩ := inb_ex (o_in (n := 1) (by decide) ‹¬ y < nI 0› ‹y ≤ nI 1›)
    simp only [i0 hj (show S 0 1 ≤ 100 by omega), i0 hk (show 2 ≤ 100 by decide), cond_true, if_t ‹S 0 1 = 0 ∨ 30 ≤ S 0 5›] at hQ
    exact hQ G eqx_rfl hI
  · (simp only [i0 hj (show S 0 1 ≤ 100 by omega), (o_gt (n := 1) (by decide) h9 : inb y 2 = false), Bool.and_true, Bool.true_and, Bool.false_and, Bool.and_false, cond_true, cond_false] at hQ; exact hQ G eqx_rfl hI)
  · (simp only [h9, Bool.and_true, Bool.true_and, Bool.false_and, Bool.and_false, cond_true, cond_false] at hQ; exact hQ G eqx_rfl hI)
set_option maxRecDepth 100000 in
set_option maxHeartbeats 4000000 in
theorem g_sorts (hC : sm_C 9 CT) (hR : RS c S) (hI : Im c S G) {x y : Int32} (hQ : ∀ G', eqx mdlP G G' → Im c (N_sorts S x y) G' → Q (some (.int (A_sorts S x y))) (hp G' L)) : CT 124 [.ref 30, .int x, .int y] (hp G L) Q := by
  obtain ⟨hdR, hnR, -⟩ := id hR
  obtain ⟨r1, r2, r3, r4⟩ := id hdR
  obtain ⟨i1, i2, i3, i4, i5, i6, i7⟩ := id hI
  have r30 := hR.2.2.2.2.2.1
  have J := J_inc hI
  have e3 := i1.2.1
  have ea := i4.2
  refine sm_meth hC [some (.ref 30), some (.int x), some (.int y)] rfl rfl rfl ?_
  unfold A_sorts N_sorts at hQ
  refine sm_body [] 80 sm_k124 (fun CT K hC hK => ?_)
  repeat' first
    | (with_reducible refine And.intro ?_ ?_)
    | ((with_reducible intro h9); first | exact absurd h9 (by decide) | (replace h9 := of_decide_eq_false (p := 0 < S 0 1 ∧ S 0 5 < 30) (sb_f h9)) | (replace h9 := of_decide_eq_true (p := 0 < S 0 1 ∧ S 0 5 < 30) (sb_t h9)) | (replace h9 := sb_f h9) | ((have h8 := inb_ex (x := x) (sb_t h9); obtain ⟨j, hj, rfl⟩ := h8)) | ((have h8 := inb_ex (x := y) (sb_t h9); obtain ⟨k, hk, rfl⟩ := h8)) | skip)
    | (with_reducible exact zn_in (by omega) (by decide))
    | (with_reducible exact z01) | (with_reducible exact z11) | (with_reducible exact zb01 _)
    | (with_reducible exact zn_inb (by omega) (by decide))
    | (with_reducible exact zn_ina (by omega) (by decide))
    | (with_reducible exact zn_inc (by omega) (by decide))
    | ((conv => whnf); first | (with_reducible refine And.intro ?_ ?_) | ((with_reducible intro h9); first | exact absurd h9 (by decide) | (replace h9 := of_decide_eq_false (p := 0 < S 0 1 ∧ S 0 5 < 30) (sb_f h9)) | (replace h9 := of_decide_eq_true (p := 0 < S 0 1 ∧ S 0 5 < 30) (sb_t h9)) | (replace h9 := sb_f h9) | ((have h8 := inb_ex (x := x) (sb_t h9); obtain ⟨j, hj, rfl⟩ := h8)) | ((have h8 := inb_ex (x := y) (sb_t h9); obtain ⟨k, hk, rfl⟩ := h8)) | skip) | (with_reducible refine hK _ _ _ _ (sm_un ?_)) | (with_reducible refine b_isVane (hC.mono (by omega)) e3 r2 ?_) | (with_reducible refine b_withinM (n := 2) (hC.mono (by omega)) (by decide) rfl ?_) | (with_reducible refine s_mayAsk (hC.mono (by omega)) e3 r2 ea r30 ?_))
  · conv => whnf
    simp only [hp_0, hp_1, hp_2, hp_3, hp_4, hp_5, hp_6, hp_7, hp_8, hp_9, hp_10, hp_11, hp_12, hp_13, hp_14, hp_15, hp_16, hp_17, hp_18, hp_19, hp_20, hp_22, hp_23, hp_24, hp_25, hp_26, hp_27, hp_28, hp_29, hp_30, hp_31, hp_32, hp_33, hp_34, hp_35, hp_36, hp_37, hp_38, hp_39, hp_40, hp_41, hp_42, hp_43, hp_44, hp_45, hp_46, hp_47, hp_48, hp_49, hf0_5, hf0_6, hf0_7, hf1_1, hf3_0, hf3_2, hf3_6, hf10_0, hf10_2, hf10_6, hf17_3, hf17_4, hf20_3, hf20_4, hf30_0, hf30_1, hf30_3, hf30_7, hf30_11, hf30_12, hf30_20, hf30_22, hf30_23, hf30_24, hf30_25, hf30_21, hf30_31, upd_su, updL_su, su_self]
    refine s_sortsNow (S := S) (G := su G 30 (su (G 30) 11 (G 30 11 + nI 1))) (hC.mono (by omega)) i1 hdR i2 hnR hj hk (fun G' hx hp => ?_)
    simp only [i0 hj (show S 0 1 ≤ 100 by omega), i0 hk (show 2 ≤ 100 by decide), ci hj (show S 0 1 ≤ 100 by omega), ci hk (show 2 ≤ 100 by decide), cond_true, if_f (show ¬ (S 0 1 = 0 ∨ 30 ≤ S 0 5) by omega)] at hQ
    exact hQ G' (eqx_trans (eqx_su 30 _ rfl eqx_rfl) (eqx_sub rfl hx)) (Im_39 (eqx_sub rfl hx) (hp i7) J)
  · (simp only [i0 hj (show S 0 1 ≤ 100 by omega), i0 hk (show 2 ≤ 100 by decide), if_t (show S 0 1 = 0 ∨ 30 ≤ S 0 5 by omega), Bool.and_true, Bool.true_and, Bool.false_and, Bool.and_false, cond_true, cond_false] at hQ; exact hQ G eqx_rfl hI)
  · (simp only [i0 hj (show S 0 1 ≤ 100 by omega), h9, Bool.and_true, Bool.true_and, Bool.false_and, Bool.and_false, cond_true, cond_false] at hQ; exact hQ G eqx_rfl hI)
  · (simp only [h9, Bool.and_true, Bool.true_and, Bool.false_and, Bool.and_false, cond_true, cond_false] at hQ; exact hQ G eqx_rfl hI)
-- oiling
def A_oiling (S : Nat → Nat → Nat) (x y z : Int32) : Int32 := cond (inb x (S 0 0)) (cond (inb y 4 && inb z 2) (if S 0 1 = 0 ∨ ¬ (∀ i, i < x.toNatClampNeg + 1 → S 1 i < 4) then -103 else oilR S x.toNatClampNeg y.toNatClampNeg z.toNatClampNeg) (-102)) (-101)
set_option maxRecDepth 100000 in
set_option maxHeartbeats 4000000 in
theorem f_oiling (hC : sm_C 7 CT) (hR : RS c S) (hI : Ic S G) {x y z : Int32} (hQ : Q (some (.int (A_oiling S x y z))) (hp G L)) : CT 59 [.ref 0, .int x, .int y, .int z] (hp G L) Q := by
  obtain ⟨hdR, hnR, -⟩ := id hR
  obtain ⟨r1, r2, r3, r4⟩ := id hdR
  obtain ⟨e1, e2, -⟩ := id hI.1
  have hD := hH_cD hI.1
  refine sm_meth hC [some (.ref 0), some (.int x), some (.int y), some (.int z)] rfl rfl rfl ?_
  unfold A_oiling at hQ
  have hf16 : fw (PO S x.toNatClampNeg y.toNatClampNeg) (2 ^ S 0 1) ≤ 16 := by
    have h1 := fw_lt (P := PO S x.toNatClampNeg y.toNatClampNeg) (2 ^ S 0 1)
    have h2 := pow_vn r2
    omega
  refine sm_body [] 80 sm_k59 (fun CT K hC hK => ?_)
  repeat' first
    | (with_reducible refine And.intro ?_ ?_)
    | ((with_reducible intro h9); first | exact absurd h9 (by decide) | ((rw [e2] at h9; replace h9 := zneq h9)) | ((rw [e2] at h9; replace h9 := zeq (b := 0) (by omega) (by omega) h9)) | (replace h9 := sb_f h9) | ((have h8 := inb_ex (x := x) (sb_t h9); obtain ⟨j, hj, rfl⟩ := h8)) | ((have h8 := inb_ex (x := y) (sb_t h9); obtain ⟨k, hk, rfl⟩ := h8)) | (replace h9 := of_decide_eq_true (sb_t h9)) | skip)
    | (with_reducible exact zn_in (by omega) (by decide))
    | (with_reducible exact z01) | (with_reducible exact z11) | (with_reducible exact zb01 _)
    | (with_reducible exact zn_inb (by omega) (by decide))
    | (with_reducible exact zn_ina (by omega) (by decide))
    | (with_reducible exact zn_inc (by omega) (by decide))
    | ((conv => whnf); first | (with_reducible refine And.intro ?_ ?_) | ((with_reducible intro h9); first | exact absurd h9 (by decide) | ((rw [e2] at h9; replace h9 := zneq h9)) | ((rw [e2] at h9; replace h9 := zeq (b := 0) (by omega) (by omega) h9)) | (replace h9 := sb_f h9) | ((have h8 := inb_ex (x := x) (sb_t h9); obtain ⟨j, hj, rfl⟩ := h8)) | ((have h8 := inb_ex (x := y) (sb_t h9); obtain ⟨k, hk, rfl⟩ := h8)) | (replace h9 := of_decide_eq_true (sb_t h9)) | skip) | (with_reducible refine hK _ _ _ _ (sm_un ?_)) | (with_reducible refine b_hasHour (hC.mono (by omega)) e1 r1 ?_) | (with_reducible refine b_isQuarter (hC.mono (by omega)) ?_) | ((have h8 := ci hj (show S 0 0 ≤ 100 by omega); refine s_isKnownUntil (hC.mono (by omega)) hD hdR hj ?_)))
  · simp only [i0 hj (show S 0 0 ≤ 100 by omega), h9, Bool.false_and, cond_true, cond_false] at hQ
    exact hQ
  · simp only [i0 hj (show S 0 0 ≤ 100 by omega), i0 hk (show 4 ≤ 100 by decide), (inb_lo h9 : inb z 2 = false), Bool.and_false, cond_true, cond_false] at hQ
    exact hQ
  · simp only [i0 hj (show S 0 0 ≤ 100 by omega), i0 hk (show 4 ≤ 100 by decide), (o_in (n := 1) (by decide) ‹¬ z < nI 0› ‹z ≤ nI 1› : inb z 2 = true), Bool.and_true, cond_true] at hQ
    rw [if_t (Or.inl ‹S 0 1 = 0›)] at hQ
    exact hQ
  · obtain ⟨q, hq, rfl⟩ := inb_ex (o_in (n := 1) (by decide) ‹¬ z < nI 0› ‹z ≤ nI 1›)
    have hk4 : ∀ (i : Nat), i < j + 1 → S 1 i < 4 := ‹_›
    simp only [i0 hj (show S 0 0 ≤ 100 by omega), i0 hk (show 4 ≤ 100 by decide), i0 hq (show 2 ≤ 100 by decide), ci hj (show S 0 0 ≤ 100 by omega), ci hk (show 4 ≤ 100 by decide), ci hq (show 2 ≤ 100 by decide), Bool.and_true, cond_true] at hQ hf16
    rw [if_f (fun z => by rcases z with z | z; exact absurd z ‹S 0 1 ≠ 0›; exact z hk4)] at hQ
    unfold oilR at hQ
    repeat' first
      | (with_reducible refine And.intro ?_ ?_)
      | ((with_reducible intro h9); first | exact absurd h9 (by decide) | skip)
      | (with_reducible exact zn_in (by omega) (by decide))
      | (with_reducible exact z01) | (with_reducible exact z11) | (with_reducible exact zb01 _)
      | (with_reducible exact zn_inb (by omega) (by decide))
      | (with_reducible exact zn_ina (by omega) (by decide))
      | (with_reducible exact zn_inc (by omega) (by decide))
      | ((conv => whnf); first | (with_reducible refine And.intro ?_ ?_) | ((with_reducible intro h9); first | exact absurd h9 (by decide) | skip) | (with_reducible refine hK _ _ _ _ (sm_un ?_)) | (with_reducible refine s_fewestToOil (hC.mono (by omega)) hD hdR hj hk hk4 ?_) | (with_reducible refine s_sizeOrSet (hC.mono (by omega)) hf16 hq ?_))
    exact hQ
  · simp only [i0 hj (show S 0 0 ≤ 100 by omega), ci hj (show S 0 0 ≤ 100 by omega), i0 hk (show 4 ≤ 100 by decide), (o_in (n := 1) (by decide) ‹¬ z < nI 0› ‹z ≤ nI 1› : inb z 2 = true), Bool.and_true, cond_true] at hQ
    rw [if_t (Or.inr (of_decide_eq_false h9))] at hQ
    exact hQ
  · simp only [i0 hj (show S 0 0 ≤ 100 by omega), i0 hk (show 4 ≤ 100 by decide), (o_gt (n := 1) (by decide) h9 : inb z 2 = false), Bool.and_false, cond_true, cond_false] at hQ
    exact hQ
  · simp only [h9, cond_false] at hQ
    exact hQ
set_option maxRecDepth 100000 in
set_option maxHeartbeats 4000000 in
theorem g_oiling (hC : sm_C 6 CT) (hR : RS c S) (hI : Im c S G) {x y z : Int32} (hQ : Q (some (.int (A_oiling S x y z))) (hp G L)) : CT 129 [.ref 30, .int x, .int y, .int z] (hp G L) Q := by
  obtain ⟨hdR, hnR, -⟩ := id hR
  obtain ⟨r1, r2, r3, r4⟩ := id hdR
  obtain ⟨i1, i2, i3, i4, i5, i6, i7⟩ := id hI
  obtain ⟨e1, e2, -⟩ := id i1
  refine sm_meth hC [some (.ref 30), some (.int x), some (.int y), some (.int z)] rfl rfl rfl ?_
  unfold A_oiling at hQ
  refine sm_body [] 80 sm_k129 (fun CT K hC hK => ?_)
  repeat' first
    | (with_reducible refine And.intro ?_ ?_)
    | ((with_reducible intro h9); first | exact absurd h9 (by decide) | ((rw [e2] at h9; replace h9 := zneq h9)) | ((rw [e2] at h9; replace h9 := zeq (b := 0) (by omega) (by omega) h9)) | (replace h9 := sb_f h9) | ((have h8 := inb_ex (x := x) (sb_t h9); obtain ⟨j, hj, rfl⟩ := h8)) | ((have h8 := inb_ex (x := y) (sb_t h9); obtain ⟨k, hk, rfl⟩ := h8)) | ((have h8 := inb_ex (x := z) (sb_t h9); obtain ⟨q, hq, rfl⟩ := h8)) | (replace h9 := of_decide_eq_true (sb_t h9)) | skip)
    | (with_reducible exact zn_in (by omega) (by decide))
    | (with_reducible exact z01) | (with_reducible exact z11) | (with_reducible exact zb01 _)
    | (with_reducible exact zn_inb (by omega) (by decide))
    | (with_reducible exact zn_ina (by omega) (by decide))
    | (with_reducible exact zn_inc (by omega) (by decide))
    | ((conv => whnf); first | (with_reducible refine And.intro ?_ ?_) | ((with_reducible intro h9); first | exact absurd h9 (by decide) | ((rw [e2] at h9; replace h9 := zneq h9)) | ((rw [e2] at h9; replace h9 := zeq (b := 0) (by omega) (by omega) h9)) | (replace h9 := sb_f h9) | ((have h8 := inb_ex (x := x) (sb_t h9); obtain ⟨j, hj, rfl⟩ := h8)) | ((have h8 := inb_ex (x := y) (sb_t h9); obtain ⟨k, hk, rfl⟩ := h8)) | ((have h8 := inb_ex (x := z) (sb_t h9); obtain ⟨q, hq, rfl⟩ := h8)) | (replace h9 := of_decide_eq_true (sb_t h9)) | skip) | (with_reducible refine hK _ _ _ _ (sm_un ?_)) | (with_reducible refine b_isHour (hC.mono (by omega)) e1 r1 ?_) | (with_reducible refine b_isQuarterM (hC.mono (by omega)) ?_) | (with_reducible refine b_withinM (n := 2) (hC.mono (by omega)) (by decide) rfl ?_) | (refine s_isKnownTill (hC.mono (by omega)) i1 hdR hj ?_))
  · simp only [i0 hj (show S 0 0 ≤ 100 by omega), h9, Bool.false_and, cond_true, cond_false] at hQ
    exact hQ
  · simp only [i0 hj (show S 0 0 ≤ 100 by omega), i0 hk (show 4 ≤ 100 by decide), i0 hq (show 2 ≤ 100 by decide), Bool.and_true, cond_true] at hQ
    rw [if_t (Or.inl ‹S 0 1 = 0›)] at hQ
    exact hQ
  · have hk4 : ∀ (i : Nat), i < j + 1 → S 1 i < 4 := h9
    simp only [i0 hj (show S 0 0 ≤ 100 by omega), i0 hk (show 4 ≤ 100 by decide), i0 hq (show 2 ≤ 100 by decide), ci hj (show S 0 0 ≤ 100 by omega), ci hk (show 4 ≤ 100 by decide), ci hq (show 2 ≤ 100 by decide), Bool.and_true, cond_true] at hQ
    rw [if_f (fun z => by rcases z with z | z; exact absurd z ‹S 0 1 ≠ 0›; exact z hk4)] at hQ
    repeat' first
      | (with_reducible refine And.intro ?_ ?_)
      | ((with_reducible intro h9); first | exact absurd h9 (by decide) | skip)
      | (with_reducible exact zn_in (by omega) (by decide))
      | (with_reducible exact z01) | (with_reducible exact z11) | (with_reducible exact zb01 _)
      | (with_reducible exact zn_inb (by omega) (by decide))
      | (with_reducible exact zn_ina (by omega) (by decide))
      | (with_reducible exact zn_inc (by omega) (by decide))
      | ((conv => whnf); first | (with_reducible refine And.intro ?_ ?_) | ((with_reducible intro h9); first | exact absurd h9 (by decide) | skip) | (with_reducible refine hK _ _ _ _ (sm_un ?_)) | (with_reducible refine s_oilingNow (hC.mono (by omega)) i1 hdR hj hk hq hk4 ?_))
    exact hQ
  · simp only [i0 hj (show S 0 0 ≤ 100 by omega), ci hj (show S 0 0 ≤ 100 by omega), i0 hk (show 4 ≤ 100 by decide), i0 hq (show 2 ≤ 100 by decide), Bool.and_true, cond_true] at hQ
    rw [if_t (Or.inr (of_decide_eq_false h9))] at hQ
    exact hQ
  · simp only [i0 hj (show S 0 0 ≤ 100 by omega), i0 hk (show 4 ≤ 100 by decide), h9, Bool.and_false, cond_true, cond_false] at hQ
    exact hQ
  · simp only [h9, cond_false] at hQ
    exact hQ
end FACE3
