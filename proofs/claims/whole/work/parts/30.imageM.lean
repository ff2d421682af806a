/-! image and restore of the other one. -/
section MOVES5
variable {CT : sm_CT} {G : Nat → Nat → Int32} {L : Nat → Nat → Int64} {Q : sm_Q} {S : Nat → Nat → Nat} {c : Nat} {h : sm_H}
set_option maxRecDepth 100000 in
set_option maxHeartbeats 4000000 in
theorem s_imageM_l (hQ : ∀ G1, eqx [30, 45, 46, 47, 48, 49] G G1 → G1 30 = su (su (su (su (G 30) 22 (nI 1)) 23 (G 30 0)) 24 (G 30 3)) 25 (G 30 7) → (∀ j, j < 6 → G1 45 j = G 31 j) → (∀ j, j < 4 → G1 46 j = G 34 j) → (∀ j, j < 10 → G1 47 j = G 35 j ∧ G1 48 j = G 36 j ∧ G1 49 j = G 37 j) → Q (some (.int (G1 30 3))) (hp G1 L)) : ∀ i, i ≤ 6 → ∀ G1, eqx [30, 45, 46, 47, 48, 49] G G1 → G1 30 = su (su (su (su (G 30) 22 (nI 1)) 23 (G 30 0)) 24 (G 30 3)) 25 (G 30 7) → (∀ j, j < i → G1 45 j = G 31 j) → sm_Wk 1 134 Q none 41 [some (.ref 30), some (.int (nI i))] [] (hp G1 L) := by
  have lo3 : ∀ i, i ≤ 10 → ∀ G1, eqx [30, 45, 46, 47, 48, 49] G G1 → G1 30 = su (su (su (su (G 30) 22 (nI 1)) 23 (G 30 0)) 24 (G 30 3)) 25 (G 30 7) → (∀ j, j < 6 → G1 45 j = G 31 j) → (∀ j, j < 4 → G1 46 j = G 34 j) → (∀ j, j < i → G1 47 j = G 35 j ∧ G1 48 j = G 36 j ∧ G1 49 j = G 37 j) → sm_Wk 1 134 Q none 92 [some (.ref 30), some (.int (nI i))] [] (hp G1 L) := by
    refine up _ (fun i hi ih G1 hx hf h1 h4 h6 => ?_)
    refine sm_body [92] 80 sm_k134 (fun CT K hC hK => ?_)
    repeat' first
      | (with_reducible refine And.intro ?_ ?_)
      | ((with_reducible intro h9); first | exact absurd h9 (by decide) | (replace h9 := zle (a := 10) (by omega) (by omega) h9) | (replace h9 := znle (a := 10) (by omega) (by omega) h9) | skip)
      | (with_reducible exact zn_in (by omega) (by decide))
      | (with_reducible exact z01) | (with_reducible exact z11) | (with_reducible exact zb01 _)
      | (with_reducible exact zn_inb (by omega) (by decide))
      | (with_reducible exact zn_ina (by omega) (by decide))
      | (with_reducible exact zn_inc (by omega) (by decide))
      | ((conv => whnf); first | (with_reducible refine And.intro ?_ ?_) | ((with_reducible intro h9); first | exact absurd h9 (by decide) | (replace h9 := zle (a := 10) (by omega) (by omega) h9) | (replace h9 := znle (a := 10) (by omega) (by omega) h9) | skip) | (with_reducible refine hK _ _ _ _ (sm_un ?_)))
    · exact hQ G1 hx hf h1 h4 (fun j hj => h6 j (by omega))
    · simp only [hp_0, hp_1, hp_2, hp_3, hp_4, hp_5, hp_6, hp_7, hp_8, hp_9, hp_10, hp_11, hp_12, hp_13, hp_14, hp_15, hp_16, hp_17, hp_18, hp_19, hp_20, hp_22, hp_23, hp_24, hp_25, hp_26, hp_27, hp_28, hp_29, hp_30, hp_31, hp_32, hp_33, hp_34, hp_35, hp_36, hp_37, hp_38, hp_39, hp_40, hp_41, hp_42, hp_43, hp_44, hp_45, hp_46, hp_47, hp_48, hp_49, hf0_5, hf0_6, hf0_7, hf1_1, hf3_0, hf3_2, hf3_6, hf10_0, hf10_2, hf10_6, hf17_3, hf17_4, hf20_3, hf20_4, hf30_0, hf30_1, hf30_3, hf30_7, hf30_11, hf30_12, hf30_20, hf30_22, hf30_23, hf30_24, hf30_25, hf30_21, hf30_31, upd_su, updL_su, su_self, nI_add, zn_clI (show i < 2 ^ 31 by omega)]
      refine ⟨⟨ih ‹_› _ (eqx_su 49 _ rfl (eqx_su 48 _ rfl (eqx_su 47 _ rfl hx))) hf h1 h4 (fun j hj => ?_)⟩⟩
      have q : j < i → _ := h6 j
      show su (G1 47) i (G1 35 i) j = G 35 j ∧ su (G1 48) i (G1 36 i) j = G 36 j ∧ su (G1 49) i (G1 37 i) j = G 37 j
      simp only [su_if]
      split
      · rename_i e
        rw [e, hx 35 rfl, hx 36 rfl, hx 37 rfl]
        exact ⟨rfl, rfl, rfl⟩
      · exact q (by omega)
  have lo2 : ∀ i, i ≤ 4 → ∀ G1, eqx [30, 45, 46, 47, 48, 49] G G1 → G1 30 = su (su (su (su (G 30) 22 (nI 1)) 23 (G 30 0)) 24 (G 30 3)) 25 (G 30 7) → (∀ j, j < 6 → G1 45 j = G 31 j) → (∀ j, j < i → G1 46 j = G 34 j) → sm_Wk 1 134 Q none 67 [some (.ref 30), some (.int (nI i))] [] (hp G1 L) := by
    refine up _ (fun i hi ih G1 hx hf h1 h4 => ?_)
    refine sm_body [67, 92] 80 sm_k134 (fun CT K hC hK => ?_)
    repeat' first
      | (with_reducible refine And.intro ?_ ?_)
      | ((with_reducible intro h9); first | exact absurd h9 (by decide) | (replace h9 := zle (a := 4) (by omega) (by omega) h9) | (replace h9 := znle (a := 4) (by omega) (by omega) h9) | skip)
      | (with_reducible exact zn_in (by omega) (by decide))
      | (with_reducible exact z01) | (with_reducible exact z11) | (with_reducible exact zb01 _)
      | (with_reducible exact zn_inb (by omega) (by decide))
      | (with_reducible exact zn_ina (by omega) (by decide))
      | (with_reducible exact zn_inc (by omega) (by decide))
      | ((conv => whnf); first | (with_reducible refine And.intro ?_ ?_) | ((with_reducible intro h9); first | exact absurd h9 (by decide) | (replace h9 := zle (a := 4) (by omega) (by omega) h9) | (replace h9 := znle (a := 4) (by omega) (by omega) h9) | skip) | (with_reducible refine hK _ _ _ _ (sm_un ?_)))
    · exact ⟨⟨lo3 0 (Nat.zero_le _) G1 hx hf h1 (fun j hj => h4 j (by omega)) (fun j hj => absurd hj (Nat.not_lt_zero _))⟩⟩
    · simp only [hp_0, hp_1, hp_2, hp_3, hp_4, hp_5, hp_6, hp_7, hp_8, hp_9, hp_10, hp_11, hp_12, hp_13, hp_14, hp_15, hp_16, hp_17, hp_18, hp_19, hp_20, hp_22, hp_23, hp_24, hp_25, hp_26, hp_27, hp_28, hp_29, hp_30, hp_31, hp_32, hp_33, hp_34, hp_35, hp_36, hp_37, hp_38, hp_39, hp_40, hp_41, hp_42, hp_43, hp_44, hp_45, hp_46, hp_47, hp_48, hp_49, hf0_5, hf0_6, hf0_7, hf1_1, hf3_0, hf3_2, hf3_6, hf10_0, hf10_2, hf10_6, hf17_3, hf17_4, hf20_3, hf20_4, hf30_0, hf30_1, hf30_3, hf30_7, hf30_11, hf30_12, hf30_20, hf30_22, hf30_23, hf30_24, hf30_25, hf30_21, hf30_31, upd_su, updL_su, su_self, nI_add, zn_clI (show i < 2 ^ 31 by omega)]
      refine ⟨⟨ih ‹_› _ (eqx_su 46 _ rfl hx) hf h1 (fun j hj => ?_)⟩⟩
      rw [su_eq, su_if]
      split
      · rename_i e
        rw [e, hx 34 rfl]
      · exact h4 j (by omega)
  refine up _ (fun i hi ih G1 hx hf h1 => ?_)
  refine sm_body [41, 67] 80 sm_k134 (fun CT K hC hK => ?_)
  repeat' first
    | (with_reducible refine And.intro ?_ ?_)
    | ((with_reducible intro h9); first | exact absurd h9 (by decide) | (replace h9 := zle (a := 6) (by omega) (by omega) h9) | (replace h9 := znle (a := 6) (by omega) (by omega) h9) | skip)
    | (with_reducible exact zn_in (by omega) (by decide))
    | (with_reducible exact z01) | (with_reducible exact z11) | (with_reducible exact zb01 _)
    | (with_reducible exact zn_inb (by omega) (by decide))
    | (with_reducible exact zn_ina (by omega) (by decide))
    | (with_reducible exact zn_inc (by omega) (by decide))
    | ((conv => whnf); first | (with_reducible refine And.intro ?_ ?_) | ((with_reducible intro h9); first | exact absurd h9 (by decide) | (replace h9 := zle (a := 6) (by omega) (by omega) h9) | (replace h9 := znle (a := 6) (by omega) (by omega) h9) | skip) | (with_reducible refine hK _ _ _ _ (sm_un ?_)))
  · exact ⟨⟨lo2 0 (Nat.zero_le _) G1 hx hf (fun j hj => h1 j (by omega)) (fun j hj => absurd hj (Nat.not_lt_zero _))⟩⟩
  · simp only [hp_0, hp_1, hp_2, hp_3, hp_4, hp_5, hp_6, hp_7, hp_8, hp_9, hp_10, hp_11, hp_12, hp_13, hp_14, hp_15, hp_16, hp_17, hp_18, hp_19, hp_20, hp_22, hp_23, hp_24, hp_25, hp_26, hp_27, hp_28, hp_29, hp_30, hp_31, hp_32, hp_33, hp_34, hp_35, hp_36, hp_37, hp_38, hp_39, hp_40, hp_41, hp_42, hp_43, hp_44, hp_45, hp_46, hp_47, hp_48, hp_49, hf0_5, hf0_6, hf0_7, hf1_1, hf3_0, hf3_2, hf3_6, hf10_0, hf10_2, hf10_6, hf17_3, hf17_4, hf20_3, hf20_4, hf30_0, hf30_1, hf30_3, hf30_7, hf30_11, hf30_12, hf30_20, hf30_22, hf30_23, hf30_24, hf30_25, hf30_21, hf30_31, upd_su, updL_su, su_self, nI_add, zn_clI (show i < 2 ^ 31 by omega)]
    refine ⟨⟨ih ‹_› _ (eqx_su 45 _ rfl hx) hf (fun j hj => ?_)⟩⟩
    rw [su_eq, su_if]
    split
    · rename_i e
      rw [e, hx 31 rfl]
    · exact h1 j (by omega)
set_option maxRecDepth 100000 in
set_option maxHeartbeats 4000000 in
theorem s_restoreM_l (hQ : ∀ G1, eqx [30, 31, 34, 35, 36, 37] G G1 → G1 30 = su (su (G 30) 3 (G 30 24)) 7 (G 30 25) → (∀ j, j < 6 → G1 31 j = G 45 j) → (∀ j, j < 4 → G1 34 j = G 46 j) → (∀ j, j < 10 → G1 35 j = G 47 j ∧ G1 36 j = G 48 j ∧ G1 37 j = G 49 j) → Q (some (.int (G1 30 3))) (hp G1 L)) : ∀ i, i ≤ 6 → ∀ G1, eqx [30, 31, 34, 35, 36, 37] G G1 → G1 30 = su (su (G 30) 3 (G 30 24)) 7 (G 30 25) → (∀ j, j < i → G1 31 j = G 45 j) → sm_Wk 1 135 Q none 39 [some (.ref 30), some (.int (nI i))] [] (hp G1 L) := by
  have lo3 : ∀ i, i ≤ 10 → ∀ G1, eqx [30, 31, 34, 35, 36, 37] G G1 → G1 30 = su (su (G 30) 3 (G 30 24)) 7 (G 30 25) → (∀ j, j < 6 → G1 31 j = G 45 j) → (∀ j, j < 4 → G1 34 j = G 46 j) → (∀ j, j < i → G1 35 j = G 47 j ∧ G1 36 j = G 48 j ∧ G1 37 j = G 49 j) → sm_Wk 1 135 Q none 90 [some (.ref 30), some (.int (nI i))] [] (hp G1 L) := by
    refine up _ (fun i hi ih G1 hx hf h1 h4 h6 => ?_)
    refine sm_body [90] 80 sm_k135 (fun CT K hC hK => ?_)
    repeat' first
      | (with_reducible refine And.intro ?_ ?_)
      | ((with_reducible intro h9); first | exact absurd h9 (by decide) | (replace h9 := zle (a := 10) (by omega) (by omega) h9) | (replace h9 := znle (a := 10) (by omega) (by omega) h9) | skip)
      | (with_reducible exact zn_in (by omega) (by decide))
      | (with_reducible exact z01) | (with_reducible exact z11) | (with_reducible exact zb01 _)
      | (with_reducible exact zn_inb (by omega) (by decide))
      | (with_reducible exact zn_ina (by omega) (by decide))
      | (with_reducible exact zn_inc (by omega) (by decide))
      | ((conv => whnf); first | (with_reducible refine And.intro ?_ ?_) | ((with_reducible intro h9); first | exact absurd h9 (by decide) | (replace h9 := zle (a := 10) (by omega) (by omega) h9) | (replace h9 := znle (a := 10) (by omega) (by omega) h9) | skip) | (with_reducible refine hK _ _ _ _ (sm_un ?_)))
    · exact hQ G1 hx hf h1 h4 (fun j hj => h6 j (by omega))
    · simp only [hp_0, hp_1, hp_2, hp_3, hp_4, hp_5, hp_6, hp_7, hp_8, hp_9, hp_10, hp_11, hp_12, hp_13, hp_14, hp_15, hp_16, hp_17, hp_18, hp_19, hp_20, hp_22, hp_23, hp_24, hp_25, hp_26, hp_27, hp_28, hp_29, hp_30, hp_31, hp_32, hp_33, hp_34, hp_35, hp_36, hp_37, hp_38, hp_39, hp_40, hp_41, hp_42, hp_43, hp_44, hp_45, hp_46, hp_47, hp_48, hp_49, hf0_5, hf0_6, hf0_7, hf1_1, hf3_0, hf3_2, hf3_6, hf10_0, hf10_2, hf10_6, hf17_3, hf17_4, hf20_3, hf20_4, hf30_0, hf30_1, hf30_3, hf30_7, hf30_11, hf30_12, hf30_20, hf30_22, hf30_23, hf30_24, hf30_25, hf30_21, hf30_31, upd_su, updL_su, su_self, nI_add, zn_clI (show i < 2 ^ 31 by omega)]
      refine ⟨⟨ih ‹_› _ (eqx_su 37 _ rfl (eqx_su 36 _ rfl (eqx_su 35 _ rfl hx))) hf h1 h4 (fun j hj => ?_)⟩⟩
      have q : j < i → _ := h6 j
      show su (G1 35) i (G1 47 i) j = G 47 j ∧ su (G1 36) i (G1 48 i) j = G 48 j ∧ su (G1 37) i (G1 49 i) j = G 49 j
      simp only [su_if]
      split
      · rename_i e
        rw [e, hx 47 rfl, hx 48 rfl, hx 49 rfl]
        exact ⟨rfl, rfl, rfl⟩
      · exact q (by omega)
  have lo2 : ∀ i, i ≤ 4 → ∀ G1, eqx [30, 31, 34, 35, 36, 37] G G1 → G1 30 = su (su (G 30) 3 (G 30 24)) 7 (G 30 25) → (∀ j, j < 6 → G1 31 j = G 45 j) → (∀ j, j < i → G1 34 j = G 46 j) → sm_Wk 1 135 Q none 65 [some (.ref 30), some (.int (nI i))] [] (hp G1 L) := by
    refine up _ (fun i hi ih G1 hx hf h1 h4 => ?_)
    refine sm_body [65, 90] 80 sm_k135 (fun CT K hC hK => ?_)
    repeat' first
      | (with_reducible refine And.intro ?_ ?_)
      | ((with_reducible intro h9); first | exact absurd h9 (by decide) | (replace h9 := zle (a := 4) (by omega) (by omega) h9) | (replace h9 := znle (a := 4) (by omega) (by omega) h9) | skip)
      | (with_reducible exact zn_in (by omega) (by decide))
      | (with_reducible exact z01) | (with_reducible exact z11) | (with_reducible exact zb01 _)
      | (with_reducible exact zn_inb (by omega) (by decide))
      | (with_reducible exact zn_ina (by omega) (by decide))
      | (with_reducible exact zn_inc (by omega) (by decide))
      | ((conv => whnf); first | (with_reducible refine And.intro ?_ ?_) | ((with_reducible intro h9); first | exact absurd h9 (by decide) | (replace h9 := zle (a := 4) (by omega) (by omega) h9) | (replace h9 := znle (a := 4) (by omega) (by omega) h9) | skip) | (with_reducible refine hK _ _ _ _ (sm_un ?_)))
    · exact ⟨⟨lo3 0 (Nat.zero_le _) G1 hx hf h1 (fun j hj => h4 j (by omega)) (fun j hj => absurd hj (Nat.not_lt_zero _))⟩⟩
    · simp only [hp_0, hp_1, hp_2, hp_3, hp_4, hp_5, hp_6, hp_7, hp_8, hp_9, hp_10, hp_11, hp_12, hp_13, hp_14, hp_15, hp_16, hp_17, hp_18, hp_19, hp_20, hp_22, hp_23, hp_24, hp_25, hp_26, hp_27, hp_28, hp_29, hp_30, hp_31, hp_32, hp_33, hp_34, hp_35, hp_36, hp_37, hp_38, hp_39, hp_40, hp_41, hp_42, hp_43, hp_44, hp_45, hp_46, hp_47, hp_48, hp_49, hf0_5, hf0_6, hf0_7, hf1_1, hf3_0, hf3_2, hf3_6, hf10_0, hf10_2, hf10_6, hf17_3, hf17_4, hf20_3, hf20_4, hf30_0, hf30_1, hf30_3, hf30_7, hf30_11, hf30_12, hf30_20, hf30_22, hf30_23, hf30_24, hf30_25, hf30_21, hf30_31, upd_su, updL_su, su_self, nI_add, zn_clI (show i < 2 ^ 31 by omega)]
      refine ⟨⟨ih ‹_› _ (eqx_su 34 _ rfl hx) hf h1 (fun j hj => ?_)⟩⟩
      rw [su_eq, su_if]
      split
      · rename_i e
        rw [e, hx 46 rfl]
      · exact h4 j (by omega)
  refine up _ (fun i hi ih G1 hx hf h1 => ?_)
  refine sm_body [39, 65] 80 sm_k135 (fun CT K hC hK => ?_)
  repeat' first
    | (with_reducible refine And.intro ?_ ?_)
    | ((with_reducible intro h9); first | exact absurd h9 (by decide) | (replace h9 := zle (a := 6) (by omega) (by omega) h9) | (replace h9 := znle (a := 6) (by omega) (by omega) h9) | skip)
    | (with_reducible exact zn_in (by omega) (by decide))
    | (with_reducible exact z01) | (with_reducible exact z11) | (with_reducible exact zb01 _)
    | (with_reducible exact zn_inb (by omega) (by decide))
    | (with_reducible exact zn_ina (by omega) (by decide))
    | (with_reducible exact zn_inc (by omega) (by decide))
    | ((conv => whnf); first | (with_reducible refine And.intro ?_ ?_) | ((with_reducible intro h9); first | exact absurd h9 (by decide) | (replace h9 := zle (a := 6) (by omega) (by omega) h9) | (replace h9 := znle (a := 6) (by omega) (by omega) h9) | skip) | (with_reducible refine hK _ _ _ _ (sm_un ?_)))
  · exact ⟨⟨lo2 0 (Nat.zero_le _) G1 hx hf (fun j hj => h1 j (by omega)) (fun j hj => absurd hj (Nat.not_lt_zero _))⟩⟩
  · simp only [hp_0, hp_1, hp_2, hp_3, hp_4, hp_5, hp_6, hp_7, hp_8, hp_9, hp_10, hp_11, hp_12, hp_13, hp_14, hp_15, hp_16, hp_17, hp_18, hp_19, hp_20, hp_22, hp_23, hp_24, hp_25, hp_26, hp_27, hp_28, hp_29, hp_30, hp_31, hp_32, hp_33, hp_34, hp_35, hp_36, hp_37, hp_38, hp_39, hp_40, hp_41, hp_42, hp_43, hp_44, hp_45, hp_46, hp_47, hp_48, hp_49, hf0_5, hf0_6, hf0_7, hf1_1, hf3_0, hf3_2, hf3_6, hf10_0, hf10_2, hf10_6, hf17_3, hf17_4, hf20_3, hf20_4, hf30_0, hf30_1, hf30_3, hf30_7, hf30_11, hf30_12, hf30_20, hf30_22, hf30_23, hf30_24, hf30_25, hf30_21, hf30_31, upd_su, updL_su, su_self, nI_add, zn_clI (show i < 2 ^ 31 by omega)]
    refine ⟨⟨ih ‹_› _ (eqx_su 31 _ rfl hx) hf (fun j hj => ?_)⟩⟩
    rw [su_eq, su_if]
    split
    · rename_i e
      rw [e, hx 45 rfl]
    · exact h1 j (by omega)
set_option maxRecDepth 100000 in
set_option maxHeartbeats 4000000 in
theorem g_image (hC : sm_C 2 CT) (hR : RS c S) (hI : Im c S G) (hQ : ∀ G', eqx mdlP G G' → Im c (N_image S) G' → Q (some (.int (A_image S))) (hp G' L)) : CT 134 [.ref 30] (hp G L) Q := by
  obtain ⟨i1, i2, i3, i4, i5, i6, i7⟩ := id hI
  obtain ⟨e1, e2, e3, e4⟩ := id i1
  obtain ⟨hdR, hnR, -⟩ := id hR
  have r6 := hdR.1
  have r4 := hdR.2.1
  have n10 := hnR.1
  refine sm_meth hC [some (.ref 30), none] rfl rfl rfl ?_
  refine sm_body [41] 60 sm_k134 (fun CT K hC hK => ?_)
  unfold A_image N_image at hQ
  repeat' first
    | (with_reducible refine And.intro ?_ ?_)
    | ((with_reducible intro h9); first | exact absurd h9 (by decide) | ((rw [e1] at h9; replace h9 := zneq h9)) | ((rw [e1] at h9; replace h9 := zeq (by omega) (by omega) h9)) | skip)
    | (with_reducible exact zn_in (by omega) (by decide))
    | (with_reducible exact z01) | (with_reducible exact z11) | (with_reducible exact zb01 _)
    | (with_reducible exact zn_inb (by omega) (by decide))
    | (with_reducible exact zn_ina (by omega) (by decide))
    | (with_reducible exact zn_inc (by omega) (by decide))
    | ((conv => whnf); first | (with_reducible refine And.intro ?_ ?_) | ((with_reducible intro h9); first | exact absurd h9 (by decide) | ((rw [e1] at h9; replace h9 := zneq h9)) | ((rw [e1] at h9; replace h9 := zeq (by omega) (by omega) h9)) | skip) | (with_reducible refine hK _ _ _ _ (sm_un ?_)))
  · simp only [if_f h9] at hQ
    simp only [hp_0, hp_1, hp_2, hp_3, hp_4, hp_5, hp_6, hp_7, hp_8, hp_9, hp_10, hp_11, hp_12, hp_13, hp_14, hp_15, hp_16, hp_17, hp_18, hp_19, hp_20, hp_22, hp_23, hp_24, hp_25, hp_26, hp_27, hp_28, hp_29, hp_30, hp_31, hp_32, hp_33, hp_34, hp_35, hp_36, hp_37, hp_38, hp_39, hp_40, hp_41, hp_42, hp_43, hp_44, hp_45, hp_46, hp_47, hp_48, hp_49, hf0_5, hf0_6, hf0_7, hf1_1, hf3_0, hf3_2, hf3_6, hf10_0, hf10_2, hf10_6, hf17_3, hf17_4, hf20_3, hf20_4, hf30_0, hf30_1, hf30_3, hf30_7, hf30_11, hf30_12, hf30_20, hf30_22, hf30_23, hf30_24, hf30_25, hf30_21, hf30_31, upd_su, updL_su, su_self, su_eq, su_su]
    refine ⟨⟨s_imageM_l (G := G) (fun G1 hx hf h1 h4 h6 => ?_) 0 (Nat.zero_le _) _ (eqx_su 30 _ rfl eqx_rfl) rfl (fun j hj => absurd hj (Nat.not_lt_zero _))⟩⟩
    obtain ⟨b, d, b1, b2, b3, b4, b5, b6⟩ := i5
    refine zq ?_ (hQ G1 (eqx_sub rfl hx) ⟨?_, ?_, ?_, ?_, ⟨1, S 0 4, Nat.le_refl 1, Nat.le_refl _, ?_, ?_, ⟨fun _ => ⟨rfl, rfl⟩, fun _ => rfl⟩, fun _ => ⟨?_, ?_, ?_, ?_, ?_⟩⟩, ?_, ?_⟩)
    · rw [hf]; exact e2
    · refine mD_sim (S := S) ⟨rfl, rfl, rfl, rfl, rfl, rfl, rfl, rfl, rfl, rfl⟩ ?_
      unfold mD
      rw [hf, hx 31 rfl, hx 32 rfl, hx 33 rfl, hx 34 rfl]
      exact i1
    · refine mS_sim (S := S) ⟨rfl, rfl, rfl, rfl, rfl, rfl, rfl, rfl, rfl, rfl⟩ ?_
      unfold mS
      rw [hf, hx 35 rfl, hx 36 rfl, hx 37 rfl]
      exact i2
    · unfold mP
      rw [hf, hx 38 rfl]
      exact i3
    · unfold mQ
      rw [hf]
      exact i4
    · rw [hf]; rfl
    · rw [hf]; exact i4.1
    · rw [hf]; exact e2
    · rw [hf]; exact i2.1
    · intro i hi
      have hi : i < S 0 0 := hi
      rw [h1 i (by omega)]; exact e3 i hi
    · intro i hi
      have hi : i < S 0 1 := hi
      rw [h4 i (by omega)]; exact (e4 i hi).2.2
    · intro k hk
      have hk : k < S 0 2 := hk
      have q := h6 k (by omega)
      rw [q.1, q.2.1, q.2.2]
      exact i2.2 k hk
    · unfold mH
      rw [hf, hx 44 rfl]
      exact i6
    · unfold pA
      rw [hx 40 rfl]
      exact i7
  · simp only [if_t h9] at hQ
    exact hQ G eqx_rfl hI
set_option maxRecDepth 100000 in
set_option maxHeartbeats 4000000 in
theorem g_restore (hC : sm_C 2 CT) (hR : RS c S) (hI : Im c S G) (hc : c < 2 ^ 30) (hQ : ∀ G', eqx mdlP G G' → Im c (N_restore S) G' → Q (some (.int (A_restore S))) (hp G' L)) : CT 135 [.ref 30] (hp G L) Q := by
  obtain ⟨i1, i2, i3, i4, i5, i6, i7⟩ := id hI
  obtain ⟨e1, e2, e3, e4⟩ := id i1
  obtain ⟨b, d, b1, b2, b3, b4, b5, b6⟩ := id i5
  have r5 := hR.2.2.2.2.1
  refine sm_meth hC [some (.ref 30), none] rfl rfl rfl ?_
  refine sm_body [39] 60 sm_k135 (fun CT K hC hK => ?_)
  unfold A_restore N_restore at hQ
  repeat' first
    | (with_reducible refine And.intro ?_ ?_)
    | ((with_reducible intro h9); first | exact absurd h9 (by decide) | ((rw [b3] at h9; replace h9 := zneq h9)) | ((rw [b3] at h9; replace h9 := zeq (by omega) (by omega) h9)) | ((rw [b4, i4.1] at h9; replace h9 := zneq h9)) | ((rw [b4, i4.1] at h9; replace h9 := zeq (by omega) (by omega) h9)) | skip)
    | (with_reducible exact zn_in (by omega) (by decide))
    | (with_reducible exact z01) | (with_reducible exact z11) | (with_reducible exact zb01 _)
    | (with_reducible exact zn_inb (by omega) (by decide))
    | (with_reducible exact zn_ina (by omega) (by decide))
    | (with_reducible exact zn_inc (by omega) (by decide))
    | ((conv => whnf); first | (with_reducible refine And.intro ?_ ?_) | ((with_reducible intro h9); first | exact absurd h9 (by decide) | ((rw [b3] at h9; replace h9 := zneq h9)) | ((rw [b3] at h9; replace h9 := zeq (by omega) (by omega) h9)) | ((rw [b4, i4.1] at h9; replace h9 := zneq h9)) | ((rw [b4, i4.1] at h9; replace h9 := zeq (by omega) (by omega) h9)) | skip) | (with_reducible refine hK _ _ _ _ (sm_un ?_)))
  · have hk : ¬ S 0 6 = 1 := fun e => by have := (b5.mp e).1; omega
    simp only [if_f hk] at hQ
    exact hQ G eqx_rfl hI
  · have hk : S 0 6 = 1 := b5.mpr ⟨by omega, h9⟩
    simp only [if_t hk] at hQ
    obtain ⟨k1, k2, k3, k4, k5⟩ := b6 hk
    obtain ⟨u1, u2, u3, u4⟩ := hR.2.2.2.2.2.2.2.2 hk
    have r6 : S 0 0 ≤ 6 := u3.1
    have r4 : S 0 7 ≤ 4 := u3.2.1
    have r10 : S 0 8 ≤ 10 := u4.1
    simp only [hp_0, hp_1, hp_2, hp_3, hp_4, hp_5, hp_6, hp_7, hp_8, hp_9, hp_10, hp_11, hp_12, hp_13, hp_14, hp_15, hp_16, hp_17, hp_18, hp_19, hp_20, hp_22, hp_23, hp_24, hp_25, hp_26, hp_27, hp_28, hp_29, hp_30, hp_31, hp_32, hp_33, hp_34, hp_35, hp_36, hp_37, hp_38, hp_39, hp_40, hp_41, hp_42, hp_43, hp_44, hp_45, hp_46, hp_47, hp_48, hp_49, hf0_5, hf0_6, hf0_7, hf1_1, hf3_0, hf3_2, hf3_6, hf10_0, hf10_2, hf10_6, hf17_3, hf17_4, hf20_3, hf20_4, hf30_0, hf30_1, hf30_3, hf30_7, hf30_11, hf30_12, hf30_20, hf30_22, hf30_23, hf30_24, hf30_25, hf30_21, hf30_31, upd_su, updL_su, su_self, su_eq, su_su]
    refine ⟨⟨s_restoreM_l (G := G) (fun G1 hx hf h1 h4 h6 => ?_) 0 (Nat.zero_le _) _ (eqx_su 30 _ rfl eqx_rfl) rfl (fun j hj => absurd hj (Nat.not_lt_zero _))⟩⟩
    refine zq ?_ (hQ G1 (eqx_sub rfl hx) ⟨⟨?_, ?_, ?_, ?_⟩, ⟨?_, ?_⟩, ?_, ?_, ⟨b, d, b1, b2, ?_, ?_, b5, fun _ => ⟨?_, ?_, ?_, ?_, ?_⟩⟩, ?_, ?_⟩)
    · rw [hf]; exact k1
    · rw [hf]; exact e1
    · rw [hf]; exact k1
    · intro i hi
      have hi : i < S 0 0 := hi
      rw [h1 i (by omega)]; exact k3 i hi
    · intro i hi
      have hi : i < S 0 7 := hi
      rw [hx 32 rfl, hx 33 rfl, h4 i (by omega)]
      exact ⟨(e4 i (by omega)).1, (e4 i (by omega)).2.1, k4 i hi⟩
    · rw [hf]; exact k2
    · intro k hk
      have hk : k < S 0 8 := hk
      have q := h6 k (by omega)
      rw [q.1, q.2.1, q.2.2]
      exact k5 k hk
    · unfold mP
      rw [hf, hx 38 rfl]
      exact i3
    · unfold mQ
      rw [hf]
      exact i4
    · rw [hf]; exact b3
    · rw [hf]; exact b4
    · rw [hf]; exact k1
    · rw [hf]; exact k2
    · rw [hx 45 rfl]; exact k3
    · rw [hx 46 rfl]; exact k4
    · rw [hx 47 rfl, hx 48 rfl, hx 49 rfl]; exact k5
    · unfold mH
      rw [hf, hx 44 rfl]
      exact i6
    · unfold pA
      rw [hx 40 rfl]
      exact i7
  · have hk : ¬ S 0 6 = 1 := fun e => h9 (b5.mp e).2
    simp only [if_f hk] at hQ
    exact hQ G eqx_rfl hI
end MOVES5
