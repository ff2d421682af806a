/-! image and restore. -/
section MOVES4
variable {CT : sm_CT} {G : Nat → Nat → Int32} {L : Nat → Nat → Int64} {Q : sm_Q} {S : Nat → Nat → Nat} {c : Nat} {h : sm_H}
theorem hF_cp {a0 a2 a6 b0 b2 b6 : Int32} {W K A T O M W' K' A' T' O' M' : Nat → Int32} (hR : dR S) (h : hF S a0 a2 a6 W K A T O M) (h0 : b0 = a0) (h2 : b2 = a2) (h6 : b6 = a6) (hW : ∀ i, i < 6 → W' i = W i) (hK : ∀ i, i < 4 → K' i = K i) (hA : ∀ i, i < 4 → A' i = A i) (hT : ∀ i, i < 4 → T' i = T i) (hO : ∀ i, i < 4 → O' i = O i) (hM : ∀ i, i < 24 → M' i = M i) : hF S b0 b2 b6 W' K' A' T' O' M' := by
  obtain ⟨r1, r2, -, -⟩ := hR
  obtain ⟨e1, e2, e3, e4, e5, e6, e7⟩ := h
  subst h0
  subst h2
  subst h6
  refine ⟨e1, e2, e3, fun i hi => ?_, fun i hi => ?_, fun v hv => ?_, fun v hv k hk => ?_⟩
  · rw [hW i (by omega)]; exact e4 i hi
  · rw [hK i (by omega), hA i (by omega), hT i (by omega)]; exact e5 i hi
  · rw [hO v hv]; exact e6 v hv
  · rw [hM _ (by omega)]; exact e7 v hv k hk
set_option maxRecDepth 100000 in
set_option maxHeartbeats 4000000 in
theorem s_keep (hC : sm_C 1 CT) (hQ : ∀ G1, eqx [10, 11, 12, 13, 14, 15, 16] G G1 → (G1 10 0 = G 3 0 ∧ G1 10 2 = G 3 2 ∧ G1 10 6 = G 3 6) → (∀ j, j < 6 → G1 11 j = G 4 j) → (∀ j, j < 4 → G1 12 j = G 5 j ∧ G1 13 j = G 6 j ∧ G1 14 j = G 7 j ∧ G1 15 j = G 8 j) → (∀ j, j < 24 → G1 16 j = G 9 j) → Q none (hp G1 L)) : CT 7 [.ref 10, .ref 3] (hp G L) Q := by
  refine sm_meth hC [some (.ref 10), some (.ref 3), none] rfl rfl rfl ?_
  have lo3 : ∀ i, i ≤ 24 → ∀ G1, eqx [10, 11, 12, 13, 14, 15, 16] G G1 → (G1 10 0 = G 3 0 ∧ G1 10 2 = G 3 2 ∧ G1 10 6 = G 3 6) → (∀ j, j < 6 → G1 11 j = G 4 j) → (∀ j, j < 4 → G1 12 j = G 5 j ∧ G1 13 j = G 6 j ∧ G1 14 j = G 7 j ∧ G1 15 j = G 8 j) → (∀ j, j < i → G1 16 j = G 9 j) → sm_Wk 0 7 Q none 113 [some (.ref 10), some (.ref 3), some (.int (nI i))] [] (hp G1 L) := by
    refine up _ (fun i hi ih G1 hx hf h1 h4 h6 => ?_)
    refine sm_body [113] 80 sm_k7 (fun CT K hC hK => ?_)
    repeat' first
      | (with_reducible refine And.intro ?_ ?_)
      | ((with_reducible intro h9); first | exact absurd h9 (by decide) | (replace h9 := zle (a := 24) (by omega) (by omega) h9) | (replace h9 := znle (a := 24) (by omega) (by omega) h9) | skip)
      | (with_reducible exact zn_in (by omega) (by decide))
      | (with_reducible exact z01) | (with_reducible exact z11) | (with_reducible exact zb01 _)
      | (with_reducible exact zn_inb (by omega) (by decide))
      | (with_reducible exact zn_ina (by omega) (by decide))
      | (with_reducible exact zn_inc (by omega) (by decide))
      | ((conv => whnf); first | (with_reducible refine And.intro ?_ ?_) | ((with_reducible intro h9); first | exact absurd h9 (by decide) | (replace h9 := zle (a := 24) (by omega) (by omega) h9) | (replace h9 := znle (a := 24) (by omega) (by omega) h9) | skip) | (with_reducible refine hK _ _ _ _ (sm_un ?_)))
    · exact hQ G1 hx hf h1 h4 (fun j hj => h6 j (by omega))
    · simp only [hp_0, hp_1, hp_2, hp_3, hp_4, hp_5, hp_6, hp_7, hp_8, hp_9, hp_10, hp_11, hp_12, hp_13, hp_14, hp_15, hp_16, hp_17, hp_18, hp_19, hp_20, hp_22, hp_23, hp_24, hp_25, hp_26, hp_27, hp_28, hp_29, hp_30, hp_31, hp_32, hp_33, hp_34, hp_35, hp_36, hp_37, hp_38, hp_39, hp_40, hp_41, hp_42, hp_43, hp_44, hp_45, hp_46, hp_47, hp_48, hp_49, hf0_5, hf0_6, hf0_7, hf1_1, hf3_0, hf3_2, hf3_6, hf10_0, hf10_2, hf10_6, hf17_3, hf17_4, hf20_3, hf20_4, hf30_0, hf30_1, hf30_3, hf30_7, hf30_11, hf30_12, hf30_20, hf30_22, hf30_23, hf30_24, hf30_25, hf30_21, hf30_31, upd_su, updL_su, nI_add, zn_clI (show i < 2 ^ 31 by omega)]
      refine ⟨⟨ih ‹_› _ (eqx_su 16 _ rfl hx) hf h1 h4 (fun j hj => ?_)⟩⟩
      rw [su_eq, su_if]
      split
      · rename_i e
        rw [e, hx 9 rfl]
      · exact h6 j (by omega)
  have lo2 : ∀ i, i ≤ 4 → ∀ G1, eqx [10, 11, 12, 13, 14, 15, 16] G G1 → (G1 10 0 = G 3 0 ∧ G1 10 2 = G 3 2 ∧ G1 10 6 = G 3 6) → (∀ j, j < 6 → G1 11 j = G 4 j) → (∀ j, j < i → G1 12 j = G 5 j ∧ G1 13 j = G 6 j ∧ G1 14 j = G 7 j ∧ G1 15 j = G 8 j) → sm_Wk 0 7 Q none 52 [some (.ref 10), some (.ref 3), some (.int (nI i))] [] (hp G1 L) := by
    refine up _ (fun i hi ih G1 hx hf h1 h4 => ?_)
    refine sm_body [52, 113] 80 sm_k7 (fun CT K hC hK => ?_)
    repeat' first
      | (with_reducible refine And.intro ?_ ?_)
      | ((with_reducible intro h9); first | exact absurd h9 (by decide) | (replace h9 := zle (a := 4) (by omega) (by omega) h9) | (replace h9 := znle (a := 4) (by omega) (by omega) h9) | skip)
      | (with_reducible exact zn_in (by omega) (by decide))
      | (with_reducible exact z01) | (with_reducible exact z11) | (with_reducible exact zb01 _)
      | (with_reducible exact zn_inb (by omega) (by decide))
      | (with_reducible exact zn_ina (by omega) (by decide))
      | (with_reducible exact zn_inc (by omega) (by decide))
      | ((conv => whnf); first | (with_reducible refine And.intro ?_ ?_) | ((with_reducible intro h9); first | exact absurd h9 (by decide) | (replace h9 := zle (a := 4) (by omega) (by omega) h9) | (replace h9 := znle (a := 4) (by omega) (by omega) h9) | skip) | (with_reducible refine hK _ _ _ _ (sm_un ?_)))
    · exact ⟨⟨lo3 0 (Nat.zero_le _) G1 hx hf h1 (fun j hj => h4 j (by omega)) (fun j hj => absurd hj (Nat.not_lt_zero _))⟩⟩
    · simp only [hp_0, hp_1, hp_2, hp_3, hp_4, hp_5, hp_6, hp_7, hp_8, hp_9, hp_10, hp_11, hp_12, hp_13, hp_14, hp_15, hp_16, hp_17, hp_18, hp_19, hp_20, hp_22, hp_23, hp_24, hp_25, hp_26, hp_27, hp_28, hp_29, hp_30, hp_31, hp_32, hp_33, hp_34, hp_35, hp_36, hp_37, hp_38, hp_39, hp_40, hp_41, hp_42, hp_43, hp_44, hp_45, hp_46, hp_47, hp_48, hp_49, hf0_5, hf0_6, hf0_7, hf1_1, hf3_0, hf3_2, hf3_6, hf10_0, hf10_2, hf10_6, hf17_3, hf17_4, hf20_3, hf20_4, hf30_0, hf30_1, hf30_3, hf30_7, hf30_11, hf30_12, hf30_20, hf30_22, hf30_23, hf30_24, hf30_25, hf30_21, hf30_31, upd_su, updL_su, nI_add, zn_clI (show i < 2 ^ 31 by omega)]
      refine ⟨⟨ih ‹_› _ (eqx_su 15 _ rfl (eqx_su 14 _ rfl (eqx_su 13 _ rfl (eqx_su 12 _ rfl hx)))) hf h1 (fun j hj => ?_)⟩⟩
      have q : j < i → _ := h4 j
      show su (G1 12) i (G1 5 i) j = G 5 j ∧ su (G1 13) i (G1 6 i) j = G 6 j ∧ su (G1 14) i (G1 7 i) j = G 7 j ∧ su (G1 15) i (G1 8 i) j = G 8 j
      simp only [su_if]
      split
      · rename_i e
        rw [e, hx 5 rfl, hx 6 rfl, hx 7 rfl, hx 8 rfl]
        exact ⟨rfl, rfl, rfl, rfl⟩
      · exact q (by omega)
  have lo : ∀ i, i ≤ 6 → ∀ G1, eqx [10, 11, 12, 13, 14, 15, 16] G G1 → (G1 10 0 = G 3 0 ∧ G1 10 2 = G 3 2 ∧ G1 10 6 = G 3 6) → (∀ j, j < i → G1 11 j = G 4 j) → sm_Wk 0 7 Q none 26 [some (.ref 10), some (.ref 3), some (.int (nI i))] [] (hp G1 L) := by
    refine up _ (fun i hi ih G1 hx hf h1 => ?_)
    refine sm_body [26, 52] 80 sm_k7 (fun CT K hC hK => ?_)
    repeat' first
      | (with_reducible refine And.intro ?_ ?_)
      | ((with_reducible intro h9); first | exact absurd h9 (by decide) | (replace h9 := zle (a := 6) (by omega) (by omega) h9) | (replace h9 := znle (a := 6) (by omega) (by omega) h9) | skip)
      | (with_reducible exact zn_in (by omega) (by decide))
      | (with_reducible exact z01) | (with_reducible exact z11) | (with_reducible exact zb01 _)
      | (with_reducible exact zn_inb (by omega) (by decide))
      | (with_reducible exact zn_ina (by omega) (by decide))
      | (with_reducible exact zn_inc (by omega) (by decide))
      | ((conv => whnf); first | (with_reducible refine And.intro ?_ ?_) | ((with_reducible intro h9); first | exact absurd h9 (by decide) | (replace h9 := zle (a := 6) (by omega) (by omega) h9) | (replace h9 := znle (a := 6) (by omega) (by omega) h9) | skip) | (with_reducible refine hK _ _ _ _ (sm_un ?_)))
    · exact ⟨⟨lo2 0 (Nat.zero_le _) G1 hx hf (fun j hj => h1 j (by omega)) (fun j hj => absurd hj (Nat.not_lt_zero _))⟩⟩
    · simp only [hp_0, hp_1, hp_2, hp_3, hp_4, hp_5, hp_6, hp_7, hp_8, hp_9, hp_10, hp_11, hp_12, hp_13, hp_14, hp_15, hp_16, hp_17, hp_18, hp_19, hp_20, hp_22, hp_23, hp_24, hp_25, hp_26, hp_27, hp_28, hp_29, hp_30, hp_31, hp_32, hp_33, hp_34, hp_35, hp_36, hp_37, hp_38, hp_39, hp_40, hp_41, hp_42, hp_43, hp_44, hp_45, hp_46, hp_47, hp_48, hp_49, hf0_5, hf0_6, hf0_7, hf1_1, hf3_0, hf3_2, hf3_6, hf10_0, hf10_2, hf10_6, hf17_3, hf17_4, hf20_3, hf20_4, hf30_0, hf30_1, hf30_3, hf30_7, hf30_11, hf30_12, hf30_20, hf30_22, hf30_23, hf30_24, hf30_25, hf30_21, hf30_31, upd_su, updL_su, nI_add, zn_clI (show i < 2 ^ 31 by omega)]
      refine ⟨⟨ih ‹_› _ (eqx_su 11 _ rfl hx) hf (fun j hj => ?_)⟩⟩
      rw [su_eq, su_if]
      split
      · rename_i e
        rw [e, hx 4 rfl]
      · exact h1 j (by omega)
  refine sm_body [26] 60 sm_k7 (fun CT K hC hK => ?_)
  repeat' first
    | (with_reducible refine And.intro ?_ ?_)
    | ((with_reducible intro h9); first | exact absurd h9 (by decide) | skip)
    | (with_reducible exact zn_in (by omega) (by decide))
    | (with_reducible exact z01) | (with_reducible exact z11) | (with_reducible exact zb01 _)
    | (with_reducible exact zn_inb (by omega) (by decide))
    | (with_reducible exact zn_ina (by omega) (by decide))
    | (with_reducible exact zn_inc (by omega) (by decide))
    | ((conv => whnf); first | (with_reducible refine And.intro ?_ ?_) | ((with_reducible intro h9); first | exact absurd h9 (by decide) | skip) | (with_reducible refine hK _ _ _ _ (sm_un ?_)))
  simp only [hp_0, hp_1, hp_2, hp_3, hp_4, hp_5, hp_6, hp_7, hp_8, hp_9, hp_10, hp_11, hp_12, hp_13, hp_14, hp_15, hp_16, hp_17, hp_18, hp_19, hp_20, hp_22, hp_23, hp_24, hp_25, hp_26, hp_27, hp_28, hp_29, hp_30, hp_31, hp_32, hp_33, hp_34, hp_35, hp_36, hp_37, hp_38, hp_39, hp_40, hp_41, hp_42, hp_43, hp_44, hp_45, hp_46, hp_47, hp_48, hp_49, hf0_5, hf0_6, hf0_7, hf1_1, hf3_0, hf3_2, hf3_6, hf10_0, hf10_2, hf10_6, hf17_3, hf17_4, hf20_3, hf20_4, hf30_0, hf30_1, hf30_3, hf30_7, hf30_11, hf30_12, hf30_20, hf30_22, hf30_23, hf30_24, hf30_25, hf30_21, hf30_31, upd_su, updL_su]
  exact ⟨⟨lo 0 (Nat.zero_le _) _ (eqx_su 10 _ rfl (eqx_su 10 _ rfl (eqx_su 10 _ rfl eqx_rfl))) ⟨rfl, rfl, rfl⟩ (fun j hj => absurd hj (Nat.not_lt_zero _))⟩⟩
set_option maxRecDepth 100000 in
set_option maxHeartbeats 4000000 in
theorem s_back (hC : sm_C 1 CT) (hQ : ∀ G1, eqx [3, 4, 5, 6, 7, 8, 9] G G1 → (G1 3 0 = G 10 0 ∧ G1 3 2 = G 10 2 ∧ G1 3 6 = G 10 6) → (∀ j, j < 6 → G1 4 j = G 11 j) → (∀ j, j < 4 → G1 5 j = G 12 j ∧ G1 6 j = G 13 j ∧ G1 7 j = G 14 j ∧ G1 8 j = G 15 j) → (∀ j, j < 24 → G1 9 j = G 16 j) → Q none (hp G1 L)) : CT 7 [.ref 3, .ref 10] (hp G L) Q := by
  refine sm_meth hC [some (.ref 3), some (.ref 10), none] rfl rfl rfl ?_
  have lo3 : ∀ i, i ≤ 24 → ∀ G1, eqx [3, 4, 5, 6, 7, 8, 9] G G1 → (G1 3 0 = G 10 0 ∧ G1 3 2 = G 10 2 ∧ G1 3 6 = G 10 6) → (∀ j, j < 6 → G1 4 j = G 11 j) → (∀ j, j < 4 → G1 5 j = G 12 j ∧ G1 6 j = G 13 j ∧ G1 7 j = G 14 j ∧ G1 8 j = G 15 j) → (∀ j, j < i → G1 9 j = G 16 j) → sm_Wk 0 7 Q none 113 [some (.ref 3), some (.ref 10), some (.int (nI i))] [] (hp G1 L) := by
    refine up _ (fun i hi ih G1 hx hf h1 h4 h6 => ?_)
    refine sm_body [113] 80 sm_k7 (fun CT K hC hK => ?_)
    repeat' first
      | (with_reducible refine And.intro ?_ ?_)
      | ((with_reducible intro h9); first | exact absurd h9 (by decide) | (replace h9 := zle (a := 24) (by omega) (by omega) h9) | (replace h9 := znle (a := 24) (by omega) (by omega) h9) | skip)
      | (with_reducible exact zn_in (by omega) (by decide))
      | (with_reducible exact z01) | (with_reducible exact z11) | (with_reducible exact zb01 _)
      | (with_reducible exact zn_inb (by omega) (by decide))
      | (with_reducible exact zn_ina (by omega) (by decide))
      | (with_reducible exact zn_inc (by omega) (by decide))
      | ((conv => whnf); first | (with_reducible refine And.intro ?_ ?_) | ((with_reducible intro h9); first | exact absurd h9 (by decide) | (replace h9 := zle (a := 24) (by omega) (by omega) h9) | (replace h9 := znle (a := 24) (by omega) (by omega) h9) | skip) | (with_reducible refine hK _ _ _ _ (sm_un ?_)))
    · exact hQ G1 hx hf h1 h4 (fun j hj => h6 j (by omega))
    · simp only [hp_0, hp_1, hp_2, hp_3, hp_4, hp_5, hp_6, hp_7, hp_8, hp_9, hp_10, hp_11, hp_12, hp_13, hp_14, hp_15, hp_16, hp_17, hp_18, hp_19, hp_20, hp_22, hp_23, hp_24, hp_25, hp_26, hp_27, hp_28, hp_29, hp_30, hp_31, hp_32, hp_33, hp_34, hp_35, hp_36, hp_37, hp_38, hp_39, hp_40, hp_41, hp_42, hp_43, hp_44, hp_45, hp_46, hp_47, hp_48, hp_49, hf0_5, hf0_6, hf0_7, hf1_1, hf3_0, hf3_2, hf3_6, hf10_0, hf10_2, hf10_6, hf17_3, hf17_4, hf20_3, hf20_4, hf30_0, hf30_1, hf30_3, hf30_7, hf30_11, hf30_12, hf30_20, hf30_22, hf30_23, hf30_24, hf30_25, hf30_21, hf30_31, upd_su, updL_su, nI_add, zn_clI (show i < 2 ^ 31 by omega)]
      refine ⟨⟨ih ‹_› _ (eqx_su 9 _ rfl hx) hf h1 h4 (fun j hj => ?_)⟩⟩
      rw [su_eq, su_if]
      split
      · rename_i e
        rw [e, hx 16 rfl]
      · exact h6 j (by omega)
  have lo2 : ∀ i, i ≤ 4 → ∀ G1, eqx [3, 4, 5, 6, 7, 8, 9] G G1 → (G1 3 0 = G 10 0 ∧ G1 3 2 = G 10 2 ∧ G1 3 6 = G 10 6) → (∀ j, j < 6 → G1 4 j = G 11 j) → (∀ j, j < i → G1 5 j = G 12 j ∧ G1 6 j = G 13 j ∧ G1 7 j = G 14 j ∧ G1 8 j = G 15 j) → sm_Wk 0 7 Q none 52 [some (.ref 3), some (.ref 10), some (.int (nI i))] [] (hp G1 L) := by
    refine up _ (fun i hi ih G1 hx hf h1 h4 => ?_)
    refine sm_body [52, 113] 80 sm_k7 (fun CT K hC hK => ?_)
    repeat' first
      | (with_reducible refine And.intro ?_ ?_)
      | ((with_reducible intro h9); first | exact absurd h9 (by decide) | (replace h9 := zle (a := 4) (by omega) (by omega) h9) | (replace h9 := znle (a := 4) (by omega) (by omega) h9) | skip)
      | (with_reducible exact zn_in (by omega) (by decide))
      | (with_reducible exact z01) | (with_reducible exact z11) | (with_reducible exact zb01 _)
      | (with_reducible exact zn_inb (by omega) (by decide))
      | (with_reducible exact zn_ina (by omega) (by decide))
      | (with_reducible exact zn_inc (by omega) (by decide))
      | ((conv => whnf); first | (with_reducible refine And.intro ?_ ?_) | ((with_reducible intro h9); first | exact absurd h9 (by decide) | (replace h9 := zle (a := 4) (by omega) (by omega) h9) | (replace h9 := znle (a := 4) (by omega) (by omega) h9) | skip) | (with_reducible refine hK _ _ _ _ (sm_un ?_)))
    · exact ⟨⟨lo3 0 (Nat.zero_le _) G1 hx hf h1 (fun j hj => h4 j (by omega)) (fun j hj => absurd hj (Nat.not_lt_zero _))⟩⟩
    · simp only [hp_0, hp_1, hp_2, hp_3, hp_4, hp_5, hp_6, hp_7, hp_8, hp_9, hp_10, hp_11, hp_12, hp_13, hp_14, hp_15, hp_16, hp_17, hp_18, hp_19, hp_20, hp_22, hp_23, hp_24, hp_25, hp_26, hp_27, hp_28, hp_29, hp_30, hp_31, hp_32, hp_33, hp_34, hp_35, hp_36, hp_37, hp_38, hp_39, hp_40, hp_41, hp_42, hp_43, hp_44, hp_45, hp_46, hp_47, hp_48, hp_49, hf0_5, hf0_6, hf0_7, hf1_1, hf3_0, hf3_2, hf3_6, hf10_0, hf10_2, hf10_6, hf17_3, hf17_4, hf20_3, hf20_4, hf30_0, hf30_1, hf30_3, hf30_7, hf30_11, hf30_12, hf30_20, hf30_22, hf30_23, hf30_24, hf30_25, hf30_21, hf30_31, upd_su, updL_su, nI_add, zn_clI (show i < 2 ^ 31 by omega)]
      refine ⟨⟨ih ‹_› _ (eqx_su 8 _ rfl (eqx_su 7 _ rfl (eqx_su 6 _ rfl (eqx_su 5 _ rfl hx)))) hf h1 (fun j hj => ?_)⟩⟩
      have q : j < i → _ := h4 j
      show su (G1 5) i (G1 12 i) j = G 12 j ∧ su (G1 6) i (G1 13 i) j = G 13 j ∧ su (G1 7) i (G1 14 i) j = G 14 j ∧ su (G1 8) i (G1 15 i) j = G 15 j
      simp only [su_if]
      split
      · rename_i e
        rw [e, hx 12 rfl, hx 13 rfl, hx 14 rfl, hx 15 rfl]
        exact ⟨rfl, rfl, rfl, rfl⟩
      · exact q (by omega)
  have lo : ∀ i, i ≤ 6 → ∀ G1, eqx [3, 4, 5, 6, 7, 8, 9] G G1 → (G1 3 0 = G 10 0 ∧ G1 3 2 = G 10 2 ∧ G1 3 6 = G 10 6) → (∀ j, j < i → G1 4 j = G 11 j) → sm_Wk 0 7 Q none 26 [some (.ref 3), some (.ref 10), some (.int (nI i))] [] (hp G1 L) := by
    refine up _ (fun i hi ih G1 hx hf h1 => ?_)
    refine sm_body [26, 52] 80 sm_k7 (fun CT K hC hK => ?_)
    repeat' first
      | (with_reducible refine And.intro ?_ ?_)
      | ((with_reducible intro h9); first | exact absurd h9 (by decide) | (replace h9 := zle (a := 6) (by omega) (by omega) h9) | (replace h9 := znle (a := 6) (by omega) (by omega) h9) | skip)
      | (with_reducible exact zn_in (by omega) (by decide))
      | (with_reducible exact z01) | (with_reducible exact z11) | (with_reducible exact zb01 _)
      | (with_reducible exact zn_inb (by omega) (by decide))
      | (with_reducible exact zn_ina (by omega) (by decide))
      | (with_reducible exact zn_inc (by omega) (by decide))
      | ((conv => whnf); first | (with_reducible refine And.intro ?_ ?_) | ((with_reducible intro h9); first | exact absurd h9 (by decide) | (replace h9 := zle (a := 6) (by omega) (by omega) h9) | (replace h9 := znle (a := 6) (by omega) (by omega) h9) | skip) | (with_reducible refine hK _ _ _ _ (sm_un ?_)))
    · exact ⟨⟨lo2 0 (Nat.zero_le _) G1 hx hf (fun j hj => h1 j (by omega)) (fun j hj => absurd hj (Nat.not_lt_zero _))⟩⟩
    · simp only [hp_0, hp_1, hp_2, hp_3, hp_4, hp_5, hp_6, hp_7, hp_8, hp_9, hp_10, hp_11, hp_12, hp_13, hp_14, hp_15, hp_16, hp_17, hp_18, hp_19, hp_20, hp_22, hp_23, hp_24, hp_25, hp_26, hp_27, hp_28, hp_29, hp_30, hp_31, hp_32, hp_33, hp_34, hp_35, hp_36, hp_37, hp_38, hp_39, hp_40, hp_41, hp_42, hp_43, hp_44, hp_45, hp_46, hp_47, hp_48, hp_49, hf0_5, hf0_6, hf0_7, hf1_1, hf3_0, hf3_2, hf3_6, hf10_0, hf10_2, hf10_6, hf17_3, hf17_4, hf20_3, hf20_4, hf30_0, hf30_1, hf30_3, hf30_7, hf30_11, hf30_12, hf30_20, hf30_22, hf30_23, hf30_24, hf30_25, hf30_21, hf30_31, upd_su, updL_su, nI_add, zn_clI (show i < 2 ^ 31 by omega)]
      refine ⟨⟨ih ‹_› _ (eqx_su 4 _ rfl hx) hf (fun j hj => ?_)⟩⟩
      rw [su_eq, su_if]
      split
      · rename_i e
        rw [e, hx 11 rfl]
      · exact h1 j (by omega)
  refine sm_body [26] 60 sm_k7 (fun CT K hC hK => ?_)
  repeat' first
    | (with_reducible refine And.intro ?_ ?_)
    | ((with_reducible intro h9); first | exact absurd h9 (by decide) | skip)
    | (with_reducible exact zn_in (by omega) (by decide))
    | (with_reducible exact z01) | (with_reducible exact z11) | (with_reducible exact zb01 _)
    | (with_reducible exact zn_inb (by omega) (by decide))
    | (with_reducible exact zn_ina (by omega) (by decide))
    | (with_reducible exact zn_inc (by omega) (by decide))
    | ((conv => whnf); first | (with_reducible refine And.intro ?_ ?_) | ((with_reducible intro h9); first | exact absurd h9 (by decide) | skip) | (with_reducible refine hK _ _ _ _ (sm_un ?_)))
  simp only [hp_0, hp_1, hp_2, hp_3, hp_4, hp_5, hp_6, hp_7, hp_8, hp_9, hp_10, hp_11, hp_12, hp_13, hp_14, hp_15, hp_16, hp_17, hp_18, hp_19, hp_20, hp_22, hp_23, hp_24, hp_25, hp_26, hp_27, hp_28, hp_29, hp_30, hp_31, hp_32, hp_33, hp_34, hp_35, hp_36, hp_37, hp_38, hp_39, hp_40, hp_41, hp_42, hp_43, hp_44, hp_45, hp_46, hp_47, hp_48, hp_49, hf0_5, hf0_6, hf0_7, hf1_1, hf3_0, hf3_2, hf3_6, hf10_0, hf10_2, hf10_6, hf17_3, hf17_4, hf20_3, hf20_4, hf30_0, hf30_1, hf30_3, hf30_7, hf30_11, hf30_12, hf30_20, hf30_22, hf30_23, hf30_24, hf30_25, hf30_21, hf30_31, upd_su, updL_su]
  exact ⟨⟨lo 0 (Nat.zero_le _) _ (eqx_su 3 _ rfl (eqx_su 3 _ rfl (eqx_su 3 _ rfl eqx_rfl))) ⟨rfl, rfl, rfl⟩ (fun j hj => absurd hj (Nat.not_lt_zero _))⟩⟩
def imS (S : Nat → Nat → Nat) : Nat → Nat → Nat := fun p => match p with
  | 0 => su (su (su (S 0) 6 1) 7 (S 0 1)) 8 (S 0 2)
  | 9 => S 1
  | 10 => S 4
  | 11 => S 6
  | 12 => S 7
  | 13 => S 8
  | _ => S p
def A_image (S : Nat → Nat → Nat) : Int32 := if S 0 0 = 0 then -103 else nI (S 0 1)
def N_image (S : Nat → Nat → Nat) : Nat → Nat → Nat := if S 0 0 = 0 then S else imS S
set_option maxRecDepth 100000 in
set_option maxHeartbeats 4000000 in
theorem f_image (hC : sm_C 2 CT) (hR : RS c S) (hI : Ic S G) (hQ : ∀ G', eqx clsP G G' → Ic (N_image S) G' → Q (some (.int (A_image S))) (hp G' L)) : CT 61 [.ref 0] (hp G L) Q := by
  obtain ⟨i1, i2, i3, i4, i5⟩ := id hI
  obtain ⟨e1, e2, e3, e4, e5, e6, e7⟩ := id i1
  have r6 := hR.1.1
  refine sm_meth hC [some (.ref 0)] rfl rfl rfl ?_
  refine sm_body [] 60 sm_k61 (fun CT K hC hK => ?_)
  unfold A_image N_image at hQ
  repeat' first
    | (with_reducible refine And.intro ?_ ?_)
    | ((with_reducible intro h9); first | exact absurd h9 (by decide) | ((rw [e1] at h9; replace h9 := zneq h9)) | ((rw [e1] at h9; replace h9 := zeq (by omega) (by omega) h9)) | skip)
    | (with_reducible exact zn_in (by omega) (by decide))
    | (with_reducible exact z01) | (with_reducible exact z11) | (with_reducible exact zb01 _)
    | (with_reducible exact zn_inb (by omega) (by decide))
    | (with_reducible exact zn_ina (by omega) (by decide))
    | (with_reducible exact zn_inc (by omega) (by decide))
    | ((conv => whnf); first | (with_reducible refine And.intro ?_ ?_) | ((with_reducible intro h9); first | exact absurd h9 (by decide) | ((rw [e1] at h9; replace h9 := zneq h9)) | ((rw [e1] at h9; replace h9 := zeq (by omega) (by omega) h9)) | skip) | (with_reducible refine hK _ _ _ _ (sm_un ?_)) | (with_reducible refine s_keep (hC.mono (by omega)) (fun G1 hx hf h1 h4 h6 => ?_)))
  · simp only [if_f h9] at hQ
    conv => whnf
    simp only [hp_0, hp_1, hp_2, hp_3, hp_4, hp_5, hp_6, hp_7, hp_8, hp_9, hp_10, hp_11, hp_12, hp_13, hp_14, hp_15, hp_16, hp_17, hp_18, hp_19, hp_20, hp_22, hp_23, hp_24, hp_25, hp_26, hp_27, hp_28, hp_29, hp_30, hp_31, hp_32, hp_33, hp_34, hp_35, hp_36, hp_37, hp_38, hp_39, hp_40, hp_41, hp_42, hp_43, hp_44, hp_45, hp_46, hp_47, hp_48, hp_49, hf0_5, hf0_6, hf0_7, hf1_1, hf3_0, hf3_2, hf3_6, hf10_0, hf10_2, hf10_6, hf17_3, hf17_4, hf20_3, hf20_4, hf30_0, hf30_1, hf30_3, hf30_7, hf30_11, hf30_12, hf30_20, hf30_22, hf30_23, hf30_24, hf30_25, hf30_21, hf30_31, upd_su, updL_su]
    refine zq ?_ (hQ _ (eqx_su 0 _ rfl (eqx_sub rfl hx)) ⟨?_, ?_, ?_, ?_, fun _ => ?_⟩)
    · show G1 3 2 = _
      rw [hx 3 rfl, e2]
    · refine hF_sim ⟨rfl, rfl, rfl, rfl, rfl, rfl, rfl, rfl, rfl, rfl⟩ (?_ : hF S (G1 3 0) (G1 3 2) (G1 3 6) (G1 4) (G1 5) (G1 6) (G1 7) (G1 8) (G1 9))
      rw [hx 3 rfl, hx 4 rfl, hx 5 rfl, hx 6 rfl, hx 7 rfl, hx 8 rfl, hx 9 rfl]
      exact i1
    · show G1 1 1 = nI (S 0 3) ∧ ∀ i, i < S 0 3 → G1 2 i = nI (S 5 i)
      rw [hx 1 rfl, hx 2 rfl]
      exact i2
    · refine ⟨rfl, ?_, ?_⟩
      · show G1 0 6 = _
        rw [hx 0 rfl]; exact i3.2.1
      · show G1 0 7 = _
        rw [hx 0 rfl]; exact i3.2.2
    · have e : cT (imS S) G := cT_sim (S := S) (S' := imS S) ⟨rfl, rfl, rfl, rfl, rfl, rfl, rfl, rfl, rfl, rfl⟩ i4
      unfold cT tl at *
      show (G1 17 4 = nI 0 ∧ _) ∨ G1 17 4 = nI 1
      simp only [su_ne _ _ (show (17 : Nat) ≠ 0 by decide), su_ne _ _ (show (18 : Nat) ≠ 0 by decide), su_ne _ _ (show (19 : Nat) ≠ 0 by decide), hx 17 rfl, hx 18 rfl, hx 19 rfl]
      exact e
    · exact hF_sim ⟨rfl, rfl, rfl, rfl, rfl, rfl, rfl, rfl, rfl, rfl⟩ (hF_cp hR.1 i1 hf.1 hf.2.1 hf.2.2 h1 (fun j hj => (h4 j hj).1) (fun j hj => (h4 j hj).2.1) (fun j hj => (h4 j hj).2.2.1) (fun j hj => (h4 j hj).2.2.2) h6)
  · simp only [if_t h9] at hQ
    exact hQ G eqx_rfl hI
def A_restore (S : Nat → Nat → Nat) : Int32 := if S 0 6 = 1 then nI (S 0 7) else -103
def N_restore (S : Nat → Nat → Nat) : Nat → Nat → Nat := if S 0 6 = 1 then kS S else S
set_option maxRecDepth 100000 in
set_option maxHeartbeats 4000000 in
theorem f_restore (hC : sm_C 2 CT) (hR : RS c S) (hI : Ic S G) (hQ : ∀ G', eqx clsP G G' → Ic (N_restore S) G' → Q (some (.int (A_restore S))) (hp G' L)) : CT 62 [.ref 0] (hp G L) Q := by
  obtain ⟨i1, i2, i3, i4, i5⟩ := id hI
  have k1 := hR.2.2.2.2.2.2.1
  refine sm_meth hC [some (.ref 0)] rfl rfl rfl ?_
  refine sm_body [] 60 sm_k62 (fun CT K hC hK => ?_)
  unfold A_restore N_restore at hQ
  repeat' first
    | (with_reducible refine And.intro ?_ ?_)
    | ((with_reducible intro h9); first | exact absurd h9 (by decide) | ((rw [i3.1] at h9; replace h9 := zneq h9)) | ((rw [i3.1] at h9; replace h9 := zeq (by omega) (by omega) h9)) | skip)
    | (with_reducible exact zn_in (by omega) (by decide))
    | (with_reducible exact z01) | (with_reducible exact z11) | (with_reducible exact zb01 _)
    | (with_reducible exact zn_inb (by omega) (by decide))
    | (with_reducible exact zn_ina (by omega) (by decide))
    | (with_reducible exact zn_inc (by omega) (by decide))
    | ((conv => whnf); first | (with_reducible refine And.intro ?_ ?_) | ((with_reducible intro h9); first | exact absurd h9 (by decide) | ((rw [i3.1] at h9; replace h9 := zneq h9)) | ((rw [i3.1] at h9; replace h9 := zeq (by omega) (by omega) h9)) | skip) | (with_reducible refine hK _ _ _ _ (sm_un ?_)) | (with_reducible refine s_back (hC.mono (by omega)) (fun G1 hx hf h1 h4 h6 => ?_)))
  · have hk : S 0 6 = 1 := by omega
    simp only [if_t hk] at hQ
    have i5 := i5 hk
    conv => whnf
    simp only [hp_0, hp_1, hp_2, hp_3, hp_4, hp_5, hp_6, hp_7, hp_8, hp_9, hp_10, hp_11, hp_12, hp_13, hp_14, hp_15, hp_16, hp_17, hp_18, hp_19, hp_20, hp_22, hp_23, hp_24, hp_25, hp_26, hp_27, hp_28, hp_29, hp_30, hp_31, hp_32, hp_33, hp_34, hp_35, hp_36, hp_37, hp_38, hp_39, hp_40, hp_41, hp_42, hp_43, hp_44, hp_45, hp_46, hp_47, hp_48, hp_49, hf0_5, hf0_6, hf0_7, hf1_1, hf3_0, hf3_2, hf3_6, hf10_0, hf10_2, hf10_6, hf17_3, hf17_4, hf20_3, hf20_4, hf30_0, hf30_1, hf30_3, hf30_7, hf30_11, hf30_12, hf30_20, hf30_22, hf30_23, hf30_24, hf30_25, hf30_21, hf30_31, upd_su, updL_su]
    refine zq ?_ (hQ _ (eqx_su 17 _ rfl (eqx_sub rfl hx)) ⟨?_, ?_, ?_, Or.inr rfl, fun _ => ?_⟩)
    · show G1 3 2 = _
      rw [hf.2.1, i5.2.1]
      rfl
    · exact hF_cp (hR.2.2.2.2.2.2.2.2 hk).2.2.1 i5 hf.1 hf.2.1 hf.2.2 h1 (fun j hj => (h4 j hj).1) (fun j hj => (h4 j hj).2.1) (fun j hj => (h4 j hj).2.2.1) (fun j hj => (h4 j hj).2.2.2) h6
    · show G1 1 1 = nI (S 0 3) ∧ ∀ i, i < S 0 3 → G1 2 i = nI (S 5 i)
      rw [hx 1 rfl, hx 2 rfl]
      exact i2
    · show G1 0 5 = nI (S 0 6) ∧ G1 0 6 = nI (S 0 4) ∧ G1 0 7 = nI (S 0 5)
      rw [hx 0 rfl]
      exact i3
    · refine hF_sim ⟨rfl, rfl, rfl, rfl, rfl, rfl, rfl, rfl, rfl, rfl⟩ (?_ : hF (kS S) (G1 10 0) (G1 10 2) (G1 10 6) (G1 11) (G1 12) (G1 13) (G1 14) (G1 15) (G1 16))
      rw [hx 10 rfl, hx 11 rfl, hx 12 rfl, hx 13 rfl, hx 14 rfl, hx 15 rfl, hx 16 rfl]
      exact i5
  · simp only [if_f (show ¬ S 0 6 = 1 by omega)] at hQ
    exact hQ G eqx_rfl hI
theorem R_image (hR : RS c S) : RS c (N_image S) := by
  unfold N_image
  split
  · exact hR
  · rename_i h0
    obtain ⟨a1, a2, a3, a4, a5, a6, a7, a8, a9⟩ := hR
    exact ⟨dR_sim ⟨rfl, rfl, rfl, rfl, rfl, rfl, rfl, rfl, rfl, rfl⟩ a1, nR_sim ⟨rfl, rfl, rfl, rfl, rfl, rfl, rfl, rfl, rfl, rfl⟩ a2, a3, a4, a5, a6, Nat.le_refl 1, a8, fun _ => ⟨h0, Nat.le_refl _, dR_sim ⟨rfl, rfl, rfl, rfl, rfl, rfl, rfl, rfl, rfl, rfl⟩ a1, nR_sim ⟨rfl, rfl, rfl, rfl, rfl, rfl, rfl, rfl, rfl, rfl⟩ a2⟩⟩
theorem R_restore (hR : RS c S) : RS c (N_restore S) := by
  unfold N_restore
  split
  · rename_i hk
    obtain ⟨a1, a2, a3, a4, a5, a6, a7, a8, a9⟩ := hR
    obtain ⟨b1, b2, b3, b4⟩ := a9 hk
    exact ⟨b3, b4, a3, a4, a5, a6, a7, fun h => absurd h b1, fun _ => ⟨b1, Nat.le_refl _, dR_sim ⟨rfl, rfl, rfl, rfl, rfl, rfl, rfl, rfl, rfl, rfl⟩ b3, nR_sim ⟨rfl, rfl, rfl, rfl, rfl, rfl, rfl, rfl, rfl, rfl⟩ b4⟩⟩
  · exact hR
end MOVES4
