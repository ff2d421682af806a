/-! proof of the other one. -/
section PROVES
variable {CT : sm_CT} {G : Nat → Nat → Int32} {L : Nat → Nat → Int64} {Q : sm_Q} {S : Nat → Nat → Nat} {c : Nat} {h : sm_H}
set_option maxRecDepth 100000 in
set_option maxHeartbeats 4000000 in
theorem s_proofNow {S' : Nat → Nat → Nat} (hC : sm_C 8 CT) (hdR : dR S) (hnR : nR S) (hs : sim S' S) (hI : Im c S' G) (hc : c + 20 < 2 ^ 31) {k j : Nat} (hk : k < S 0 0) (hj : j < 2) (hQ : ∀ G' L', eqx mdlP G G' → Im (c + 16) S' G' → Q (some (.int (soR (fw (TL S k) (2 ^ S 0 1)) j))) (hp G' L')) : CT 120 [.ref 30, .int (nI k), .int (nI j)] (hp G L) Q := by
  obtain ⟨r1, r2, r3, r4⟩ := id hdR
  have hp2 := pow_vn r2
  have es : sm_shl (nI 1) (nI (S 0 1)) = nI (2 ^ S 0 1) := by rw [zn_shl (by omega), Nat.one_mul]
  refine sm_meth hC [some (.ref 30), some (.int (nI k)), some (.int (nI j)), none, none, none] rfl rfl rfl ?_
  have lo : ∀ i, i ≤ 2 ^ S 0 1 → ∀ o5 G1 L1, eqx mdlP G G1 → Im (c + i) S' G1 → sm_Wk 7 120 Q none 5 [some (.ref 30), some (.int (nI k)), some (.int (nI j)), some (.int (bI16 (fw (TL S k) i))), some (.int (nI i)), o5] [] (hp G1 L1) := by
    refine up _ (fun i hi ih o5 G1 L1 hx hI1 => ?_)
    have hfw := fw_lt (P := TL S k) i
    have hb16 : fw (TL S k) i ≤ 16 := by omega
    have lx : i < 16 → pc i ≤ 4 := fun h => pc_le i h
    have lb : ¬ fw (TL S k) i = 16 → pc (fw (TL S k) i) ≤ 4 := fun h => pc_le _ (by omega)
    have e2 := (mD_sim hs hI1.1).2.1
    refine sm_body [5] 100 sm_k120 (fun CT K hC hK => ?_)
    repeat' first
      | (with_reducible refine And.intro ?_ ?_)
      | ((with_reducible intro h9); first | exact absurd h9 (by decide) | ((rw [e2, es] at h9; replace h9 := zle (by omega) (by omega) h9)) | ((rw [e2, es] at h9; replace h9 := znle (by omega) (by omega) h9)) | (rw [bI16_m hb16] at h9) | (replace h9 := sb_f h9) | (replace h9 := sb_t h9) | ((have lx := lx (by omega); have lb := lb (by assumption); replace h9 := zle (by omega) (by omega) h9)) | ((have lx := lx (by omega); have lb := lb (by assumption); replace h9 := znle (by omega) (by omega) h9)) | skip)
      | (with_reducible exact zn_in (by omega) (by decide))
      | (with_reducible exact z01) | (with_reducible exact z11) | (with_reducible exact zb01 _)
      | (with_reducible exact zn_inb (by omega) (by decide))
      | (with_reducible exact zn_ina (by omega) (by decide))
      | (with_reducible exact zn_inc (by omega) (by decide))
      | ((conv => whnf); first | (with_reducible refine And.intro ?_ ?_) | ((with_reducible intro h9); first | exact absurd h9 (by decide) | ((rw [e2, es] at h9; replace h9 := zle (by omega) (by omega) h9)) | ((rw [e2, es] at h9; replace h9 := znle (by omega) (by omega) h9)) | (rw [bI16_m hb16] at h9) | (replace h9 := sb_f h9) | (replace h9 := sb_t h9) | ((have lx := lx (by omega); have lb := lb (by assumption); replace h9 := zle (by omega) (by omega) h9)) | ((have lx := lx (by omega); have lb := lb (by assumption); replace h9 := znle (by omega) (by omega) h9)) | skip) | (with_reducible refine hK _ _ _ _ (sm_un ?_)) | (with_reducible refine s_size (hC.mono (by omega)) (by omega) ?_) | (rw [bI16_n (by omega)]; refine s_size (hC.mono (by omega)) (by omega) ?_) | (refine s_proves (hC.mono (by omega)) hdR hnR hs hI1 (by omega) (by omega) hk (fun G2 L2 hx2 hI2 => ?_)))
    · obtain rfl : i = 2 ^ S 0 1 := by omega
      have e := hQ G1 L1 hx (I_mono (by omega) hI1)
      unfold soR at e
      rw [if_t h9] at e
      exact zq ((bI16_m hb16).mpr h9) e
    · obtain rfl : i = 2 ^ S 0 1 := by omega
      have e := hQ G1 L1 hx (I_mono (by omega) hI1)
      unfold soR at e
      rw [if_f ‹¬ fw (TL S k) _ = 16›, if_f (zneq ‹¬ nI j = nI 1›)] at e
      exact e
    · obtain rfl : i = 2 ^ S 0 1 := by omega
      have e := hQ G1 L1 hx (I_mono (by omega) hI1)
      unfold soR at e
      rw [if_f ‹¬ fw (TL S k) _ = 16›, if_t (zeq (by omega) (by omega) ‹nI j = nI 1›)] at e
      exact zq (bI16_n (by omega)) e
    · have e := ih ‹_› (some (.int (nI 1))) G2 L2 (eqx_trans hx hx2) hI2
      rw [fw_A (fun z => by rw [h9] at z; exact absurd z.2 (by decide))] at e
      simp only [nI_add]; exact ⟨⟨e⟩⟩
    · have e := ih ‹_› (some (.int (nI 1))) G2 L2 (eqx_trans hx hx2) hI2
      rw [fw_B ⟨Or.inl ‹fw (TL S k) i = 16›, h9⟩, bI16_n (by omega)] at e
      simp only [nI_add]; exact ⟨⟨e⟩⟩
    · have e := ih ‹_› (some (.int (nI 0))) G1 L1 hx (I_mono (by omega) hI1)
      rw [fw_A (fun z => by omega), bI16_n (by omega)] at e
      simp only [nI_add]; exact ⟨⟨e⟩⟩
    · have e := ih ‹_› (some (.int (nI 1))) G2 L2 (eqx_trans hx hx2) hI2
      rw [fw_A (fun z => by rw [h9] at z; exact absurd z.2 (by decide)), bI16_n (by omega)] at e
      simp only [nI_add]; exact ⟨⟨e⟩⟩
    · have e := ih ‹_› (some (.int (nI 1))) G2 L2 (eqx_trans hx hx2) hI2
      rw [fw_B ⟨Or.inr ‹pc i < pc (fw (TL S k) i)›, h9⟩, bI16_n (by omega)] at e
      simp only [nI_add]; exact ⟨⟨e⟩⟩
  refine sm_body [5] 40 sm_k120 (fun CT K hC hK => ?_)
  repeat' first
    | (with_reducible refine And.intro ?_ ?_)
    | ((with_reducible intro h9); first | exact absurd h9 (by decide) | skip)
    | (with_reducible exact zn_in (by omega) (by decide))
    | (with_reducible exact z01) | (with_reducible exact z11) | (with_reducible exact zb01 _)
    | (with_reducible exact zn_inb (by omega) (by decide))
    | (with_reducible exact zn_ina (by omega) (by decide))
    | (with_reducible exact zn_inc (by omega) (by decide))
    | ((conv => whnf); first | (with_reducible refine And.intro ?_ ?_) | ((with_reducible intro h9); first | exact absurd h9 (by decide) | skip) | (with_reducible refine hK _ _ _ _ (sm_un ?_)))
  exact ⟨⟨lo 0 (Nat.zero_le _) _ _ _ eqx_rfl hI⟩⟩
set_option maxRecDepth 100000 in
set_option maxHeartbeats 4000000 in
theorem g_proof (hC : sm_C 12 CT) (hR : RS c S) (hI : Im c S G) (hc : c < 2 ^ 30) {x y : Int32} (hQ : ∀ G' L', eqx mdlP G G' → Im (c + 16) (N_proof S x y) G' → Q (some (.int (A_proof S x y))) (hp G' L')) : CT 121 [.ref 30, .int x, .int y] (hp G L) Q := by
  obtain ⟨hdR, hnR, -⟩ := id hR
  obtain ⟨r1, r2, r3, r4⟩ := id hdR
  obtain ⟨i1, i2, i3, i4, i5, i6, i7⟩ := id hI
  have r30 := hR.2.2.2.2.2.1
  have r0 := hR.2.2.2.2.2.2.2.1
  refine sm_meth hC [some (.ref 30), some (.int x), some (.int y)] rfl rfl rfl ?_
  unfold A_proof N_proof at hQ
  refine sm_body [] 80 sm_k121 (fun CT K hC hK => ?_)
  have J := J_inc hI
  have e1 := i1.1
  have e3 := i1.2.1
  have ea := i4.2
  repeat' first
    | (with_reducible refine And.intro ?_ ?_)
    | ((with_reducible intro h9); first | exact absurd h9 (by decide) | (replace h9 := sb_f h9) | ((have h8 := inb_ex (x := x) (sb_t h9); obtain ⟨j, hj, rfl⟩ := h8)) | ((have h8 := inb_ex (x := y) (sb_t h9); obtain ⟨k, hk, rfl⟩ := h8)) | (replace h9 := of_decide_eq_true (sb_t h9)) | skip)
    | (with_reducible exact zn_in (by omega) (by decide))
    | (with_reducible exact z01) | (with_reducible exact z11) | (with_reducible exact zb01 _)
    | (with_reducible exact zn_inb (by omega) (by decide))
    | (with_reducible exact zn_ina (by omega) (by decide))
    | (with_reducible exact zn_inc (by omega) (by decide))
    | ((conv => whnf); first | (with_reducible refine And.intro ?_ ?_) | ((with_reducible intro h9); first | exact absurd h9 (by decide) | (replace h9 := sb_f h9) | ((have h8 := inb_ex (x := x) (sb_t h9); obtain ⟨j, hj, rfl⟩ := h8)) | ((have h8 := inb_ex (x := y) (sb_t h9); obtain ⟨k, hk, rfl⟩ := h8)) | (replace h9 := of_decide_eq_true (sb_t h9)) | skip) | (with_reducible refine hK _ _ _ _ (sm_un ?_)) | (with_reducible refine b_isHour (hC.mono (by omega)) e1 r1 ?_) | (with_reducible refine b_withinM (n := 2) (hC.mono (by omega)) (by decide) rfl ?_) | (with_reducible refine s_mayAsk (hC.mono (by omega)) e3 r2 ea r30 ?_))
  · have hcl : ¬ (S 0 1 = 0 ∨ 30 ≤ S 0 5) := by omega
    simp only [i0 hj (show S 0 0 ≤ 100 by omega), i0 hk (show 2 ≤ 100 by decide), ci hj (show S 0 0 ≤ 100 by omega), ci hk (show 2 ≤ 100 by decide), cond_true, if_f hcl] at hQ
    conv => whnf
    simp only [hp_0, hp_1, hp_2, hp_3, hp_4, hp_5, hp_6, hp_7, hp_8, hp_9, hp_10, hp_11, hp_12, hp_13, hp_14, hp_15, hp_16, hp_17, hp_18, hp_19, hp_20, hp_22, hp_23, hp_24, hp_25, hp_26, hp_27, hp_28, hp_29, hp_30, hp_31, hp_32, hp_33, hp_34, hp_35, hp_36, hp_37, hp_38, hp_39, hp_40, hp_41, hp_42, hp_43, hp_44, hp_45, hp_46, hp_47, hp_48, hp_49, hf0_5, hf0_6, hf0_7, hf1_1, hf3_0, hf3_2, hf3_6, hf10_0, hf10_2, hf10_6, hf17_3, hf17_4, hf20_3, hf20_4, hf30_0, hf30_1, hf30_3, hf30_7, hf30_11, hf30_12, hf30_20, hf30_22, hf30_23, hf30_24, hf30_25, hf30_21, hf30_31, upd_su, updL_su, su_self]
    refine s_fittingNow (S := S) (G := su G 30 (su (G 30) 11 (G 30 11 + nI 1))) (hC.mono (by omega)) i1 hdR i2 hnR (fun G1 hx1 hp1 => ?_)
    have hI1 := Im_39 (eqx_sub rfl hx1) (hp1 i7) J
    have hx := eqx_trans (ps := mdlP) (eqx_su 30 (su (G 30) 11 (G 30 11 + nI 1)) rfl (eqx_rfl (G := G))) (eqx_sub rfl hx1)
    unfold proofR at hQ
    repeat' first
      | (with_reducible refine And.intro ?_ ?_)
      | ((with_reducible intro h9); first | exact absurd h9 (by decide) | (replace h9 := zneq h9) | (replace h9 := zeq (aAll31 hdR) (by decide) h9) | skip)
      | (with_reducible exact zn_in (by omega) (by decide))
      | (with_reducible exact z01) | (with_reducible exact z11) | (with_reducible exact zb01 _)
      | (with_reducible exact zn_inb (by omega) (by decide))
      | (with_reducible exact zn_ina (by omega) (by decide))
      | (with_reducible exact zn_inc (by omega) (by decide))
      | ((conv => whnf); first | (with_reducible refine And.intro ?_ ?_) | ((with_reducible intro h9); first | exact absurd h9 (by decide) | (replace h9 := zneq h9) | (replace h9 := zeq (aAll31 hdR) (by decide) h9) | skip) | (with_reducible refine hK _ _ _ _ (sm_un ?_)) | (refine s_proofNow (S := S) (S' := incA S) (hC.mono (by omega)) hdR hnR ⟨rfl, rfl, rfl, rfl, rfl, rfl, rfl, rfl, rfl, rfl⟩ hI1 (by omega) hj hk (fun G2 L2 hx2 hI2 => ?_)))
    · rw [if_f h9] at hQ
      exact hQ G2 L2 (eqx_trans hx hx2) hI2
    · rw [if_t h9] at hQ
      exact hQ G1 L hx (I_mono (by omega) hI1)
  · have h8 := of_decide_eq_false h9
    simp only [i0 hj (show S 0 0 ≤ 100 by omega), i0 hk (show 2 ≤ 100 by decide), cond_true, if_t (show S 0 1 = 0 ∨ 30 ≤ S 0 5 by omega)] at hQ
    exact hQ G L eqx_rfl (I_mono (by omega) hI)
  · simp only [i0 hj (show S 0 0 ≤ 100 by omega), h9, cond_true, cond_false] at hQ
    exact hQ G L eqx_rfl (I_mono (by omega) hI)
  · simp only [h9, cond_false] at hQ
    exact hQ G L eqx_rfl (I_mono (by omega) hI)
end PROVES
