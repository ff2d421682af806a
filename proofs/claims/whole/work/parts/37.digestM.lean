/-! digest of the other one. -/
def wix (w : Nat) : Nat := if w ≤ 4 then w else if w ≤ 10 then 4 else w - 6
section DIGM
variable {CT : sm_CT} {G : Nat → Nat → Int32} {L : Nat → Nat → Int64} {Q : sm_Q} {S : Nat → Nat → Nat} {c : Nat} {h : sm_H}
set_option maxRecDepth 100000 in
set_option maxHeartbeats 4000000 in
theorem s_mix (hC : sm_C 1 CT) {x : Int64} {a : Int64} (hL : L 30 31 = a) (hQ : ∀ L', L' 30 31 = lN 31 * a + x → Q none (hp G L')) : CT 138 [.ref 30, .long x] (hp G L) Q := by
  refine sm_meth hC [some (.ref 30), some (.long x), none] rfl rfl rfl ?_
  refine sm_body [] 80 sm_k138 (fun CT K hC hK => ?_)
  repeat' first
    | (with_reducible refine And.intro ?_ ?_)
    | ((with_reducible intro h9); first | exact absurd h9 (by decide) | skip)
    | (with_reducible exact zn_in (by omega) (by decide))
    | (with_reducible exact z01) | (with_reducible exact z11) | (with_reducible exact zb01 _)
    | (with_reducible exact zn_inb (by omega) (by decide))
    | (with_reducible exact zn_ina (by omega) (by decide))
    | (with_reducible exact zn_inc (by omega) (by decide))
    | ((conv => whnf); first | (with_reducible refine And.intro ?_ ?_) | ((with_reducible intro h9); first | exact absurd h9 (by decide) | skip) | (with_reducible refine hK _ _ _ _ (sm_un ?_)))
  conv => whnf
  simp only [hp_0, hp_1, hp_2, hp_3, hp_4, hp_5, hp_6, hp_7, hp_8, hp_9, hp_10, hp_11, hp_12, hp_13, hp_14, hp_15, hp_16, hp_17, hp_18, hp_19, hp_20, hp_22, hp_23, hp_24, hp_25, hp_26, hp_27, hp_28, hp_29, hp_30, hp_31, hp_32, hp_33, hp_34, hp_35, hp_36, hp_37, hp_38, hp_39, hp_40, hp_41, hp_42, hp_43, hp_44, hp_45, hp_46, hp_47, hp_48, hp_49, hf0_5, hf0_6, hf0_7, hf1_1, hf3_0, hf3_2, hf3_6, hf10_0, hf10_2, hf10_6, hf17_3, hf17_4, hf20_3, hf20_4, hf30_0, hf30_1, hf30_3, hf30_7, hf30_11, hf30_12, hf30_20, hf30_22, hf30_23, hf30_24, hf30_25, hf30_21, hf30_31, upd_su, updL_su, su_self, hL]
  exact hQ _ rfl
set_option maxRecDepth 100000 in
set_option maxHeartbeats 4000000 in
theorem s_mixVane (hC : sm_C 8 CT) (hR : RS c S) (hI : Im c S G) {v : Nat} (hv : v < S 0 1) {a : Int64} (hL : L 30 31 = a) (hQ : ∀ G' L', eqx mdlP G G' → Im c S G' → L' 30 31 = dV S v a → Q none (hp G' L')) : CT 139 [.ref 30, .int (nI v)] (hp G L) Q := by
  obtain ⟨hdR, hnR, -⟩ := id hR
  obtain ⟨r1, r2, r3, r4⟩ := id hdR
  refine sm_meth hC [some (.ref 30), some (.int (nI v)), none] rfl rfl rfl ?_
  have lo2 : ∀ i, i ≤ S 0 0 → ∀ G1 L1, eqx mdlP G G1 → Im c S G1 → L1 30 31 = fP S v (fA S v a 8) i → sm_Wk 7 139 Q none 38 [some (.ref 30), some (.int (nI v)), some (.int (nI i))] [] (hp G1 L1) := by
    refine up _ (fun i hi ih G1 L1 hx hI1 hl => ?_)
    obtain ⟨i1, i2, i3, i4, i5, i6, i7⟩ := id hI1
    have e1 := i1.1
    refine sm_body [38] 80 sm_k139 (fun CT K hC hK => ?_)
    repeat' first
      | (with_reducible refine And.intro ?_ ?_)
      | ((with_reducible intro h9); first | exact absurd h9 (by decide) | (replace h9 := nle e1 (by omega) (by omega) h9) | (replace h9 := yle e1 (by omega) (by omega) h9) | skip)
      | (with_reducible exact zn_in (by omega) (by decide))
      | (with_reducible exact z01) | (with_reducible exact z11) | (with_reducible exact zb01 _)
      | (with_reducible exact zn_inb (by omega) (by decide))
      | (with_reducible exact zn_ina (by omega) (by decide))
      | (with_reducible exact zn_inc (by omega) (by decide))
      | ((conv => whnf); first | (with_reducible refine And.intro ?_ ?_) | ((with_reducible intro h9); first | exact absurd h9 (by decide) | (replace h9 := nle e1 (by omega) (by omega) h9) | (replace h9 := yle e1 (by omega) (by omega) h9) | skip) | (with_reducible refine hK _ _ _ _ (sm_un ?_)) | (with_reducible refine s_pointsNow (hC.mono (by omega)) i1 hdR i2 hnR hv ‹_› (fun G2 hx2 hp2 => ?_)) | (with_reducible refine s_mix (hC.mono (by omega)) hl (fun L2 hl2 => ?_)))
    · obtain rfl : i = S 0 0 := by omega
      exact hQ G1 L1 hx hI1 hl
    · simp only [nI_add]; exact ⟨⟨ih ‹_› G2 L2 (eqx_trans hx (eqx_sub rfl hx2)) (Im_39 (eqx_sub rfl hx2) (hp2 i7) hI1) hl2⟩⟩
  have lo : ∀ i, i ≤ 14 → ∀ L1, L1 30 31 = fA S v a (wix i) → sm_Wk 7 139 Q none 2 [some (.ref 30), some (.int (nI v)), some (.int (nI i))] [] (hp G L1) := by
    refine up _ (fun i hi ih L1 hl => ?_)
    refine sm_body [2, 38] 80 sm_k139 (fun CT K hC hK => ?_)
    have hw : i < 14 → (i < 4 ∨ 9 < i) → wix (i + 1) = wix i + 1 ∧ wht (wix i) = i ∧ wix i < 8 := by
      intro h1 h2
      have : i = 0 ∨ i = 1 ∨ i = 2 ∨ i = 3 ∨ i = 10 ∨ i = 11 ∨ i = 12 ∨ i = 13 := by omega
      rcases this with rfl | rfl | rfl | rfl | rfl | rfl | rfl | rfl <;> decide
    have hw2 : i < 14 → 4 ≤ i → i ≤ 9 → wix (i + 1) = wix i := by
      intro h1 h2 h3
      have : i = 4 ∨ i = 5 ∨ i = 6 ∨ i = 7 ∨ i = 8 ∨ i = 9 := by omega
      rcases this with rfl | rfl | rfl | rfl | rfl | rfl <;> decide
    repeat' first
      | (with_reducible refine And.intro ?_ ?_)
      | ((with_reducible intro h9); first | exact absurd h9 (by decide) | (replace h9 := zle (a := 14) (by omega) (by omega) h9) | (replace h9 := znle (a := 14) (by omega) (by omega) h9) | (replace h9 := zlt (b := 4) (by omega) (by omega) h9) | (replace h9 := znl (b := 4) (by omega) (by omega) h9) | (replace h9 := zle (b := 9) (by omega) (by omega) h9) | (replace h9 := znle (b := 9) (by omega) (by omega) h9) | skip)
      | (with_reducible exact zn_in (by omega) (by decide))
      | (with_reducible exact z01) | (with_reducible exact z11) | (with_reducible exact zb01 _)
      | (with_reducible exact zn_inb (by omega) (by decide))
      | (with_reducible exact zn_ina (by omega) (by decide))
      | (with_reducible exact zn_inc (by omega) (by decide))
      | ((conv => whnf); first | (with_reducible refine And.intro ?_ ?_) | ((with_reducible intro h9); first | exact absurd h9 (by decide) | (replace h9 := zle (a := 14) (by omega) (by omega) h9) | (replace h9 := znle (a := 14) (by omega) (by omega) h9) | (replace h9 := zlt (b := 4) (by omega) (by omega) h9) | (replace h9 := znl (b := 4) (by omega) (by omega) h9) | (replace h9 := zle (b := 9) (by omega) (by omega) h9) | (replace h9 := znle (b := 9) (by omega) (by omega) h9) | skip) | (with_reducible refine hK _ _ _ _ (sm_un ?_)) | (refine g_vaneNow (hC.mono (by omega)) hR hI hv (by have q := hw ‹_› (by omega); rw [← q.2.1]; exact aboutB_w q.2.2) ?_) | (with_reducible refine s_mix (hC.mono (by omega)) hl (fun L2 hl2 => ?_)))
    · obtain rfl : i = 14 := by omega
      exact ⟨⟨lo2 0 (Nat.zero_le _) G L1 eqx_rfl hI hl⟩⟩
    · have q := hw ‹_› (by omega)
      have e := ih ‹_› L2 (by rw [hl2, q.1, fA, mixI, q.2.1])
      simp only [nI_add]; exact ⟨⟨e⟩⟩
    · have q := hw2 ‹_› (by omega) (by omega)
      have e := ih ‹_› L1 (by rw [q]; exact hl)
      simp only [nI_add]; exact ⟨⟨e⟩⟩
    · have q := hw ‹_› (by omega)
      have e := ih ‹_› L2 (by rw [hl2, q.1, fA, mixI, q.2.1])
      simp only [nI_add]; exact ⟨⟨e⟩⟩
  refine sm_body [2] 80 sm_k139 (fun CT K hC hK => ?_)
  repeat' first
    | (with_reducible refine And.intro ?_ ?_)
    | ((with_reducible intro h9); first | exact absurd h9 (by decide) | skip)
    | (with_reducible exact zn_in (by omega) (by decide))
    | (with_reducible exact z01) | (with_reducible exact z11) | (with_reducible exact zb01 _)
    | (with_reducible exact zn_inb (by omega) (by decide))
    | (with_reducible exact zn_ina (by omega) (by decide))
    | (with_reducible exact zn_inc (by omega) (by decide))
    | ((conv => whnf); first | (with_reducible refine And.intro ?_ ?_) | ((with_reducible intro h9); first | exact absurd h9 (by decide) | skip) | (with_reducible refine hK _ _ _ _ (sm_un ?_)))
  exact ⟨⟨lo 0 (Nat.zero_le _) L hL⟩⟩
set_option maxRecDepth 100000 in
set_option maxHeartbeats 4000000 in
theorem g_digest (hC : sm_C 9 CT) (hR : RS c S) (hI : Im c S G) (hQ : ∀ G' L', eqx mdlP G G' → Im c S G' → Q (some (.long (A_digest S))) (hp G' L')) : CT 140 [.ref 30] (hp G L) Q := by
  obtain ⟨hdR, hnR, -⟩ := id hR
  obtain ⟨r1, r2, r3, r4⟩ := id hdR
  have r8 := hR.2.2.1
  refine sm_meth hC [some (.ref 30), none] rfl rfl rfl ?_
  have lo4 : ∀ i, i ≤ 7 → ∀ G1 L1, eqx mdlP G G1 → Im c S G1 → L1 30 31 = dC S (dP S (dF S (dB S (dVs S (S 0 1)) (S 0 0))) (S 0 3)) i → sm_Wk 8 140 Q none 99 [some (.ref 30), some (.int (nI i))] [] (hp G1 L1) := by
    refine up _ (fun i hi ih G1 L1 hx hI1 hl => ?_)
    refine sm_body [99] 80 sm_k140 (fun CT K hC hK => ?_)
    repeat' first
      | (with_reducible refine And.intro ?_ ?_)
      | ((with_reducible intro h9); first | exact absurd h9 (by decide) | (replace h9 := zle (a := 7) (by omega) (by omega) h9) | (replace h9 := znle (a := 7) (by omega) (by omega) h9) | skip)
      | (with_reducible exact zn_in (by omega) (by decide))
      | (with_reducible exact z01) | (with_reducible exact z11) | (with_reducible exact zb01 _)
      | (with_reducible exact zn_inb (by omega) (by decide))
      | (with_reducible exact zn_ina (by omega) (by decide))
      | (with_reducible exact zn_inc (by omega) (by decide))
      | ((conv => whnf); first | (with_reducible refine And.intro ?_ ?_) | ((with_reducible intro h9); first | exact absurd h9 (by decide) | (replace h9 := zle (a := 7) (by omega) (by omega) h9) | (replace h9 := znle (a := 7) (by omega) (by omega) h9) | skip) | (with_reducible refine hK _ _ _ _ (sm_un ?_)) | (with_reducible refine g_howMany (hC.mono (by omega)) hR hI1 ?_) | (with_reducible refine s_mix (hC.mono (by omega)) hl (fun L2 hl2 => ?_)))
    · obtain rfl : i = 7 := by omega
      have e := hQ G1 L1 hx hI1
      unfold A_digest at e
      rw [← hl] at e
      exact e
    · simp only [nI_add]; exact ⟨⟨ih ‹_› G1 L2 hx hI1 hl2⟩⟩
  have lo3 : ∀ i, i ≤ S 0 3 → ∀ G1 L1, eqx mdlP G G1 → Im c S G1 → L1 30 31 = dP S (dF S (dB S (dVs S (S 0 1)) (S 0 0))) i → sm_Wk 8 140 Q none 72 [some (.ref 30), some (.int (nI i))] [] (hp G1 L1) := by
    refine up _ (fun i hi ih G1 L1 hx hI1 hl => ?_)
    obtain ⟨e1, e2⟩ := hI1.2.2.1
    refine sm_body [72, 99] 80 sm_k140 (fun CT K hC hK => ?_)
    repeat' first
      | (with_reducible refine And.intro ?_ ?_)
      | ((with_reducible intro h9); first | exact absurd h9 (by decide) | (replace h9 := nle e1 (by omega) (by omega) h9) | (replace h9 := yle e1 (by omega) (by omega) h9) | skip)
      | (with_reducible exact zn_in (by omega) (by decide))
      | (with_reducible exact z01) | (with_reducible exact z11) | (with_reducible exact zb01 _)
      | (with_reducible exact zn_inb (by omega) (by decide))
      | (with_reducible exact zn_ina (by omega) (by decide))
      | (with_reducible exact zn_inc (by omega) (by decide))
      | ((conv => whnf); first | (with_reducible refine And.intro ?_ ?_) | ((with_reducible intro h9); first | exact absurd h9 (by decide) | (replace h9 := nle e1 (by omega) (by omega) h9) | (replace h9 := yle e1 (by omega) (by omega) h9) | skip) | (with_reducible refine hK _ _ _ _ (sm_un ?_)) | (with_reducible refine s_mix (hC.mono (by omega)) hl (fun L2 hl2 => ?_)))
    · obtain rfl : i = S 0 3 := by omega
      exact ⟨⟨lo4 0 (Nat.zero_le _) G1 L1 hx hI1 hl⟩⟩
    · simp only [nI_add]; exact ⟨⟨ih ‹_› G1 L2 hx hI1 (by rw [hl2, zn_clI (by omega), e2 i ‹_›]; rfl)⟩⟩
  have mid : ∀ G1 L1, eqx mdlP G G1 → Im c S G1 → L1 30 31 = dB S (dVs S (S 0 1)) (S 0 0) → sm_Wk 8 140 Q none 54 [some (.ref 30), some (.int (nI (S 0 0)))] [] (hp G1 L1) := by
    intro G1 L1 hx hI1 hl
    obtain ⟨i1, i2, i3, i4, i5, i6, i7⟩ := id hI1
    have e1 := i1.1
    refine sm_body [72] 80 sm_k140 (fun CT K hC hK => ?_)
    repeat' first
      | (with_reducible refine And.intro ?_ ?_)
      | ((with_reducible intro h9); first | exact absurd h9 (by decide) | ((rw [e1] at h9; replace h9 := zle (b := 0) (by omega) (by omega) h9)) | ((rw [e1] at h9; replace h9 := znle (b := 0) (by omega) (by omega) h9)) | skip)
      | (with_reducible exact zn_in (by omega) (by decide))
      | (with_reducible exact z01) | (with_reducible exact z11) | (with_reducible exact zb01 _)
      | (with_reducible exact zn_inb (by omega) (by decide))
      | (with_reducible exact zn_ina (by omega) (by decide))
      | (with_reducible exact zn_inc (by omega) (by decide))
      | ((conv => whnf); first | (with_reducible refine And.intro ?_ ?_) | ((with_reducible intro h9); first | exact absurd h9 (by decide) | ((rw [e1] at h9; replace h9 := zle (b := 0) (by omega) (by omega) h9)) | ((rw [e1] at h9; replace h9 := znle (b := 0) (by omega) (by omega) h9)) | skip) | (with_reducible refine hK _ _ _ _ (sm_un ?_)) | (with_reducible refine s_fittingNow (hC.mono (by omega)) i1 hdR i2 hnR (fun G2 hx2 hp2 => ?_)) | (with_reducible refine s_mix (hC.mono (by omega)) hl (fun L2 hl2 => ?_)))
    · exact ⟨⟨lo3 0 (Nat.zero_le _) G1 L1 hx hI1 (by rw [hl]; exact (if_t (show S 0 0 = 0 by omega)).symm)⟩⟩
    · exact ⟨⟨lo3 0 (Nat.zero_le _) G2 L2 (eqx_trans hx (eqx_sub rfl hx2)) (Im_39 (eqx_sub rfl hx2) (hp2 i7) hI1) (by rw [hl2]; exact (if_f (show ¬ S 0 0 = 0 by omega)).symm)⟩⟩
  have lo2 : ∀ i, i ≤ S 0 0 → ∀ G1 L1, eqx mdlP G G1 → Im c S G1 → L1 30 31 = dB S (dVs S (S 0 1)) i → sm_Wk 8 140 Q none 30 [some (.ref 30), some (.int (nI i))] [] (hp G1 L1) := by
    refine up _ (fun i hi ih G1 L1 hx hI1 hl => ?_)
    obtain ⟨i1, i2, i3, i4, i5, i6, i7⟩ := id hI1
    have e1 := i1.1
    refine sm_body [30, 54] 80 sm_k140 (fun CT K hC hK => ?_)
    repeat' first
      | (with_reducible refine And.intro ?_ ?_)
      | ((with_reducible intro h9); first | exact absurd h9 (by decide) | (replace h9 := nle e1 (by omega) (by omega) h9) | (replace h9 := yle e1 (by omega) (by omega) h9) | skip)
      | (with_reducible exact zn_in (by omega) (by decide))
      | (with_reducible exact z01) | (with_reducible exact z11) | (with_reducible exact zb01 _)
      | (with_reducible exact zn_inb (by omega) (by decide))
      | (with_reducible exact zn_ina (by omega) (by decide))
      | (with_reducible exact zn_inc (by omega) (by decide))
      | ((conv => whnf); first | (with_reducible refine And.intro ?_ ?_) | ((with_reducible intro h9); first | exact absurd h9 (by decide) | (replace h9 := nle e1 (by omega) (by omega) h9) | (replace h9 := yle e1 (by omega) (by omega) h9) | skip) | (with_reducible refine hK _ _ _ _ (sm_un ?_)) | (with_reducible refine s_blowsNow (hC.mono (by omega)) i1 hdR i2 hnR ‹_› (fun G2 hx2 hp2 => ?_)) | (with_reducible refine s_mix (hC.mono (by omega)) hl (fun L2 hl2 => ?_)))
    · obtain rfl : i = S 0 0 := by omega
      exact ⟨⟨mid G1 L1 hx hI1 hl⟩⟩
    · simp only [nI_add]; exact ⟨⟨ih ‹_› G2 L2 (eqx_trans hx (eqx_sub rfl hx2)) (Im_39 (eqx_sub rfl hx2) (hp2 i7) hI1) hl2⟩⟩
  have lo : ∀ i, i ≤ S 0 1 → ∀ G1 L1, eqx mdlP G G1 → Im c S G1 → L1 30 31 = dVs S i → sm_Wk 8 140 Q none 9 [some (.ref 30), some (.int (nI i))] [] (hp G1 L1) := by
    refine up _ (fun i hi ih G1 L1 hx hI1 hl => ?_)
    have e1 := hI1.1.2.1
    refine sm_body [9, 30] 80 sm_k140 (fun CT K hC hK => ?_)
    repeat' first
      | (with_reducible refine And.intro ?_ ?_)
      | ((with_reducible intro h9); first | exact absurd h9 (by decide) | (replace h9 := nle e1 (by omega) (by omega) h9) | (replace h9 := yle e1 (by omega) (by omega) h9) | skip)
      | (with_reducible exact zn_in (by omega) (by decide))
      | (with_reducible exact z01) | (with_reducible exact z11) | (with_reducible exact zb01 _)
      | (with_reducible exact zn_inb (by omega) (by decide))
      | (with_reducible exact zn_ina (by omega) (by decide))
      | (with_reducible exact zn_inc (by omega) (by decide))
      | ((conv => whnf); first | (with_reducible refine And.intro ?_ ?_) | ((with_reducible intro h9); first | exact absurd h9 (by decide) | (replace h9 := nle e1 (by omega) (by omega) h9) | (replace h9 := yle e1 (by omega) (by omega) h9) | skip) | (with_reducible refine hK _ _ _ _ (sm_un ?_)) | (with_reducible refine s_mixVane (hC.mono (by omega)) hR hI1 ‹_› hl (fun G2 L2 hx2 hI2 hl2 => ?_)))
    · obtain rfl : i = S 0 1 := by omega
      exact ⟨⟨lo2 0 (Nat.zero_le _) G1 L1 hx hI1 hl⟩⟩
    · simp only [nI_add]; exact ⟨⟨ih ‹_› G2 L2 (eqx_trans hx hx2) hI2 hl2⟩⟩
  refine sm_body [9] 80 sm_k140 (fun CT K hC hK => ?_)
  repeat' first
    | (with_reducible refine And.intro ?_ ?_)
    | ((with_reducible intro h9); first | exact absurd h9 (by decide) | skip)
    | (with_reducible exact zn_in (by omega) (by decide))
    | (with_reducible exact z01) | (with_reducible exact z11) | (with_reducible exact zb01 _)
    | (with_reducible exact zn_inb (by omega) (by decide))
    | (with_reducible exact zn_ina (by omega) (by decide))
    | (with_reducible exact zn_inc (by omega) (by decide))
    | ((conv => whnf); first | (with_reducible refine And.intro ?_ ?_) | ((with_reducible intro h9); first | exact absurd h9 (by decide) | skip) | (with_reducible refine hK _ _ _ _ (sm_un ?_)))
  simp only [hp_0, hp_1, hp_2, hp_3, hp_4, hp_5, hp_6, hp_7, hp_8, hp_9, hp_10, hp_11, hp_12, hp_13, hp_14, hp_15, hp_16, hp_17, hp_18, hp_19, hp_20, hp_22, hp_23, hp_24, hp_25, hp_26, hp_27, hp_28, hp_29, hp_30, hp_31, hp_32, hp_33, hp_34, hp_35, hp_36, hp_37, hp_38, hp_39, hp_40, hp_41, hp_42, hp_43, hp_44, hp_45, hp_46, hp_47, hp_48, hp_49, hf0_5, hf0_6, hf0_7, hf1_1, hf3_0, hf3_2, hf3_6, hf10_0, hf10_2, hf10_6, hf17_3, hf17_4, hf20_3, hf20_4, hf30_0, hf30_1, hf30_3, hf30_7, hf30_11, hf30_12, hf30_20, hf30_22, hf30_23, hf30_24, hf30_25, hf30_21, hf30_31, upd_su, updL_su, su_self]
  exact ⟨⟨lo 0 (Nat.zero_le _) G _ eqx_rfl hI rfl⟩⟩
end DIGM
