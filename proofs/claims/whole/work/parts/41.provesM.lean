/-! proof of the other one: a set that tells. -/
theorem tb_put {r p s b : Nat} {o : Nat → Bool} {T W : Nat → Nat} {G : Nat → Nat → Int32} {L : Nat → Nat → Int64} (h : tb r o T W G L) : tb r (oS o p) (fun q => if q = p then s else T q) (fun q => if q = p then b else W q) (su (su G 44 (su (G 44) p (nI r))) 43 (su (G 43) p (nI b))) (su L 42 (su (L 42) p (lN s))) := by
  intro q hq
  obtain ⟨h1, h0⟩ := h q hq
  show (oS o p q = true → su (G 44) p (nI r) q = nI r ∧ su (L 42) p (lN s) q = lN (if q = p then s else T q) ∧ su (G 43) p (nI b) q = nI (if q = p then b else W q)) ∧ (oS o p q = false → ¬ su (G 44) p (nI r) q = nI r)
  rw [su_if, su_if, su_if]
  by_cases e : q = p
  · rw [if_t e, if_t e, if_t e, if_t e, if_t e]
    refine ⟨fun _ => ⟨rfl, rfl, rfl⟩, fun z => ?_⟩
    unfold oS at z
    rw [beq_t e, Bool.or_true] at z
    exact absurd z (by decide)
  · rw [if_f e, if_f e, if_f e, if_f e, if_f e]
    have ez : oS o p q = o q := by unfold oS; rw [beq_f e, Bool.or_false]
    rw [ez]
    exact ⟨h1, h0⟩
theorem tb_x {r : Nat} {o : Nat → Bool} {T W : Nat → Nat} {G G' : Nat → Nat → Int32} {L : Nat → Nat → Int64} (hx : eqx [39, 40] G G') (h : tb r o T W G L) : tb r o T W G' L := by
  unfold tb at *
  rw [hx 44 rfl, hx 43 rfl]
  exact h
theorem Im_put {c r p : Nat} {S : Nat → Nat → Nat} {G : Nat → Nat → Int32} {Y : Nat → Int32} (hI : Im c S G) (hr : r ≤ c) (e : G 30 20 = nI r) (hb : ∀ i, i < 8192 → ∃ x, x ≤ r ∧ G 44 i = nI x) : Im c S (su (su G 44 (su (G 44) p (nI r))) 43 Y) := by
  obtain ⟨i1, i2, i3, i4, i5, i6, i7⟩ := hI
  refine ⟨i1, i2, i3, i4, i5, ⟨r, hr, e, fun i hi => ?_⟩, i7⟩
  show ∃ x, x ≤ r ∧ su (G 44) p (nI r) i = nI x
  rw [su_if]
  by_cases z : i = p
  · rw [if_t z]; exact ⟨r, Nat.le_refl _, rfl⟩
  · rw [if_f z]; exact hb i hi
theorem mH_b {c r : Nat} {G : Nat → Nat → Int32} (hc : c < 2 ^ 31) (hr : r ≤ c) (h : mH c G) (e : G 30 20 = nI r) : ∀ i, i < 8192 → ∃ x, x ≤ r ∧ G 44 i = nI x := by
  obtain ⟨r', h1, h2, h3⟩ := h
  have : r' = r := zeq (by omega) (by omega) (h2.symm.trans e)
  subst this
  exact h3
section PROVES
variable {CT : sm_CT} {G : Nat → Nat → Int32} {L : Nat → Nat → Int64} {Q : sm_Q} {S : Nat → Nat → Nat} {c : Nat} {h : sm_H}
set_option maxRecDepth 100000 in
set_option maxHeartbeats 4000000 in
theorem s_proves {S' : Nat → Nat → Nat} (hC : sm_C 6 CT) (hdR : dR S) (hnR : nR S) (hs : sim S' S) (hI : Im c S' G) (hc : c + 1 < 2 ^ 31) {x k : Nat} (hx16 : x < 16) (hk : k < S 0 0) (hQ : ∀ G' L', eqx mdlP G G' → Im (c + 1) S' G' → Q (some (.int (sm_b (TL S k x)))) (hp G' L')) : CT 119 [.ref 30, .int (nI x), .int (nI k)] (hp G L) Q := by
  obtain ⟨r1, r2, r3, r4⟩ := id hdR
  have hnc := nc_le hdR
  obtain ⟨i1, i2, i3, i4, i5, ⟨r, hr, er, hrb⟩, i7⟩ := id hI
  refine sm_meth hC [some (.ref 30), some (.int (nI x)), some (.int (nI k)), none, none, none, none, none] rfl rfl rfl ?_
  have loF : ∀ i, i ≤ nc S → TL S k x = false → ∀ o5 o6 o7 G1 L1, eqx mdlP G G1 → Im (c + 1) S' G1 → sm_Wk 5 119 Q none 15 [some (.ref 30), some (.int (nI x)), some (.int (nI k)), some (.int (nI 0)), some (.int (nI i)), o5, o6, o7] [] (hp G1 L1) := by
    intro i hi hT o5 o6 o7 G1 L1 hx hI1
    have hD1 := mD_sim hs hI1.1
    refine sm_body [] 80 sm_k119 (fun CT K hC hK => ?_)
    have e := hQ G1 L1 hx hI1
    rw [hT] at e
    repeat' first
      | (with_reducible refine And.intro ?_ ?_)
      | ((with_reducible intro h9); first | exact absurd h9 (by decide) | skip)
      | (with_reducible exact zn_in (by omega) (by decide))
      | (with_reducible exact z01) | (with_reducible exact z11) | (with_reducible exact zb01 _)
      | (with_reducible exact zn_inb (by omega) (by decide))
      | (with_reducible exact zn_ina (by omega) (by decide))
      | (with_reducible exact zn_inc (by omega) (by decide))
      | ((conv => whnf); first | (with_reducible refine And.intro ?_ ?_) | ((with_reducible intro h9); first | exact absurd h9 (by decide) | skip) | (with_reducible refine hK _ _ _ _ (sm_un ?_)) | (with_reducible refine s_codes (hC.mono (by omega)) hD1 hdR ?_))
    all_goals exact e
  have lo : ∀ i, i ≤ nc S → ∀ o5 o7 G1 L1 o T W, eqx mdlP G G1 → Im (c + 1) S' G1 → G1 30 20 = nI (r + 1) → tb (r + 1) o T W G1 L1 → kn S x k i o T W → sm_Wk 5 119 Q none 15 [some (.ref 30), some (.int (nI x)), some (.int (nI k)), some (.int (nI 1)), some (.int (nI i)), o5, none, o7] [] (hp G1 L1) := by
    refine up _ (fun i hi ih o5 o7 G1 L1 o T W hx hI1 e1 ht hkn => ?_)
    have hD1 := mD_sim hs hI1.1
    have hS1 := mS_sim hs hI1.2.1
    have hsl := sgn_lt hdR x i
    have hk0 : ct o 8192 ≤ i := hkn.1
    have hat := at_lt (sgn S x i)
    have hTb : ∀ p, p < 8192 → o p = true → T p < 2 ^ 63 := fun p hp8 ho => by
      obtain ⟨a, ha, _, e, _⟩ := hkn.2.1 p hp8 ho
      have := sgn_lt hdR x a
      omega
    have hWb : ∀ p, p < 8192 → o p = true → W p < 4 := fun p hp8 ho => by
      obtain ⟨a, ha, _, _, e⟩ := hkn.2.1 p hp8 ho
      rw [e]
      exact wd_lt hdR a k
    have hw4 := wd_lt hdR i k
    refine sm_body [15] 120 sm_k119 (fun CT K hC hK => ?_)
    repeat' first
      | (with_reducible refine And.intro ?_ ?_)
      | ((with_reducible intro h9); first | exact absurd h9 (by decide) | (replace h9 := zle (by omega) (by omega) h9) | (replace h9 := znle (by omega) (by omega) h9) | (replace h9 := sb_f h9) | (replace h9 := sb_t h9) | ((exfalso; rw [zn_clI (Nat.lt_trans (at_lt _ _) (by decide)), hx2 30 rfl, e1, hx2 44 rfl] at h9; exact h9 ((ht _ (at_lt _ _)).1 ho).1)) | ((exfalso; rw [zn_clI (Nat.lt_trans (at_lt _ _) (by decide)), hx2 30 rfl, e1, hx2 44 rfl] at h9; exact (ht _ (at_lt _ _)).2 ho h9)) | ((rw [zn_clI (Nat.lt_trans (at_lt _ _) (by decide)), zn_clI (show k < 2 ^ 31 by omega), hx2 43 rfl, ((ht _ (at_lt _ _)).1 ho).2.2, hl2.1 k hk] at h9; replace h9 := zeq (by have := hWb _ (at_lt _ _) ho; omega) (by omega) h9)) | ((rw [zn_clI (Nat.lt_trans (at_lt _ _) (by decide)), zn_clI (show k < 2 ^ 31 by omega), hx2 43 rfl, ((ht _ (at_lt _ _)).1 ho).2.2, hl2.1 k hk] at h9; replace h9 := zneq h9)) | skip)
      | (with_reducible exact zn_in (by omega) (by decide))
      | (with_reducible exact z01) | (with_reducible exact z11) | (with_reducible exact zb01 _)
      | (with_reducible exact zn_inb (by omega) (by decide))
      | (with_reducible exact zn_ina (by omega) (by decide))
      | (with_reducible exact zn_inc (by omega) (by decide))
      | ((conv => whnf); first | (with_reducible refine And.intro ?_ ?_) | ((with_reducible intro h9); first | exact absurd h9 (by decide) | (replace h9 := zle (by omega) (by omega) h9) | (replace h9 := znle (by omega) (by omega) h9) | (replace h9 := sb_f h9) | (replace h9 := sb_t h9) | ((exfalso; rw [zn_clI (Nat.lt_trans (at_lt _ _) (by decide)), hx2 30 rfl, e1, hx2 44 rfl] at h9; exact h9 ((ht _ (at_lt _ _)).1 ho).1)) | ((exfalso; rw [zn_clI (Nat.lt_trans (at_lt _ _) (by decide)), hx2 30 rfl, e1, hx2 44 rfl] at h9; exact (ht _ (at_lt _ _)).2 ho h9)) | ((rw [zn_clI (Nat.lt_trans (at_lt _ _) (by decide)), zn_clI (show k < 2 ^ 31 by omega), hx2 43 rfl, ((ht _ (at_lt _ _)).1 ho).2.2, hl2.1 k hk] at h9; replace h9 := zeq (by have := hWb _ (at_lt _ _) ho; omega) (by omega) h9)) | ((rw [zn_clI (Nat.lt_trans (at_lt _ _) (by decide)), zn_clI (show k < 2 ^ 31 by omega), hx2 43 rfl, ((ht _ (at_lt _ _)).1 ho).2.2, hl2.1 k hk] at h9; replace h9 := zneq h9)) | skip) | (with_reducible refine hK _ _ _ _ (sm_un ?_)) | (with_reducible refine s_codes (hC.mono (by omega)) hD1 hdR ?_) | (with_reducible refine s_fits (hC.mono (by omega)) hD1 hdR hS1 hnR (by omega) (fun G2 hx2 hl2 hp2 => ?_)) | (with_reducible refine s_signOf (hC.mono (by omega)) (mD_x hx2 rfl hD1) hdR hx16 hl2 ?_) | (refine s_placeOf (r := r + 1) (o := o) (T := T) (W := W) (hC.mono (by omega)) (by rw [hx2 30 rfl]; exact e1) (tb_x hx2 ht) (by omega) hTb (by omega) (fun j hj ho hT => ?_) (fun j hj ho => ?_)) | (exact zn_in (at_lt _ _) (by decide)))
    all_goals try exact zn_in (at_lt _ _) (by decide)
    all_goals try have hI2 := Im_39 (eqx_sub rfl hx2) (hp2 hI1.2.2.2.2.2.2) hI1
    all_goals try have hxx := eqx_trans hx (eqx_sub rfl hx2)
    all_goals try have e2 : G2 30 20 = nI (r + 1) := by rw [hx2 30 rfl]; exact e1
    all_goals try have ht2 := tb_x hx2 ht
    all_goals try have cp := zn_clI (Nat.lt_trans (at_lt (sgn S x i) j) (show 8192 < 2 ^ 31 by decide))
    all_goals try have hb2 := mH_b (by omega) (by omega) hI2.2.2.2.2.2.1 e2
    all_goals try have hxP : eqx mdlP G (su (su G2 44 (su (G2 44) (at_ (sgn S x i) j) (nI (r + 1)))) 43 (su (G2 43) (at_ (sgn S x i) j) (nI (wd S i k)))) := eqx_su 43 _ rfl (eqx_su 44 _ rfl hxx)
    · obtain rfl : i = nc S := by omega
      have e := hQ G1 L1 hx hI1
      rw [kn_end hdR hkn] at e
      exact e
    · simp only [nI_add]; exact ⟨⟨ih ‹_› _ _ G2 L1 o T W hxx hI2 e2 ht2 (kn_skip hkn h9)⟩⟩
    · simp only [hp_0, hp_1, hp_2, hp_3, hp_4, hp_5, hp_6, hp_7, hp_8, hp_9, hp_10, hp_11, hp_12, hp_13, hp_14, hp_15, hp_16, hp_17, hp_18, hp_19, hp_20, hp_22, hp_23, hp_24, hp_25, hp_26, hp_27, hp_28, hp_29, hp_30, hp_31, hp_32, hp_33, hp_34, hp_35, hp_36, hp_37, hp_38, hp_39, hp_40, hp_41, hp_42, hp_43, hp_44, hp_45, hp_46, hp_47, hp_48, hp_49, hf0_5, hf0_6, hf0_7, hf1_1, hf3_0, hf3_2, hf3_6, hf10_0, hf10_2, hf10_6, hf17_3, hf17_4, hf20_3, hf20_4, hf30_0, hf30_1, hf30_3, hf30_7, hf30_11, hf30_12, hf30_20, hf30_22, hf30_23, hf30_24, hf30_25, hf30_21, hf30_31, upd_su, updL_su, cp, e2, zn_clI (show k < 2 ^ 31 by omega), hl2.1 k hk, nI_add]
      exact ⟨⟨loF (i + 1) ‹_› (kn_no hdR ‹_› hkn ‹_› ho hT h9) _ _ _ _ _ hxP (Im_put hI2 (by omega) e2 hb2)⟩⟩
    · have eo : oS o (at_ (sgn S x i) j) = o := funext fun q => by
        unfold oS
        by_cases z : q = at_ (sgn S x i) j
        · rw [z, ho]; rfl
        · rw [beq_f z, Bool.or_false]
      have eT : (fun q => if q = at_ (sgn S x i) j then sgn S x i else T q) = T := funext fun q => by
        by_cases z : q = at_ (sgn S x i) j
        · rw [if_t z, z, hT]
        · rw [if_f z]
      have eW : (fun q => if q = at_ (sgn S x i) j then wd S i k else W q) = W := funext fun q => by
        by_cases z : q = at_ (sgn S x i) j
        · rw [if_t z, z, h9]
        · rw [if_f z]
      have ht3 := tb_put (p := at_ (sgn S x i) j) (s := sgn S x i) (b := wd S i k) ht2
      rw [eo, eT, eW] at ht3
      simp only [hp_0, hp_1, hp_2, hp_3, hp_4, hp_5, hp_6, hp_7, hp_8, hp_9, hp_10, hp_11, hp_12, hp_13, hp_14, hp_15, hp_16, hp_17, hp_18, hp_19, hp_20, hp_22, hp_23, hp_24, hp_25, hp_26, hp_27, hp_28, hp_29, hp_30, hp_31, hp_32, hp_33, hp_34, hp_35, hp_36, hp_37, hp_38, hp_39, hp_40, hp_41, hp_42, hp_43, hp_44, hp_45, hp_46, hp_47, hp_48, hp_49, hf0_5, hf0_6, hf0_7, hf1_1, hf3_0, hf3_2, hf3_6, hf10_0, hf10_2, hf10_6, hf17_3, hf17_4, hf20_3, hf20_4, hf30_0, hf30_1, hf30_3, hf30_7, hf30_11, hf30_12, hf30_20, hf30_22, hf30_23, hf30_24, hf30_25, hf30_21, hf30_31, upd_su, updL_su, cp, e2, zn_clI (show k < 2 ^ 31 by omega), hl2.1 k hk, nI_add]
      exact ⟨⟨ih ‹_› _ _ _ _ o T W hxP (Im_put hI2 (by omega) e2 hb2) e2 ht3 (kn_same hkn hj ho hT h9)⟩⟩
    · have ht3 := tb_put (p := at_ (sgn S x i) j) (s := sgn S x i) (b := wd S i k) ht2
      simp only [hp_0, hp_1, hp_2, hp_3, hp_4, hp_5, hp_6, hp_7, hp_8, hp_9, hp_10, hp_11, hp_12, hp_13, hp_14, hp_15, hp_16, hp_17, hp_18, hp_19, hp_20, hp_22, hp_23, hp_24, hp_25, hp_26, hp_27, hp_28, hp_29, hp_30, hp_31, hp_32, hp_33, hp_34, hp_35, hp_36, hp_37, hp_38, hp_39, hp_40, hp_41, hp_42, hp_43, hp_44, hp_45, hp_46, hp_47, hp_48, hp_49, hf0_5, hf0_6, hf0_7, hf1_1, hf3_0, hf3_2, hf3_6, hf10_0, hf10_2, hf10_6, hf17_3, hf17_4, hf20_3, hf20_4, hf30_0, hf30_1, hf30_3, hf30_7, hf30_11, hf30_12, hf30_20, hf30_22, hf30_23, hf30_24, hf30_25, hf30_21, hf30_31, upd_su, updL_su, cp, e2, zn_clI (show k < 2 ^ 31 by omega), hl2.1 k hk, nI_add]
      exact ⟨⟨ih ‹_› _ _ _ _ _ _ _ hxP (Im_put hI2 (by omega) e2 hb2) e2 ht3 (kn_new hkn ‹_› hj ho)⟩⟩
  refine sm_body [15] 40 sm_k119 (fun CT K hC hK => ?_)
  repeat' first
    | (with_reducible refine And.intro ?_ ?_)
    | ((with_reducible intro h9); first | exact absurd h9 (by decide) | skip)
    | (with_reducible exact zn_in (by omega) (by decide))
    | (with_reducible exact z01) | (with_reducible exact z11) | (with_reducible exact zb01 _)
    | (with_reducible exact zn_inb (by omega) (by decide))
    | (with_reducible exact zn_ina (by omega) (by decide))
    | (with_reducible exact zn_inc (by omega) (by decide))
    | ((conv => whnf); first | (with_reducible refine And.intro ?_ ?_) | ((with_reducible intro h9); first | exact absurd h9 (by decide) | skip) | (with_reducible refine hK _ _ _ _ (sm_un ?_)))
  conv => whnf
  simp only [hp_0, hp_1, hp_2, hp_3, hp_4, hp_5, hp_6, hp_7, hp_8, hp_9, hp_10, hp_11, hp_12, hp_13, hp_14, hp_15, hp_16, hp_17, hp_18, hp_19, hp_20, hp_22, hp_23, hp_24, hp_25, hp_26, hp_27, hp_28, hp_29, hp_30, hp_31, hp_32, hp_33, hp_34, hp_35, hp_36, hp_37, hp_38, hp_39, hp_40, hp_41, hp_42, hp_43, hp_44, hp_45, hp_46, hp_47, hp_48, hp_49, hf0_5, hf0_6, hf0_7, hf1_1, hf3_0, hf3_2, hf3_6, hf10_0, hf10_2, hf10_6, hf17_3, hf17_4, hf20_3, hf20_4, hf30_0, hf30_1, hf30_3, hf30_7, hf30_11, hf30_12, hf30_20, hf30_22, hf30_23, hf30_24, hf30_25, hf30_21, hf30_31, upd_su, updL_su, su_self, er, nI_add]
  refine ⟨⟨lo 0 (Nat.zero_le _) _ _ _ _ (fun _ => false) (fun _ => 0) (fun _ => 0) (eqx_su 30 _ rfl eqx_rfl) ⟨i1, i2, i3, i4, i5, ⟨r + 1, by omega, rfl, fun i hi => ?_⟩, i7⟩ rfl (fun p hp8 => ⟨fun z => (Bool.false_ne_true z).elim, fun _ => ?_⟩) kn_0⟩⟩
  · obtain ⟨y, hy, e⟩ := hrb i hi
    exact ⟨y, by omega, e⟩
  · obtain ⟨y, hy, e⟩ := hrb p hp8
    intro z
    have z : G 44 p = nI (r + 1) := z
    rw [e] at z
    have := zeq (by omega) (by omega) z
    omega
end PROVES
