/-! The law's day and vane. -/
def letS (S : Nat → Nat → Nat) (k : Nat) : Nat → Nat → Nat := su (su S 0 (su (S 0) 3 (S 0 3 + 1))) 5 (su (S 5) (S 0 3) k)
def cc (k : Nat) : Nat := if k = 0 then 110 else if k = 1 then 101 else if k = 2 then 115 else if k = 3 then 119 else 63
theorem cc_ok : ∀ k, k ≤ 4 → 32 ≤ cc k ∧ cc k ≤ 126 ∧ good (cc k) = true ∧ dw (cc k) = k := by decide
def lawA : List Nat := [0, 1, 2, 3, 4, 5, 6, 7, 8, 9, 10, 11, 12, 13, 14, 15, 16, 17, 18, 19, 20, 21, 22, 23, 24, 25, 26, 27, 28, 29, 30, 31, 32, 33]
/-- what holds between two acts of the law -/
def LI (S : Nat → Nat → Nat) (G : Nat → Nat → Int32) : Prop := RS 16 S ∧ Ic S G ∧ wD S G ∧ wS (S 0 2) (S 6) (S 7) (S 8) G ∧ 0 < S 0 0
theorem z7 (z : Int32) : ∃ m, m < 8 ∧ z &&& nI 7 = nI m := by
  refine ⟨(z &&& nI 7).toBitVec.toNat, ?_, ?_⟩
  · have e : (z &&& nI 7).toBitVec = z.toBitVec &&& 7#32 := rfl
    rw [e, BitVec.toNat_and]
    exact Nat.lt_of_le_of_lt Nat.and_le_right (by decide)
  · apply Int32.toBitVec_inj.mp
    apply BitVec.eq_of_toNat_eq
    show _ = (BitVec.ofNat 32 (z &&& nI 7).toBitVec.toNat).toNat
    rw [BitVec.toNat_ofNat]
    exact (Nat.mod_eq_of_lt (BitVec.isLt _)).symm
section START
variable {CT : sm_CT} {G : Nat → Nat → Int32} {L : Nat → Nat → Int64} {Q : sm_Q} {S : Nat → Nat → Nat} {c : Nat} {h : sm_H}
theorem N_letter_in {k : Nat} (h1 : 32 ≤ k) (h2 : k ≤ 126) (h8 : S 0 3 < 8) : N_letter S (nI k) = letS S k ∧ A_letter S (nI k) = nI (S 0 3 + 1) := by
  have hk : nI 32 ≤ nI k ∧ nI k ≤ nI 126 := ⟨nI_le (by omega) (by omega), nI_le (by omega) (by decide)⟩
  have h8 : ¬ S 0 3 = 8 := by omega
  unfold N_letter A_letter
  rw [if_t hk, if_f h8, if_t hk, if_f h8, zn_clI (by omega)]
  exact ⟨rfl, rfl⟩
set_option maxRecDepth 100000 in
set_option maxHeartbeats 4000000 in
theorem l_put (hC : sm_C 3 CT) (hR : RS c S) (hI : Ic S G) {k : Nat} (h1 : 32 ≤ k) (h2 : k ≤ 126) (h8 : S 0 3 < 8) (hQ : ∀ G', eqx clsP G G' → Ic (letS S k) G' → Q (some (.int (nI 1))) (hp G' L)) : CT 79 [.ref 0, .int (nI k)] (hp G L) Q := by
  obtain ⟨e1, e2⟩ := N_letter_in (S := S) h1 h2 h8
  refine sm_meth hC [some (.ref 0), some (.int (nI k))] rfl rfl rfl ?_
  refine sm_body [] 60 sm_k79 (fun CT K hC hK => ?_)
  repeat' first
    | (with_reducible refine And.intro ?_ ?_)
    | ((with_reducible intro h9); first | exact absurd h9 (by decide) | skip)
    | (with_reducible exact zn_in (by omega) (by decide))
    | (with_reducible exact z01) | (with_reducible exact z11) | (with_reducible exact zb01 _)
    | (with_reducible exact zn_inb (by omega) (by decide))
    | (with_reducible exact zn_ina (by omega) (by decide))
    | (with_reducible exact zn_inc (by omega) (by decide))
    | (with_reducible exact zn_ind (by omega) (by decide))
    | (with_reducible exact zn_ine (by omega) (by decide))
    | ((conv => whnf); first | (with_reducible refine And.intro ?_ ?_) | ((with_reducible intro h9); first | exact absurd h9 (by decide) | skip) | (with_reducible refine hK _ _ _ _ (sm_un ?_)) | (refine f_letter (hC.mono (by omega)) hR hI (fun G' hx hI' => ?_)))
  all_goals rw [e1] at hI'
  all_goals rw [e2] at h9
  · exact absurd (yle (i := 0) rfl (by omega) (by omega) h9) (by omega)
  · exact hQ G' hx hI'
theorem dw_cc {k : Nat} (hk : k ≤ 4) : dw (cc k) = k := (cc_ok k hk).2.2.2
/-- the page behind i letters of a day, as the law's w has them -/
def dI (i n : Nat) (S : Nat → Nat → Nat) (G : Nat → Nat → Int32) : Prop := RS 0 S ∧ Ic S G ∧ S 0 3 = i ∧ G 30 6 = nI n ∧ G 30 7 = nI 0 ∧ ∀ h, h < i → good (S 5 h) = true ∧ G 30 h = wI (dw (S 5 h))
theorem Ic_30 {G' : Nat → Nat → Int32} (hx : eqx [30] G G') (hI : Ic S G) : Ic S G' := Ic_x (eqx_sub rfl hx) hI
set_option maxRecDepth 100000 in
set_option maxHeartbeats 4000000 in
theorem l_day (hC : sm_C 6 CT) {x : Nat} {u : Int32} (hx31 : x < 2 ^ 31) (hR : RS 0 S) (hI : Ic S G) (h3 : S 0 3 = 0) (h31 : G 31 30 = nI 0)
    (hQ : ∀ G' S', eqx lawA G G' → LI S' G' → S' 0 1 = 0 → S' 0 2 = 0 → Q (some (.int (nI 1))) (hp G' L)) : CT 80 [.ref 0, .int (nI x), .int u, .ref 30] (hp G L) Q := by
  obtain ⟨n, hn, en⟩ : ∃ n, n = 1 + x % 6 ∧ nI 1 + sm_ir (nI x) (nI 6) = nI n := ⟨_, rfl, by rw [zn_ir hx31 (by decide) (by decide), nI_add]⟩
  have hn6 : 1 ≤ n ∧ n ≤ 6 := by omega
  refine sm_meth hC [some (.ref 0), some (.int (nI x)), some (.int u), some (.ref 30), none, none, none, none] rfl rfl rfl ?_
  have lo : ∀ i, i ≤ n → ∀ G1 S1 fr o7, eqx (30 :: clsP) G G1 → dI i n S1 G1 → sm_Wk 5 80 Q none 24 [some (.ref 0), some (.int (nI x)), some (.int u), some (.ref 30), some (.int fr), some (.int (nI 1)), some (.int (nI i)), o7] [] (hp G1 L) := by
    refine up _ (fun i hi ih G1 S1 fr o7 hx hd => ?_)
    have tail : i < n → ∀ k, k ≤ 4 → ∀ G2 fr o7, eqx [30] G1 G2 → (∀ j, j ≠ i → G2 30 j = G1 30 j) → G2 30 i = wI k → sm_Wk 5 80 Q none 70 [some (.ref 0), some (.int (nI x)), some (.int u), some (.ref 30), some (.int fr), some (.int (nI 1)), some (.int (nI i)), o7] [] (hp G2 L) := by
      intro hl k hk G2 fr o7 hx2 hj hw
      obtain ⟨d1, d2, d3, d4, d5, d6⟩ := hd
      have hI2 := Ic_30 hx2 d2
      obtain ⟨q1, q2, q3, q4⟩ := cc_ok k hk
      have hw : G2 30 (nI i).toNatClampNeg = wI k := by rw [zn_clI (by omega)]; exact hw
      have fin : ∀ G3 fr, eqx clsP G2 G3 → Ic (letS S1 (cc k)) G3 → sm_Wk 5 80 Q none 24 [some (.ref 0), some (.int (nI x)), some (.int u), some (.ref 30), some (.int fr), some (.int (nI 1)), some (.int (nI (i + 1))), o7] [] (hp G3 L) := by
        intro G3 fr hx3 hI3
        refine ih hl G3 (letS S1 (cc k)) fr o7 (eqx_trans hx (eqx_trans (eqx_sub rfl hx2) (eqx_sub rfl hx3))) ⟨?_, hI3, ?_, ?_, ?_, fun j hj3 => ?_⟩
        · have := R_letter d1 (nI (cc k))
          rwa [(N_letter_in q1 q2 (by omega)).1] at this
        · show S1 0 3 + 1 = i + 1
          rw [d3]
        · rw [hx3 30 rfl, hj 6 (by omega)]; exact d4
        · rw [hx3 30 rfl, hj 7 (by omega)]; exact d5
        · show good (su (S1 5) (S1 0 3) (cc k) j) = true ∧ G3 30 j = wI (dw (su (S1 5) (S1 0 3) (cc k) j))
          rw [hx3 30 rfl, d3, su_if]
          by_cases e : j = i
          · subst e
            rw [if_t rfl, q4]
            rw [zn_clI (by omega)] at hw
            exact ⟨q3, hw⟩
          · rw [if_f e, hj j e]
            exact d6 j (by omega)
      have h8 : S1 0 3 < 8 := by omega
      have hk5 : k = 0 ∨ k = 1 ∨ k = 2 ∨ k = 3 ∨ k = 4 := by omega
      refine sm_body [24] 80 sm_k80 (fun CT K hC hK => ?_)
      rcases hk5 with rfl | rfl | rfl | rfl | rfl
      all_goals
        repeat' first
          | (with_reducible refine And.intro ?_ ?_)
          | ((with_reducible intro h9); first | exact absurd h9 (by decide) | ((rw [hw] at h9; first | exact absurd h9 (by decide) | skip)) | skip)
          | (with_reducible exact zn_in (by omega) (by decide))
          | (with_reducible exact z01) | (with_reducible exact z11) | (with_reducible exact zb01 _)
          | (with_reducible exact zn_inb (by omega) (by decide))
          | (with_reducible exact zn_ina (by omega) (by decide))
          | (with_reducible exact zn_inc (by omega) (by decide))
          | (with_reducible exact zn_ind (by omega) (by decide))
          | (with_reducible exact zn_ine (by omega) (by decide))
          | ((conv => whnf); first | (with_reducible refine And.intro ?_ ?_) | ((with_reducible intro h9); first | exact absurd h9 (by decide) | ((rw [hw] at h9; first | exact absurd h9 (by decide) | skip)) | skip) | (with_reducible refine hK _ _ _ _ (sm_un ?_)) | (refine l_put (hC.mono (by omega)) d1 hI2 (by decide) (by decide) h8 (fun G3 hx3 hI3 => ?_)))
      all_goals
        simp only [nI_add]
        exact ⟨⟨fin G3 _ hx3 hI3⟩⟩
    obtain ⟨d1, d2, d3, d4, d5, d6⟩ := id hd
    have d4' : G1 30 (nI 6).toNatClampNeg = nI n := d4
    refine sm_body [70] 80 sm_k80 (fun CT K hC hK => ?_)
    obtain ⟨m, hm, em⟩ := z7 (sm_shr (nI x) (nI 3 + nI 3 * nI i))
    have efa : n ≤ i → fa S1 = S1 0 3 := fun hl => by
      unfold fa
      refine lead_eq (fun j hj => ?_) (gp_f (by omega)) 8 (by omega)
      rw [gp_g (by omega)]
      exact (d6 j (by omega)).1
    have eD : n ≤ i → A_day S1 = nI n ∧ N_day S1 = dayS S1 := fun hl => by
      have hok : ¬ (S1 0 3 = 0 ∨ fa S1 ≠ S1 0 3) := by have := efa hl; omega
      unfold A_day N_day
      rw [if_f hok, if_f hok]
      exact ⟨nI_i (by omega), rfl⟩
    repeat' first
      | (with_reducible refine And.intro ?_ ?_)
      | ((with_reducible intro h9); first | exact absurd h9 (by decide) | (replace h9 := nle d4' (by omega) (by omega) h9) | (replace h9 := yle d4' (by omega) (by omega) h9) | ((rw [d4', efa ‹_›, d3] at h9; first | exact absurd (show i = n by omega) (zneq h9) | skip)) | ((rw [d4'] at h9; skip)) | skip)
      | (with_reducible exact zn_in (by omega) (by decide))
      | (with_reducible exact z01) | (with_reducible exact z11) | (with_reducible exact zb01 _)
      | (with_reducible exact zn_inb (by omega) (by decide))
      | (with_reducible exact zn_ina (by omega) (by decide))
      | (with_reducible exact zn_inc (by omega) (by decide))
      | (with_reducible exact zn_ind (by omega) (by decide))
      | (with_reducible exact zn_ine (by omega) (by decide))
      | ((conv => whnf); first | (with_reducible refine And.intro ?_ ?_) | ((with_reducible intro h9); first | exact absurd h9 (by decide) | (replace h9 := nle d4' (by omega) (by omega) h9) | (replace h9 := yle d4' (by omega) (by omega) h9) | ((rw [d4', efa ‹_›, d3] at h9; first | exact absurd (show i = n by omega) (zneq h9) | skip)) | ((rw [d4'] at h9; skip)) | skip) | (with_reducible refine hK _ _ _ _ (sm_un ?_)) | (refine f_fault (hC.mono (by omega)) d1 d2 ?_) | (refine f_day (hC.mono (by omega)) d1 d2 (fun G2 hx2 hI2 => ?_)))
    · have hl : n ≤ i := by assumption
      exact absurd (show A_day S1 = G2 30 (nI 6).toNatClampNeg by rw [hx2 30 rfl, (eD hl).1]; exact d4.symm) h9
    · have hl : n ≤ i := by assumption
      rw [(eD hl).2] at hI2
      have hR2 := R_day d1
      rw [(eD hl).2] at hR2
      have e31 : G2 31 = G 31 := by rw [hx2 31 rfl, hx 31 rfl]
      refine hQ G2 (dayS S1) (eqx_trans (eqx_sub rfl hx) (eqx_sub rfl hx2)) ⟨hR2, hI2, ⟨?_, ?_, fun j hj => ?_, fun j hj => absurd hj (Nat.not_lt_zero _)⟩, ⟨?_, fun k hk => absurd hk (Nat.not_lt_zero _)⟩, ?_⟩ rfl rfl
      · show G2 30 6 = nI (S1 0 3)
        rw [hx2 30 rfl, d4]
        exact nI_i (by omega)
      · show G2 30 7 = nI 0
        rw [hx2 30 rfl, d5]
      · have hj : j < S1 0 3 := hj
        show G2 30 j = wI (dw (S1 5 j))
        rw [hx2 30 rfl]
        exact (d6 j (by omega)).2
      · show G2 31 30 = nI 0
        rw [e31]
        exact h31
      · show 0 < S1 0 3
        omega
    all_goals have hl : i < n := by assumption
    · simp only [em, zn_a3, hp_0, hp_1, hp_2, hp_3, hp_4, hp_5, hp_6, hp_7, hp_8, hp_9, hp_10, hp_11, hp_12, hp_13, hp_14, hp_15, hp_16, hp_17, hp_18, hp_19, hp_20, hp_22, hp_23, hp_24, hp_25, hp_26, hp_27, hp_28, hp_29, hp_30, hp_31, hp_32, hp_33, hp_34, hp_35, hf0_5, hf0_6, hf0_7, hf1_1, hf3_0, hf3_2, hf3_6, hf10_0, hf10_2, hf10_6, hf17_3, hf17_4, hf20_3, hf20_4, upd_su, updL_su, zn_clI (show i < 2 ^ 31 by omega)]
      exact ⟨⟨tail hl (m % 4) (by omega) _ _ _ (eqx_su 30 _ rfl eqx_rfl) (fun j hj => by rw [su_eq, su_ne _ _ hj]) (by rw [su_eq, su_eq, wI_t (by omega)])⟩⟩
    · simp only [em, zn_a3, hp_0, hp_1, hp_2, hp_3, hp_4, hp_5, hp_6, hp_7, hp_8, hp_9, hp_10, hp_11, hp_12, hp_13, hp_14, hp_15, hp_16, hp_17, hp_18, hp_19, hp_20, hp_22, hp_23, hp_24, hp_25, hp_26, hp_27, hp_28, hp_29, hp_30, hp_31, hp_32, hp_33, hp_34, hp_35, hf0_5, hf0_6, hf0_7, hf1_1, hf3_0, hf3_2, hf3_6, hf10_0, hf10_2, hf10_6, hf17_3, hf17_4, hf20_3, hf20_4, upd_su, updL_su, zn_clI (show i < 2 ^ 31 by omega)]
      exact ⟨⟨tail hl (m % 4) (by omega) _ _ _ (eqx_su 30 _ rfl eqx_rfl) (fun j hj => by rw [su_eq, su_ne _ _ hj]) (by rw [su_eq, su_eq, wI_t (by omega)])⟩⟩
    · simp only [hp_0, hp_1, hp_2, hp_3, hp_4, hp_5, hp_6, hp_7, hp_8, hp_9, hp_10, hp_11, hp_12, hp_13, hp_14, hp_15, hp_16, hp_17, hp_18, hp_19, hp_20, hp_22, hp_23, hp_24, hp_25, hp_26, hp_27, hp_28, hp_29, hp_30, hp_31, hp_32, hp_33, hp_34, hp_35, hf0_5, hf0_6, hf0_7, hf1_1, hf3_0, hf3_2, hf3_6, hf10_0, hf10_2, hf10_6, hf17_3, hf17_4, hf20_3, hf20_4, upd_su, updL_su, zn_clI (show i < 2 ^ 31 by omega)]
      exact ⟨⟨tail hl 4 (by omega) _ _ _ (eqx_su 30 _ rfl eqx_rfl) (fun j hj => by rw [su_eq, su_ne _ _ hj]) (by rw [su_eq, su_eq, wI_4])⟩⟩
  refine sm_body [24] 80 sm_k80 (fun CT K hC hK => ?_)
  repeat' first
    | (with_reducible refine And.intro ?_ ?_)
    | ((with_reducible intro h9); first | exact absurd h9 (by decide) | skip)
    | (with_reducible exact zn_in (by omega) (by decide))
    | (with_reducible exact z01) | (with_reducible exact z11) | (with_reducible exact zb01 _)
    | (with_reducible exact zn_inb (by omega) (by decide))
    | (with_reducible exact zn_ina (by omega) (by decide))
    | (with_reducible exact zn_inc (by omega) (by decide))
    | (with_reducible exact zn_ind (by omega) (by decide))
    | (with_reducible exact zn_ine (by omega) (by decide))
    | ((conv => whnf); first | (with_reducible refine And.intro ?_ ?_) | ((with_reducible intro h9); first | exact absurd h9 (by decide) | skip) | (with_reducible refine hK _ _ _ _ (sm_un ?_)))
  simp only [en, hp_0, hp_1, hp_2, hp_3, hp_4, hp_5, hp_6, hp_7, hp_8, hp_9, hp_10, hp_11, hp_12, hp_13, hp_14, hp_15, hp_16, hp_17, hp_18, hp_19, hp_20, hp_22, hp_23, hp_24, hp_25, hp_26, hp_27, hp_28, hp_29, hp_30, hp_31, hp_32, hp_33, hp_34, hp_35, hf0_5, hf0_6, hf0_7, hf1_1, hf3_0, hf3_2, hf3_6, hf10_0, hf10_2, hf10_6, hf17_3, hf17_4, hf20_3, hf20_4, upd_su, updL_su, c6, c7, su_eq, su_su]
  exact ⟨⟨lo 0 (Nat.zero_le _) _ S _ _ (eqx_su 30 _ rfl eqx_rfl) ⟨hR, Ic_30 (eqx_su 30 _ rfl eqx_rfl) hI, h3, by rw [su_eq, su_ne _ _ (by decide), su_eq], by rw [su_eq, su_eq], fun j hj => absurd hj (Nat.not_lt_zero _)⟩⟩⟩
set_option maxRecDepth 100000 in
set_option maxHeartbeats 4000000 in
/-- the law's vane -/
theorem l_vane (hC : sm_C 4 CT) {x : Nat} (hx31 : x < 2 ^ 31) (hI : LI S G) (h4 : S 0 1 < 4) (h0 : S 0 2 = 0)
    (hQ : ∀ G' S', eqx lawA G G' → LI S' G' → S' 0 0 = S 0 0 → S' 0 1 = S 0 1 + 1 → S' 0 2 = 0 → Q (some (.int (nI 1))) (hp G' L)) : CT 81 [.ref 0, .int (nI x), .ref 30] (hp G L) Q := by
  obtain ⟨hR, hIc, ⟨w1, w2, w3, w4⟩, hS, hpos⟩ := hI
  obtain ⟨m, em⟩ : ∃ m, m = S 0 1 := ⟨_, rfl⟩
  rw [← em] at h4 w2
  have w2' : G 30 (nI 7).toNatClampNeg = nI m := w2
  have hr6 := hR.1.1
  have hk : inb (nI (x % 5)) 5 = true := inb_n (by omega) (by decide)
  have ha : inb (nI (x / 8 % 4)) 4 = true := inb_n (by omega) (by decide)
  have ht : inb (nI (x / 32 % 4)) 4 = true := inb_n (by omega) (by decide)
  have eN : N_vane S (nI (x % 5)) (nI (x / 8 % 4)) (nI (x / 32 % 4)) = vaneS S (x % 5) (x / 8 % 4) (x / 32 % 4) := by
    unfold N_vane okVane
    rw [hk, ha, ht, if_f (show ¬ S 0 0 = 0 by omega), if_f (show ¬ S 0 1 = 4 by omega), zn_clI (by omega), zn_clI (by omega), zn_clI (by omega)]
    rfl
  have eA : A_vane S (nI (x % 5)) (nI (x / 8 % 4)) (nI (x / 32 % 4)) = nI m := by
    unfold A_vane okVane
    rw [hk, ha, ht, if_f (show ¬ S 0 0 = 0 by omega), if_f (show ¬ S 0 1 = 4 by omega), em]
    rfl
  have q1 : sm_ir (nI x) (nI 5) = nI (x % 5) := zn_ir hx31 (by decide) (by decide)
  have q2 : sm_ir (nI x / nI 8) (nI 4) = nI (x / 8 % 4) := by rw [pk_div hx31 (by decide) (by decide), zn_ir (by omega) (by decide) (by decide)]
  have q3 : sm_ir (nI x / nI 32) (nI 4) = nI (x / 32 % 4) := by rw [pk_div hx31 (by decide) (by decide), zn_ir (by omega) (by decide) (by decide)]
  refine sm_meth hC [some (.ref 0), some (.int (nI x)), some (.ref 30), none] rfl rfl rfl ?_
  have tail : ∀ G1, eqx [30] G G1 → (∀ j, j < 7 → G1 30 j = G 30 j) → (∀ j, 8 ≤ j → j < 8 + 3 * m → G1 30 j = G 30 j) → G1 30 7 = nI (m + 1) → G1 30 (8 + 3 * m) = nI (x % 5) → G1 30 (8 + 3 * m + 1) = nI (x / 8 % 4) → G1 30 (8 + 3 * m + 2) = nI (x / 32 % 4) → sm_Wk 3 81 Q none 46 [some (.ref 0), some (.int (nI x)), some (.ref 30), some (.int (nI (8 + 3 * m)))] [] (hp G1 L) := by
    intro G1 hx a1 a2 a3 a4 a5 a6
    have hI1 := Ic_30 hx hIc
    have b4 : G1 30 (nI (8 + 3 * m)).toNatClampNeg = nI (x % 5) := by rw [zn_clI (by omega)]; exact a4
    have b5 : G1 30 (nI (8 + 3 * m) + nI 1).toNatClampNeg = nI (x / 8 % 4) := by rw [nI_add, zn_clI (by omega)]; exact a5
    have b6 : G1 30 (nI (8 + 3 * m) + nI 2).toNatClampNeg = nI (x / 32 % 4) := by rw [nI_add, zn_clI (by omega)]; exact a6
    refine sm_body [] 80 sm_k81 (fun CT K hC hK => ?_)
    repeat' first
      | (with_reducible refine And.intro ?_ ?_)
      | ((with_reducible intro h9); first | exact absurd h9 (by decide) | skip)
      | (with_reducible exact zn_in (by omega) (by decide))
      | (with_reducible exact z01) | (with_reducible exact z11) | (with_reducible exact zb01 _)
      | (with_reducible exact zn_inb (by omega) (by decide))
      | (with_reducible exact zn_ina (by omega) (by decide))
      | (with_reducible exact zn_inc (by omega) (by decide))
      | (with_reducible exact zn_ind (by omega) (by decide))
      | (with_reducible exact zn_ine (by omega) (by decide))
      | ((conv => whnf); first | (with_reducible refine And.intro ?_ ?_) | ((with_reducible intro h9); first | exact absurd h9 (by decide) | skip) | (with_reducible refine hK _ _ _ _ (sm_un ?_)) | (rw [b4, b5, b6]; refine f_vane (hC.mono (by omega)) hR hI1 (fun G2 hx2 hI2 => ?_)))
    all_goals
      have a3' : G2 30 (nI 7).toNatClampNeg = nI (m + 1) := by rw [hx2 30 rfl]; exact a3
      rw [eA, a3', pk_sub (by omega)] at h9
    · exact absurd rfl h9
    · rw [eN] at hI2
      have hR2 := R_vane hR (nI (x % 5)) (nI (x / 8 % 4)) (nI (x / 32 % 4))
      rw [eN] at hR2
      have e30 : G2 30 = G1 30 := hx2 30 rfl
      refine hQ G2 _ (eqx_trans (eqx_sub rfl hx) (eqx_sub rfl hx2)) ⟨hR2, hI2, ⟨?_, ?_, fun j hj => ?_, fun j hj => ?_⟩, ?_, hpos⟩ rfl rfl h0
      · show G2 30 6 = nI (S 0 0)
        rw [e30, a1 6 (by decide)]
        exact w1
      · show G2 30 7 = nI (S 0 1 + 1)
        rw [e30, a3, em]
      · have hj : j < S 0 0 := hj
        show G2 30 j = wI (S 1 j)
        rw [e30, a1 j (by omega)]
        exact w3 j hj
      · have hj : j < S 0 1 + 1 := hj
        show G2 30 (8 + 3 * j) = nI (su (S 2) (S 0 1) (x % 5) j) ∧ G2 30 (9 + 3 * j) = nI (su (S 3) (S 0 1) (x / 8 % 4) j) ∧ G2 30 (10 + 3 * j) = nI (su (S 4) (S 0 1) (x / 32 % 4) j)
        rw [e30, ← em, su_if, su_if, su_if]
        by_cases e : j = m
        · subst e
          rw [if_t rfl, if_t rfl, if_t rfl, show 9 + 3 * j = 8 + 3 * j + 1 by omega, show 10 + 3 * j = 8 + 3 * j + 2 by omega]
          exact ⟨a4, a5, a6⟩
        · rw [if_f e, if_f e, if_f e, a2 _ (by omega) (by omega), a2 _ (by omega) (by omega), a2 _ (by omega) (by omega)]
          exact w4 j (by omega)
      · have e31 : G2 31 = G 31 := by rw [hx2 31 rfl, hx 31 rfl]
        unfold wS at hS ⊢
        rw [e31]
        exact hS
  refine sm_body [46] 80 sm_k81 (fun CT K hC hK => ?_)
  repeat' first
    | (with_reducible refine And.intro ?_ ?_)
    | ((with_reducible intro h9); first | exact absurd h9 (by decide) | skip)
    | (with_reducible exact zn_in (by omega) (by decide))
    | (with_reducible exact z01) | (with_reducible exact z11) | (with_reducible exact zb01 _)
    | (with_reducible exact zn_inb (by omega) (by decide))
    | (with_reducible exact zn_ina (by omega) (by decide))
    | (with_reducible exact zn_inc (by omega) (by decide))
    | (with_reducible exact zn_ind (by omega) (by decide))
    | (with_reducible exact zn_ine (by omega) (by decide))
    | ((conv => whnf); first | (with_reducible refine And.intro ?_ ?_) | ((with_reducible intro h9); first | exact absurd h9 (by decide) | skip) | (with_reducible refine hK _ _ _ _ (sm_un ?_)) | ((simp only [w2', pk_mul, nI_add]; exact zn_in (by omega) (by decide))))
  have e7 : ∀ a b c : Int32, su (su (su (G 30) (8 + 3 * m) a) (8 + 3 * m + 1) b) (8 + 3 * m + 2) c 7 = nI m := fun a b c => by
    rw [su_ne _ _ (by omega), su_ne _ _ (by omega), su_ne _ _ (by omega)]
    exact w2
  have f0 : (nI (8 + 3 * m)).toNatClampNeg = 8 + 3 * m := zn_clI (by omega)
  have f1 : (nI (8 + 3 * m + 1)).toNatClampNeg = 8 + 3 * m + 1 := zn_clI (by omega)
  have f2 : (nI (8 + 3 * m + 2)).toNatClampNeg = 8 + 3 * m + 2 := zn_clI (by omega)
  simp only [w2, w2', pk_mul, nI_add, q1, q2, q3, f0, f1, f2, c7, hp_0, hp_1, hp_2, hp_3, hp_4, hp_5, hp_6, hp_7, hp_8, hp_9, hp_10, hp_11, hp_12, hp_13, hp_14, hp_15, hp_16, hp_17, hp_18, hp_19, hp_20, hp_22, hp_23, hp_24, hp_25, hp_26, hp_27, hp_28, hp_29, hp_30, hp_31, hp_32, hp_33, hp_34, hp_35, hf0_5, hf0_6, hf0_7, hf1_1, hf3_0, hf3_2, hf3_6, hf10_0, hf10_2, hf10_6, hf17_3, hf17_4, hf20_3, hf20_4, upd_su, updL_su, su_eq, su_su, e7]
  have ga : ∀ j, j < 8 + 3 * m → j ≠ 7 → ∀ a b c d : Int32, su (su (su (su (G 30) (8 + 3 * m) a) (8 + 3 * m + 1) b) (8 + 3 * m + 2) c) 7 d j = G 30 j := fun j h1 h2 a b c d => by
    rw [su_ne _ _ (by omega), su_ne _ _ (by omega), su_ne _ _ (by omega), su_ne _ _ (by omega)]
  refine ⟨⟨tail _ (eqx_su 30 _ rfl eqx_rfl) (fun j hj => ?_) (fun j h1 h2 => ?_) ?_ ?_ ?_ ?_⟩⟩
  · rw [su_eq]; exact ga j (by omega) (by omega) _ _ _ _
  · rw [su_eq]; exact ga j (by omega) (by omega) _ _ _ _
  · rw [su_eq, su_eq]
  · rw [su_eq, su_ne _ _ (by omega), su_ne _ _ (by omega), su_ne _ _ (by omega), su_eq]
  · rw [su_eq, su_ne _ _ (by omega), su_ne _ _ (by omega), su_eq]
  · rw [su_eq, su_ne _ _ (by omega), su_eq]
end START
