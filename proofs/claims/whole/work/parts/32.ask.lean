/-! ask, sorts, oiling: both sides. -/
def incA (S : Nat → Nat → Nat) : Nat → Nat → Nat := su S 0 (su (S 0) 5 (S 0 5 + 1))
def bc (S : Nat → Nat → Nat) (k : Nat) : Nat × Nat := if k = 0 then (0, aAll S + 1) else bl S k
theorem bc_0 {S : Nat → Nat → Nat} : bc S 0 = (0, aAll S + 1) := rfl
theorem bc_s {S : Nat → Nat → Nat} {k : Nat} (h : k ≠ 0) : bc S k = bl S k := if_f h
theorem sg_le {g g' : Nat → Nat} : ∀ {n}, (∀ i, i < n → g i ≤ g' i) → sg n g ≤ sg n g'
  | 0, _ => Nat.le_refl _
  | n + 1, h => by
    have h1 := sg_le (n := n) (fun i hi => h i (by omega))
    have h2 := h n (by omega)
    show sg n g + g n ≤ sg n g' + g' n
    omega
theorem cnt_all {S : Nat → Nat → Nat} (hR : dR S) (P : (Nat → Nat) → Bool) : cnt S P ≤ aAll S := by
  unfold aAll
  rw [cnt_codes hR, cnt_codes hR]
  refine sg_le (fun i _ => ?_)
  cases ft S (wd S i) with
  | false => exact Nat.le_refl _
  | true =>
    cases P (wd S i) with
    | false => exact Nat.zero_le _
    | true => exact Nat.le_refl _
theorem ws_all {S : Nat → Nat → Nat} (hR : dR S) {k : Nat} (h : k % 6 < S 0 0) : ws S k < aAll S + 1 := by
  unfold ws
  rw [if_t h]
  exact mq_lt (c := aPt S (k / 6) (k % 6)) (M := aAll S + 1) (by omega) 4 (fun q _ => Nat.lt_succ_of_le (cnt_all hR _))
theorem bl_A {S : Nat → Nat → Nat} {k : Nat} (h : ws S k < (bl S k).2) : bl S (k + 1) = (k, ws S k) := by
  rw [bl]
  exact if_t h
theorem bl_B {S : Nat → Nat → Nat} {k : Nat} (h : ¬ ws S k < (bl S k).2) : bl S (k + 1) = bl S k := by
  rw [bl]
  exact if_f h
theorem ws_lt {S : Nat → Nat → Nat} (hR : dR S) {k : Nat} (h : k % 6 < S 0 0) : ws S k < 8192 := by
  unfold ws
  rw [if_t h]
  have := mq_lt (c := aPt S (k / 6) (k % 6)) (M := 4097) (by decide) 4 (fun q _ => by have := cnt_le hR (fun w => Nat.beq (ps S w (k / 6) (k % 6 + 1)) q); unfold aPt; omega)
  omega
theorem bc_A {S : Nat → Nat → Nat} (hR : dR S) {k : Nat} (hk : k % 6 < S 0 0) (h : ws S k < (bc S k).2) : bc S (k + 1) = (k, ws S k) := by
  rw [bc_s (by omega)]
  apply bl_A
  by_cases e : k = 0
  · subst e
    exact ws_lt hR hk
  · rw [bc_s e] at h
    exact h
theorem bc_B {S : Nat → Nat → Nat} (hR : dR S) {k : Nat} (hk : k % 6 < S 0 0) (h : ¬ ws S k < (bc S k).2) : bc S (k + 1) = bc S k := by
  by_cases e : k = 0
  · subst e
    exact absurd (ws_all hR hk) h
  · rw [bc_s e] at h ⊢
    rw [bc_s (by omega)]
    exact bl_B h
theorem bc_row {S : Nat → Nat → Nat} (h0 : 0 < S 0 0) {v : Nat} : ∀ d, S 0 0 + d ≤ 6 → bc S (6 * v + (S 0 0 + d)) = bc S (6 * v + S 0 0)
  | 0, _ => rfl
  | d + 1, h => by
    rw [show 6 * v + (S 0 0 + (d + 1)) = 6 * v + (S 0 0 + d) + 1 by omega, bc_s (by omega)]
    have e : ws S (6 * v + (S 0 0 + d)) = 8192 := by
      unfold ws
      exact if_f (by omega)
    have hle := bl_le (S := S) (6 * v + (S 0 0 + d))
    rw [bl_B (by omega), ← bc_s (by omega)]
    exact bc_row h0 d (by omega)
theorem bc_le {S : Nat → Nat → Nat} (hR : dR S) (k : Nat) : (bc S k).2 ≤ 8192 := by
  unfold bc
  split
  · have := cnt_le hR (fun _ => true)
    show cnt S (fun _ => true) + 1 ≤ 8192
    omega
  · exact bl_le (S := S) k
theorem bl_ws {S : Nat → Nat → Nat} : ∀ k, (bl S k).1 = 24 ∨ ((bl S k).1 % 6 < S 0 0 ∧ ws S (bl S k).1 = (bl S k).2)
  | 0 => Or.inl rfl
  | k + 1 => by
    by_cases h : ws S k < (bl S k).2
    · rw [bl_A h]
      refine Or.inr ⟨?_, rfl⟩
      show k % 6 < S 0 0
      by_cases hk : k % 6 < S 0 0
      · exact hk
      · have e : ws S k = 8192 := by
          unfold ws
          exact if_f hk
        have := bl_le (S := S) k
        omega
    · rw [bl_B h]
      exact bl_ws k
section ASK
variable {CT : sm_CT} {G : Nat → Nat → Int32} {L : Nat → Nat → Int64} {Q : sm_Q} {S : Nat → Nat → Nat} {c : Nat} {h : sm_H}
set_option maxRecDepth 100000 in
set_option maxHeartbeats 4000000 in
theorem s_bestPlace (hC : sm_C 3 CT) (hR : dR S) (e1 : G 3 0 = nI (S 0 0)) (e2 : G 3 2 = nI (S 0 1)) (ea : G 17 3 = nI (aAll S)) (h0 : 0 < S 0 0) (hv : 0 < S 0 1) (hG : ∀ v, v < S 0 1 → ∀ k, k < S 0 0 → ∀ q, q < 4 → G 18 ((v * 6 + k) * 4 + q) = nI (aPt S v k q)) (hQ : Q (some (.int (nI (bl S (6 * S 0 1)).1))) (hp G L)) : CT 34 [.ref 17] (hp G L) Q := by
  obtain ⟨r1, r2, r3, r4⟩ := id hR
  refine sm_meth hC [some (.ref 17), none, none, none, none, none] rfl rfl rfl ?_
  have lo : ∀ v, v ≤ S 0 1 → ∀ o4 o5, sm_Wk 2 34 Q none 11 [some (.ref 17), some (.int (nI (bc S (6 * v)).1)), some (.int (nI (bc S (6 * v)).2)), some (.int (nI v)), o4, o5] [] (hp G L) := by
    refine up _ (fun v hvl ih o4 o5 => ?_)
    have inner : v < S 0 1 → ∀ k, k ≤ S 0 0 → ∀ o5, sm_Wk 2 34 Q none 25 [some (.ref 17), some (.int (nI (bc S (6 * v + k)).1)), some (.int (nI (bc S (6 * v + k)).2)), some (.int (nI v)), some (.int (nI k)), o5] [] (hp G L) := by
      intro hl
      refine up _ (fun k hk ihk o5 => ?_)
      have hle := bc_le hR (6 * v + k)
      refine sm_body [11, 25] 80 sm_k34 (fun CT K hC hK => ?_)
      have hws := ws_le hR (6 * v + k)
      have hm : k < S 0 0 → mq 4 (aPt S v k) = ws S (6 * v + k) := fun h => by
        unfold ws
        rw [if_t (show (6 * v + k) % 6 < S 0 0 by omega), show (6 * v + k) / 6 = v by omega, show (6 * v + k) % 6 = k by omega]
      repeat' first
        | (with_reducible refine And.intro ?_ ?_)
        | ((with_reducible intro h9); first | exact absurd h9 (by decide) | (replace h9 := nle e1 (by omega) (by omega) h9) | (replace h9 := yle e1 (by omega) (by omega) h9) | ((rw [hm ‹_›] at h9; replace h9 := zle (by omega) (by omega) h9)) | ((rw [hm ‹_›] at h9; replace h9 := znle (by omega) (by omega) h9)) | skip)
        | (with_reducible exact zn_in (by omega) (by decide))
        | (with_reducible exact z01) | (with_reducible exact z11) | (with_reducible exact zb01 _)
        | (with_reducible exact zn_inb (by omega) (by decide))
        | (with_reducible exact zn_ina (by omega) (by decide))
        | (with_reducible exact zn_inc (by omega) (by decide))
        | ((conv => whnf); first | (with_reducible refine And.intro ?_ ?_) | ((with_reducible intro h9); first | exact absurd h9 (by decide) | (replace h9 := nle e1 (by omega) (by omega) h9) | (replace h9 := yle e1 (by omega) (by omega) h9) | ((rw [hm ‹_›] at h9; replace h9 := zle (by omega) (by omega) h9)) | ((rw [hm ‹_›] at h9; replace h9 := znle (by omega) (by omega) h9)) | skip) | (with_reducible refine hK _ _ _ _ (sm_un ?_)) | (with_reducible refine s_worst (c := aPt S v k) (hC.mono (by omega)) (by omega) (by omega) (fun q _ => aPt31 hR v k q) (hG v hl k ‹_›) ?_))
      · obtain rfl : k = S 0 0 := by omega
        have e := bc_row (S := S) (v := v) h0 (6 - S 0 0) (by omega)
        rw [show 6 * v + (S 0 0 + (6 - S 0 0)) = 6 * (v + 1) by omega] at e
        have e2 := ih hl (some (.int (nI (S 0 0)))) o5
        rw [e] at e2
        simp only [nI_add]; exact ⟨⟨e2⟩⟩
      · have e := ihk ‹_› (some (.int (nI (ws S (6 * v + k)))))
        rw [show 6 * v + (k + 1) = 6 * v + k + 1 by omega, bc_B hR (by omega) (by omega)] at e
        simp only [nI_add, hm ‹_›]
        exact ⟨⟨e⟩⟩
      · have e := ihk ‹_› (some (.int (nI (ws S (6 * v + k)))))
        rw [show 6 * v + (k + 1) = 6 * v + k + 1 by omega, bc_A hR (by omega) h9] at e
        simp only [nI_add, pk_mul, hm ‹_›]
        rw [show v * 6 + k = 6 * v + k by omega]
        exact ⟨⟨e⟩⟩
    refine sm_body [11, 25] 80 sm_k34 (fun CT K hC hK => ?_)
    repeat' first
      | (with_reducible refine And.intro ?_ ?_)
      | ((with_reducible intro h9); first | exact absurd h9 (by decide) | (replace h9 := nle e2 (by omega) (by omega) h9) | (replace h9 := yle e2 (by omega) (by omega) h9) | skip)
      | (with_reducible exact zn_in (by omega) (by decide))
      | (with_reducible exact z01) | (with_reducible exact z11) | (with_reducible exact zb01 _)
      | (with_reducible exact zn_inb (by omega) (by decide))
      | (with_reducible exact zn_ina (by omega) (by decide))
      | (with_reducible exact zn_inc (by omega) (by decide))
      | ((conv => whnf); first | (with_reducible refine And.intro ?_ ?_) | ((with_reducible intro h9); first | exact absurd h9 (by decide) | (replace h9 := nle e2 (by omega) (by omega) h9) | (replace h9 := yle e2 (by omega) (by omega) h9) | skip) | (with_reducible refine hK _ _ _ _ (sm_un ?_)))
    · obtain rfl : v = S 0 1 := by omega
      rw [bc_s (by omega)]
      exact hQ
    · exact ⟨⟨inner h9 0 (Nat.zero_le _) o5⟩⟩
  refine sm_body [11] 60 sm_k34 (fun CT K hC hK => ?_)
  repeat' first
    | (with_reducible refine And.intro ?_ ?_)
    | ((with_reducible intro h9); first | exact absurd h9 (by decide) | skip)
    | (with_reducible exact zn_in (by omega) (by decide))
    | (with_reducible exact z01) | (with_reducible exact z11) | (with_reducible exact zb01 _)
    | (with_reducible exact zn_inb (by omega) (by decide))
    | (with_reducible exact zn_ina (by omega) (by decide))
    | (with_reducible exact zn_inc (by omega) (by decide))
    | ((conv => whnf); first | (with_reducible refine And.intro ?_ ?_) | ((with_reducible intro h9); first | exact absurd h9 (by decide) | skip) | (with_reducible refine hK _ _ _ _ (sm_un ?_)))
  simp only [hp_0, hp_1, hp_2, hp_3, hp_4, hp_5, hp_6, hp_7, hp_8, hp_9, hp_10, hp_11, hp_12, hp_13, hp_14, hp_15, hp_16, hp_17, hp_18, hp_19, hp_20, hp_22, hp_23, hp_24, hp_25, hp_26, hp_27, hp_28, hp_29, hp_30, hp_31, hp_32, hp_33, hp_34, hp_35, hp_36, hp_37, hp_38, hp_39, hp_40, hp_41, hp_42, hp_43, hp_44, hp_45, hp_46, hp_47, hp_48, hp_49, hf0_5, hf0_6, hf0_7, hf1_1, hf3_0, hf3_2, hf3_6, hf10_0, hf10_2, hf10_6, hf17_3, hf17_4, hf20_3, hf20_4, hf30_0, hf30_1, hf30_3, hf30_7, hf30_11, hf30_12, hf30_20, hf30_22, hf30_23, hf30_24, hf30_25, hf30_21, hf30_31, upd_su, updL_su, ea, nI_add]
  exact ⟨⟨lo 0 (Nat.zero_le _) _ _⟩⟩
set_option maxRecDepth 100000 in
set_option maxHeartbeats 4000000 in
theorem s_isInquiryClosed (hC : sm_C 1 CT) (e2 : G 3 2 = nI (S 0 1)) (hv : S 0 1 ≤ 4) (ea : G 0 7 = nI (S 0 5)) (ha : S 0 5 ≤ 30) (hQ : Q (some (.int (sm_b (decide (S 0 1 = 0 ∨ 30 ≤ S 0 5))))) (hp G L)) : CT 66 [.ref 0] (hp G L) Q := by
  refine sm_meth hC [some (.ref 0)] rfl rfl rfl ?_
  refine sm_body [] 80 sm_k66 (fun CT K hC hK => ?_)
  repeat' first
    | (with_reducible refine And.intro ?_ ?_)
    | ((with_reducible intro h9); first | exact absurd h9 (by decide) | ((rw [e2] at h9; replace h9 := zneq h9)) | ((rw [e2] at h9; replace h9 := zeq (b := 0) (by omega) (by omega) h9)) | ((rw [ea] at h9; replace h9 := zlt (b := 30) (by omega) (by omega) h9)) | ((rw [ea] at h9; replace h9 := znl (b := 30) (by omega) (by omega) h9)) | skip)
    | (with_reducible exact zn_in (by omega) (by decide))
    | (with_reducible exact z01) | (with_reducible exact z11) | (with_reducible exact zb01 _)
    | (with_reducible exact zn_inb (by omega) (by decide))
    | (with_reducible exact zn_ina (by omega) (by decide))
    | (with_reducible exact zn_inc (by omega) (by decide))
    | ((conv => whnf); first | (with_reducible refine And.intro ?_ ?_) | ((with_reducible intro h9); first | exact absurd h9 (by decide) | ((rw [e2] at h9; replace h9 := zneq h9)) | ((rw [e2] at h9; replace h9 := zeq (b := 0) (by omega) (by omega) h9)) | ((rw [ea] at h9; replace h9 := zlt (b := 30) (by omega) (by omega) h9)) | ((rw [ea] at h9; replace h9 := znl (b := 30) (by omega) (by omega) h9)) | skip) | (with_reducible refine hK _ _ _ _ (sm_un ?_)))
  all_goals first
    | (exact zq (dc_f (by omega)) hQ)
    | (exact zq (dc_t (by omega)) hQ)
def A_ask (S : Nat → Nat → Nat) (x : Int32) : Int32 := cond (inb x 3) (if S 0 1 = 0 ∨ 30 ≤ S 0 5 then -103 else askR S x.toNatClampNeg) (-102)
def N_ask (S : Nat → Nat → Nat) (x : Int32) : Nat → Nat → Nat := cond (inb x 3) (if S 0 1 = 0 ∨ 30 ≤ S 0 5 then S else incA S) S
theorem R_inc (hR : RS c S) (h : ¬ (S 0 1 = 0 ∨ 30 ≤ S 0 5)) : RS c (incA S) := by
  obtain ⟨a1, a2, a3, a4, a5, a6, a7, a8, a9⟩ := hR
  refine ⟨dR_sim ⟨rfl, rfl, rfl, rfl, rfl, rfl, rfl, rfl, rfl, rfl⟩ a1, nR_sim ⟨rfl, rfl, rfl, rfl, rfl, rfl, rfl, rfl, rfl, rfl⟩ a2, a3, a4, a5, ?_, a7, a8, fun h => ⟨(a9 h).1, (a9 h).2.1, dR_sim ⟨rfl, rfl, rfl, rfl, rfl, rfl, rfl, rfl, rfl, rfl⟩ (a9 h).2.2.1, nR_sim ⟨rfl, rfl, rfl, rfl, rfl, rfl, rfl, rfl, rfl, rfl⟩ (a9 h).2.2.2⟩⟩
  show S 0 5 + 1 ≤ 30
  omega
theorem R_ask (hR : RS c S) (x : Int32) : RS c (N_ask S x) := by
  unfold N_ask
  cases inb x 3 with
  | false => exact hR
  | true =>
    simp only [cond_true]
    split
    · exact hR
    · exact R_inc hR ‹_›
/-- the class behind inquiries++ -/
theorem I_inc (hI : Ic S G) : Ic (incA S) (su G 0 (su (G 0) 7 (G 0 7 + nI 1))) := by
  obtain ⟨i1, i2, i3, i4, i5⟩ := hI
  refine ⟨hF_sim ⟨rfl, rfl, rfl, rfl, rfl, rfl, rfl, rfl, rfl, rfl⟩ i1, i2, ⟨i3.1, i3.2.1, ?_⟩, (by have e : cT (incA S) G := cT_sim (S := S) (S' := incA S) ⟨rfl, rfl, rfl, rfl, rfl, rfl, rfl, rfl, rfl, rfl⟩ i4; exact e), fun h => hF_sim ⟨rfl, rfl, rfl, rfl, rfl, rfl, rfl, rfl, rfl, rfl⟩ (i5 h)⟩
  show G 0 7 + nI 1 = nI (S 0 5 + 1)
  rw [i3.2.2, nI_add]
theorem J_inc (hI : Im c S G) : Im c (incA S) (su G 30 (su (G 30) 11 (G 30 11 + nI 1))) := by
  obtain ⟨i1, i2, i3, i4, i5, i6, i7⟩ := hI
  refine ⟨mD_sim ⟨rfl, rfl, rfl, rfl, rfl, rfl, rfl, rfl, rfl, rfl⟩ i1, mS_sim ⟨rfl, rfl, rfl, rfl, rfl, rfl, rfl, rfl, rfl, rfl⟩ i2, i3, ⟨i4.1, ?_⟩, i5, i6, i7⟩
  show G 30 11 + nI 1 = nI (S 0 5 + 1)
  rw [i4.2, nI_add]
set_option maxRecDepth 100000 in
set_option maxHeartbeats 4000000 in
theorem f_ask (hC : sm_C 14 CT) (hR : RS c S) (hI : Ic S G) {x : Int32} (hQ : ∀ G', eqx clsP G G' → Ic (N_ask S x) G' → Q (some (.int (A_ask S x))) (hp G' L)) : CT 56 [.ref 0, .int x] (hp G L) Q := by
  obtain ⟨hdR, hnR, -⟩ := id hR
  obtain ⟨r1, r2, r3, r4⟩ := id hdR
  obtain ⟨e1, e2, -⟩ := id hI.1
  have ea := hI.2.2.1.2.2
  have r30 := hR.2.2.2.2.2.1
  have r0 := hR.2.2.2.2.2.2.2.1
  refine sm_meth hC [some (.ref 0), some (.int x), none, none, none] rfl rfl rfl ?_
  unfold A_ask N_ask at hQ
  cases hb : inb x 3 with
  | false =>
    rw [hb] at hQ
    refine sm_body [] 80 sm_k56 (fun CT K hC hK => ?_)
    repeat' first
      | (with_reducible refine And.intro ?_ ?_)
      | ((with_reducible intro h9); first | exact absurd h9 (by decide) | ((have h8 : x ≤ nI 2 := h9; exfalso; obtain ⟨j, hj, e⟩ := wi_t (x := x) (y := nI 2) (n := 3) (by decide) rfl (Int32.not_lt.mp ‹¬ x < nI 0›) h8; rw [e, inb_n hj (by decide)] at hb; exact absurd hb (by decide))) | skip)
      | (with_reducible exact zn_in (by omega) (by decide))
      | (with_reducible exact z01) | (with_reducible exact z11) | (with_reducible exact zb01 _)
      | (with_reducible exact zn_inb (by omega) (by decide))
      | (with_reducible exact zn_ina (by omega) (by decide))
      | (with_reducible exact zn_inc (by omega) (by decide))
      | ((conv => whnf); first | (with_reducible refine And.intro ?_ ?_) | ((with_reducible intro h9); first | exact absurd h9 (by decide) | ((have h8 : x ≤ nI 2 := h9; exfalso; obtain ⟨j, hj, e⟩ := wi_t (x := x) (y := nI 2) (n := 3) (by decide) rfl (Int32.not_lt.mp ‹¬ x < nI 0›) h8; rw [e, inb_n hj (by decide)] at hb; exact absurd hb (by decide))) | skip) | (with_reducible refine hK _ _ _ _ (sm_un ?_)))
    all_goals exact hQ G eqx_rfl hI
  | true =>
    obtain ⟨j, hj, rfl⟩ := inb_ex hb
    simp only [hb, cond_true, ci hj (show 3 ≤ 100 by decide)] at hQ
    have hbw := bl_ws (S := S) (6 * S 0 1)
    refine sm_body [] 80 sm_k56 (fun CT K hC hK => ?_)
    repeat' first
      | (with_reducible refine And.intro ?_ ?_)
      | ((with_reducible intro h9); first | exact absurd h9 (by decide) | (exact absurd (zlt (by omega) (by omega) h9) (Nat.not_lt_zero _)) | (exact absurd (nI_le (by omega) (by omega)) h9) | (replace h9 := of_decide_eq_false (sb_f h9)) | (replace h9 := of_decide_eq_true (sb_t h9)) | ((rw [tl_all hnR (tl_sim (S := incA S) (S' := S) ⟨rfl, rfl, rfl, rfl, rfl, rfl, rfl, rfl, rfl, rfl⟩ ht)] at h9; replace h9 := zneq h9)) | ((rw [tl_all hnR (tl_sim (S := incA S) (S' := S) ⟨rfl, rfl, rfl, rfl, rfl, rfl, rfl, rfl, rfl, rfl⟩ ht)] at h9; replace h9 := zeq (aAll31 hdR) (by decide) h9)) | (replace h9 := zneq h9) | (replace h9 := zeq (by omega) (by decide) h9) | skip)
      | (with_reducible exact zn_in (by omega) (by decide))
      | (with_reducible exact z01) | (with_reducible exact z11) | (with_reducible exact zb01 _)
      | (with_reducible exact zn_inb (by omega) (by decide))
      | (with_reducible exact zn_ina (by omega) (by decide))
      | (with_reducible exact zn_inc (by omega) (by decide))
      | ((conv => whnf); first | (with_reducible refine And.intro ?_ ?_) | ((with_reducible intro h9); first | exact absurd h9 (by decide) | (exact absurd (zlt (by omega) (by omega) h9) (Nat.not_lt_zero _)) | (exact absurd (nI_le (by omega) (by omega)) h9) | (replace h9 := of_decide_eq_false (sb_f h9)) | (replace h9 := of_decide_eq_true (sb_t h9)) | ((rw [tl_all hnR (tl_sim (S := incA S) (S' := S) ⟨rfl, rfl, rfl, rfl, rfl, rfl, rfl, rfl, rfl, rfl⟩ ht)] at h9; replace h9 := zneq h9)) | ((rw [tl_all hnR (tl_sim (S := incA S) (S' := S) ⟨rfl, rfl, rfl, rfl, rfl, rfl, rfl, rfl, rfl, rfl⟩ ht)] at h9; replace h9 := zeq (aAll31 hdR) (by decide) h9)) | (replace h9 := zneq h9) | (replace h9 := zeq (by omega) (by decide) h9) | skip) | (with_reducible refine hK _ _ _ _ (sm_un ?_)) | (with_reducible refine s_isInquiryClosed (hC.mono (by omega)) e2 r2 ea r30 ?_) | ((simp only [hp_0, hp_1, hp_2, hp_3, hp_4, hp_5, hp_6, hp_7, hp_8, hp_9, hp_10, hp_11, hp_12, hp_13, hp_14, hp_15, hp_16, hp_17, hp_18, hp_19, hp_20, hp_22, hp_23, hp_24, hp_25, hp_26, hp_27, hp_28, hp_29, hp_30, hp_31, hp_32, hp_33, hp_34, hp_35, hp_36, hp_37, hp_38, hp_39, hp_40, hp_41, hp_42, hp_43, hp_44, hp_45, hp_46, hp_47, hp_48, hp_49, hf0_5, hf0_6, hf0_7, hf1_1, hf3_0, hf3_2, hf3_6, hf10_0, hf10_2, hf10_6, hf17_3, hf17_4, hf20_3, hf20_4, hf30_0, hf30_1, hf30_3, hf30_7, hf30_11, hf30_12, hf30_20, hf30_22, hf30_23, hf30_24, hf30_25, hf30_21, hf30_31, upd_su, updL_su]; refine f_refresh (hC.mono (by omega)) (R_inc hR ‹_›) (I_inc hI) (fun G' hx hI' ht => ?_))) | (refine s_bestPlace (S := S) (hC.mono (by omega)) hdR hI'.1.1 hI'.1.2.1 (tl_all hnR (tl_sim (S := incA S) (S' := S) ⟨rfl, rfl, rfl, rfl, rfl, rfl, rfl, rfl, rfl, rfl⟩ ht)) (by omega) (by omega) (fun v hv k hk q hq => tl_pt hnR (tl_sim (S := incA S) (S' := S) ⟨rfl, rfl, rfl, rfl, rfl, rfl, rfl, rfl, rfl, rfl⟩ ht) hv r2 hk r1 hq) ?_))
    · have hcl : ¬ (S 0 1 = 0 ∨ 30 ≤ S 0 5) := ‹_›
      have hb1 := bl_lt hdR (show 0 < S 0 0 by omega) (6 * S 0 1) (by omega)
      have htS : tl S G' := tl_sim (S := incA S) (S' := S) ⟨rfl, rfl, rfl, rfl, rfl, rfl, rfl, rfl, rfl, rfl⟩ ht
      have hb2 : (bl S (6 * S 0 1)).1 % 6 < S 0 0 ∧ ws S (bl S (6 * S 0 1)).1 = (bl S (6 * S 0 1)).2 := by
        rcases hbw with z | z
        · omega
        · exact z
      conv => whnf
      rw [pk_div (by omega) (by decide) (by decide), zn_ir (by omega) (by decide) (by decide)]
      refine s_worst (c := aPt S ((bl S (6 * S 0 1)).1 / 6) ((bl S (6 * S 0 1)).1 % 6)) (hC.mono (by omega)) (by omega) (by omega) (fun q _ => aPt31 hdR _ _ q) (fun q hq => tl_pt hnR htS (by omega) r2 hb2.1 r1 hq) ?_
      simp only [if_f hcl] at hQ
      refine zq ?_ (hQ G' (eqx_trans (eqx_su 0 _ rfl eqx_rfl) (eqx_sub rfl hx)) hI')
      unfold askR
      rw [if_f ‹aAll S ≠ 0›, if_f ‹j ≠ 0›, if_f ‹j ≠ 1›, ← hb2.2]
      unfold ws
      rw [if_t hb2.1]
    · have hcl : ¬ (S 0 1 = 0 ∨ 30 ≤ S 0 5) := ‹_›
      have hb1 := bl_lt hdR (show 0 < S 0 0 by omega) (6 * S 0 1) (by omega)
      simp only [if_f hcl] at hQ
      refine zq ?_ (hQ G' (eqx_trans (eqx_su 0 _ rfl eqx_rfl) (eqx_sub rfl hx)) hI')
      unfold askR
      rw [if_f ‹aAll S ≠ 0›, if_f (show ¬ j = 0 by omega), if_t ‹j = 1›, zn_ir (by omega) (by decide) (by decide)]
    · have hcl : ¬ (S 0 1 = 0 ∨ 30 ≤ S 0 5) := ‹_›
      have hb1 := bl_lt hdR (show 0 < S 0 0 by omega) (6 * S 0 1) (by omega)
      simp only [if_f hcl] at hQ
      refine zq ?_ (hQ G' (eqx_trans (eqx_su 0 _ rfl eqx_rfl) (eqx_sub rfl hx)) hI')
      unfold askR
      rw [if_f ‹aAll S ≠ 0›, if_t ‹j = 0›, pk_div (by omega) (by decide) (by decide)]
    · have hcl : ¬ (S 0 1 = 0 ∨ 30 ≤ S 0 5) := ‹_›
      simp only [if_f hcl] at hQ
      refine zq ?_ (hQ G' (eqx_trans (eqx_su 0 _ rfl eqx_rfl) (eqx_sub rfl hx)) hI')
      unfold askR
      rw [if_t ‹aAll S = 0›]
    · have hcl : S 0 1 = 0 ∨ 30 ≤ S 0 5 := h9
      simp only [if_t hcl] at hQ
      exact hQ G eqx_rfl hI
set_option maxRecDepth 100000 in
set_option maxHeartbeats 4000000 in
theorem g_ask (hC : sm_C 8 CT) (hR : RS c S) (hI : Im c S G) {x : Int32} (hQ : ∀ G', eqx mdlP G G' → Im c (N_ask S x) G' → Q (some (.int (A_ask S x))) (hp G' L)) : CT 116 [.ref 30, .int x] (hp G L) Q := by
  obtain ⟨hdR, hnR, -⟩ := id hR
  obtain ⟨r1, r2, r3, r4⟩ := id hdR
  obtain ⟨i1, i2, i3, i4, i5, i6, i7⟩ := id hI
  have r30 := hR.2.2.2.2.2.1
  have r0 := hR.2.2.2.2.2.2.2.1
  refine sm_meth hC [some (.ref 30), some (.int x)] rfl rfl rfl ?_
  unfold A_ask N_ask at hQ
  refine sm_body [] 80 sm_k116 (fun CT K hC hK => ?_)
  have J := J_inc hI
  have e3 := i1.2.1
  have ea := i4.2
  repeat' first
    | (with_reducible refine And.intro ?_ ?_)
    | ((with_reducible intro h9); first | exact absurd h9 (by decide) | (replace h9 := sb_f h9) | ((have h8 := inb_ex (x := x) (sb_t h9); obtain ⟨j, hj, rfl⟩ := h8)) | (replace h9 := of_decide_eq_true (sb_t h9)) | skip)
    | (with_reducible exact zn_in (by omega) (by decide))
    | (with_reducible exact z01) | (with_reducible exact z11) | (with_reducible exact zb01 _)
    | (with_reducible exact zn_inb (by omega) (by decide))
    | (with_reducible exact zn_ina (by omega) (by decide))
    | (with_reducible exact zn_inc (by omega) (by decide))
    | ((conv => whnf); first | (with_reducible refine And.intro ?_ ?_) | ((with_reducible intro h9); first | exact absurd h9 (by decide) | (replace h9 := sb_f h9) | ((have h8 := inb_ex (x := x) (sb_t h9); obtain ⟨j, hj, rfl⟩ := h8)) | (replace h9 := of_decide_eq_true (sb_t h9)) | skip) | (with_reducible refine hK _ _ _ _ (sm_un ?_)) | (with_reducible refine b_withinM (n := 3) (hC.mono (by omega)) (by decide) rfl ?_) | (with_reducible refine s_mayAsk (hC.mono (by omega)) e3 r2 ea r30 ?_))
  · conv => whnf
    simp only [hp_0, hp_1, hp_2, hp_3, hp_4, hp_5, hp_6, hp_7, hp_8, hp_9, hp_10, hp_11, hp_12, hp_13, hp_14, hp_15, hp_16, hp_17, hp_18, hp_19, hp_20, hp_22, hp_23, hp_24, hp_25, hp_26, hp_27, hp_28, hp_29, hp_30, hp_31, hp_32, hp_33, hp_34, hp_35, hp_36, hp_37, hp_38, hp_39, hp_40, hp_41, hp_42, hp_43, hp_44, hp_45, hp_46, hp_47, hp_48, hp_49, hf0_5, hf0_6, hf0_7, hf1_1, hf3_0, hf3_2, hf3_6, hf10_0, hf10_2, hf10_6, hf17_3, hf17_4, hf20_3, hf20_4, hf30_0, hf30_1, hf30_3, hf30_7, hf30_11, hf30_12, hf30_20, hf30_22, hf30_23, hf30_24, hf30_25, hf30_21, hf30_31, upd_su, updL_su, su_self]
    refine s_askNow (S := S) (G := su G 30 (su (G 30) 11 (G 30 11 + nI 1))) (hC.mono (by omega)) i1 hdR i2 hnR i7 (by omega) (by omega) hj (fun G' hx hp => ?_)
    simp only [i0 hj (show 3 ≤ 100 by decide), ci hj (show 3 ≤ 100 by decide), cond_true, if_f (show ¬ (S 0 1 = 0 ∨ 30 ≤ S 0 5) by omega)] at hQ
    exact hQ G' (eqx_trans (eqx_su 30 _ rfl eqx_rfl) (eqx_sub rfl hx)) (Im_39 hx hp J)
  · have h8 := of_decide_eq_false h9
    simp only [i0 hj (show 3 ≤ 100 by decide), ci hj (show 3 ≤ 100 by decide), cond_true, if_t (show S 0 1 = 0 ∨ 30 ≤ S 0 5 by omega)] at hQ
    exact hQ G eqx_rfl hI
  · simp only [h9, cond_false] at hQ
    exact hQ G eqx_rfl hI
end ASK
