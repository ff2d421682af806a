/-! The page read: fault, day. -/
def dw (c : Nat) : Nat := if c = 110 then 0 else if c = 101 then 1 else if c = 115 then 2 else if c = 119 then 3 else 4
def good (c : Nat) : Bool := Nat.beq c 63 || (decide (dw c < 4))
def lead (P : Nat → Bool) : Nat → Nat
  | 0 => 0
  | n + 1 => if lead P n = n ∧ P n = true then n + 1 else lead P n
theorem lead_le {P : Nat → Bool} : ∀ n, lead P n ≤ n
  | 0 => Nat.le_refl 0
  | n + 1 => by
    have := lead_le (P := P) n
    rw [lead]
    split
    · exact Nat.le_refl _
    · omega
theorem lead_all {P : Nat → Bool} : ∀ n, (∀ j, j < n → P j = true) → lead P n = n
  | 0, _ => rfl
  | n + 1, h => by
    rw [lead]
    exact if_t ⟨lead_all n (fun j hj => h j (by omega)), h n (by omega)⟩
theorem lead_eq {P : Nat → Bool} {i : Nat} (h : ∀ j, j < i → P j = true) (hf : P i = false) : ∀ n, i ≤ n → lead P n = i
  | 0, hn => by
    have : i = 0 := by omega
    subst this
    rfl
  | n + 1, hn => by
    by_cases e : i = n + 1
    · subst e
      exact lead_all _ h
    · have ih := lead_eq h hf n (by omega)
      rw [lead]
      by_cases e2 : i = n
      · subst e2
        exact (if_f (fun z => by rw [hf] at z; exact absurd z.2 (by decide))).trans ih
      · exact (if_f (fun z => by omega)).trans ih
theorem lead_ok {P : Nat → Bool} : ∀ n, ∀ j, j < lead P n → P j = true
  | 0, j, h => absurd h (Nat.not_lt_zero _)
  | n + 1, j, h => by
    rw [lead] at h
    split at h
    · rename_i h2
      by_cases e : j = n
      · rw [e]; exact h2.2
      · exact lead_ok n j (by omega)
    · exact lead_ok n j h
def gp (S : Nat → Nat → Nat) (i : Nat) : Bool := decide (i < S 0 3 ∧ i < 6) && good (S 5 i)
def fa (S : Nat → Nat → Nat) : Nat := lead (gp S) 8
section DAY
variable {CT : sm_CT} {G : Nat → Nat → Int32} {L : Nat → Nat → Int64} {Q : sm_Q} {S : Nat → Nat → Nat} {c : Nat} {h : sm_H}
set_option maxRecDepth 100000 in
set_option maxHeartbeats 4000000 in
theorem s_windOf (hC : sm_C 1 CT) {x : Nat} (hx : x ≤ 126) (hQ : Q (some (.int (wI (dw x)))) h) : CT 25 [.int (nI x)] h Q := by
  refine sm_meth hC [some (.int (nI x))] rfl rfl rfl ?_
  refine sm_body [] 60 sm_k25 (fun CT K hC hK => ?_)
  have ez : ∀ k, nI x = (nI k, 0).1 → k < 1000 → x = k := fun k h hk => zeq (by omega) (by omega) h
  repeat' first
    | (with_reducible refine And.intro ?_ ?_)
    | ((with_reducible intro h9); first | exact absurd h9 (by decide) | skip)
    | (with_reducible exact zn_in (by omega) (by decide))
    | (with_reducible exact z01) | (with_reducible exact z11) | (with_reducible exact zb01 _)
    | (with_reducible exact zn_inb (by omega) (by decide))
    | (with_reducible exact zn_ina (by omega) (by decide))
    | (with_reducible exact zn_inc (by omega) (by decide))
    | ((conv => whnf); first | (with_reducible refine And.intro ?_ ?_) | ((with_reducible intro h9); first | exact absurd h9 (by decide) | skip) | (with_reducible refine hK _ _ _ _ (sm_un ?_)))
  · have e : x = 101 := zeq (by omega) (by omega) h9
    subst e
    exact hQ
  · have e : x = 110 := zeq (by omega) (by omega) h9
    subst e
    exact hQ
  · have e : x = 115 := zeq (by omega) (by omega) h9
    subst e
    exact hQ
  · have e : x = 119 := zeq (by omega) (by omega) h9
    subst e
    exact hQ
  · have n1 : x ≠ 101 := zneq ‹¬ nI x = (nI 101, 46).fst›
    have n2 : x ≠ 110 := zneq ‹¬ nI x = (nI 110, 44).fst›
    have n3 : x ≠ 115 := zneq ‹¬ nI x = (nI 115, 48).fst›
    have n4 : x ≠ 119 := zneq ‹¬ nI x = (nI 119, 50).fst›
    refine zq ?_ hQ
    unfold dw
    rw [if_f n2, if_f n1, if_f n3, if_f n4]
    rfl
set_option maxRecDepth 100000 in
set_option maxHeartbeats 4000000 in
theorem s_isOfDay (hC : sm_C 2 CT) {x : Nat} (hx : x ≤ 126) (hQ : Q (some (.int (sm_b (good x)))) h) : CT 24 [.int (nI x)] h Q := by
  refine sm_meth hC [some (.int (nI x))] rfl rfl rfl ?_
  refine sm_body [] 60 sm_k24 (fun CT K hC hK => ?_)
  have d4 : dw x ≤ 4 := by
    unfold dw
    repeat' split
    all_goals omega
  repeat' first
    | (with_reducible refine And.intro ?_ ?_)
    | ((with_reducible intro h9); first | exact absurd h9 (by decide) | (rw [wI_m d4] at h9) | skip)
    | (with_reducible exact zn_in (by omega) (by decide))
    | (with_reducible exact z01) | (with_reducible exact z11) | (with_reducible exact zb01 _)
    | (with_reducible exact zn_inb (by omega) (by decide))
    | (with_reducible exact zn_ina (by omega) (by decide))
    | (with_reducible exact zn_inc (by omega) (by decide))
    | ((conv => whnf); first | (with_reducible refine And.intro ?_ ?_) | ((with_reducible intro h9); first | exact absurd h9 (by decide) | (rw [wI_m d4] at h9) | skip) | (with_reducible refine hK _ _ _ _ (sm_un ?_)) | (with_reducible refine s_windOf (hC.mono (by omega)) hx ?_))
  · have e : x = 63 := zeq (by omega) (by omega) h9
    subst e
    exact hQ
  · have n : x ≠ 63 := zneq ‹¬ nI x = nI 63›
    refine zq (b_f ?_) hQ
    unfold good
    rw [beq_f n, decide_eq_false (by omega)]
    rfl
  · refine zq (b_t ?_) hQ
    unfold good
    rw [decide_eq_true (show dw x < 4 by omega), Bool.or_true]
theorem gp_f {i : Nat} (h : ¬ (i < S 0 3 ∧ i < 6)) : gp S i = false := by
  unfold gp
  rw [decide_eq_false h]
  rfl
theorem gp_g {i : Nat} (h : i < S 0 3 ∧ i < 6) : gp S i = good (S 5 i) := by
  unfold gp
  rw [decide_eq_true h]
  rfl
theorem wI_2 {n : Nat} (h : n ≤ 4) : ¬ wI n = -2 := by
  have : n = 0 ∨ n = 1 ∨ n = 2 ∨ n = 3 ∨ n = 4 := by omega
  rcases this with rfl | rfl | rfl | rfl | rfl <;> decide
theorem dw_le (x : Nat) : dw x ≤ 4 := by
  unfold dw
  repeat' split
  all_goals omega
set_option maxRecDepth 100000 in
set_option maxHeartbeats 4000000 in
theorem s_firstFault (hC : sm_C 3 CT) (hP : cP S G) (r8 : S 0 3 ≤ 8) (rc : ∀ i, i < S 0 3 → 32 ≤ S 5 i ∧ S 5 i ≤ 126) (hQ : Q (some (.int (nI (fa S)))) (hp G L)) : CT 23 [.ref 1] (hp G L) Q := by
  obtain ⟨e1, e2⟩ := hP
  refine sm_meth hC [some (.ref 1), none] rfl rfl rfl ?_
  have lo : ∀ i, i ≤ S 0 3 → (∀ j, j < i → gp S j = true) → sm_Wk 2 23 Q none 2 [some (.ref 1), some (.int (nI i))] [] (hp G L) := by
    refine up _ (fun i hi ih hg => ?_)
    refine sm_body [2] 60 sm_k23 (fun CT K hC hK => ?_)
    repeat' first
      | (with_reducible refine And.intro ?_ ?_)
      | ((with_reducible intro h9); first | exact absurd h9 (by decide) | (replace h9 := nle e1 (by omega) (by omega) h9) | (replace h9 := yle e1 (by omega) (by omega) h9) | (replace h9 := zle (a := 6) (by omega) (by omega) h9) | (replace h9 := znle (a := 6) (by omega) (by omega) h9) | (replace h9 := sb_f h9) | (replace h9 := sb_t h9) | skip)
      | (with_reducible exact zn_in (by omega) (by decide))
      | (with_reducible exact z01) | (with_reducible exact z11) | (with_reducible exact zb01 _)
      | (with_reducible exact zn_inb (by omega) (by decide))
      | (with_reducible exact zn_ina (by omega) (by decide))
      | (with_reducible exact zn_inc (by omega) (by decide))
      | ((conv => whnf); first | (with_reducible refine And.intro ?_ ?_) | ((with_reducible intro h9); first | exact absurd h9 (by decide) | (replace h9 := nle e1 (by omega) (by omega) h9) | (replace h9 := yle e1 (by omega) (by omega) h9) | (replace h9 := zle (a := 6) (by omega) (by omega) h9) | (replace h9 := znle (a := 6) (by omega) (by omega) h9) | (replace h9 := sb_f h9) | (replace h9 := sb_t h9) | skip) | (with_reducible refine hK _ _ _ _ (sm_un ?_)) | ((rw [zn_clI (show i < 2 ^ 31 by omega), e2 i ‹_›]; refine s_isOfDay (hC.mono (by omega)) (rc i ‹_›).2 ?_)))
    · obtain rfl : i = S 0 3 := by omega
      refine zq ?_ hQ
      rw [e1]
      exact nI_i (lead_eq hg (gp_f (by omega)) 8 (by omega)).symm
    · exact zq (nI_i (lead_eq hg (gp_f (by omega)) 8 (by omega)).symm) hQ
    · simp only [nI_add]; exact ⟨⟨ih ‹_› (fun j hj => if e : j = i then (by subst e; rw [gp_g (by omega)]; exact h9) else hg j (by omega))⟩⟩
    · exact zq (nI_i (lead_eq hg ((gp_g ⟨by omega, by omega⟩).trans h9) 8 (by omega)).symm) hQ
  refine sm_body [2] 60 sm_k23 (fun CT K hC hK => ?_)
  repeat' first
    | (with_reducible refine And.intro ?_ ?_)
    | ((with_reducible intro h9); first | exact absurd h9 (by decide) | skip)
    | (with_reducible exact zn_in (by omega) (by decide))
    | (with_reducible exact z01) | (with_reducible exact z11) | (with_reducible exact zb01 _)
    | (with_reducible exact zn_inb (by omega) (by decide))
    | (with_reducible exact zn_ina (by omega) (by decide))
    | (with_reducible exact zn_inc (by omega) (by decide))
    | ((conv => whnf); first | (with_reducible refine And.intro ?_ ?_) | ((with_reducible intro h9); first | exact absurd h9 (by decide) | skip) | (with_reducible refine hK _ _ _ _ (sm_un ?_)))
  exact ⟨⟨lo 0 (Nat.zero_le _) (fun j hj => absurd hj (Nat.not_lt_zero _))⟩⟩
set_option maxRecDepth 100000 in
set_option maxHeartbeats 4000000 in
theorem f_fault (hC : sm_C 4 CT) (hR : RS c S) (hI : Ic S G) (hQ : Q (some (.int (nI (fa S)))) (hp G L)) : CT 44 [.ref 0] (hp G L) Q := by
  refine sm_meth hC [some (.ref 0)] rfl rfl rfl ?_
  have hP := hI.2.1
  have r8 := hR.2.2.1
  have rc := hR.2.2.2.1
  refine sm_body [] 60 sm_k44 (fun CT K hC hK => ?_)
  repeat' first
    | (with_reducible refine And.intro ?_ ?_)
    | ((with_reducible intro h9); first | exact absurd h9 (by decide) | skip)
    | (with_reducible exact zn_in (by omega) (by decide))
    | (with_reducible exact z01) | (with_reducible exact z11) | (with_reducible exact zb01 _)
    | (with_reducible exact zn_inb (by omega) (by decide))
    | (with_reducible exact zn_ina (by omega) (by decide))
    | (with_reducible exact zn_inc (by omega) (by decide))
    | ((conv => whnf); first | (with_reducible refine And.intro ?_ ?_) | ((with_reducible intro h9); first | exact absurd h9 (by decide) | skip) | (with_reducible refine hK _ _ _ _ (sm_un ?_)) | (with_reducible refine s_firstFault (hC.mono (by omega)) hP r8 rc ?_))
  exact hQ
def dayS (S : Nat → Nat → Nat) : Nat → Nat → Nat := fun p => match p with
  | 0 => su (su (su (su (su (su (S 0) 0 (S 0 3)) 1 0) 2 0) 3 0) 4 (S 0 4 + 1)) 6 0
  | 1 => fun i => dw (S 5 i)
  | _ => S p
def okDay (S : Nat → Nat → Nat) : Prop := S 0 3 ≠ 0 ∧ fa S = S 0 3
def A_day (S : Nat → Nat → Nat) : Int32 := if S 0 3 = 0 ∨ fa S ≠ S 0 3 then -103 else nI (S 0 3)
def N_day (S : Nat → Nat → Nat) : Nat → Nat → Nat := if S 0 3 = 0 ∨ fa S ≠ S 0 3 then S else dayS S
theorem fa_le : fa S ≤ S 0 3 := by
  unfold fa
  have key : ∀ n, lead (gp S) n ≤ S 0 3 := by
    intro n
    induction n with
    | zero => exact Nat.zero_le _
    | succ n ih =>
      rw [lead]
      split
      · rename_i h
        have h2 := h.2
        unfold gp at h2
        simp only [Bool.and_eq_true, decide_eq_true_eq] at h2
        omega
      · exact ih
  exact key 8
theorem fa_6 : fa S ≤ 6 := by
  unfold fa
  have key : ∀ n, lead (gp S) n ≤ 6 := by
    intro n
    induction n with
    | zero => exact Nat.zero_le _
    | succ n ih =>
      rw [lead]
      split
      · rename_i h
        have h2 := h.2
        unfold gp at h2
        simp only [Bool.and_eq_true, decide_eq_true_eq] at h2
        omega
      · exact ih
  exact key 8
set_option maxRecDepth 100000 in
set_option maxHeartbeats 4000000 in
theorem s_begin (hC : sm_C 3 CT) (hP : cP S G) (r6 : S 0 3 ≤ 6) (rc : ∀ i, i < S 0 3 → 32 ≤ S 5 i ∧ S 5 i ≤ 126) (hQ : ∀ G1, eqx [3, 4, 8, 9] G G1 → G1 3 0 = nI (S 0 3) → G1 3 2 = nI 0 → G1 3 6 = nI 0 → (∀ i, i < S 0 3 → G1 4 i = wI (dw (S 5 i))) → (∀ v, v < 4 → G1 8 v = nI 0) → (∀ i, i < 24 → G1 9 i = nI 15) → Q none (hp G1 L)) : CT 3 [.ref 3, .ref 1] (hp G L) Q := by
  obtain ⟨e1, e2⟩ := id hP
  refine sm_meth hC [some (.ref 3), some (.ref 1), none] rfl rfl rfl ?_
  have lo : ∀ i, i ≤ S 0 3 → ∀ G1, eqx [3, 4] G G1 → G1 3 0 = nI (S 0 3) → (∀ j, j < i → G1 4 j = wI (dw (S 5 j))) → sm_Wk 2 3 Q none 24 [some (.ref 3), some (.ref 1), some (.int (nI i))] [] (hp G1 L) := by
    refine up _ (fun i hi ih G1 hx h0 h1 => ?_)
    have e2' := fun hl : i < S 0 3 => e2 i hl
    refine sm_body [24] 60 sm_k3 (fun CT K hC hK => ?_)
    repeat' first
      | (with_reducible refine And.intro ?_ ?_)
      | ((with_reducible intro h9); first | exact absurd h9 (by decide) | (replace h9 := nle h0 (by omega) (by omega) h9) | (replace h9 := yle h0 (by omega) (by omega) h9) | skip)
      | (with_reducible exact zn_in (by omega) (by decide))
      | (with_reducible exact z01) | (with_reducible exact z11) | (with_reducible exact zb01 _)
      | (with_reducible exact zn_inb (by omega) (by decide))
      | (with_reducible exact zn_ina (by omega) (by decide))
      | (with_reducible exact zn_inc (by omega) (by decide))
      | ((conv => whnf); first | (with_reducible refine And.intro ?_ ?_) | ((with_reducible intro h9); first | exact absurd h9 (by decide) | (replace h9 := nle h0 (by omega) (by omega) h9) | (replace h9 := yle h0 (by omega) (by omega) h9) | skip) | (with_reducible refine hK _ _ _ _ (sm_un ?_)) | ((rw [zn_clI (show i < 2 ^ 31 by omega), hx 2 rfl, e2 i ‹_›]; refine s_windOf (hC.mono (by omega)) (rc i ‹_›).2 ?_)) | ((simp only [hp_0, hp_1, hp_2, hp_3, hp_4, hp_5, hp_6, hp_7, hp_8, hp_9, hp_10, hp_11, hp_12, hp_13, hp_14, hp_15, hp_16, hp_17, hp_18, hp_19, hp_20, hp_22, hp_23, hp_24, hp_25, hp_26, hp_27, hp_28, hp_29, hp_30, hp_31, hp_32, hp_33, hp_34, hp_35, hf0_5, hf0_6, hf0_7, hf1_1, hf3_0, hf3_2, hf3_6, hf10_0, hf10_2, hf10_6, hf17_3, hf17_4, hf20_3, hf20_4, upd_su, updL_su]; refine s_clearSeen (hC.mono (by omega)) (fun x y hx2 hy2 => ?_))))
    · obtain rfl : i = S 0 3 := by omega
      refine hQ _ ?_ ?_ rfl rfl ?_ ?_ ?_
      · exact eqx_su 9 _ rfl (eqx_su 8 _ rfl (eqx_su 3 _ rfl (eqx_su 3 _ rfl (eqx_sub rfl hx))))
      · exact h0
      · exact h1
      · exact hx2
      · exact hy2
    · simp only [hp_0, hp_1, hp_2, hp_3, hp_4, hp_5, hp_6, hp_7, hp_8, hp_9, hp_10, hp_11, hp_12, hp_13, hp_14, hp_15, hp_16, hp_17, hp_18, hp_19, hp_20, hp_22, hp_23, hp_24, hp_25, hp_26, hp_27, hp_28, hp_29, hp_30, hp_31, hp_32, hp_33, hp_34, hp_35, hf0_5, hf0_6, hf0_7, hf1_1, hf3_0, hf3_2, hf3_6, hf10_0, hf10_2, hf10_6, hf17_3, hf17_4, hf20_3, hf20_4, upd_su, updL_su, nI_add, zn_clI (show i < 2 ^ 31 by omega)]
      refine ⟨⟨ih ‹_› _ (eqx_su 4 _ rfl hx) h0 (fun j hj => ?_)⟩⟩
      rw [su_eq, su_if]
      split
      · rename_i e
        rw [e]
      · exact h1 j (by omega)
  refine sm_body [24] 60 sm_k3 (fun CT K hC hK => ?_)
  repeat' first
    | (with_reducible refine And.intro ?_ ?_)
    | ((with_reducible intro h9); first | exact absurd h9 (by decide) | ((rw [e1] at h9; replace h9 := zle (a := 6) (by omega) (by omega) h9)) | ((rw [e1] at h9; replace h9 := znle (a := 6) (by omega) (by omega) h9)) | skip)
    | (with_reducible exact zn_in (by omega) (by decide))
    | (with_reducible exact z01) | (with_reducible exact z11) | (with_reducible exact zb01 _)
    | (with_reducible exact zn_inb (by omega) (by decide))
    | (with_reducible exact zn_ina (by omega) (by decide))
    | (with_reducible exact zn_inc (by omega) (by decide))
    | ((conv => whnf); first | (with_reducible refine And.intro ?_ ?_) | ((with_reducible intro h9); first | exact absurd h9 (by decide) | ((rw [e1] at h9; replace h9 := zle (a := 6) (by omega) (by omega) h9)) | ((rw [e1] at h9; replace h9 := znle (a := 6) (by omega) (by omega) h9)) | skip) | (with_reducible refine hK _ _ _ _ (sm_un ?_)))
  · have h3 : S 0 3 = 6 := by omega
    simp only [hp_0, hp_1, hp_2, hp_3, hp_4, hp_5, hp_6, hp_7, hp_8, hp_9, hp_10, hp_11, hp_12, hp_13, hp_14, hp_15, hp_16, hp_17, hp_18, hp_19, hp_20, hp_22, hp_23, hp_24, hp_25, hp_26, hp_27, hp_28, hp_29, hp_30, hp_31, hp_32, hp_33, hp_34, hp_35, hf0_5, hf0_6, hf0_7, hf1_1, hf3_0, hf3_2, hf3_6, hf10_0, hf10_2, hf10_6, hf17_3, hf17_4, hf20_3, hf20_4, upd_su, updL_su]
    exact ⟨⟨lo 0 (Nat.zero_le _) _ (eqx_su 3 _ rfl eqx_rfl) (by rw [h3]; rfl) (fun j hj => absurd hj (Nat.not_lt_zero _))⟩⟩
  · simp only [hp_0, hp_1, hp_2, hp_3, hp_4, hp_5, hp_6, hp_7, hp_8, hp_9, hp_10, hp_11, hp_12, hp_13, hp_14, hp_15, hp_16, hp_17, hp_18, hp_19, hp_20, hp_22, hp_23, hp_24, hp_25, hp_26, hp_27, hp_28, hp_29, hp_30, hp_31, hp_32, hp_33, hp_34, hp_35, hf0_5, hf0_6, hf0_7, hf1_1, hf3_0, hf3_2, hf3_6, hf10_0, hf10_2, hf10_6, hf17_3, hf17_4, hf20_3, hf20_4, upd_su, updL_su, e1]
    exact ⟨⟨lo 0 (Nat.zero_le _) _ (eqx_su 3 _ rfl eqx_rfl) rfl (fun j hj => absurd hj (Nat.not_lt_zero _))⟩⟩
set_option maxRecDepth 100000 in
set_option maxHeartbeats 4000000 in
theorem f_day (hC : sm_C 4 CT) (hR : RS c S) (hI : Ic S G) (hQ : ∀ G', eqx clsP G G' → Ic (N_day S) G' → Q (some (.int (A_day S))) (hp G' L)) : CT 45 [.ref 0] (hp G L) Q := by
  obtain ⟨i1, i2, i3, i4, i5⟩ := id hI
  have r8 := hR.2.2.1
  have rc := hR.2.2.2.1
  have l1 := fa_le (S := S)
  have l6 := fa_6 (S := S)
  have e1 := i2.1
  refine sm_meth hC [some (.ref 0)] rfl rfl rfl ?_
  refine sm_body [] 60 sm_k45 (fun CT K hC hK => ?_)
  unfold A_day N_day at hQ
  repeat' first
    | (with_reducible refine And.intro ?_ ?_)
    | ((with_reducible intro h9); first | exact absurd h9 (by decide) | ((rw [e1] at h9; replace h9 := zneq h9)) | ((rw [e1] at h9; replace h9 := zeq (b := 0) (by omega) (by omega) h9)) | ((rw [e1] at h9; replace h9 := zle (by omega) (by omega) h9)) | ((rw [e1] at h9; replace h9 := znle (by omega) (by omega) h9)) | skip)
    | (with_reducible exact zn_in (by omega) (by decide))
    | (with_reducible exact z01) | (with_reducible exact z11) | (with_reducible exact zb01 _)
    | (with_reducible exact zn_inb (by omega) (by decide))
    | (with_reducible exact zn_ina (by omega) (by decide))
    | (with_reducible exact zn_inc (by omega) (by decide))
    | ((conv => whnf); first | (with_reducible refine And.intro ?_ ?_) | ((with_reducible intro h9); first | exact absurd h9 (by decide) | ((rw [e1] at h9; replace h9 := zneq h9)) | ((rw [e1] at h9; replace h9 := zeq (b := 0) (by omega) (by omega) h9)) | ((rw [e1] at h9; replace h9 := zle (by omega) (by omega) h9)) | ((rw [e1] at h9; replace h9 := znle (by omega) (by omega) h9)) | skip) | (with_reducible refine hK _ _ _ _ (sm_un ?_)) | (with_reducible refine s_firstFault (hC.mono (by omega)) i2 r8 rc ?_) | (with_reducible refine s_begin (hC.mono (by omega)) i2 (by omega) rc (fun G1 hx h0 h2 h6 hw ho hl => ?_)))
  · simp only [if_t (show S 0 3 = 0 ∨ fa S ≠ S 0 3 from Or.inl h9)] at hQ
    exact hQ G eqx_rfl hI
  · have hok : ¬ (S 0 3 = 0 ∨ fa S ≠ S 0 3) := by omega
    simp only [if_f hok] at hQ
    conv => whnf
    simp only [hp_0, hp_1, hp_2, hp_3, hp_4, hp_5, hp_6, hp_7, hp_8, hp_9, hp_10, hp_11, hp_12, hp_13, hp_14, hp_15, hp_16, hp_17, hp_18, hp_19, hp_20, hp_22, hp_23, hp_24, hp_25, hp_26, hp_27, hp_28, hp_29, hp_30, hp_31, hp_32, hp_33, hp_34, hp_35, hf0_5, hf0_6, hf0_7, hf1_1, hf3_0, hf3_2, hf3_6, hf10_0, hf10_2, hf10_6, hf17_3, hf17_4, hf20_3, hf20_4, upd_su, updL_su]
    refine zq h0 (hQ _ ?_ ⟨⟨h0, h2, h6, hw, fun i hi => absurd hi (Nat.not_lt_zero _), fun v hv => ?_, fun v hv k hk => ?_⟩, ⟨rfl, fun i hi => absurd hi (Nat.not_lt_zero _)⟩, ⟨rfl, ?_, ?_⟩, Or.inr rfl, fun h => absurd (show (0 : Nat) = 1 from h) (by decide)⟩)
    · exact eqx_su 17 _ rfl (eqx_su 0 _ rfl (eqx_su 0 _ rfl (eqx_su 1 _ rfl (eqx_sub rfl hx))))
    · rw [so_0 rfl]; exact ho v hv
    · rw [lf_0 rfl]; exact hl _ (by have hk : k < S 0 3 := hk; omega)
    · show G1 0 6 + nI 1 = nI (S 0 4 + 1)
      rw [hx 0 rfl, i3.2.1, nI_add]
    · show G1 0 7 = nI (S 0 5)
      rw [hx 0 rfl, i3.2.2]
  · simp only [if_t (show S 0 3 = 0 ∨ fa S ≠ S 0 3 from Or.inr (by omega))] at hQ
    exact hQ G eqx_rfl hI
theorem R_mono {c' : Nat} (h : c ≤ c') (hR : RS c S) : RS c' S := ⟨hR.1, hR.2.1, hR.2.2.1, hR.2.2.2.1, Nat.le_trans hR.2.2.2.2.1 h, hR.2.2.2.2.2⟩
theorem R_day (hR : RS c S) : RS (c + 16) (N_day S) := by
  unfold N_day
  split
  · exact R_mono (by omega) hR
  · rename_i hok
    have l6 := fa_6 (S := S)
    obtain ⟨a1, a2, a3, a4, a5, a6, a7, a8, a9⟩ := hR
    refine ⟨⟨?_, Nat.zero_le _, fun i hi => dw_le _, fun i hi => absurd hi (Nat.not_lt_zero _)⟩, ⟨Nat.zero_le _, fun k hk => absurd hk (Nat.not_lt_zero _)⟩, Nat.zero_le _, fun i hi => absurd hi (Nat.not_lt_zero _), ?_, a6, Nat.zero_le _, fun _ => rfl, fun h => absurd (show (0 : Nat) = 1 from h) (by decide)⟩
    · show S 0 3 ≤ 6
      omega
    · show S 0 4 + 1 ≤ c + 16
      omega
end DAY
