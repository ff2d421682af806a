/-! The other one's methods: all days by their codes. -/
theorem mD_x {ps : List Nat} {S G G' : _} (hx : eqx ps G G') (hm : (sm_mem ps 30 || (sm_mem ps 31 || (sm_mem ps 32 || (sm_mem ps 33 || sm_mem ps 34)))) = false) (h : mD S G) : mD S G' := by
  simp only [Bool.or_eq_false_iff] at hm
  obtain ⟨h3, h4, h5, h6, h7⟩ := hm
  unfold mD
  rw [hx 30 h3, hx 31 h4, hx 32 h5, hx 33 h6, hx 34 h7]
  exact h
theorem mS_x {ps : List Nat} {S G G' : _} (hx : eqx ps G G') (hm : (sm_mem ps 30 || (sm_mem ps 35 || (sm_mem ps 36 || sm_mem ps 37))) = false) (h : mS S G) : mS S G' := by
  simp only [Bool.or_eq_false_iff] at hm
  obtain ⟨h3, h4, h5, h6⟩ := hm
  unfold mS
  rw [hx 30 h3, hx 35 h4, hx 36 h5, hx 37 h6]
  exact h
theorem mD_v {S G : _} (h : mD S G) : G 30 3 = nI (S 0 1) := h.2.1
theorem mD_h {S G : _} (h : mD S G) : G 30 1 = nI (S 0 0) := h.1
theorem mS_s {S G : _} (h : mS S G) : G 30 7 = nI (S 0 2) := h.1
section MODEL
variable {CT : sm_CT} {G : Nat → Nat → Int32} {L : Nat → Nat → Int64} {Q : sm_Q} {S : Nat → Nat → Nat} {h : sm_H}
set_option maxRecDepth 100000 in
set_option maxHeartbeats 4000000 in
theorem s_within (hC : sm_C 1 CT) {x a b : Int32} (h1 : a ≤ x → x ≤ b → Q (some (.int (nI 1))) h) (h0 : ¬ (a ≤ x ∧ x ≤ b) → Q (some (.int (nI 0))) h) : CT 79 [.int x, .int a, .int b] h Q := by
  refine sm_meth hC [some (.int x), some (.int a), some (.int b)] rfl rfl rfl ?_
  refine sm_body [] 40 sm_k79 (fun CT K hC hK => ?_)
  repeat' first
    | (with_reducible refine And.intro ?_ ?_)
    | ((with_reducible intro h9); first | exact absurd h9 (by decide) | skip)
    | (with_reducible exact zn_in (by omega) (by decide))
    | (with_reducible exact z01) | (with_reducible exact z11) | (with_reducible exact zb01 _)
    | (with_reducible exact zn_inb (by omega) (by decide))
    | (with_reducible exact zn_ina (by omega) (by decide))
    | (with_reducible exact zn_inc (by omega) (by decide))
    | ((conv => whnf); first | (with_reducible refine And.intro ?_ ?_) | ((with_reducible intro h9); first | exact absurd h9 (by decide) | skip) | (with_reducible refine hK _ _ _ _ (sm_un ?_)))
  · exact h0 (fun z => absurd ‹x < a› (Int32.not_lt.mpr z.1))
  · exact h0 (fun z => absurd h9 (Int32.not_lt.mpr z.2))
  · exact h1 (Int32.not_lt.mp ‹¬ x < a›) (Int32.not_lt.mp h9)
set_option maxRecDepth 100000 in
set_option maxHeartbeats 4000000 in
theorem s_isQuarterM (hC : sm_C 2 CT) {x : Int32} (h1 : ∀ j, j < 4 → x = nI j → Q (some (.int (nI 1))) h) (h0 : inb x 4 = false → Q (some (.int (nI 0))) h) : CT 80 [.int x] h Q := by
  refine sm_meth hC [some (.int x)] rfl rfl rfl ?_
  refine sm_body [] 40 sm_k80 (fun CT K hC hK => ?_)
  repeat' first
    | (with_reducible refine And.intro ?_ ?_)
    | ((with_reducible intro h9); first | exact absurd h9 (by decide) | skip)
    | (with_reducible exact zn_in (by omega) (by decide))
    | (with_reducible exact z01) | (with_reducible exact z11) | (with_reducible exact zb01 _)
    | (with_reducible exact zn_inb (by omega) (by decide))
    | (with_reducible exact zn_ina (by omega) (by decide))
    | (with_reducible exact zn_inc (by omega) (by decide))
    | ((conv => whnf); first | (with_reducible refine And.intro ?_ ?_) | ((with_reducible intro h9); first | exact absurd h9 (by decide) | skip) | (with_reducible refine hK _ _ _ _ (sm_un ?_)) | (with_reducible refine s_within (hC.mono (by omega)) (fun ha hb => ?_) (fun hn => ?_)))
  · obtain ⟨j, hj, e⟩ := wi_t (x := x) (y := nI 3) (n := 4) (by decide) rfl ha hb
    exact h1 j hj e
  · exact h0 (wi_f (y := nI 3) rfl hn)
theorem pred_toInt {n : Nat} (hn : n < 2 ^ 30) : (nI n - nI 1).toInt = (n : Int) - 1 := pk_sub_toInt hn (by decide)
set_option maxRecDepth 100000 in
set_option maxHeartbeats 4000000 in
theorem s_isHour (hC : sm_C 2 CT) {n : Nat} (e : G 30 1 = nI n) (hn : n ≤ 6) {x : Int32} (h1 : ∀ j, j < n → x = nI j → Q (some (.int (nI 1))) (hp G L)) (h0 : inb x n = false → Q (some (.int (nI 0))) (hp G L)) : CT 88 [.ref 30, .int x] (hp G L) Q := by
  refine sm_meth hC [some (.ref 30), some (.int x)] rfl rfl rfl ?_
  refine sm_body [] 40 sm_k88 (fun CT K hC hK => ?_)
  repeat' first
    | (with_reducible refine And.intro ?_ ?_)
    | ((with_reducible intro h9); first | exact absurd h9 (by decide) | skip)
    | (with_reducible exact zn_in (by omega) (by decide))
    | (with_reducible exact z01) | (with_reducible exact z11) | (with_reducible exact zb01 _)
    | (with_reducible exact zn_inb (by omega) (by decide))
    | (with_reducible exact zn_ina (by omega) (by decide))
    | (with_reducible exact zn_inc (by omega) (by decide))
    | ((conv => whnf); first | (with_reducible refine And.intro ?_ ?_) | ((with_reducible intro h9); first | exact absurd h9 (by decide) | skip) | (with_reducible refine hK _ _ _ _ (sm_un ?_)) | (rw [e]; refine s_within (hC.mono (by omega)) (fun ha hb => ?_) (fun hn => ?_)))
  · obtain ⟨j, hj, e⟩ := wi_t (by omega) (pred_toInt (by omega)) ha hb
    exact h1 j hj e
  · exact h0 (wi_f (pred_toInt (by omega)) hn)
set_option maxRecDepth 100000 in
set_option maxHeartbeats 4000000 in
theorem s_isVane (hC : sm_C 2 CT) {n : Nat} (e : G 30 3 = nI n) (hn : n ≤ 4) {x : Int32} (h1 : ∀ j, j < n → x = nI j → Q (some (.int (nI 1))) (hp G L)) (h0 : inb x n = false → Q (some (.int (nI 0))) (hp G L)) : CT 89 [.ref 30, .int x] (hp G L) Q := by
  refine sm_meth hC [some (.ref 30), some (.int x)] rfl rfl rfl ?_
  refine sm_body [] 40 sm_k89 (fun CT K hC hK => ?_)
  repeat' first
    | (with_reducible refine And.intro ?_ ?_)
    | ((with_reducible intro h9); first | exact absurd h9 (by decide) | skip)
    | (with_reducible exact zn_in (by omega) (by decide))
    | (with_reducible exact z01) | (with_reducible exact z11) | (with_reducible exact zb01 _)
    | (with_reducible exact zn_inb (by omega) (by decide))
    | (with_reducible exact zn_ina (by omega) (by decide))
    | (with_reducible exact zn_inc (by omega) (by decide))
    | ((conv => whnf); first | (with_reducible refine And.intro ?_ ?_) | ((with_reducible intro h9); first | exact absurd h9 (by decide) | skip) | (with_reducible refine hK _ _ _ _ (sm_un ?_)) | (rw [e]; refine s_within (hC.mono (by omega)) (fun ha hb => ?_) (fun hn => ?_)))
  · obtain ⟨j, hj, e⟩ := wi_t (by omega) (pred_toInt (by omega)) ha hb
    exact h1 j hj e
  · exact h0 (wi_f (pred_toInt (by omega)) hn)
set_option maxRecDepth 100000 in
set_option maxHeartbeats 4000000 in
theorem s_seenOf (hC : sm_C 1 CT) (hS : mS S G) (hN : nR S) (hR : dR S) {v : Nat} (hv : v < 4) (hQ : Q (some (.int (nI (ct (fun k => Nat.beq (S 6 k) v) (S 0 2))))) (hp G L)) : CT 94 [.ref 30, .int (nI v)] (hp G L) Q := by
  obtain ⟨e1, e2⟩ := hS
  obtain ⟨n1, n2⟩ := hN
  obtain ⟨r1, r2, r3, r4⟩ := hR
  refine sm_meth hC [some (.ref 30), some (.int (nI v)), none, none] rfl rfl rfl ?_
  have lo : ∀ i, i ≤ S 0 2 → sm_Wk 0 94 Q none 4 [some (.ref 30), some (.int (nI v)), some (.int (nI (ct (fun k => Nat.beq (S 6 k) v) i))), some (.int (nI i))] [] (hp G L) := by
    refine up _ (fun i hi ih => ?_)
    refine sm_body [4] 60 sm_k94 (fun CT K hC hK => ?_)
    have eb : i < S 0 2 → (G 35 (nI i).toNatClampNeg = nI v ↔ S 6 i = v) := by
      intro hl
      have := (n2 i hl).1
      rw [zn_clI (by omega), (e2 i hl).1, nI_eq (by omega) (by omega)]
    repeat' first
      | (with_reducible refine And.intro ?_ ?_)
      | ((with_reducible intro h9); first | exact absurd h9 (by decide) | (replace h9 := nle e1 (by omega) (by omega) h9) | (replace h9 := yle e1 (by omega) (by omega) h9) | (rw [eb ‹_›] at h9) | skip)
      | (with_reducible exact zn_in (by omega) (by decide))
      | (with_reducible exact z01) | (with_reducible exact z11) | (with_reducible exact zb01 _)
      | (with_reducible exact zn_inb (by omega) (by decide))
      | (with_reducible exact zn_ina (by omega) (by decide))
      | (with_reducible exact zn_inc (by omega) (by decide))
      | ((conv => whnf); first | (with_reducible refine And.intro ?_ ?_) | ((with_reducible intro h9); first | exact absurd h9 (by decide) | (replace h9 := nle e1 (by omega) (by omega) h9) | (replace h9 := yle e1 (by omega) (by omega) h9) | (rw [eb ‹_›] at h9) | skip) | (with_reducible refine hK _ _ _ _ (sm_un ?_)))
    all_goals try have eq1 : (fun k => Nat.beq (S 6 k) v) i = true := beq_t ‹_›
    all_goals try have eq2 : (fun k => Nat.beq (S 6 k) v) i = false := beq_f ‹_›
    all_goals first
      | ((obtain rfl : i = S 0 2 := by omega); exact hQ)
      | (have e := ih (by omega); rw [ct, bn_t eq1] at e; simp only [nI_add]; exact ⟨⟨e⟩⟩)
      | (have e := ih (by omega); rw [ct, bn_f eq2] at e; simp only [nI_add]; exact ⟨⟨e⟩⟩)
  refine sm_body [4] 40 sm_k94 (fun CT K hC hK => ?_)
  repeat' first
    | (with_reducible refine And.intro ?_ ?_)
    | ((with_reducible intro h9); first | exact absurd h9 (by decide) | skip)
    | (with_reducible exact zn_in (by omega) (by decide))
    | (with_reducible exact z01) | (with_reducible exact z11) | (with_reducible exact zb01 _)
    | (with_reducible exact zn_inb (by omega) (by decide))
    | (with_reducible exact zn_ina (by omega) (by decide))
    | (with_reducible exact zn_inc (by omega) (by decide))
    | ((conv => whnf); first | (with_reducible refine And.intro ?_ ?_) | ((with_reducible intro h9); first | exact absurd h9 (by decide) | skip) | (with_reducible refine hK _ _ _ _ (sm_un ?_)))
  exact ⟨⟨lo 0 (Nat.zero_le _)⟩⟩
set_option maxRecDepth 100000 in
set_option maxHeartbeats 4000000 in
theorem s_unknownHours (hC : sm_C 1 CT) (hD : mD S G) (hR : dR S) (hQ : Q (some (.int (nI (ct (fun h => Nat.beq (S 1 h) 4) (S 0 0))))) (hp G L)) : CT 101 [.ref 30] (hp G L) Q := by
  obtain ⟨e1, e2, e3, e4⟩ := hD
  obtain ⟨r1, r2, r3, r4⟩ := hR
  refine sm_meth hC [some (.ref 30), none, none] rfl rfl rfl ?_
  have lo : ∀ i, i ≤ S 0 0 → sm_Wk 0 101 Q none 4 [some (.ref 30), some (.int (nI (ct (fun h => Nat.beq (S 1 h) 4) i))), some (.int (nI i))] [] (hp G L) := by
    refine up _ (fun i hi ih => ?_)
    refine sm_body [4] 60 sm_k101 (fun CT K hC hK => ?_)
    have eb : i < S 0 0 → (G 31 (nI i).toNatClampNeg = -1 ↔ S 1 i = 4) := by
      intro hl
      rw [zn_clI (by omega), e3 i hl, wI_m (r3 i hl)]
    repeat' first
      | (with_reducible refine And.intro ?_ ?_)
      | ((with_reducible intro h9); first | exact absurd h9 (by decide) | (replace h9 := nle e1 (by omega) (by omega) h9) | (replace h9 := yle e1 (by omega) (by omega) h9) | (rw [eb ‹_›] at h9) | skip)
      | (with_reducible exact zn_in (by omega) (by decide))
      | (with_reducible exact z01) | (with_reducible exact z11) | (with_reducible exact zb01 _)
      | (with_reducible exact zn_inb (by omega) (by decide))
      | (with_reducible exact zn_ina (by omega) (by decide))
      | (with_reducible exact zn_inc (by omega) (by decide))
      | ((conv => whnf); first | (with_reducible refine And.intro ?_ ?_) | ((with_reducible intro h9); first | exact absurd h9 (by decide) | (replace h9 := nle e1 (by omega) (by omega) h9) | (replace h9 := yle e1 (by omega) (by omega) h9) | (rw [eb ‹_›] at h9) | skip) | (with_reducible refine hK _ _ _ _ (sm_un ?_)))
    all_goals try have eq1 : (fun h => Nat.beq (S 1 h) 4) i = true := beq_t ‹_›
    all_goals try have eq2 : (fun h => Nat.beq (S 1 h) 4) i = false := beq_f ‹_›
    all_goals first
      | ((obtain rfl : i = S 0 0 := by omega); exact hQ)
      | (have e := ih (by omega); rw [ct, bn_t eq1] at e; simp only [nI_add]; exact ⟨⟨e⟩⟩)
      | (have e := ih (by omega); rw [ct, bn_f eq2] at e; simp only [nI_add]; exact ⟨⟨e⟩⟩)
  refine sm_body [4] 40 sm_k101 (fun CT K hC hK => ?_)
  repeat' first
    | (with_reducible refine And.intro ?_ ?_)
    | ((with_reducible intro h9); first | exact absurd h9 (by decide) | skip)
    | (with_reducible exact zn_in (by omega) (by decide))
    | (with_reducible exact z01) | (with_reducible exact z11) | (with_reducible exact zb01 _)
    | (with_reducible exact zn_inb (by omega) (by decide))
    | (with_reducible exact zn_ina (by omega) (by decide))
    | (with_reducible exact zn_inc (by omega) (by decide))
    | ((conv => whnf); first | (with_reducible refine And.intro ?_ ?_) | ((with_reducible intro h9); first | exact absurd h9 (by decide) | skip) | (with_reducible refine hK _ _ _ _ (sm_un ?_)))
  exact ⟨⟨lo 0 (Nat.zero_le _)⟩⟩
set_option maxRecDepth 100000 in
set_option maxHeartbeats 4000000 in
theorem s_codes (hC : sm_C 2 CT) (hD : mD S G) (hR : dR S) (hQ : Q (some (.int (nI (nc S)))) (hp G L)) : CT 102 [.ref 30] (hp G L) Q := by
  have r1 := hR.1
  have hu := ct_le (P := fun h => Nat.beq (S 1 h) 4) (S 0 0)
  refine sm_meth hC [some (.ref 30)] rfl rfl rfl ?_
  refine sm_body [] 40 sm_k102 (fun CT K hC hK => ?_)
  repeat' first
    | (with_reducible refine And.intro ?_ ?_)
    | ((with_reducible intro h9); first | exact absurd h9 (by decide) | skip)
    | (with_reducible exact zn_in (by omega) (by decide))
    | (with_reducible exact z01) | (with_reducible exact z11) | (with_reducible exact zb01 _)
    | (with_reducible exact zn_inb (by omega) (by decide))
    | (with_reducible exact zn_ina (by omega) (by decide))
    | (with_reducible exact zn_inc (by omega) (by decide))
    | ((conv => whnf); first | (with_reducible refine And.intro ?_ ?_) | ((with_reducible intro h9); first | exact absurd h9 (by decide) | skip) | (with_reducible refine hK _ _ _ _ (sm_un ?_)) | (with_reducible refine s_unknownHours (hC.mono (by omega)) hD hR ?_))
  refine zq ?_ hQ
  rw [zn_sh2 (by omega), Nat.one_mul]
  rfl
theorem nc_le {S : Nat → Nat → Nat} (hR : dR S) : nc S ≤ 4096 := by
  have hu := ct_le (P := fun h => Nat.beq (S 1 h) 4) (S 0 0)
  have r1 := hR.1
  have : nc S ≤ 4 ^ 6 := Nat.pow_le_pow_right (by decide) (by omega)
  omega
set_option maxRecDepth 100000 in
set_option maxHeartbeats 4000000 in
theorem s_layVane (hC : sm_C 3 CT) (hD : mD S G) (hR : dR S) {w : Nat → Nat} (hw : ∀ h, h < S 0 0 → w h < 4) (hB : ∀ h, h < S 0 0 → G 39 h = nI (w h)) {v : Nat} (hv : v < S 0 1)
    (hQ : ∀ G', eqx [40] G G' → (∀ h, h < S 0 0 → G' 40 (6 * v + h) = nI (ps S w v (h + 1))) → (∀ i, ¬ (i / 6 = v ∧ i % 6 < S 0 0) → G' 40 i = G 40 i) → Q none (hp G' L)) : CT 104 [.ref 30, .int (nI v)] (hp G L) Q := by
  have hD' := hD
  obtain ⟨e1, e2, e3, e4⟩ := hD'
  obtain ⟨r1, r2, r3, r4⟩ := hR
  have cv : (nI v).toNatClampNeg = v := nI_clamp (by omega)
  have p4 : ∀ i, i ≤ S 0 0 → ps S w v i < 4 := fun i hi => ps_lt (r4 v hv).2.1 i (fun j hj => hw j (by omega))
  refine sm_meth hC [some (.ref 30), some (.int (nI v)), none, none] rfl rfl rfl ?_
  have lo : ∀ i, i ≤ S 0 0 → ∀ G1, eqx [40] G G1 → (∀ h, h < i → G1 40 (6 * v + h) = nI (ps S w v (h + 1))) → (∀ i, ¬ (i / 6 = v ∧ i % 6 < S 0 0) → G1 40 i = G 40 i) → sm_Wk 2 104 Q none 9 [some (.ref 30), some (.int (nI v)), some (.int (nI (ps S w v i))), some (.int (nI i))] [] (hp G1 L) := by
    refine up _ (fun i hi ih G1 hx h1 h2 => ?_)
    obtain ⟨f1, f2, f3, f4⟩ := mD_x hx rfl hD
    have hB1 : i < S 0 0 → G1 39 i = nI (w i) := fun hl => by rw [hx 39 rfl]; exact hB i hl
    refine sm_body [9] 60 sm_k104 (fun CT K hC hK => ?_)
    repeat' first
      | (with_reducible refine And.intro ?_ ?_)
      | ((with_reducible intro h9); first | exact absurd h9 (by decide) | (replace h9 := nle f1 (by omega) (by omega) h9) | (replace h9 := yle f1 (by omega) (by omega) h9) | skip)
      | (with_reducible exact zn_in (by omega) (by decide))
      | (with_reducible exact z01) | (with_reducible exact z11) | (with_reducible exact zb01 _)
      | (with_reducible exact zn_inb (by omega) (by decide))
      | (with_reducible exact zn_ina (by omega) (by decide))
      | (with_reducible exact zn_inc (by omega) (by decide))
      | ((conv => whnf); first | (with_reducible refine And.intro ?_ ?_) | ((with_reducible intro h9); first | exact absurd h9 (by decide) | (replace h9 := nle f1 (by omega) (by omega) h9) | (replace h9 := yle f1 (by omega) (by omega) h9) | skip) | (with_reducible refine hK _ _ _ _ (sm_un ?_)) | (simp only [cv, zn_clI (show i < 2 ^ 31 by omega), (f4 v hv).1, (f4 v hv).2.2, hB1 ‹_›]; refine s_turnedM (hC.mono (by decide)) (r4 v hv).1 (r4 v hv).2.2 (p4 i hi) (hw i ‹_›) ?_))
    · obtain rfl : i = S 0 0 := by omega
      exact hQ G1 hx h1 h2
    · simp only [pk_mul, nI_add, zn_clI (show 6 * v + i < 2 ^ 31 by omega), hp_0, hp_1, hp_2, hp_3, hp_4, hp_5, hp_6, hp_7, hp_8, hp_9, hp_10, hp_11, hp_12, hp_13, hp_14, hp_15, hp_16, hp_17, hp_18, hp_19, hp_20, hp_22, hp_23, hp_24, hp_25, hp_26, hp_27, hp_28, hp_29, hp_30, hp_31, hp_32, hp_33, hp_34, hp_35, hp_36, hp_37, hp_38, hp_39, hp_40, hp_41, hp_42, hp_43, hp_44, hp_45, hp_46, hp_47, hp_48, hp_49, hf0_5, hf0_6, hf0_7, hf1_1, hf3_0, hf3_2, hf3_6, hf10_0, hf10_2, hf10_6, hf17_3, hf17_4, hf20_3, hf20_4, hf30_0, hf30_1, hf30_3, hf30_7, hf30_11, hf30_12, hf30_20, hf30_22, hf30_23, hf30_24, hf30_25, hf30_21, hf30_31, upd_su, updL_su]
      refine ⟨⟨ih h9 _ (eqx_su 40 _ rfl hx) (fun j hj => ?_) (fun j hj => ?_)⟩⟩
      · rw [su_eq, su_if]
        by_cases hji : j = i
        · subst hji; rw [if_pos rfl]; rfl
        · rw [if_neg (by omega)]; exact h1 j (by omega)
      · rw [su_eq, su_if, if_neg (by omega)]
        exact h2 j hj
  refine sm_body [9] 40 sm_k104 (fun CT K hC hK => ?_)
  repeat' first
    | (with_reducible refine And.intro ?_ ?_)
    | ((with_reducible intro h9); first | exact absurd h9 (by decide) | skip)
    | (with_reducible exact zn_in (by omega) (by decide))
    | (with_reducible exact z01) | (with_reducible exact z11) | (with_reducible exact zb01 _)
    | (with_reducible exact zn_inb (by omega) (by decide))
    | (with_reducible exact zn_ina (by omega) (by decide))
    | (with_reducible exact zn_inc (by omega) (by decide))
    | ((conv => whnf); first | (with_reducible refine And.intro ?_ ?_) | ((with_reducible intro h9); first | exact absurd h9 (by decide) | skip) | (with_reducible refine hK _ _ _ _ (sm_un ?_)))
  simp only [cv, (e4 v hv).2.1]
  exact ⟨⟨lo 0 (Nat.zero_le _) G eqx_rfl (fun j hj => absurd hj (Nat.not_lt_zero _)) (fun _ _ => rfl)⟩⟩
theorem wd_lt {S : Nat → Nat → Nat} (hR : dR S) (c i : Nat) : wd S c i < 4 := by
  unfold wd
  split
  · rename_i hi
    have := hR.2.2.1 i hi
    cases hb : Nat.beq (S 1 i) 4 with
    | true => show _ % 4 < 4; omega
    | false => have := Nat.ne_of_beq_eq_false hb; show S 1 i < 4; omega
  · decide
theorem rm_le {S : Nat → Nat → Nat} {c : Nat} : ∀ h, rm S c h ≤ c
  | 0 => Nat.le_refl _
  | h + 1 => by
    have := rm_le (S := S) (c := c) h
    rw [rm]
    cases Nat.beq (S 1 h) 4
    · exact this
    · show rm S c h / 4 ≤ c; omega
set_option maxRecDepth 100000 in
set_option maxHeartbeats 4000000 in
theorem s_layDay (hC : sm_C 4 CT) (hD : mD S G) (hR : dR S) {c : Nat} (hc : c < 2 ^ 31)
    (hQ : ∀ G', eqx [39, 40] G G' → (∀ h, h < S 0 0 → G' 39 h = nI (wd S c h)) → (∀ v, v < S 0 1 → ∀ h, h < S 0 0 → G' 40 (6 * v + h) = nI (ps S (wd S c) v (h + 1))) → (∀ i, S 0 0 ≤ i % 6 ∨ S 0 1 ≤ i / 6 → G' 40 i = G 40 i) → Q none (hp G' L)) : CT 103 [.ref 30, .int (nI c)] (hp G L) Q := by
  have hD' := hD
  obtain ⟨e1, e2, e3, e4⟩ := hD'
  have hR' := hR
  obtain ⟨r1, r2, r3, r4⟩ := hR'
  refine sm_meth hC [some (.ref 30), some (.int (nI c)), none, none, none] rfl rfl rfl ?_
  have lo2 : ∀ i, i ≤ S 0 1 → ∀ (o2 : Int32) o4 G1, eqx [39, 40] G G1 → (∀ h, h < S 0 0 → G1 39 h = nI (wd S c h)) → (∀ v, v < i → ∀ h, h < S 0 0 → G1 40 (6 * v + h) = nI (ps S (wd S c) v (h + 1))) → (∀ i, S 0 0 ≤ i % 6 ∨ S 0 1 ≤ i / 6 → G1 40 i = G 40 i) → sm_Wk 3 103 Q none 73 [some (.ref 30), some (.int (nI c)), some (.int o2), some (.int (nI i)), o4] [] (hp G1 L) := by
    refine up _ (fun i hi ih o2 o4 G1 hx h1 h2 hu => ?_)
    have hD1 := mD_x hx rfl hD
    have f2 := mD_v hD1
    refine sm_body [73] 60 sm_k103 (fun CT K hC hK => ?_)
    repeat' first
      | (with_reducible refine And.intro ?_ ?_)
      | ((with_reducible intro h9); first | exact absurd h9 (by decide) | (replace h9 := nle f2 (by omega) (by omega) h9) | (replace h9 := yle f2 (by omega) (by omega) h9) | skip)
      | (with_reducible exact zn_in (by omega) (by decide))
      | (with_reducible exact z01) | (with_reducible exact z11) | (with_reducible exact zb01 _)
      | (with_reducible exact zn_inb (by omega) (by decide))
      | (with_reducible exact zn_ina (by omega) (by decide))
      | (with_reducible exact zn_inc (by omega) (by decide))
      | ((conv => whnf); first | (with_reducible refine And.intro ?_ ?_) | ((with_reducible intro h9); first | exact absurd h9 (by decide) | (replace h9 := nle f2 (by omega) (by omega) h9) | (replace h9 := yle f2 (by omega) (by omega) h9) | skip) | (with_reducible refine hK _ _ _ _ (sm_un ?_)) | (with_reducible refine s_layVane (hC.mono (by omega)) hD1 hR (fun h _ => wd_lt hR c h) h1 ‹_› (fun G2 hx2 h3 h4 => ?_)))
    · obtain rfl : i = S 0 1 := by omega
      exact hQ G1 hx h1 h2 hu
    · simp only [nI_add]
      refine ⟨⟨ih h9 o2 o4 G2 (eqx_trans hx (eqx_sub rfl hx2)) (fun j hj => by rw [hx2 39 rfl]; exact h1 j hj) (fun v hv j hj => ?_) (fun j hj => by rw [h4 j (by omega)]; exact hu j hj)⟩⟩
      by_cases hvi : v = i
      · subst hvi; exact h3 j hj
      · rw [h4 _ (by omega)]; exact h2 v (by omega) j hj
  have lo : ∀ i, i ≤ S 0 0 → ∀ o4 G1, eqx [39, 40] G G1 → (∀ h, h < i → G1 39 h = nI (wd S c h)) → G1 40 = G 40 → sm_Wk 3 103 Q none 4 [some (.ref 30), some (.int (nI c)), some (.int (nI (rm S c i))), some (.int (nI i)), o4] [] (hp G1 L) := by
    refine up _ (fun i hi ih o4 G1 hx h1 hu => ?_)
    have hD1 := mD_x hx rfl hD
    obtain ⟨f1, f2, f3, f4⟩ := hD1
    have eb : i < S 0 0 → (G1 31 (nI i).toNatClampNeg = -1 ↔ S 1 i = 4) := by
      intro hl
      rw [zn_clI (by omega), f3 i hl, wI_m (r3 i hl)]
    refine sm_body [4, 73] 60 sm_k103 (fun CT K hC hK => ?_)
    repeat' first
      | (with_reducible refine And.intro ?_ ?_)
      | ((with_reducible intro h9); first | exact absurd h9 (by decide) | (replace h9 := nle f1 (by omega) (by omega) h9) | (replace h9 := yle f1 (by omega) (by omega) h9) | (rw [eb ‹_›] at h9) | skip)
      | (with_reducible exact zn_in (by omega) (by decide))
      | (with_reducible exact z01) | (with_reducible exact z11) | (with_reducible exact zb01 _)
      | (with_reducible exact zn_inb (by omega) (by decide))
      | (with_reducible exact zn_ina (by omega) (by decide))
      | (with_reducible exact zn_inc (by omega) (by decide))
      | ((conv => whnf); first | (with_reducible refine And.intro ?_ ?_) | ((with_reducible intro h9); first | exact absurd h9 (by decide) | (replace h9 := nle f1 (by omega) (by omega) h9) | (replace h9 := yle f1 (by omega) (by omega) h9) | (rw [eb ‹_›] at h9) | skip) | (with_reducible refine hK _ _ _ _ (sm_un ?_)))
    · exact ⟨⟨lo2 0 (Nat.zero_le _) _ _ G1 hx (fun j hj => h1 j (by omega)) (fun v hv => absurd hv (Nat.not_lt_zero _)) (fun j _ => by rw [hu])⟩⟩
    · have hl : i < S 0 0 := by omega
      have hb : Nat.beq (S 1 i) 4 = true := beq_t ‹_›
      have hr := rm_le (S := S) (c := c) i
      have er : rm S c (i + 1) = rm S c i / 4 := by rw [rm, hb]; rfl
      have ew : wd S c i = rm S c i % 4 := by rw [wd, if_pos hl, hb]; rfl
      simp only [nI_add, pk_div (show rm S c i < 2 ^ 31 by omega) (show 0 < 4 by decide) (show 4 < 2 ^ 31 by decide), zn_ir (show rm S c i < 2 ^ 31 by omega) (show 0 < 4 by decide) (show 4 < 2 ^ 31 by decide), zn_clI (show i < 2 ^ 31 by omega), hp_0, hp_1, hp_2, hp_3, hp_4, hp_5, hp_6, hp_7, hp_8, hp_9, hp_10, hp_11, hp_12, hp_13, hp_14, hp_15, hp_16, hp_17, hp_18, hp_19, hp_20, hp_22, hp_23, hp_24, hp_25, hp_26, hp_27, hp_28, hp_29, hp_30, hp_31, hp_32, hp_33, hp_34, hp_35, hp_36, hp_37, hp_38, hp_39, hp_40, hp_41, hp_42, hp_43, hp_44, hp_45, hp_46, hp_47, hp_48, hp_49, hf0_5, hf0_6, hf0_7, hf1_1, hf3_0, hf3_2, hf3_6, hf10_0, hf10_2, hf10_6, hf17_3, hf17_4, hf20_3, hf20_4, hf30_0, hf30_1, hf30_3, hf30_7, hf30_11, hf30_12, hf30_20, hf30_22, hf30_23, hf30_24, hf30_25, hf30_21, hf30_31, upd_su, updL_su, ← er, ← ew]
      refine ⟨⟨ih hl _ _ (eqx_su 39 _ rfl hx) (fun j hj => ?_) (by rw [su_ne _ _ (by decide)]; exact hu)⟩⟩
      rw [su_eq, su_if]
      by_cases hji : j = i
      · subst hji; rw [if_pos rfl]
      · rw [if_neg hji]; exact h1 j (by omega)
    · have hl : i < S 0 0 := by omega
      have hb : Nat.beq (S 1 i) 4 = false := beq_f ‹_›
      have hr := rm_le (S := S) (c := c) i
      have hk := r3 i hl
      have er : rm S c (i + 1) = rm S c i / 1 := by rw [rm, hb, Nat.div_one]; rfl
      have ew : wd S c i = S 1 i := by rw [wd, if_pos hl, hb]; rfl
      have ex : G1 31 i = nI (wd S c i) := by rw [f3 i hl, ew, wI_t (by omega)]
      simp only [nI_add, pk_div (show rm S c i < 2 ^ 31 by omega) (show 0 < 1 by decide) (show 1 < 2 ^ 31 by decide), zn_clI (show i < 2 ^ 31 by omega), hp_0, hp_1, hp_2, hp_3, hp_4, hp_5, hp_6, hp_7, hp_8, hp_9, hp_10, hp_11, hp_12, hp_13, hp_14, hp_15, hp_16, hp_17, hp_18, hp_19, hp_20, hp_22, hp_23, hp_24, hp_25, hp_26, hp_27, hp_28, hp_29, hp_30, hp_31, hp_32, hp_33, hp_34, hp_35, hp_36, hp_37, hp_38, hp_39, hp_40, hp_41, hp_42, hp_43, hp_44, hp_45, hp_46, hp_47, hp_48, hp_49, hf0_5, hf0_6, hf0_7, hf1_1, hf3_0, hf3_2, hf3_6, hf10_0, hf10_2, hf10_6, hf17_3, hf17_4, hf20_3, hf20_4, hf30_0, hf30_1, hf30_3, hf30_7, hf30_11, hf30_12, hf30_20, hf30_22, hf30_23, hf30_24, hf30_25, hf30_21, hf30_31, upd_su, updL_su, ← er, ex]
      refine ⟨⟨ih hl _ _ (eqx_su 39 _ rfl hx) (fun j hj => ?_) (by rw [su_ne _ _ (by decide)]; exact hu)⟩⟩
      rw [su_eq, su_if]
      by_cases hji : j = i
      · subst hji; rw [if_pos rfl]
      · rw [if_neg hji]; exact h1 j (by omega)
  refine sm_body [4] 40 sm_k103 (fun CT K hC hK => ?_)
  repeat' first
    | (with_reducible refine And.intro ?_ ?_)
    | ((with_reducible intro h9); first | exact absurd h9 (by decide) | skip)
    | (with_reducible exact zn_in (by omega) (by decide))
    | (with_reducible exact z01) | (with_reducible exact z11) | (with_reducible exact zb01 _)
    | (with_reducible exact zn_inb (by omega) (by decide))
    | (with_reducible exact zn_ina (by omega) (by decide))
    | (with_reducible exact zn_inc (by omega) (by decide))
    | ((conv => whnf); first | (with_reducible refine And.intro ?_ ?_) | ((with_reducible intro h9); first | exact absurd h9 (by decide) | skip) | (with_reducible refine hK _ _ _ _ (sm_un ?_)))
  exact ⟨⟨lo 0 (Nat.zero_le _) _ G eqx_rfl (fun j hj => absurd hj (Nat.not_lt_zero _)) rfl⟩⟩
/-- all that stands in pointsAt is a quarter -/
def pA (G : Nat → Nat → Int32) : Prop := ∀ k, k < 24 → ∃ q, q < 4 ∧ G 40 k = nI q
/-- what the other one's day looks like, a code laid -/
def ld (S : Nat → Nat → Nat) (c : Nat) (G : Nat → Nat → Int32) : Prop := (∀ h, h < S 0 0 → G 39 h = nI (wd S c h)) ∧ (∀ v, v < S 0 1 → ∀ h, h < S 0 0 → G 40 (6 * v + h) = nI (ps S (wd S c) v (h + 1)))
set_option maxRecDepth 100000 in
set_option maxHeartbeats 4000000 in
theorem s_fits (hC : sm_C 5 CT) (hD : mD S G) (hR : dR S) (hS : mS S G) (hN : nR S) {c : Nat} (hc : c < 2 ^ 31)
    (hQ : ∀ G', eqx [39, 40] G G' → ld S c G' → (pA G → pA G') → Q (some (.int (sm_b (ft S (wd S c))))) (hp G' L)) : CT 105 [.ref 30, .int (nI c)] (hp G L) Q := by
  have hR' := hR
  obtain ⟨r1, r2, r3, r4⟩ := hR'
  obtain ⟨n1, n2⟩ := hN
  have p4 : ∀ v, v < S 0 1 → ∀ i, ps S (wd S c) v i < 4 := fun v hv i => ps_lt (r4 v hv).2.1 i (fun j hj => wd_lt hR c j)
  refine sm_meth hC [some (.ref 30), some (.int (nI c)), none, none] rfl rfl rfl ?_
  have lo : ∀ i, i ≤ S 0 2 → ∀ G1 b, eqx [39, 40] G G1 → ld S c G1 → (pA G → pA G1) → b = decide (∀ k, k < i → ps S (wd S c) (S 6 k) (S 7 k + 1) = S 8 k) → sm_Wk 4 105 Q none 9 [some (.ref 30), some (.int (nI c)), some (.int (sm_b b)), some (.int (nI i))] [] (hp G1 L) := by
    refine up _ (fun i hi ih G1 b hx hl hpa hb => ?_)
    obtain ⟨f1, f2⟩ := mS_x hx rfl hS
    have hl2 := hl.2
    refine sm_body [9] 60 sm_k105 (fun CT K hC hK => ?_)
    have eb : i < S 0 2 → (nI 6 * G1 35 (nI i).toNatClampNeg + G1 36 (nI i).toNatClampNeg = nI (6 * S 6 i + S 7 i)) := by
      intro hl
      rw [zn_clI (by omega), (f2 i hl).1, (f2 i hl).2.1, pk_mul, nI_add]
    have ei : i < S 0 2 → sm_in (nI (6 * S 6 i + S 7 i)) 24 := fun hl => by
      have := n2 i hl
      exact zn_in (by omega) (by decide)
    have ee : i < S 0 2 → (G1 40 (nI (6 * S 6 i + S 7 i)).toNatClampNeg = G1 37 (nI i).toNatClampNeg ↔ ps S (wd S c) (S 6 i) (S 7 i + 1) = S 8 i) := by
      intro hl
      have := n2 i hl
      rw [zn_clI (by omega), zn_clI (by omega), (f2 i hl).2.2, hl2 _ this.1 _ this.2.1, nI_eq (by have := p4 _ this.1 (S 7 i + 1); omega) (by omega)]
    repeat' first
      | (with_reducible refine And.intro ?_ ?_)
      | ((with_reducible intro h9); first | exact absurd h9 (by decide) | (replace h9 := nle f1 (by omega) (by omega) h9) | (replace h9 := yle f1 (by omega) (by omega) h9) | (rw [eb ‹_›, ee ‹_›] at h9) | (replace h9 := sb_f h9) | (replace h9 := sb_t h9) | skip)
      | (with_reducible exact zn_in (by omega) (by decide))
      | (with_reducible exact z01) | (with_reducible exact z11) | (with_reducible exact zb01 _)
      | (with_reducible exact zn_inb (by omega) (by decide))
      | (with_reducible exact zn_ina (by omega) (by decide))
      | (with_reducible exact zn_inc (by omega) (by decide))
      | ((conv => whnf); first | (with_reducible refine And.intro ?_ ?_) | ((with_reducible intro h9); first | exact absurd h9 (by decide) | (replace h9 := nle f1 (by omega) (by omega) h9) | (replace h9 := yle f1 (by omega) (by omega) h9) | (rw [eb ‹_›, ee ‹_›] at h9) | (replace h9 := sb_f h9) | (replace h9 := sb_t h9) | skip) | (with_reducible refine hK _ _ _ _ (sm_un ?_)) | (rw [eb ‹_›]; exact ei ‹_›))
    · obtain rfl : i = S 0 2 := by omega
      subst hb
      exact hQ G1 hx hl hpa
    · simp only [nI_add]; exact ⟨⟨ih ‹_› G1 false hx hl hpa (by rw [h9] at hb; refine (decide_eq_false (fun z => ?_)).symm; exact absurd hb.symm (by rw [decide_eq_true (fun k hk => z k (by omega))]; decide))⟩⟩
    · simp only [nI_add]; exact ⟨⟨ih ‹_› G1 false hx hl hpa (decide_eq_false (fun z => h9 (z i (by omega)))).symm⟩⟩
    · have hb' : b = true := ‹b = true›
      rw [hb'] at hb
      have hz := of_decide_eq_true hb.symm
      simp only [nI_add]; exact ⟨⟨ih ‹_› G1 true hx hl hpa (decide_eq_true (fun k hk => if e : k = i then (by subst e; exact h9) else hz k (by omega))).symm⟩⟩
  refine sm_body [9] 40 sm_k105 (fun CT K hC hK => ?_)
  repeat' first
    | (with_reducible refine And.intro ?_ ?_)
    | ((with_reducible intro h9); first | exact absurd h9 (by decide) | skip)
    | (with_reducible exact zn_in (by omega) (by decide))
    | (with_reducible exact z01) | (with_reducible exact z11) | (with_reducible exact zb01 _)
    | (with_reducible exact zn_inb (by omega) (by decide))
    | (with_reducible exact zn_ina (by omega) (by decide))
    | (with_reducible exact zn_inc (by omega) (by decide))
    | ((conv => whnf); first | (with_reducible refine And.intro ?_ ?_) | ((with_reducible intro h9); first | exact absurd h9 (by decide) | skip) | (with_reducible refine hK _ _ _ _ (sm_un ?_)) | (with_reducible refine s_layDay (hC.mono (by omega)) hD hR hc (fun G1 hx h1 h2 h3 => ?_)))
  refine ⟨⟨lo 0 (Nat.zero_le _) G1 true hx ⟨h1, h2⟩ (fun hp k hk => ?_) (decide_eq_true (fun k hk => absurd hk (Nat.not_lt_zero _))).symm⟩⟩
  by_cases hc : k % 6 < S 0 0 ∧ k / 6 < S 0 1
  · have e := h2 (k / 6) hc.2 (k % 6) hc.1
    rw [show 6 * (k / 6) + k % 6 = k by omega] at e
    exact ⟨_, p4 _ hc.2 _, e⟩
  · rw [h3 k (by omega)]
    exact hp k hk
theorem bq_step {c : Nat → Nat} {p : Nat} (hp : p < 4) : bq 4 c ||| 2 ^ p = bq 4 (fun q => c q + bn (Nat.beq p q)) := by
  have key : ∀ b0 b1 b2 b3 : Bool, ∀ p, p < 4 → (cond b0 1 0 + cond b1 2 0 + cond b2 4 0 + cond b3 8 0) ||| 2 ^ p = (cond (b0 || Nat.beq p 0) 1 0 + cond (b1 || Nat.beq p 1) 2 0 + cond (b2 || Nat.beq p 2) 4 0 + cond (b3 || Nat.beq p 3) 8 0) := by decide
  have e1 : ∀ c : Nat → Nat, bq 4 c = cond (decide (0 < c 0)) 1 0 + cond (decide (0 < c 1)) 2 0 + cond (decide (0 < c 2)) 4 0 + cond (decide (0 < c 3)) 8 0 := by
    intro c
    simp only [bq, Nat.zero_add]
    by_cases h0 : 0 < c 0 <;> by_cases h1 : 0 < c 1 <;> by_cases h2 : 0 < c 2 <;> by_cases h3 : 0 < c 3 <;> simp [h0, h1, h2, h3]
  have e2 : ∀ q, decide (0 < c q + bn (Nat.beq p q)) = (decide (0 < c q) || Nat.beq p q) := by
    intro q
    cases Nat.beq p q with
    | true => rw [bn_t rfl]; simp
    | false => rw [bn_f rfl]; simp
  rw [e1, e1, key _ _ _ _ p hp]
  simp only [e2]
theorem aAll_codes {S : Nat → Nat → Nat} (hR : dR S) : aAll S = sg (nc S) (fun c => bn (ft S (wd S c))) := by
  unfold aAll
  rw [cnt_codes hR]
  apply sg_congr
  intro c _
  rw [Bool.and_true]
set_option maxRecDepth 100000 in
set_option maxHeartbeats 4000000 in
theorem s_fittingNow (hC : sm_C 6 CT) (hD : mD S G) (hR : dR S) (hS : mS S G) (hN : nR S)
    (hQ : ∀ G', eqx [39, 40] G G' → (pA G → pA G') → Q (some (.int (nI (aAll S)))) (hp G' L)) : CT 106 [.ref 30] (hp G L) Q := by
  have hnc := nc_le hR
  refine sm_meth hC [some (.ref 30), none, none] rfl rfl rfl ?_
  have lo : ∀ i, i ≤ nc S → ∀ G1, eqx [39, 40] G G1 → (pA G → pA G1) → sm_Wk 5 106 Q none 4 [some (.ref 30), some (.int (nI (sg i (fun c => bn (ft S (wd S c)))))), some (.int (nI i))] [] (hp G1 L) := by
    refine up _ (fun i hi ih G1 hx hpa => ?_)
    have hD1 := mD_x hx rfl hD
    have hS1 := mS_x hx rfl hS
    refine sm_body [4] 60 sm_k106 (fun CT K hC hK => ?_)
    repeat' first
      | (with_reducible refine And.intro ?_ ?_)
      | ((with_reducible intro h9); first | exact absurd h9 (by decide) | (replace h9 := zle (by omega) (by omega) h9) | (replace h9 := znle (by omega) (by omega) h9) | (replace h9 := sb_f h9) | (replace h9 := sb_t h9) | skip)
      | (with_reducible exact zn_in (by omega) (by decide))
      | (with_reducible exact z01) | (with_reducible exact z11) | (with_reducible exact zb01 _)
      | (with_reducible exact zn_inb (by omega) (by decide))
      | (with_reducible exact zn_ina (by omega) (by decide))
      | (with_reducible exact zn_inc (by omega) (by decide))
      | ((conv => whnf); first | (with_reducible refine And.intro ?_ ?_) | ((with_reducible intro h9); first | exact absurd h9 (by decide) | (replace h9 := zle (by omega) (by omega) h9) | (replace h9 := znle (by omega) (by omega) h9) | (replace h9 := sb_f h9) | (replace h9 := sb_t h9) | skip) | (with_reducible refine hK _ _ _ _ (sm_un ?_)) | (with_reducible refine s_codes (hC.mono (by omega)) hD1 hR ?_) | (with_reducible refine s_fits (hC.mono (by omega)) hD1 hR hS1 hN (by omega) (fun G2 hx2 hl2 hp2 => ?_)))
    · obtain rfl : i = nc S := by omega
      rw [← aAll_codes hR]
      exact hQ G1 hx hpa
    · have e := ih ‹_› G2 (eqx_trans hx hx2) (fun z => hp2 (hpa z))
      rw [sg, bn_f h9] at e
      simp only [nI_add]; exact ⟨⟨e⟩⟩
    · have e := ih ‹_› G2 (eqx_trans hx hx2) (fun z => hp2 (hpa z))
      rw [sg, bn_t h9] at e
      simp only [nI_add]; exact ⟨⟨e⟩⟩
  refine sm_body [4] 40 sm_k106 (fun CT K hC hK => ?_)
  repeat' first
    | (with_reducible refine And.intro ?_ ?_)
    | ((with_reducible intro h9); first | exact absurd h9 (by decide) | skip)
    | (with_reducible exact zn_in (by omega) (by decide))
    | (with_reducible exact z01) | (with_reducible exact z11) | (with_reducible exact zb01 _)
    | (with_reducible exact zn_inb (by omega) (by decide))
    | (with_reducible exact zn_ina (by omega) (by decide))
    | (with_reducible exact zn_inc (by omega) (by decide))
    | ((conv => whnf); first | (with_reducible refine And.intro ?_ ?_) | ((with_reducible intro h9); first | exact absurd h9 (by decide) | skip) | (with_reducible refine hK _ _ _ _ (sm_un ?_)))
  exact ⟨⟨lo 0 (Nat.zero_le _) G eqx_rfl (fun z => z)⟩⟩
end MODEL
