/-! The hill's methods that change nothing. -/
section HILL
variable {CT : sm_CT} {G : Nat → Nat → Int32} {L : Nat → Nat → Int64} {Q : sm_Q} {S : Nat → Nat → Nat}
set_option maxRecDepth 100000 in
set_option maxHeartbeats 4000000 in
theorem s_hasHour (hC : sm_C 1 CT) {n : Nat} (e : G 3 0 = nI n) (hn : n ≤ 6) {x : Int32} (h1 : ∀ j, j < n → x = nI j → Q (some (.int (nI 1))) (hp G L)) (h0 : inb x n = false → Q (some (.int (nI 0))) (hp G L)) : CT 1 [.ref 3, .int x] (hp G L) Q := by
  refine sm_meth hC [some (.ref 3), some (.int x)] rfl rfl rfl ?_
  refine sm_body [] 40 sm_k1 (fun CT K hC hK => ?_)
  repeat' first
    | (with_reducible refine And.intro ?_ ?_)
    | ((with_reducible intro h9); first | exact absurd h9 (by decide) | skip)
    | (with_reducible exact zn_in (by omega) (by decide))
    | (with_reducible exact z01) | (with_reducible exact z11) | (with_reducible exact zb01 _)
    | (with_reducible exact zn_inb (by omega) (by decide))
    | (with_reducible exact zn_ina (by omega) (by decide))
    | (with_reducible exact zn_inc (by omega) (by decide))
    | ((conv => whnf); first | (with_reducible refine And.intro ?_ ?_) | ((with_reducible intro h9); first | exact absurd h9 (by decide) | skip) | (with_reducible refine hK _ _ _ _ (sm_un ?_)) | (with_reducible exact z01) | (with_reducible exact z11))
  · exact h0 (inb_lo ‹_›)
  · rw [e] at h9
    exact h0 (inb_hi h9 (by omega))
  · rw [e] at h9
    obtain ⟨j, hj, e⟩ := inb_t ‹¬ x < nI 0› (Int32.not_le.mp h9) (by omega)
    exact h1 j hj e
set_option maxRecDepth 100000 in
set_option maxHeartbeats 4000000 in
theorem s_hasVane (hC : sm_C 1 CT) {n : Nat} (e : G 3 2 = nI n) (hn : n ≤ 4) {x : Int32} (h1 : ∀ j, j < n → x = nI j → Q (some (.int (nI 1))) (hp G L)) (h0 : inb x n = false → Q (some (.int (nI 0))) (hp G L)) : CT 2 [.ref 3, .int x] (hp G L) Q := by
  refine sm_meth hC [some (.ref 3), some (.int x)] rfl rfl rfl ?_
  refine sm_body [] 40 sm_k2 (fun CT K hC hK => ?_)
  repeat' first
    | (with_reducible refine And.intro ?_ ?_)
    | ((with_reducible intro h9); first | exact absurd h9 (by decide) | skip)
    | (with_reducible exact zn_in (by omega) (by decide))
    | (with_reducible exact z01) | (with_reducible exact z11) | (with_reducible exact zb01 _)
    | (with_reducible exact zn_inb (by omega) (by decide))
    | (with_reducible exact zn_ina (by omega) (by decide))
    | (with_reducible exact zn_inc (by omega) (by decide))
    | ((conv => whnf); first | (with_reducible refine And.intro ?_ ?_) | ((with_reducible intro h9); first | exact absurd h9 (by decide) | skip) | (with_reducible refine hK _ _ _ _ (sm_un ?_)) | (with_reducible exact z01) | (with_reducible exact z11))
  · exact h0 (inb_lo ‹_›)
  · rw [e] at h9
    exact h0 (inb_hi h9 (by omega))
  · rw [e] at h9
    obtain ⟨j, hj, e⟩ := inb_t ‹¬ x < nI 0› (Int32.not_le.mp h9) (by omega)
    exact h1 j hj e
set_option maxRecDepth 100000 in
set_option maxHeartbeats 4000000 in
theorem s_mayBlow (hC : sm_C 1 CT) (hD : cD S G) (hR : dR S) {h q : Nat} (hh : h < S 0 0) (hq : q < 4) (hQ : Q (some (.int (sm_b (may S h q)))) (hp G L)) : CT 10 [.ref 3, .int (nI h), .int (nI q)] (hp G L) Q := by
  obtain ⟨e1, e2, e3, e4⟩ := hD
  obtain ⟨r1, r2, r3, r4⟩ := hR
  have ci : (nI h).toNatClampNeg = h := nI_clamp (by omega)
  have k4 := r3 h hh
  refine sm_meth hC [some (.ref 3), some (.int (nI h)), some (.int (nI q))] rfl rfl rfl ?_
  refine sm_body [] 40 sm_k10 (fun CT K hC hK => ?_)
  repeat' first
    | (with_reducible refine And.intro ?_ ?_)
    | ((with_reducible intro h9); first | exact absurd h9 (by decide) | skip)
    | (with_reducible exact zn_in (by omega) (by decide))
    | (with_reducible exact z01) | (with_reducible exact z11) | (with_reducible exact zb01 _)
    | (with_reducible exact zn_inb (by omega) (by decide))
    | (with_reducible exact zn_ina (by omega) (by decide))
    | (with_reducible exact zn_inc (by omega) (by decide))
    | ((conv => whnf); first | (with_reducible refine And.intro ?_ ?_) | ((with_reducible intro h9); first | exact absurd h9 (by decide) | skip) | (with_reducible refine hK _ _ _ _ (sm_un ?_)) | (with_reducible exact z01) | (with_reducible exact z11))
  all_goals simp only [ci, e3 h hh, wI_m k4, wI_q k4 hq] at *
  all_goals first
    | (refine zq (b_t ?_) hQ; rw [may, beq_t ‹_›]; rfl)
    | (refine zq (b_f ?_) hQ; rw [may, beq_f ‹_›, beq_f ‹_›]; rfl)
    | (refine zq (b_t ?_) hQ; rw [may, beq_t (b := q) ‹_›, Bool.or_true])
set_option maxRecDepth 100000 in
set_option maxHeartbeats 4000000 in
theorem s_startPose (hC : sm_C 1 CT) (hD : cD S G) (hR : dR S) (hQ : Q (some (.int (nI (zp (S 0 1) (S 3))))) (hp G L)) : CT 13 [.ref 3] (hp G L) Q := by
  obtain ⟨e1, e2, e3, e4⟩ := hD
  obtain ⟨r1, r2, r3, r4⟩ := hR
  refine sm_meth hC [some (.ref 3), none, none] rfl rfl rfl ?_
  have lo : ∀ i, i ≤ S 0 1 → sm_Wk 0 13 Q none 4 [some (.ref 3), some (.int (nI (zp i (S 3)))), some (.int (nI i))] [] (hp G L) := by
    refine up _ (fun i hi ih => ?_)
    refine sm_body [4] 40 sm_k13 (fun CT K hC hK => ?_)
    repeat' first
      | (with_reducible refine And.intro ?_ ?_)
      | ((with_reducible intro h9); first | exact absurd h9 (by decide) | (replace h9 := nle e2 (by omega) (by omega) h9) | (replace h9 := yle e2 (by omega) (by omega) h9) | skip)
      | (with_reducible exact zn_in (by omega) (by decide))
      | (with_reducible exact z01) | (with_reducible exact z11) | (with_reducible exact zb01 _)
      | (with_reducible exact zn_inb (by omega) (by decide))
      | (with_reducible exact zn_ina (by omega) (by decide))
      | (with_reducible exact zn_inc (by omega) (by decide))
      | ((conv => whnf); first | (with_reducible refine And.intro ?_ ?_) | ((with_reducible intro h9); first | exact absurd h9 (by decide) | (replace h9 := nle e2 (by omega) (by omega) h9) | (replace h9 := yle e2 (by omega) (by omega) h9) | skip) | (with_reducible refine hK _ _ _ _ (sm_un ?_)))
    · obtain rfl : i = S 0 1 := by omega
      exact hQ
    · have hl := h9
      simp only [zn_clI (show i < 2 ^ 31 by omega), (e4 i hl).2.1, zn_sh2 (show i < 8 by omega), zn_or, zp_or (f := S 3) (n := i) (fun i hi => (r4 i (by omega)).2.1), nI_add]
      exact ⟨⟨ih hl⟩⟩
  refine sm_body [4] 40 sm_k13 (fun CT K hC hK => ?_)
  repeat' first
    | (with_reducible refine And.intro ?_ ?_)
    | ((with_reducible intro h9); first | exact absurd h9 (by decide) | skip)
    | (with_reducible exact zn_in (by omega) (by decide))
    | (with_reducible exact z01) | (with_reducible exact z11) | (with_reducible exact zb01 _)
    | (with_reducible exact zn_inb (by omega) (by decide))
    | (with_reducible exact zn_ina (by omega) (by decide))
    | (with_reducible exact zn_inc (by omega) (by decide))
    | ((conv => whnf); first | (with_reducible refine And.intro ?_ ?_) | ((with_reducible intro h9); first | exact absurd h9 (by decide) | skip) | (with_reducible refine hK _ _ _ _ (sm_un ?_)))
  exact ⟨⟨lo 0 (Nat.zero_le _)⟩⟩
set_option maxRecDepth 100000 in
set_option maxHeartbeats 4000000 in
theorem s_turnedPose (hC : sm_C 3 CT) (hD : cD S G) (hR : dR S) {f : Nat → Nat} {w : Nat} (hf : ∀ v, v < S 0 1 → f v < 4) (hw : w < 4) (hQ : Q (some (.int (nI (zp (S 0 1) (fun v => tv S v (f v) w))))) (hp G L)) : CT 14 [.ref 3, .int (nI (zp (S 0 1) f)), .int (nI w)] (hp G L) Q := by
  obtain ⟨e1, e2, e3, e4⟩ := hD
  obtain ⟨r1, r2, r3, r4⟩ := hR
  have h256 := zp_256 r2 hf
  refine sm_meth hC [some (.ref 3), some (.int (nI (zp (S 0 1) f))), some (.int (nI w)), none, none] rfl rfl rfl ?_
  have lo : ∀ i, i ≤ S 0 1 → sm_Wk 2 14 Q none 5 [some (.ref 3), some (.int (nI (zp (S 0 1) f))), some (.int (nI w)), some (.int (nI (zp i (fun v => tv S v (f v) w)))), some (.int (nI i))] [] (hp G L) := by
    refine up _ (fun i hi ih => ?_)
    refine sm_body [5] 60 sm_k14 (fun CT K hC hK => ?_)
    repeat' first
      | (with_reducible refine And.intro ?_ ?_)
      | ((with_reducible intro h9); first | exact absurd h9 (by decide) | (replace h9 := nle e2 (by omega) (by omega) h9) | (replace h9 := yle e2 (by omega) (by omega) h9) | skip)
      | (with_reducible exact zn_in (by omega) (by decide))
      | (with_reducible exact z01) | (with_reducible exact z11) | (with_reducible exact zb01 _)
      | (with_reducible exact zn_inb (by omega) (by decide))
      | (with_reducible exact zn_ina (by omega) (by decide))
      | (with_reducible exact zn_inc (by omega) (by decide))
      | ((conv => whnf); first | (with_reducible refine And.intro ?_ ?_) | ((with_reducible intro h9); first | exact absurd h9 (by decide) | (replace h9 := nle e2 (by omega) (by omega) h9) | (replace h9 := yle e2 (by omega) (by omega) h9) | skip) | (with_reducible refine hK _ _ _ _ (sm_un ?_)) | (simp only [zn_clI (show i < 2 ^ 31 by omega), (e4 i h9).1, (e4 i h9).2.2, zn_at2 (show zp (S 0 1) f < 2 ^ 31 by omega) (show i < 8 by omega), zp_at hf h9]; refine s_turned (hC.mono (by decide)) (r4 i h9).1 (r4 i h9).2.2 (hf i h9) hw ?_))
    · obtain rfl : i = S 0 1 := by omega
      exact hQ
    · simp only [zn_sh2 (show i < 8 by omega), zn_or, nI_add]
      have ez := zp_or (f := fun v => tv S v (f v) w) (n := i) (fun j hj => trn_lt (hf j (by omega)) hw) (tv S i (f i) w)
      unfold tv at ez
      simp only [tv, ez]
      exact ⟨⟨ih h9⟩⟩
  refine sm_body [5] 40 sm_k14 (fun CT K hC hK => ?_)
  repeat' first
    | (with_reducible refine And.intro ?_ ?_)
    | ((with_reducible intro h9); first | exact absurd h9 (by decide) | skip)
    | (with_reducible exact zn_in (by omega) (by decide))
    | (with_reducible exact z01) | (with_reducible exact z11) | (with_reducible exact zb01 _)
    | (with_reducible exact zn_inb (by omega) (by decide))
    | (with_reducible exact zn_ina (by omega) (by decide))
    | (with_reducible exact zn_inc (by omega) (by decide))
    | ((conv => whnf); first | (with_reducible refine And.intro ?_ ?_) | ((with_reducible intro h9); first | exact absurd h9 (by decide) | skip) | (with_reducible refine hK _ _ _ _ (sm_un ?_)))
  exact ⟨⟨lo 0 (Nat.zero_le _)⟩⟩
set_option maxRecDepth 100000 in
set_option maxHeartbeats 4000000 in
theorem s_agrees (hC : sm_C 1 CT) (hD : cD S G) (hR : dR S) (hL : cL S G) {f : Nat → Nat} {h : Nat} (hf : ∀ v, v < S 0 1 → f v < 4) (hh : h < S 0 0) (hQ : Q (some (.int (sm_b (ag S h f)))) (hp G L)) : CT 15 [.ref 3, .int (nI h), .int (nI (zp (S 0 1) f))] (hp G L) Q := by
  obtain ⟨e1, e2, e3, e4⟩ := hD
  obtain ⟨r1, r2, r3, r4⟩ := hR
  have h256 := zp_256 r2 hf
  refine sm_meth hC [some (.ref 3), some (.int (nI h)), some (.int (nI (zp (S 0 1) f))), none, none] rfl rfl rfl ?_
  have lo : ∀ i, i ≤ S 0 1 → ∀ o, (∀ v, v < i → ob S v h (f v) = true) → sm_Wk 0 15 Q none 2 [some (.ref 3), some (.int (nI h)), some (.int (nI (zp (S 0 1) f))), some (.int (nI i)), o] [] (hp G L) := by
    refine up _ (fun i hi ih o hv => ?_)
    refine sm_body [2] 60 sm_k15 (fun CT K hC hK => ?_)
    have eb : i < S 0 1 → sm_shr (G 9 (nI i * nI 6 + nI h).toNatClampNeg) (sm_shr (nI (zp (S 0 1) f)) (nI 2 * nI i) &&& nI 3) &&& nI 1 = nI (bn (ob S i h (f i))) := by
      intro hl
      have hx := lf_lt S i h
      have hy := hf i hl
      rw [pk_mul, nI_add, zn_clI (by omega), zn_at2 (by omega) (by omega), zp_at hf hl, hL i (by omega) h (by omega), zn_bit (by omega) (by omega), lf_bit _ _ _ _ hy]
    repeat' first
      | (with_reducible refine And.intro ?_ ?_)
      | ((with_reducible intro h9); first | exact absurd h9 (by decide) | (replace h9 := nle e2 (by omega) (by omega) h9) | (replace h9 := yle e2 (by omega) (by omega) h9) | (rw [eb ‹_›] at h9) | skip)
      | (with_reducible exact zn_in (by omega) (by decide))
      | (with_reducible exact z01) | (with_reducible exact z11) | (with_reducible exact zb01 _)
      | (with_reducible exact zn_inb (by omega) (by decide))
      | (with_reducible exact zn_ina (by omega) (by decide))
      | (with_reducible exact zn_inc (by omega) (by decide))
      | ((conv => whnf); first | (with_reducible refine And.intro ?_ ?_) | ((with_reducible intro h9); first | exact absurd h9 (by decide) | (replace h9 := nle e2 (by omega) (by omega) h9) | (replace h9 := yle e2 (by omega) (by omega) h9) | (rw [eb ‹_›] at h9) | skip) | (with_reducible refine hK _ _ _ _ (sm_un ?_)) | (with_reducible exact z01) | (with_reducible exact z11))
    all_goals first
      | ((obtain rfl : i = S 0 1 := by omega); exact zq (dc_t hv) hQ)
      | (exact zq (dc_f fun hx => by rw [hx i ‹_›] at h9; exact absurd h9 (by decide)) hQ)
      | (have e : ∀ v, v < i + 1 → ob S v h (f v) = true := (fun v hv2 => if hvi : v = i then (by subst hvi; exact nz_ne h9) else hv v (by omega)); simp only [nI_add]; exact ⟨⟨ih ‹_› _ e⟩⟩)
  refine sm_body [2] 40 sm_k15 (fun CT K hC hK => ?_)
  repeat' first
    | (with_reducible refine And.intro ?_ ?_)
    | ((with_reducible intro h9); first | exact absurd h9 (by decide) | skip)
    | (with_reducible exact zn_in (by omega) (by decide))
    | (with_reducible exact z01) | (with_reducible exact z11) | (with_reducible exact zb01 _)
    | (with_reducible exact zn_inb (by omega) (by decide))
    | (with_reducible exact zn_ina (by omega) (by decide))
    | (with_reducible exact zn_inc (by omega) (by decide))
    | ((conv => whnf); first | (with_reducible refine And.intro ?_ ?_) | ((with_reducible intro h9); first | exact absurd h9 (by decide) | skip) | (with_reducible refine hK _ _ _ _ (sm_un ?_)))
  exact ⟨⟨lo 0 (Nat.zero_le _) _ (fun v hv => absurd hv (Nat.not_lt_zero _))⟩⟩
set_option maxRecDepth 100000 in
set_option maxHeartbeats 4000000 in
theorem s_isMoreThanHalf (hC : sm_C 1 CT) (e2 : G 3 2 = nI (S 0 1)) (hv : S 0 1 ≤ 4) {a : Nat} (ha : a < 100) (hQ : Q (some (.int (sm_b (decide (S 0 1 < 2 * a))))) (hp G L)) : CT 20 [.ref 3, .int (nI a)] (hp G L) Q := by
  refine sm_meth hC [some (.ref 3), some (.int (nI a))] rfl rfl rfl ?_
  refine sm_body [] 40 sm_k20 (fun CT K hC hK => ?_)
  repeat' first
    | (with_reducible refine And.intro ?_ ?_)
    | ((with_reducible intro h9); first | exact absurd h9 (by decide) | skip)
    | (with_reducible exact zn_in (by omega) (by decide))
    | (with_reducible exact z01) | (with_reducible exact z11) | (with_reducible exact zb01 _)
    | (with_reducible exact zn_inb (by omega) (by decide))
    | (with_reducible exact zn_ina (by omega) (by decide))
    | (with_reducible exact zn_inc (by omega) (by decide))
    | ((conv => whnf); first | (with_reducible refine And.intro ?_ ?_) | ((with_reducible intro h9); first | exact absurd h9 (by decide) | skip) | (with_reducible refine hK _ _ _ _ (sm_un ?_)) | (with_reducible exact z01) | (with_reducible exact z11))
  all_goals rw [e2, pk_mul, nI_leI (by omega) (by omega)] at h9
  all_goals first
    | (exact zq (dc_t (by omega)) hQ)
    | (exact zq (dc_f (by omega)) hQ)
set_option maxRecDepth 100000 in
set_option maxHeartbeats 4000000 in
theorem s_pointingAt (hC : sm_C 1 CT) (e2 : G 3 2 = nI (S 0 1)) (hv : S 0 1 ≤ 4) {f : Nat → Nat} {q : Nat} (hf : ∀ v, v < S 0 1 → f v < 4) (hq : q < 4) (hQ : Q (some (.int (nI (ct (fun v => Nat.beq (f v) q) (S 0 1))))) (hp G L)) : CT 19 [.ref 3, .int (nI (zp (S 0 1) f)), .int (nI q)] (hp G L) Q := by
  have h256 := zp_256 hv hf
  refine sm_meth hC [some (.ref 3), some (.int (nI (zp (S 0 1) f))), some (.int (nI q)), none, none] rfl rfl rfl ?_
  have lo : ∀ i, i ≤ S 0 1 → sm_Wk 0 19 Q none 5 [some (.ref 3), some (.int (nI (zp (S 0 1) f))), some (.int (nI q)), some (.int (nI (ct (fun v => Nat.beq (f v) q) i))), some (.int (nI i))] [] (hp G L) := by
    refine up _ (fun i hi ih => ?_)
    refine sm_body [5] 60 sm_k19 (fun CT K hC hK => ?_)
    have eb : i < S 0 1 → (sm_shr (nI (zp (S 0 1) f)) (nI 2 * nI i) &&& nI 3 = nI q ↔ f i = q) := by
      intro hl
      have := hf i hl
      rw [zn_at2 (by omega) (by omega), zp_at hf hl, nI_eq (by omega) (by omega)]
    repeat' first
      | (with_reducible refine And.intro ?_ ?_)
      | ((with_reducible intro h9); first | exact absurd h9 (by decide) | (replace h9 := nle e2 (by omega) (by omega) h9) | (replace h9 := yle e2 (by omega) (by omega) h9) | (rw [eb ‹_›] at h9) | skip)
      | (with_reducible exact zn_in (by omega) (by decide))
      | (with_reducible exact z01) | (with_reducible exact z11) | (with_reducible exact zb01 _)
      | (with_reducible exact zn_inb (by omega) (by decide))
      | (with_reducible exact zn_ina (by omega) (by decide))
      | (with_reducible exact zn_inc (by omega) (by decide))
      | ((conv => whnf); first | (with_reducible refine And.intro ?_ ?_) | ((with_reducible intro h9); first | exact absurd h9 (by decide) | (replace h9 := nle e2 (by omega) (by omega) h9) | (replace h9 := yle e2 (by omega) (by omega) h9) | (rw [eb ‹_›] at h9) | skip) | (with_reducible refine hK _ _ _ _ (sm_un ?_)))
    all_goals try have eq1 : (fun v => Nat.beq (f v) q) i = false := beq_f ‹_›
    all_goals try have eq2 : (fun v => Nat.beq (f v) q) i = true := beq_t ‹_›
    all_goals first
      | ((obtain rfl : i = S 0 1 := by omega); exact hQ)
      | (simp only [nI_add]; have e := ih (by omega); rw [ct, bn_f eq1] at e; exact ⟨⟨e⟩⟩)
      | (simp only [nI_add]; have e := ih (by omega); rw [ct, bn_t eq2] at e; exact ⟨⟨e⟩⟩)
  refine sm_body [5] 40 sm_k19 (fun CT K hC hK => ?_)
  repeat' first
    | (with_reducible refine And.intro ?_ ?_)
    | ((with_reducible intro h9); first | exact absurd h9 (by decide) | skip)
    | (with_reducible exact zn_in (by omega) (by decide))
    | (with_reducible exact z01) | (with_reducible exact z11) | (with_reducible exact zb01 _)
    | (with_reducible exact zn_inb (by omega) (by decide))
    | (with_reducible exact zn_ina (by omega) (by decide))
    | (with_reducible exact zn_inc (by omega) (by decide))
    | ((conv => whnf); first | (with_reducible refine And.intro ?_ ?_) | ((with_reducible intro h9); first | exact absurd h9 (by decide) | skip) | (with_reducible refine hK _ _ _ _ (sm_un ?_)))
  exact ⟨⟨lo 0 (Nat.zero_le _)⟩⟩
set_option maxRecDepth 100000 in
set_option maxHeartbeats 4000000 in
theorem s_knownWinds (hC : sm_C 1 CT) (hD : cD S G) (hR : dR S) (hQ : Q (some (.int (nI (ct (fun h => !Nat.beq (S 1 h) 4) (S 0 0))))) (hp G L)) : CT 8 [.ref 3] (hp G L) Q := by
  obtain ⟨e1, e2, e3, e4⟩ := hD
  obtain ⟨r1, r2, r3, r4⟩ := hR
  refine sm_meth hC [some (.ref 3), none, none] rfl rfl rfl ?_
  have lo : ∀ i, i ≤ S 0 0 → sm_Wk 0 8 Q none 4 [some (.ref 3), some (.int (nI (ct (fun h => !Nat.beq (S 1 h) 4) i))), some (.int (nI i))] [] (hp G L) := by
    refine up _ (fun i hi ih => ?_)
    refine sm_body [4] 60 sm_k8 (fun CT K hC hK => ?_)
    have eb : i < S 0 0 → (G 4 (nI i).toNatClampNeg = -1 ↔ S 1 i = 4) := by
      intro hl
      rw [zn_clI (by omega), e3 i hl, wI_m (r3 i hl)]
    repeat' first
      | (with_reducible refine And.intro ?_ ?_)
      | ((with_reducible intro h9); first | exact absurd h9 (by decide) | (replace h9 := nle e1 (by omega) (by omega) h9) | (replace h9 := yle e1 (by omega) (by omega) h9) | (rw [eb ‹_›] at h9) | skip)
      | (with_reducible exact zn_in (by omega) (by decide))
      | (with_reducible exact z01) | (with_reducible exact z11) | (with_reducible exact zb01 _)
      | (with_reducible exact zn_inb (by omega) (by decide))
      | (with_reducible exact zn_ina (by omega) (by decide))
      | (with_reducible exact zn_inc (by omega) (by decide))
      | ((conv => whnf); first | (with_reducible refine And.intro ?_ ?_) | ((with_reducible intro h9); first | exact absurd h9 (by decide) | (replace h9 := nle e1 (by omega) (by omega) h9) | (replace h9 := yle e1 (by omega) (by omega) h9) | (rw [eb ‹_›] at h9) | skip) | (with_reducible refine hK _ _ _ _ (sm_un ?_)))
    all_goals try have eq1 : (fun h => !Nat.beq (S 1 h) 4) i = true := by simp only [beq_f ‹_›]; rfl
    all_goals try have eq2 : (fun h => !Nat.beq (S 1 h) 4) i = false := by simp only [beq_t ‹_›]; rfl
    all_goals first
      | ((obtain rfl : i = S 0 0 := by omega); exact hQ)
      | (simp only [nI_add]; have e := ih (by omega); rw [ct, bn_t eq1] at e; exact ⟨⟨e⟩⟩)
      | (simp only [nI_add]; have e := ih (by omega); rw [ct, bn_f eq2] at e; exact ⟨⟨e⟩⟩)
  refine sm_body [4] 40 sm_k8 (fun CT K hC hK => ?_)
  repeat' first
    | (with_reducible refine And.intro ?_ ?_)
    | ((with_reducible intro h9); first | exact absurd h9 (by decide) | skip)
    | (with_reducible exact zn_in (by omega) (by decide))
    | (with_reducible exact z01) | (with_reducible exact z11) | (with_reducible exact zb01 _)
    | (with_reducible exact zn_inb (by omega) (by decide))
    | (with_reducible exact zn_ina (by omega) (by decide))
    | (with_reducible exact zn_inc (by omega) (by decide))
    | ((conv => whnf); first | (with_reducible refine And.intro ?_ ?_) | ((with_reducible intro h9); first | exact absurd h9 (by decide) | skip) | (with_reducible refine hK _ _ _ _ (sm_un ?_)))
  exact ⟨⟨lo 0 (Nat.zero_le _)⟩⟩
end HILL
