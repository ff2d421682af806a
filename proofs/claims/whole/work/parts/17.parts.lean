/-! The other one's points, blows, parts, ask. -/
def cpt (S : Nat → Nat → Nat) (v h q i : Nat) : Nat := sg i (fun c => bn (ft S (wd S c) && Nat.beq (ps S (wd S c) v (h + 1)) q))
def cbl (S : Nat → Nat → Nat) (h q i : Nat) : Nat := sg i (fun c => bn (ft S (wd S c) && Nat.beq (wd S c h) q))
theorem aPt_codes {S : Nat → Nat → Nat} (hR : dR S) {v h q : Nat} : aPt S v h q = cpt S v h q (nc S) := cnt_codes hR _
theorem aBl_codes {S : Nat → Nat → Nat} (hR : dR S) {h q : Nat} : aBl S h q = cbl S h q (nc S) := cnt_codes hR _
theorem cpt_t {S : Nat → Nat → Nat} {v h q i : Nat} (e : ft S (wd S i) = true) : cpt S v h q (i + 1) = cpt S v h q i + bn (Nat.beq (ps S (wd S i) v (h + 1)) q) := by
  show _ + bn (_ && _) = _
  rw [e]
  rfl
theorem cpt_f {S : Nat → Nat → Nat} {v h q i : Nat} (e : ft S (wd S i) = false) : cpt S v h q (i + 1) = cpt S v h q i := by
  show _ + bn (_ && _) = _
  rw [e]
  rfl
theorem cbl_t {S : Nat → Nat → Nat} {h q i : Nat} (e : ft S (wd S i) = true) : cbl S h q (i + 1) = cbl S h q i + bn (Nat.beq (wd S i h) q) := by
  show _ + bn (_ && _) = _
  rw [e]
  rfl
theorem cbl_f {S : Nat → Nat → Nat} {h q i : Nat} (e : ft S (wd S i) = false) : cbl S h q (i + 1) = cbl S h q i := by
  show _ + bn (_ && _) = _
  rw [e]
  rfl
theorem ps_lt4 {S : Nat → Nat → Nat} (hR : dR S) {v : Nat} (hv : v < S 0 1) (c i : Nat) : ps S (wd S c) v i < 4 := ps_lt (hR.2.2.2 v hv).2.1 i (fun j _ => wd_lt hR c j)
section PARTS
variable {CT : sm_CT} {G : Nat → Nat → Int32} {L : Nat → Nat → Int64} {Q : sm_Q} {S : Nat → Nat → Nat} {h : sm_H}
set_option maxRecDepth 100000 in
set_option maxHeartbeats 4000000 in
theorem s_pointsNow (hC : sm_C 6 CT) (hD : mD S G) (hR : dR S) (hS : mS S G) (hN : nR S) {v h : Nat} (hv : v < S 0 1) (hh : h < S 0 0)
    (hQ : ∀ G', eqx [39, 40] G G' → (pA G → pA G') → Q (some (.int (nI (bq 4 (aPt S v h))))) (hp G' L)) : CT 108 [.ref 30, .int (nI v), .int (nI h)] (hp G L) Q := by
  have hnc := nc_le hR
  have hR' := hR
  obtain ⟨r1, r2, r3, r4⟩ := hR'
  refine sm_meth hC [some (.ref 30), some (.int (nI v)), some (.int (nI h)), none, none] rfl rfl rfl ?_
  have lo : ∀ i, i ≤ nc S → ∀ G1, eqx [39, 40] G G1 → (pA G → pA G1) → sm_Wk 5 108 Q none 5 [some (.ref 30), some (.int (nI v)), some (.int (nI h)), some (.int (nI (bq 4 (fun q => cpt S v h q i)))), some (.int (nI i))] [] (hp G1 L) := by
    refine up _ (fun i hi ih G1 hx hpa => ?_)
    have hD1 := mD_x hx rfl hD
    have hS1 := mS_x hx rfl hS
    refine sm_body [5] 60 sm_k108 (fun CT K hC hK => ?_)
    repeat' first
      | (with_reducible refine And.intro ?_ ?_)
      | ((with_reducible intro h9); first | exact absurd h9 (by decide) | (replace h9 := zle (by omega) (by omega) h9) | (replace h9 := znle (by omega) (by omega) h9) | (replace h9 := sb_f h9) | (replace h9 := sb_t h9) | skip)
      | (with_reducible exact zn_in (by omega) (by decide))
      | (with_reducible exact z01) | (with_reducible exact z11) | (with_reducible exact zb01 _)
      | (with_reducible exact zn_inb (by omega) (by decide))
      | (with_reducible exact zn_ina (by omega) (by decide))
      | (with_reducible exact zn_inc (by omega) (by decide))
      | ((conv => whnf); first | (with_reducible refine And.intro ?_ ?_) | ((with_reducible intro h9); first | exact absurd h9 (by decide) | (replace h9 := zle (by omega) (by omega) h9) | (replace h9 := znle (by omega) (by omega) h9) | (replace h9 := sb_f h9) | (replace h9 := sb_t h9) | skip) | (with_reducible refine hK _ _ _ _ (sm_un ?_)) | (with_reducible refine s_codes (hC.mono (by omega)) hD1 hR ?_) | (with_reducible refine s_fits (hC.mono (by omega)) hD1 hR hS1 hN (by omega) (fun G2 hx2 hl2 hp2 => ?_)))
    · obtain rfl : i = nc S := by omega
      have : (fun q => cpt S v h q (nc S)) = aPt S v h := funext (fun q => (aPt_codes hR).symm)
      rw [this]
      exact hQ G1 hx hpa
    · have e := ih ‹_› G2 (eqx_trans hx hx2) (fun z => hp2 (hpa z))
      simp only [cpt_f h9] at e
      simp only [nI_add, zn_or, Nat.or_zero]
      exact ⟨⟨e⟩⟩
    · have e := ih ‹_› G2 (eqx_trans hx hx2) (fun z => hp2 (hpa z))
      simp only [cpt_t h9] at e
      have h4 := ps_lt4 hR hv i (h + 1)
      rw [← bq_step h4] at e
      simp only [pk_mul, nI_add, zn_clI (show 6 * v + h < 2 ^ 31 by omega), hl2.2 v hv h hh, zn_shl (show ps S (wd S i) v (h + 1) < 32 by omega), Nat.one_mul, zn_or]
      exact ⟨⟨e⟩⟩
  refine sm_body [5] 40 sm_k108 (fun CT K hC hK => ?_)
  repeat' first
    | (with_reducible refine And.intro ?_ ?_)
    | ((with_reducible intro h9); first | exact absurd h9 (by decide) | skip)
    | (with_reducible exact zn_in (by omega) (by decide))
    | (with_reducible exact z01) | (with_reducible exact z11) | (with_reducible exact zb01 _)
    | (with_reducible exact zn_inb (by omega) (by decide))
    | (with_reducible exact zn_ina (by omega) (by decide))
    | (with_reducible exact zn_inc (by omega) (by decide))
    | ((conv => whnf); first | (with_reducible refine And.intro ?_ ?_) | ((with_reducible intro h9); first | exact absurd h9 (by decide) | skip) | (with_reducible refine hK _ _ _ _ (sm_un ?_)))
  exact ⟨⟨lo 0 (Nat.zero_le _) G eqx_rfl (fun z => z)⟩⟩
set_option maxRecDepth 100000 in
set_option maxHeartbeats 4000000 in
theorem s_blowsNow (hC : sm_C 6 CT) (hD : mD S G) (hR : dR S) (hS : mS S G) (hN : nR S) {h : Nat} (hh : h < S 0 0)
    (hQ : ∀ G', eqx [39, 40] G G' → (pA G → pA G') → Q (some (.int (nI (bq 4 (aBl S h))))) (hp G' L)) : CT 110 [.ref 30, .int (nI h)] (hp G L) Q := by
  have hnc := nc_le hR
  have hR' := hR
  obtain ⟨r1, r2, r3, r4⟩ := hR'
  refine sm_meth hC [some (.ref 30), some (.int (nI h)), none, none] rfl rfl rfl ?_
  have lo : ∀ i, i ≤ nc S → ∀ G1, eqx [39, 40] G G1 → (pA G → pA G1) → sm_Wk 5 110 Q none 4 [some (.ref 30), some (.int (nI h)), some (.int (nI (bq 4 (fun q => cbl S h q i)))), some (.int (nI i))] [] (hp G1 L) := by
    refine up _ (fun i hi ih G1 hx hpa => ?_)
    have hD1 := mD_x hx rfl hD
    have hS1 := mS_x hx rfl hS
    refine sm_body [4] 60 sm_k110 (fun CT K hC hK => ?_)
    repeat' first
      | (with_reducible refine And.intro ?_ ?_)
      | ((with_reducible intro h9); first | exact absurd h9 (by decide) | (replace h9 := zle (by omega) (by omega) h9) | (replace h9 := znle (by omega) (by omega) h9) | (replace h9 := sb_f h9) | (replace h9 := sb_t h9) | skip)
      | (with_reducible exact zn_in (by omega) (by decide))
      | (with_reducible exact z01) | (with_reducible exact z11) | (with_reducible exact zb01 _)
      | (with_reducible exact zn_inb (by omega) (by decide))
      | (with_reducible exact zn_ina (by omega) (by decide))
      | (with_reducible exact zn_inc (by omega) (by decide))
      | ((conv => whnf); first | (with_reducible refine And.intro ?_ ?_) | ((with_reducible intro h9); first | exact absurd h9 (by decide) | (replace h9 := zle (by omega) (by omega) h9) | (replace h9 := znle (by omega) (by omega) h9) | (replace h9 := sb_f h9) | (replace h9 := sb_t h9) | skip) | (with_reducible refine hK _ _ _ _ (sm_un ?_)) | (with_reducible refine s_codes (hC.mono (by omega)) hD1 hR ?_) | (with_reducible refine s_fits (hC.mono (by omega)) hD1 hR hS1 hN (by omega) (fun G2 hx2 hl2 hp2 => ?_)))
    · obtain rfl : i = nc S := by omega
      have : (fun q => cbl S h q (nc S)) = aBl S h := funext (fun q => (aBl_codes hR).symm)
      rw [this]
      exact hQ G1 hx hpa
    · have e := ih ‹_› G2 (eqx_trans hx hx2) (fun z => hp2 (hpa z))
      simp only [cbl_f h9] at e
      simp only [nI_add, zn_or, Nat.or_zero]
      exact ⟨⟨e⟩⟩
    · have e := ih ‹_› G2 (eqx_trans hx hx2) (fun z => hp2 (hpa z))
      simp only [cbl_t h9] at e
      have h4 := wd_lt hR i h
      rw [← bq_step h4] at e
      simp only [nI_add, zn_clI (show h < 2 ^ 31 by omega), hl2.1 h hh, zn_shl (show wd S i h < 32 by omega), Nat.one_mul, zn_or]
      exact ⟨⟨e⟩⟩
  refine sm_body [4] 40 sm_k110 (fun CT K hC hK => ?_)
  repeat' first
    | (with_reducible refine And.intro ?_ ?_)
    | ((with_reducible intro h9); first | exact absurd h9 (by decide) | skip)
    | (with_reducible exact zn_in (by omega) (by decide))
    | (with_reducible exact z01) | (with_reducible exact z11) | (with_reducible exact zb01 _)
    | (with_reducible exact zn_inb (by omega) (by decide))
    | (with_reducible exact zn_ina (by omega) (by decide))
    | (with_reducible exact zn_inc (by omega) (by decide))
    | ((conv => whnf); first | (with_reducible refine And.intro ?_ ?_) | ((with_reducible intro h9); first | exact absurd h9 (by decide) | skip) | (with_reducible refine hK _ _ _ _ (sm_un ?_)))
  exact ⟨⟨lo 0 (Nat.zero_le _) G eqx_rfl (fun z => z)⟩⟩
set_option maxRecDepth 100000 in
set_option maxHeartbeats 4000000 in
theorem s_anyFits (hC : sm_C 6 CT) (hD : mD S G) (hR : dR S) (hS : mS S G) (hN : nR S)
    (hQ : ∀ G', eqx [39, 40] G G' → (pA G → pA G') → Q (some (.int (sm_b (decide (0 < aAll S))))) (hp G' L)) : CT 122 [.ref 30] (hp G L) Q := by
  have hnc := nc_le hR
  refine sm_meth hC [some (.ref 30), none] rfl rfl rfl ?_
  have lo : ∀ i, i ≤ nc S → ∀ G1, eqx [39, 40] G G1 → (pA G → pA G1) → sg i (fun c => bn (ft S (wd S c))) = 0 → sm_Wk 5 122 Q none 2 [some (.ref 30), some (.int (nI i))] [] (hp G1 L) := by
    refine up _ (fun i hi ih G1 hx hpa hz => ?_)
    have hD1 := mD_x hx rfl hD
    have hS1 := mS_x hx rfl hS
    refine sm_body [2] 60 sm_k122 (fun CT K hC hK => ?_)
    repeat' first
      | (with_reducible refine And.intro ?_ ?_)
      | ((with_reducible intro h9); first | exact absurd h9 (by decide) | (replace h9 := zle (by omega) (by omega) h9) | (replace h9 := znle (by omega) (by omega) h9) | (replace h9 := sb_f h9) | (replace h9 := sb_t h9) | skip)
      | (with_reducible exact zn_in (by omega) (by decide))
      | (with_reducible exact z01) | (with_reducible exact z11) | (with_reducible exact zb01 _)
      | (with_reducible exact zn_inb (by omega) (by decide))
      | (with_reducible exact zn_ina (by omega) (by decide))
      | (with_reducible exact zn_inc (by omega) (by decide))
      | ((conv => whnf); first | (with_reducible refine And.intro ?_ ?_) | ((with_reducible intro h9); first | exact absurd h9 (by decide) | (replace h9 := zle (by omega) (by omega) h9) | (replace h9 := znle (by omega) (by omega) h9) | (replace h9 := sb_f h9) | (replace h9 := sb_t h9) | skip) | (with_reducible refine hK _ _ _ _ (sm_un ?_)) | (with_reducible refine s_codes (hC.mono (by omega)) hD1 hR ?_) | (with_reducible refine s_fits (hC.mono (by omega)) hD1 hR hS1 hN (by omega) (fun G2 hx2 hl2 hp2 => ?_)))
    · obtain rfl : i = nc S := by omega
      exact zq (dc_f (by rw [aAll_codes hR, hz]; omega)) (hQ G1 hx hpa)
    · simp only [nI_add]; exact ⟨⟨ih ‹_› G2 (eqx_trans hx hx2) (fun z => hp2 (hpa z)) (by rw [sg, hz, bn_f h9])⟩⟩
    · refine zq (dc_t ?_) (hQ G2 (eqx_trans hx hx2) (fun z => hp2 (hpa z)))
      rw [aAll_codes hR]
      have : ∀ n, i < n → 0 < sg n (fun c => bn (ft S (wd S c))) := by
        intro n
        induction n with
        | zero => intro hn; omega
        | succ n ih =>
          intro hn
          show 0 < sg n _ + bn (ft S (wd S n))
          by_cases e : i = n
          · subst e; rw [bn_t h9]; omega
          · have := ih (by omega); omega
      exact this _ ‹_›
  refine sm_body [2] 40 sm_k122 (fun CT K hC hK => ?_)
  repeat' first
    | (with_reducible refine And.intro ?_ ?_)
    | ((with_reducible intro h9); first | exact absurd h9 (by decide) | skip)
    | (with_reducible exact zn_in (by omega) (by decide))
    | (with_reducible exact z01) | (with_reducible exact z11) | (with_reducible exact zb01 _)
    | (with_reducible exact zn_inb (by omega) (by decide))
    | (with_reducible exact zn_ina (by omega) (by decide))
    | (with_reducible exact zn_inc (by omega) (by decide))
    | ((conv => whnf); first | (with_reducible refine And.intro ?_ ?_) | ((with_reducible intro h9); first | exact absurd h9 (by decide) | skip) | (with_reducible refine hK _ _ _ _ (sm_un ?_)))
  exact ⟨⟨lo 0 (Nat.zero_le _) G eqx_rfl (fun z => z) rfl⟩⟩
set_option maxRecDepth 100000 in
set_option maxHeartbeats 4000000 in
theorem s_layParts (hC : sm_C 6 CT) (hD : mD S G) (hR : dR S) (hS : mS S G) (hN : nR S) (hP : pA G)
    (hQ : ∀ G', eqx [39, 40, 41] G G' → pA G' → (∀ k, k < 6 * S 0 1 → k % 6 < S 0 0 → ∀ q, q < 4 → G' 41 (24 * q + k) = nI (aPt S (k / 6) (k % 6) q)) → Q (some (.int (nI (aAll S)))) (hp G' L)) : CT 112 [.ref 30] (hp G L) Q := by
  have hnc := nc_le hR
  have hR' := hR
  obtain ⟨r1, r2, r3, r4⟩ := hR'
  refine sm_meth hC [some (.ref 30), none, none, none] rfl rfl rfl ?_
  have lo : ∀ i, i ≤ nc S → ∀ o3 G1, eqx [39, 40, 41] G G1 → pA G1 → (∀ k, k < 6 * S 0 1 → k % 6 < S 0 0 → ∀ q, q < 4 → G1 41 (24 * q + k) = nI (cpt S (k / 6) (k % 6) q i)) → sm_Wk 5 112 Q none 25 [some (.ref 30), some (.int (nI (sg i (fun c => bn (ft S (wd S c)))))), some (.int (nI i)), o3] [] (hp G1 L) := by
    refine up _ (fun i hi ih o3 G1 hx hpa hk => ?_)
    have hD1 := mD_x hx rfl hD
    have hS1 := mS_x hx rfl hS
    have inner : i < nc S → ft S (wd S i) = true → ∀ G2, eqx [39, 40] G1 G2 → ld S i G2 → pA G2 → ∀ j, j ≤ 6 * S 0 1 → ∀ G3, eqx [41] G2 G3 → (∀ k, k < 6 * S 0 1 → k % 6 < S 0 0 → ∀ q, q < 4 → G3 41 (24 * q + k) = nI (cpt S (k / 6) (k % 6) q i + (if k < j then bn (Nat.beq (ps S (wd S i) (k / 6) (k % 6 + 1)) q) else 0))) → sm_Wk 5 112 Q none 46 [some (.ref 30), some (.int (nI (sg (i + 1) (fun c => bn (ft S (wd S c)))))), some (.int (nI i)), some (.int (nI j))] [] (hp G3 L) := by
      intro hl hft G2 hx2 hl2 hp2
      refine up _ (fun j hj ihj G3 hx3 hk3 => ?_)
      have f2 : nI 6 * G3 30 3 = nI (6 * S 0 1) := by rw [hx3 30 rfl, hx2 30 rfl, mD_v hD1, pk_mul]
      have f1 : G3 30 1 = nI (S 0 0) := by rw [hx3 30 rfl, hx2 30 rfl, mD_h hD1]
      have hp3 : pA G3 := by unfold pA; rw [hx3 40 rfl]; exact hp2
      refine sm_body [25, 46] 80 sm_k112 (fun CT K hC hK => ?_)
      have ei : j < 6 * S 0 1 → ∃ p, p < 4 ∧ nI 24 * G3 40 (nI j).toNatClampNeg + nI j = nI (24 * p + j) ∧ (j % 6 < S 0 0 → p = ps S (wd S i) (j / 6) (j % 6 + 1)) := by
        intro hj2
        obtain ⟨p, h4, e⟩ := hp3 j (by omega)
        refine ⟨p, h4, ?_, fun hm => ?_⟩
        · rw [zn_clI (by omega), e, pk_mul, nI_add]
        · have e2 := hl2.2 (j / 6) (by omega) (j % 6) hm
          rw [show 6 * (j / 6) + j % 6 = j by omega, ← hx3 40 rfl, e] at e2
          have := ps_lt4 hR (show j / 6 < S 0 1 by omega) i (j % 6 + 1)
          exact zeq (by omega) (by omega) e2
      have e6 : sm_ir (nI j) (nI 6) = nI (j % 6) := zn_ir (by omega) (by decide) (by decide)
      repeat' first
        | (with_reducible refine And.intro ?_ ?_)
        | ((with_reducible intro h9); first | exact absurd h9 (by decide) | (replace h9 := nle f2 (by omega) (by omega) h9) | (replace h9 := yle f2 (by omega) (by omega) h9) | ((rw [e6] at h9; replace h9 := yle f1 (by omega) (by omega) h9)) | ((rw [e6] at h9; replace h9 := nle f1 (by omega) (by omega) h9)) | skip)
        | (with_reducible exact zn_in (by omega) (by decide))
        | (with_reducible exact z01) | (with_reducible exact z11) | (with_reducible exact zb01 _)
        | (with_reducible exact zn_inb (by omega) (by decide))
        | (with_reducible exact zn_ina (by omega) (by decide))
        | (with_reducible exact zn_inc (by omega) (by decide))
        | ((conv => whnf); first | (with_reducible refine And.intro ?_ ?_) | ((with_reducible intro h9); first | exact absurd h9 (by decide) | (replace h9 := nle f2 (by omega) (by omega) h9) | (replace h9 := yle f2 (by omega) (by omega) h9) | ((rw [e6] at h9; replace h9 := yle f1 (by omega) (by omega) h9)) | ((rw [e6] at h9; replace h9 := nle f1 (by omega) (by omega) h9)) | skip) | (with_reducible refine hK _ _ _ _ (sm_un ?_)) | ((obtain ⟨p, h4, e, -⟩ := ei ‹_›; rw [e]; exact zn_in (by omega) (by decide))))
      · obtain rfl : j = 6 * S 0 1 := by omega
        simp only [nI_add]; exact ⟨⟨ih hl _ G3 (eqx_trans hx (eqx_trans (eqx_sub rfl hx2) (eqx_sub rfl hx3))) hp3 (fun k hk1 hk2 q hq => by rw [hk3 k hk1 hk2 q hq, if_pos hk1, cpt_t hft])⟩⟩
      · obtain ⟨p, h4, e, -⟩ := ei ‹_›
        simp only [e, zn_clI (show 24 * p + j < 2 ^ 31 by omega), hp_0, hp_1, hp_2, hp_3, hp_4, hp_5, hp_6, hp_7, hp_8, hp_9, hp_10, hp_11, hp_12, hp_13, hp_14, hp_15, hp_16, hp_17, hp_18, hp_19, hp_20, hp_22, hp_23, hp_24, hp_25, hp_26, hp_27, hp_28, hp_29, hp_30, hp_31, hp_32, hp_33, hp_34, hp_35, hp_36, hp_37, hp_38, hp_39, hp_40, hp_41, hp_42, hp_43, hp_44, hp_45, hp_46, hp_47, hp_48, hp_49, hf0_5, hf0_6, hf0_7, hf1_1, hf3_0, hf3_2, hf3_6, hf10_0, hf10_2, hf10_6, hf17_3, hf17_4, hf20_3, hf20_4, hf30_0, hf30_1, hf30_3, hf30_7, hf30_11, hf30_12, hf30_20, hf30_22, hf30_23, hf30_24, hf30_25, hf30_21, hf30_31, upd_su, updL_su, nI_add]
        refine ⟨⟨ihj ‹_› _ (eqx_su 41 _ rfl hx3) (fun k hk1 hk2 q hq => ?_)⟩⟩
        rw [su_eq, su_if, if_neg (by omega), hk3 k hk1 hk2 q hq]
        congr 2
        by_cases hkj : k < j
        · rw [if_pos hkj, if_pos (by omega)]
        · rw [if_neg hkj, if_neg (by omega)]
      · obtain ⟨p, h4, e, ep⟩ := ei ‹_›
        have ep := ep h9
        simp only [e, zn_clI (show 24 * p + j < 2 ^ 31 by omega), hp_0, hp_1, hp_2, hp_3, hp_4, hp_5, hp_6, hp_7, hp_8, hp_9, hp_10, hp_11, hp_12, hp_13, hp_14, hp_15, hp_16, hp_17, hp_18, hp_19, hp_20, hp_22, hp_23, hp_24, hp_25, hp_26, hp_27, hp_28, hp_29, hp_30, hp_31, hp_32, hp_33, hp_34, hp_35, hp_36, hp_37, hp_38, hp_39, hp_40, hp_41, hp_42, hp_43, hp_44, hp_45, hp_46, hp_47, hp_48, hp_49, hf0_5, hf0_6, hf0_7, hf1_1, hf3_0, hf3_2, hf3_6, hf10_0, hf10_2, hf10_6, hf17_3, hf17_4, hf20_3, hf20_4, hf30_0, hf30_1, hf30_3, hf30_7, hf30_11, hf30_12, hf30_20, hf30_22, hf30_23, hf30_24, hf30_25, hf30_21, hf30_31, upd_su, updL_su, nI_add]
        refine ⟨⟨ihj ‹_› _ (eqx_su 41 _ rfl hx3) (fun k hk1 hk2 q hq => ?_)⟩⟩
        rw [su_eq, su_if]
        by_cases hc : 24 * q + k = 24 * p + j
        · have hkj : k = j := by omega
          have hqp : q = p := by omega
          subst hkj
          subst hqp
          rw [if_pos rfl, hk3 k hk1 hk2 q hq, nI_add, if_neg (by omega), if_pos (by omega), ← ep, beq_t rfl]
          rfl
        · rw [if_neg hc, hk3 k hk1 hk2 q hq]
          congr 2
          by_cases hkj : k < j
          · rw [if_pos hkj, if_pos (by omega)]
          · rw [if_neg hkj]
            by_cases hke : k = j
            · subst hke
              rw [if_pos (by omega), ← ep, beq_f (by omega)]
              rfl
            · rw [if_neg (by omega)]
    refine sm_body [25, 46] 60 sm_k112 (fun CT K hC hK => ?_)
    repeat' first
      | (with_reducible refine And.intro ?_ ?_)
      | ((with_reducible intro h9); first | exact absurd h9 (by decide) | (replace h9 := zle (by omega) (by omega) h9) | (replace h9 := znle (by omega) (by omega) h9) | (replace h9 := sb_f h9) | (replace h9 := sb_t h9) | skip)
      | (with_reducible exact zn_in (by omega) (by decide))
      | (with_reducible exact z01) | (with_reducible exact z11) | (with_reducible exact zb01 _)
      | (with_reducible exact zn_inb (by omega) (by decide))
      | (with_reducible exact zn_ina (by omega) (by decide))
      | (with_reducible exact zn_inc (by omega) (by decide))
      | ((conv => whnf); first | (with_reducible refine And.intro ?_ ?_) | ((with_reducible intro h9); first | exact absurd h9 (by decide) | (replace h9 := zle (by omega) (by omega) h9) | (replace h9 := znle (by omega) (by omega) h9) | (replace h9 := sb_f h9) | (replace h9 := sb_t h9) | skip) | (with_reducible refine hK _ _ _ _ (sm_un ?_)) | (with_reducible refine s_codes (hC.mono (by omega)) hD1 hR ?_) | (with_reducible refine s_fits (hC.mono (by omega)) hD1 hR hS1 hN (by omega) (fun G2 hx2 hl2 hp2 => ?_)))
    · obtain rfl : i = nc S := by omega
      rw [← aAll_codes hR]
      exact hQ G1 hx hpa (fun k hk1 hk2 q hq => by rw [hk k hk1 hk2 q hq, aPt_codes hR])
    · have e := ih ‹_› o3 G2 (eqx_trans hx (eqx_sub rfl hx2)) (hp2 hpa) (fun k hk1 hk2 q hq => by rw [hx2 41 rfl, hk k hk1 hk2 q hq, cpt_f h9])
      rw [sg, bn_f h9] at e
      simp only [nI_add]; exact ⟨⟨e⟩⟩
    · have e := inner ‹_› h9 G2 hx2 hl2 (hp2 hpa) 0 (Nat.zero_le _) G2 eqx_rfl (fun k hk1 hk2 q hq => by rw [hx2 41 rfl, hk k hk1 hk2 q hq, if_neg (by omega), Nat.add_zero])
      rw [sg, bn_t h9] at e
      simp only [nI_add]; exact ⟨⟨e⟩⟩
  have lo0 : ∀ i, i ≤ 96 → ∀ G1, eqx [41] G G1 → (∀ k, k < i → G1 41 k = nI 0) → sm_Wk 5 112 Q none 4 [some (.ref 30), some (.int (nI 0)), some (.int (nI i)), none] [] (hp G1 L) := by
    refine up _ (fun i hi ih G1 hx h1 => ?_)
    refine sm_body [4, 25] 60 sm_k112 (fun CT K hC hK => ?_)
    repeat' first
      | (with_reducible refine And.intro ?_ ?_)
      | ((with_reducible intro h9); first | exact absurd h9 (by decide) | (replace h9 := zle (by omega) (by omega) h9) | (replace h9 := znle (by omega) (by omega) h9) | skip)
      | (with_reducible exact zn_in (by omega) (by decide))
      | (with_reducible exact z01) | (with_reducible exact z11) | (with_reducible exact zb01 _)
      | (with_reducible exact zn_inb (by omega) (by decide))
      | (with_reducible exact zn_ina (by omega) (by decide))
      | (with_reducible exact zn_inc (by omega) (by decide))
      | ((conv => whnf); first | (with_reducible refine And.intro ?_ ?_) | ((with_reducible intro h9); first | exact absurd h9 (by decide) | (replace h9 := zle (by omega) (by omega) h9) | (replace h9 := znle (by omega) (by omega) h9) | skip) | (with_reducible refine hK _ _ _ _ (sm_un ?_)))
    · exact ⟨⟨lo 0 (Nat.zero_le _) _ G1 (eqx_sub rfl hx) (by unfold pA; rw [hx 40 rfl]; exact hP) (fun k hk1 hk2 q hq => h1 _ (by omega))⟩⟩
    · simp only [hp_0, hp_1, hp_2, hp_3, hp_4, hp_5, hp_6, hp_7, hp_8, hp_9, hp_10, hp_11, hp_12, hp_13, hp_14, hp_15, hp_16, hp_17, hp_18, hp_19, hp_20, hp_22, hp_23, hp_24, hp_25, hp_26, hp_27, hp_28, hp_29, hp_30, hp_31, hp_32, hp_33, hp_34, hp_35, hp_36, hp_37, hp_38, hp_39, hp_40, hp_41, hp_42, hp_43, hp_44, hp_45, hp_46, hp_47, hp_48, hp_49, hf0_5, hf0_6, hf0_7, hf1_1, hf3_0, hf3_2, hf3_6, hf10_0, hf10_2, hf10_6, hf17_3, hf17_4, hf20_3, hf20_4, hf30_0, hf30_1, hf30_3, hf30_7, hf30_11, hf30_12, hf30_20, hf30_22, hf30_23, hf30_24, hf30_25, hf30_21, hf30_31, upd_su, updL_su, nI_add, zn_clI (show i < 2 ^ 31 by omega)]
      refine ⟨⟨ih ‹_› _ (eqx_su 41 _ rfl hx) (fun k hk => ?_)⟩⟩
      rw [su_eq, su_if]
      split
      · rfl
      · exact h1 k (by omega)
  refine sm_body [4] 40 sm_k112 (fun CT K hC hK => ?_)
  repeat' first
    | (with_reducible refine And.intro ?_ ?_)
    | ((with_reducible intro h9); first | exact absurd h9 (by decide) | skip)
    | (with_reducible exact zn_in (by omega) (by decide))
    | (with_reducible exact z01) | (with_reducible exact z11) | (with_reducible exact zb01 _)
    | (with_reducible exact zn_inb (by omega) (by decide))
    | (with_reducible exact zn_ina (by omega) (by decide))
    | (with_reducible exact zn_inc (by omega) (by decide))
    | ((conv => whnf); first | (with_reducible refine And.intro ?_ ?_) | ((with_reducible intro h9); first | exact absurd h9 (by decide) | skip) | (with_reducible refine hK _ _ _ _ (sm_un ?_)))
  exact ⟨⟨lo0 0 (Nat.zero_le _) G eqx_rfl (fun k hk => absurd hk (Nat.not_lt_zero _))⟩⟩
set_option maxRecDepth 100000 in
set_option maxHeartbeats 4000000 in
theorem s_worstOf (hC : sm_C 1 CT) {k : Nat} (hk : k < 24) {c : Nat → Nat} (hc : ∀ q, q < 4 → c q < 2 ^ 31) (hG : ∀ q, q < 4 → G 41 (24 * q + k) = nI (c q)) (hQ : Q (some (.int (nI (mq 4 c)))) (hp G L)) : CT 113 [.ref 30, .int (nI k)] (hp G L) Q := by
  refine sm_meth hC [some (.ref 30), some (.int (nI k)), none, none] rfl rfl rfl ?_
  have lo : ∀ i, i ≤ 4 → sm_Wk 0 113 Q none 4 [some (.ref 30), some (.int (nI k)), some (.int (nI (mq i c))), some (.int (nI i))] [] (hp G L) := by
    refine up _ (fun i hi ih => ?_)
    have e0 : i < 4 → G 41 (nI 24 * nI i + nI k).toNatClampNeg = nI (c i) := fun hl => by rw [pk_mul, nI_add, zn_clI (by omega), hG i hl]
    have hm := mq_lt (M := 2 ^ 31) (c := c) (by decide) i (fun q hq => hc q (by omega))
    refine sm_body [4] 80 sm_k113 (fun CT K hC hK => ?_)
    repeat' first
      | (with_reducible refine And.intro ?_ ?_)
      | ((with_reducible intro h9); first | exact absurd h9 (by decide) | (replace h9 := zle (by omega) (by omega) h9) | (replace h9 := znle (by omega) (by omega) h9) | (rw [e0 ‹_›] at h9) | skip)
      | (with_reducible exact zn_in (by omega) (by decide))
      | (with_reducible exact z01) | (with_reducible exact z11) | (with_reducible exact zb01 _)
      | (with_reducible exact zn_inb (by omega) (by decide))
      | (with_reducible exact zn_ina (by omega) (by decide))
      | (with_reducible exact zn_inc (by omega) (by decide))
      | ((conv => whnf); first | (with_reducible refine And.intro ?_ ?_) | ((with_reducible intro h9); first | exact absurd h9 (by decide) | (replace h9 := zle (by omega) (by omega) h9) | (replace h9 := znle (by omega) (by omega) h9) | (rw [e0 ‹_›] at h9) | skip) | (with_reducible refine hK _ _ _ _ (sm_un ?_)) | ((rw [pk_mul, nI_add]; exact zn_in (by omega) (by decide))))
    · obtain rfl : i = 4 := by omega
      exact hQ
    · have := zle (hc i ‹_›) hm h9
      have e := ih ‹_›
      rw [mq, Nat.max_eq_left this] at e
      simp only [nI_add]; exact ⟨⟨e⟩⟩
    · have := znle (hc i ‹_›) hm h9
      have e := ih ‹_›
      rw [mq, Nat.max_eq_right (Nat.le_of_lt this)] at e
      simp only [nI_add, e0 ‹_›]
      exact ⟨⟨e⟩⟩
  refine sm_body [4] 80 sm_k113 (fun CT K hC hK => ?_)
  repeat' first
    | (with_reducible refine And.intro ?_ ?_)
    | ((with_reducible intro h9); first | exact absurd h9 (by decide) | skip)
    | (with_reducible exact zn_in (by omega) (by decide))
    | (with_reducible exact z01) | (with_reducible exact z11) | (with_reducible exact zb01 _)
    | (with_reducible exact zn_inb (by omega) (by decide))
    | (with_reducible exact zn_ina (by omega) (by decide))
    | (with_reducible exact zn_inc (by omega) (by decide))
    | ((conv => whnf); first | (with_reducible refine And.intro ?_ ?_) | ((with_reducible intro h9); first | exact absurd h9 (by decide) | skip) | (with_reducible refine hK _ _ _ _ (sm_un ?_)))
  exact ⟨⟨lo 0 (Nat.zero_le _)⟩⟩
set_option maxRecDepth 100000 in
set_option maxHeartbeats 4000000 in
theorem s_mayAsk (hC : sm_C 1 CT) (e3 : G 30 3 = nI (S 0 1)) (hv : S 0 1 ≤ 4) (ea : G 30 11 = nI (S 0 5)) (ha : S 0 5 ≤ 30) (hQ : Q (some (.int (sm_b (decide (0 < S 0 1 ∧ S 0 5 < 30))))) (hp G L)) : CT 115 [.ref 30] (hp G L) Q := by
  refine sm_meth hC [some (.ref 30)] rfl rfl rfl ?_
  refine sm_body [] 80 sm_k115 (fun CT K hC hK => ?_)
  repeat' first
    | (with_reducible refine And.intro ?_ ?_)
    | ((with_reducible intro h9); first | exact absurd h9 (by decide) | ((rw [e3, nI_leI (by omega) (by omega)] at h9)) | ((rw [ea, nI_leI (by omega) (by omega)] at h9)) | skip)
    | (with_reducible exact zn_in (by omega) (by decide))
    | (with_reducible exact z01) | (with_reducible exact z11) | (with_reducible exact zb01 _)
    | (with_reducible exact zn_inb (by omega) (by decide))
    | (with_reducible exact zn_ina (by omega) (by decide))
    | (with_reducible exact zn_inc (by omega) (by decide))
    | ((conv => whnf); first | (with_reducible refine And.intro ?_ ?_) | ((with_reducible intro h9); first | exact absurd h9 (by decide) | ((rw [e3, nI_leI (by omega) (by omega)] at h9)) | ((rw [ea, nI_leI (by omega) (by omega)] at h9)) | skip) | (with_reducible refine hK _ _ _ _ (sm_un ?_)))
  all_goals first
    | (exact zq (dc_f (by omega)) hQ)
    | (exact zq (dc_t (by omega)) hQ)
/-- the worst of a place to ask for -/
def ws (S : Nat → Nat → Nat) (k : Nat) : Nat := if k % 6 < S 0 0 then mq 4 (aPt S (k / 6) (k % 6)) else 8192
/-- the best place of the first k, its worst -/
def bl (S : Nat → Nat → Nat) : Nat → Nat × Nat
  | 0 => (24, 8192)
  | k + 1 => if ws S k < (bl S k).2 then (k, ws S k) else bl S k
theorem bl_le {S : Nat → Nat → Nat} : ∀ k, (bl S k).2 ≤ 8192
  | 0 => Nat.le_refl _
  | k + 1 => by
    have := bl_le (S := S) k
    rw [bl]
    split
    · show ws S k ≤ 8192
      omega
    · exact this
theorem bl_k {S : Nat → Nat → Nat} : ∀ k, (bl S k).1 < k ∨ (bl S k).1 = 24
  | 0 => Or.inr rfl
  | k + 1 => by
    have := bl_k (S := S) k
    rw [bl]
    split
    · exact Or.inl (Nat.lt_succ_self k)
    · omega
theorem ws_le {S : Nat → Nat → Nat} (hR : dR S) (k : Nat) : ws S k ≤ 8192 := by
  unfold ws
  split
  · have := mq_lt (c := aPt S (k / 6) (k % 6)) (M := 4097) (by decide) 4 (fun q _ => by have := cnt_le hR (fun w => Nat.beq (ps S w (k / 6) (k % 6 + 1)) q); unfold aPt; omega)
    omega
  · exact Nat.le_refl _
theorem bl_lt {S : Nat → Nat → Nat} (hR : dR S) (h0 : 0 < S 0 0) : ∀ k, 0 < k → (bl S k).1 < k
  | 0, h => absurd h (Nat.lt_irrefl _)
  | k + 1, _ => by
    rw [bl]
    split
    · exact Nat.lt_succ_self k
    · rename_i hw
      cases k with
      | zero =>
        exfalso
        apply hw
        show ws S 0 < 8192
        unfold ws
        rw [if_pos (by omega)]
        have := mq_lt (c := aPt S (0 / 6) (0 % 6)) (M := 4097) (by decide) 4 (fun q _ => by have := cnt_le hR (fun w => Nat.beq (ps S w (0 / 6) (0 % 6 + 1)) q); unfold aPt; omega)
        omega
      | succ k => have := bl_lt hR h0 (k + 1) (by omega); omega
def bI (b : Nat) : Int32 := if b < 24 then nI b else -1
/-- what ask answers -/
def askR (S : Nat → Nat → Nat) (j : Nat) : Int32 := if aAll S = 0 then -1 else nI (if j = 0 then (bl S (6 * S 0 1)).1 / 6 else if j = 1 then (bl S (6 * S 0 1)).1 % 6 else (bl S (6 * S 0 1)).2)
set_option maxRecDepth 100000 in
set_option maxHeartbeats 4000000 in
theorem s_askNow (hC : sm_C 7 CT) (hD : mD S G) (hR : dR S) (hS : mS S G) (hN : nR S) (hP : pA G) (hv : 0 < S 0 1) (h0 : 0 < S 0 0) {j : Nat} (hj : j < 3)
    (hQ : ∀ G', eqx [39, 40, 41] G G' → pA G' → Q (some (.int (askR S j))) (hp G' L)) : CT 114 [.ref 30, .int (nI j)] (hp G L) Q := by
  have hR' := hR
  obtain ⟨r1, r2, r3, r4⟩ := hR'
  have hall := cnt_le hR (fun _ => true)
  have hbl := bl_lt hR h0 (6 * S 0 1) (by omega)
  refine sm_meth hC [some (.ref 30), some (.int (nI j)), none, none, none, none] rfl rfl rfl ?_
  have lo : ∀ G1, eqx [39, 40, 41] G G1 → pA G1 → ¬ aAll S = 0 → (∀ k, k < 6 * S 0 1 → k % 6 < S 0 0 → ∀ q, q < 4 → G1 41 (24 * q + k) = nI (aPt S (k / 6) (k % 6) q)) → ∀ i, i ≤ 6 * S 0 1 → ∀ o5, sm_Wk 6 114 Q none 18 [some (.ref 30), some (.int (nI j)), some (.int (bI (bl S i).1)), some (.int (nI (bl S i).2)), some (.int (nI i)), o5] [] (hp G1 L) := by
    intro G1 hx hpa hne hk
    refine up _ (fun i hi ih o5 => ?_)
    have f2 : nI 6 * G1 30 3 = nI (6 * S 0 1) := by rw [mD_v (mD_x hx rfl hD), pk_mul]
    have f1 : G1 30 1 = nI (S 0 0) := mD_h (mD_x hx rfl hD)
    have e6 : sm_ir (nI i) (nI 6) = nI (i % 6) := zn_ir (by omega) (by decide) (by decide)
    have hb := bl_le (S := S) i
    have hws := ws_le hR i
    have ew : i % 6 < S 0 0 → mq 4 (aPt S (i / 6) (i % 6)) = ws S i := fun h => by unfold ws; rw [if_pos h]
    have stA : (bl S i).2 ≤ ws S i → bl S (i + 1) = bl S i := fun h => by rw [bl, if_neg (by omega)]
    have stB : ws S i < (bl S i).2 → bl S (i + 1) = (i, ws S i) := fun h => by rw [bl, if_pos h]
    have w8 : S 0 0 ≤ i % 6 → ws S i = 8192 := fun h => by unfold ws; rw [if_neg (by omega)]
    have hans : i = 6 * S 0 1 → ∀ v, v = (if j = 0 then (bl S i).1 / 6 else if j = 1 then (bl S i).1 % 6 else (bl S i).2) → Q (some (.int (nI v))) (hp G1 L) := by
      intro hi2 v e
      subst e
      subst hi2
      have := hQ G1 hx hpa
      unfold askR at this
      rw [if_neg hne] at this
      exact this
    have ebI : i = 6 * S 0 1 → bI (bl S i).1 = nI (bl S i).1 := fun e => by subst e; unfold bI; rw [if_pos (by omega)]
    have ebi : bI i = nI i ∨ ¬ i < 6 * S 0 1 := by
      by_cases h : i < 24
      · exact Or.inl (if_pos h)
      · exact Or.inr (by omega)
    refine sm_body [18] 80 sm_k114 (fun CT K hC hK => ?_)
    repeat' first
      | (with_reducible refine And.intro ?_ ?_)
      | ((with_reducible intro h9); first | exact absurd h9 (by decide) | (replace h9 := nle f2 (by omega) (by omega) h9) | (replace h9 := yle f2 (by omega) (by omega) h9) | ((rw [e6] at h9; replace h9 := yle f1 (by omega) (by omega) h9)) | ((rw [e6] at h9; replace h9 := nle f1 (by omega) (by omega) h9)) | ((rw [ew ‹_›] at h9; replace h9 := zle (by omega) (by omega) h9)) | ((rw [ew ‹_›] at h9; replace h9 := znle (by omega) (by omega) h9)) | (replace h9 := zle (b := 8192) (by omega) (by omega) h9) | (replace h9 := znle (b := 8192) (by omega) (by omega) h9) | skip)
      | (with_reducible exact zn_in (by omega) (by decide))
      | (with_reducible exact z01) | (with_reducible exact z11) | (with_reducible exact zb01 _)
      | (with_reducible exact zn_inb (by omega) (by decide))
      | (with_reducible exact zn_ina (by omega) (by decide))
      | (with_reducible exact zn_inc (by omega) (by decide))
      | ((conv => whnf); first | (with_reducible refine And.intro ?_ ?_) | ((with_reducible intro h9); first | exact absurd h9 (by decide) | (replace h9 := nle f2 (by omega) (by omega) h9) | (replace h9 := yle f2 (by omega) (by omega) h9) | ((rw [e6] at h9; replace h9 := yle f1 (by omega) (by omega) h9)) | ((rw [e6] at h9; replace h9 := nle f1 (by omega) (by omega) h9)) | ((rw [ew ‹_›] at h9; replace h9 := zle (by omega) (by omega) h9)) | ((rw [ew ‹_›] at h9; replace h9 := znle (by omega) (by omega) h9)) | (replace h9 := zle (b := 8192) (by omega) (by omega) h9) | (replace h9 := znle (b := 8192) (by omega) (by omega) h9) | skip) | (with_reducible refine hK _ _ _ _ (sm_un ?_)) | (with_reducible refine s_worstOf (hC.mono (by omega)) (by omega) (fun q _ => by have := cnt_le hR (fun w => Nat.beq (ps S w (i / 6) (i % 6 + 1)) q); unfold aPt; omega) (hk i ‹_› ‹_›) ?_))
    · have ei : i = 6 * S 0 1 := by omega
      exact hans ei _ (by rw [if_neg (zneq ‹¬ nI j = nI 0›), if_neg (zneq h9)])
    · have ei : i = 6 * S 0 1 := by omega
      refine zq ?_ (hans ei _ (by rw [if_neg (zneq ‹¬ nI j = nI 0›), if_pos (zeq (by omega) (by omega) h9)]))
      rw [ebI ei, zn_ir (by subst ei; omega) (by decide) (by decide)]
    · have ei : i = 6 * S 0 1 := by omega
      refine zq ?_ (hans ei _ (by rw [if_pos (zeq (by omega) (by omega) h9)]))
      rw [ebI ei, pk_div (by subst ei; omega) (by decide) (by decide)]
    all_goals try (exfalso; omega)
    · have e := ih ‹_› (some (.int (nI 8192)))
      rw [stA (by rw [w8 ‹_›]; exact hb)] at e
      simp only [nI_add]; exact ⟨⟨e⟩⟩
    · have e := ih ‹_› (some (.int (nI (mq 4 (aPt S (i / 6) (i % 6))))))
      rw [stA h9] at e
      simp only [nI_add]; exact ⟨⟨e⟩⟩
    · have e := ih ‹_› (some (.int (nI (mq 4 (aPt S (i / 6) (i % 6))))))
      rw [stB h9, ← ew ‹_›] at e
      have ebi : bI i = nI i := by rcases ebi with h | h; exact h; exact absurd ‹_› h
      simp only [ebi] at e
      simp only [nI_add]; exact ⟨⟨e⟩⟩
  refine sm_body [18] 40 sm_k114 (fun CT K hC hK => ?_)
  repeat' first
    | (with_reducible refine And.intro ?_ ?_)
    | ((with_reducible intro h9); first | exact absurd h9 (by decide) | (replace h9 := zneq h9) | (replace h9 := zeq (by unfold aAll; omega) (by omega) h9) | skip)
    | (with_reducible exact zn_in (by omega) (by decide))
    | (with_reducible exact z01) | (with_reducible exact z11) | (with_reducible exact zb01 _)
    | (with_reducible exact zn_inb (by omega) (by decide))
    | (with_reducible exact zn_ina (by omega) (by decide))
    | (with_reducible exact zn_inc (by omega) (by decide))
    | ((conv => whnf); first | (with_reducible refine And.intro ?_ ?_) | ((with_reducible intro h9); first | exact absurd h9 (by decide) | (replace h9 := zneq h9) | (replace h9 := zeq (by unfold aAll; omega) (by omega) h9) | skip) | (with_reducible refine hK _ _ _ _ (sm_un ?_)) | (with_reducible refine s_layParts (hC.mono (by omega)) hD hR hS hN hP (fun G1 hx hpa hk => ?_)))
  · exact ⟨⟨lo G1 hx hpa h9 hk 0 (Nat.zero_le _) _⟩⟩
  · have := hQ G1 hx hpa
    unfold askR at this
    rw [if_pos h9] at this
    exact this
end PARTS
