/-! gusts of the other one. -/
section GUSTM
variable {CT : sm_CT} {G : Nat → Nat → Int32} {L : Nat → Nat → Int64} {Q : sm_Q} {S : Nat → Nat → Nat} {c : Nat} {h : sm_H}
def seedL (L : Nat → Nat → Int64) (s : Nat) : Nat → Nat → Int64 := su L 30 (su (L 30) 21 (lN s))
theorem seedL_self {s : Nat} (h : L 30 21 = lN s) : seedL L s = L := by
  unfold seedL
  rw [← h, su_self, su_self]
theorem seedL_2 {s t : Nat} : seedL (seedL L s) t = seedL L t := by
  unfold seedL
  rw [su_eq, su_su, su_su]
theorem seedL_21 {s : Nat} : seedL L s 30 21 = lN s := rfl
set_option maxRecDepth 100000 in
set_option maxHeartbeats 4000000 in
theorem s_draw (hC : sm_C 1 CT) {s : Nat} (hL : L 30 21 = lN s) (hQ : Q (some (.int (nI (ns s / 65536 % 4)))) (hp G (seedL L (ns s)))) : CT 130 [.ref 30, .int (nI 4)] (hp G L) Q := by
  have hl := ns_lt s
  have e : sm_lr (lN (ns s) / lN 65536) (nI 4).toInt64 = lN (ns s / 65536 % 4) := by
    rw [nI_l (by decide), pk_lDiv (by omega) (by decide) (by decide)]
    exact pk_lRem (by omega) (by decide) (by decide)
  refine sm_meth hC [some (.ref 30), some (.int (nI 4))] rfl rfl rfl ?_
  refine sm_body [] 80 sm_k130 (fun CT K hC hK => ?_)
  repeat' first
    | (with_reducible refine And.intro ?_ ?_)
    | ((with_reducible intro h9); first | exact absurd h9 (by decide) | skip)
    | (with_reducible exact zn_in (by omega) (by decide))
    | (with_reducible exact z01) | (with_reducible exact z11) | (with_reducible exact zb01 _)
    | (with_reducible exact zn_inb (by omega) (by decide))
    | (with_reducible exact zn_ina (by omega) (by decide))
    | (with_reducible exact zn_inc (by omega) (by decide))
    | ((conv => whnf); first | (with_reducible refine And.intro ?_ ?_) | ((with_reducible intro h9); first | exact absurd h9 (by decide) | skip) | (with_reducible refine hK _ _ _ _ (sm_un ?_)))
  conv => whnf
  simp only [hL, ns_l, hp_0, hp_1, hp_2, hp_3, hp_4, hp_5, hp_6, hp_7, hp_8, hp_9, hp_10, hp_11, hp_12, hp_13, hp_14, hp_15, hp_16, hp_17, hp_18, hp_19, hp_20, hp_22, hp_23, hp_24, hp_25, hp_26, hp_27, hp_28, hp_29, hp_30, hp_31, hp_32, hp_33, hp_34, hp_35, hp_36, hp_37, hp_38, hp_39, hp_40, hp_41, hp_42, hp_43, hp_44, hp_45, hp_46, hp_47, hp_48, hp_49, hf0_5, hf0_6, hf0_7, hf1_1, hf3_0, hf3_2, hf3_6, hf10_0, hf10_2, hf10_6, hf17_3, hf17_4, hf20_3, hf20_4, hf30_0, hf30_1, hf30_3, hf30_7, hf30_11, hf30_12, hf30_20, hf30_22, hf30_23, hf30_24, hf30_25, hf30_21, hf30_31, upd_su, updL_su, su_self, e, lN_i]
  exact hQ
set_option maxRecDepth 100000 in
set_option maxHeartbeats 4000000 in
theorem s_goDay (hC : sm_C 4 CT) (hD : mD S G) (hR : dR S) (hp0 : pA G) {s : Nat} (hs : s < 2147483648) (hL : L 30 21 = lN s)
    (hQ : ∀ G', eqx [39, 40] G G' → pA G' → Q (some (.int (nI (ct (hitq S s) (S 0 0))))) (hp G' (seedL L (sd S s (S 0 0))))) : CT 131 [.ref 30] (hp G L) Q := by
  obtain ⟨r1, r2, r3, r4⟩ := id hR
  refine sm_meth hC [some (.ref 30), none, none, none, none] rfl rfl rfl ?_
  have hpl : ∀ v, v < S 0 1 → ∀ i, i ≤ S 0 0 → ps S (gw S s) v i < 4 := fun v hv i hi => ps_lt (r4 v hv).2.1 i (fun j hj => gw_lt hR (by omega))
  have lo3 : ∀ G1, eqx [39, 40] G G1 → pA G1 → (∀ j, j < S 0 0 → G1 39 j = nI (gw S s j)) → (∀ v, v < S 0 1 → ∀ j, j < S 0 0 → G1 40 (6 * v + j) = nI (ps S (gw S s) v (j + 1))) → ∀ i, i ≤ S 0 0 → ∀ o3 o4, sm_Wk 3 131 Q none 71 [some (.ref 30), some (.int (nI (ct (hitq S s) i))), some (.int (nI i)), o3, o4] [] (hp G1 (seedL L (sd S s (S 0 0)))) := by
    intro G1 hx hpa hb hpt
    refine up _ (fun i hi ih o3 o4 => ?_)
    have f1 := mD_h (mD_x hx rfl hD)
    have f2 := mD_v (mD_x hx rfl hD)
    have inner : i < S 0 0 → ∀ v, v ≤ S 0 1 → sm_Wk 3 131 Q none 84 [some (.ref 30), some (.int (nI (ct (hitq S s) i))), some (.int (nI i)), some (.int (nI (ct (fun v => Nat.beq (ps S (gw S s) v (i + 1)) (gw S s i)) v))), some (.int (nI v))] [] (hp G1 (seedL L (sd S s (S 0 0)))) := by
      intro hl
      refine up _ (fun v hv ihv => ?_)
      have hcv := ct_le (P := fun v => Nat.beq (ps S (gw S s) v (i + 1)) (gw S s i)) v
      have hg := gw_lt hR (s := s) hl
      refine sm_body [71, 84] 120 sm_k131 (fun CT K hC hK => ?_)
      repeat' first
        | (with_reducible refine And.intro ?_ ?_)
        | ((with_reducible intro h9); first | exact absurd h9 (by decide) | (replace h9 := nle f2 (by omega) (by omega) h9) | (replace h9 := yle f2 (by omega) (by omega) h9) | ((rw [pk_mul, f2] at h9; replace h9 := zle (by omega) (by omega) h9)) | ((rw [pk_mul, f2] at h9; replace h9 := znle (by omega) (by omega) h9)) | ((rw [pk_mul, nI_add, zn_clI (show 6 * v + i < 2 ^ 31 by omega), zn_clI (show i < 2 ^ 31 by omega), hpt v ‹_› i hl, hb i hl] at h9)) | skip)
        | (with_reducible exact zn_in (by omega) (by decide))
        | (with_reducible exact z01) | (with_reducible exact z11) | (with_reducible exact zb01 _)
        | (with_reducible exact zn_inb (by omega) (by decide))
        | (with_reducible exact zn_ina (by omega) (by decide))
        | (with_reducible exact zn_inc (by omega) (by decide))
        | ((conv => whnf); first | (with_reducible refine And.intro ?_ ?_) | ((with_reducible intro h9); first | exact absurd h9 (by decide) | (replace h9 := nle f2 (by omega) (by omega) h9) | (replace h9 := yle f2 (by omega) (by omega) h9) | ((rw [pk_mul, f2] at h9; replace h9 := zle (by omega) (by omega) h9)) | ((rw [pk_mul, f2] at h9; replace h9 := znle (by omega) (by omega) h9)) | ((rw [pk_mul, nI_add, zn_clI (show 6 * v + i < 2 ^ 31 by omega), zn_clI (show i < 2 ^ 31 by omega), hpt v ‹_› i hl, hb i hl] at h9)) | skip) | (with_reducible refine hK _ _ _ _ (sm_un ?_)))
      · obtain rfl : v = S 0 1 := by omega
        have e := ih hl (some (.int (nI (ct (fun v => Nat.beq (ps S (gw S s) v (i + 1)) (gw S s i)) (S 0 1))))) (some (.int (nI (S 0 1))))
        have eh : hitq S s i = false := decide_eq_false (by omega)
        rw [ct, bn_f eh] at e
        simp only [nI_add]; exact ⟨⟨e⟩⟩
      · obtain rfl : v = S 0 1 := by omega
        have e := ih hl (some (.int (nI (ct (fun v => Nat.beq (ps S (gw S s) v (i + 1)) (gw S s i)) (S 0 1))))) (some (.int (nI (S 0 1))))
        have eh : hitq S s i = true := decide_eq_true (by omega)
        rw [ct, bn_t eh] at e
        simp only [nI_add]; exact ⟨⟨e⟩⟩
      · have e := ihv ‹_›
        have eh : (fun v => Nat.beq (ps S (gw S s) v (i + 1)) (gw S s i)) v = false := beq_f (zneq h9)
        rw [ct, bn_f eh] at e
        simp only [nI_add]; exact ⟨⟨e⟩⟩
      · have hp4 := hpl v ‹_› (i + 1) (by omega)
        have e := ihv ‹_›
        have eh : (fun v => Nat.beq (ps S (gw S s) v (i + 1)) (gw S s i)) v = true := beq_t (zeq (by omega) (by omega) h9)
        rw [ct, bn_t eh] at e
        simp only [nI_add]; exact ⟨⟨e⟩⟩
    refine sm_body [71, 84] 120 sm_k131 (fun CT K hC hK => ?_)
    repeat' first
      | (with_reducible refine And.intro ?_ ?_)
      | ((with_reducible intro h9); first | exact absurd h9 (by decide) | (replace h9 := nle f1 (by omega) (by omega) h9) | (replace h9 := yle f1 (by omega) (by omega) h9) | skip)
      | (with_reducible exact zn_in (by omega) (by decide))
      | (with_reducible exact z01) | (with_reducible exact z11) | (with_reducible exact zb01 _)
      | (with_reducible exact zn_inb (by omega) (by decide))
      | (with_reducible exact zn_ina (by omega) (by decide))
      | (with_reducible exact zn_inc (by omega) (by decide))
      | ((conv => whnf); first | (with_reducible refine And.intro ?_ ?_) | ((with_reducible intro h9); first | exact absurd h9 (by decide) | (replace h9 := nle f1 (by omega) (by omega) h9) | (replace h9 := yle f1 (by omega) (by omega) h9) | skip) | (with_reducible refine hK _ _ _ _ (sm_un ?_)))
    · obtain rfl : i = S 0 0 := by omega
      exact hQ G1 hx hpa
    · exact ⟨⟨inner ‹_› 0 (Nat.zero_le _)⟩⟩
  have lo2 : ∀ v, v ≤ S 0 1 → ∀ G1, eqx [39, 40] G G1 → pA G1 → (∀ j, j < S 0 0 → G1 39 j = nI (gw S s j)) → (∀ u, u < v → ∀ j, j < S 0 0 → G1 40 (6 * u + j) = nI (ps S (gw S s) u (j + 1))) → sm_Wk 3 131 Q none 48 [some (.ref 30), some (.int (nI v)), none, none, none] [] (hp G1 (seedL L (sd S s (S 0 0)))) := by
    refine up _ (fun v hv ih G1 hx hpa hb hpt => ?_)
    have hD1 := mD_x hx rfl hD
    have f2 := mD_v hD1
    refine sm_body [48, 71] 80 sm_k131 (fun CT K hC hK => ?_)
    repeat' first
      | (with_reducible refine And.intro ?_ ?_)
      | ((with_reducible intro h9); first | exact absurd h9 (by decide) | (replace h9 := nle f2 (by omega) (by omega) h9) | (replace h9 := yle f2 (by omega) (by omega) h9) | skip)
      | (with_reducible exact zn_in (by omega) (by decide))
      | (with_reducible exact z01) | (with_reducible exact z11) | (with_reducible exact zb01 _)
      | (with_reducible exact zn_inb (by omega) (by decide))
      | (with_reducible exact zn_ina (by omega) (by decide))
      | (with_reducible exact zn_inc (by omega) (by decide))
      | ((conv => whnf); first | (with_reducible refine And.intro ?_ ?_) | ((with_reducible intro h9); first | exact absurd h9 (by decide) | (replace h9 := nle f2 (by omega) (by omega) h9) | (replace h9 := yle f2 (by omega) (by omega) h9) | skip) | (with_reducible refine hK _ _ _ _ (sm_un ?_)) | (with_reducible refine s_layVane (hC.mono (by omega)) hD1 hR (fun j hj => gw_lt hR hj) hb ‹_› (fun G2 hx2 h3 h4 => ?_)))
    · obtain rfl : v = S 0 1 := by omega
      exact ⟨⟨lo3 G1 hx hpa hb hpt 0 (Nat.zero_le _) none none⟩⟩
    · have hpa2 : pA G2 := by
        intro k hk
        by_cases hc : k / 6 = v ∧ k % 6 < S 0 0
        · have e := h3 (k % 6) hc.2
          rw [show 6 * v + k % 6 = k by omega] at e
          exact ⟨_, hpl v h9 _ (by omega), e⟩
        · rw [h4 k hc]
          exact hpa k hk
      simp only [nI_add]; exact ⟨⟨ih h9 G2 (eqx_trans hx (eqx_sub rfl hx2)) hpa2 (fun j hj => by rw [hx2 39 rfl]; exact hb j hj) (fun u hu j hj => if e : u = v then (by subst e; exact h3 j hj) else (by rw [h4 _ (by omega)]; exact hpt u (by omega) j hj))⟩⟩
  have lo : ∀ i, i ≤ S 0 0 → ∀ G1, eqx [39, 40] G G1 → G1 40 = G 40 → (∀ j, j < i → G1 39 j = nI (gw S s j)) → sm_Wk 3 131 Q none 2 [some (.ref 30), some (.int (nI i)), none, none, none] [] (hp G1 (seedL L (sd S s i))) := by
    refine up _ (fun i hi ih G1 hx h40 hb => ?_)
    have hD1 := mD_x hx rfl hD
    obtain ⟨f1, f2, f3, f4⟩ := id hD1
    refine sm_body [2, 48] 80 sm_k131 (fun CT K hC hK => ?_)
    repeat' first
      | (with_reducible refine And.intro ?_ ?_)
      | ((with_reducible intro h9); first | exact absurd h9 (by decide) | (replace h9 := nle f1 (by omega) (by omega) h9) | (replace h9 := yle f1 (by omega) (by omega) h9) | ((rw [zn_clI (show i < 2 ^ 31 by omega), f3 i ‹_›, wI_m (r3 i ‹_›)] at h9)) | skip)
      | (with_reducible exact zn_in (by omega) (by decide))
      | (with_reducible exact z01) | (with_reducible exact z11) | (with_reducible exact zb01 _)
      | (with_reducible exact zn_inb (by omega) (by decide))
      | (with_reducible exact zn_ina (by omega) (by decide))
      | (with_reducible exact zn_inc (by omega) (by decide))
      | ((conv => whnf); first | (with_reducible refine And.intro ?_ ?_) | ((with_reducible intro h9); first | exact absurd h9 (by decide) | (replace h9 := nle f1 (by omega) (by omega) h9) | (replace h9 := yle f1 (by omega) (by omega) h9) | ((rw [zn_clI (show i < 2 ^ 31 by omega), f3 i ‹_›, wI_m (r3 i ‹_›)] at h9)) | skip) | (with_reducible refine hK _ _ _ _ (sm_un ?_)) | (with_reducible refine s_draw (s := sd S s i) (hC.mono (by omega)) seedL_21 ?_))
    · obtain rfl : i = S 0 0 := by omega
      exact ⟨⟨lo2 0 (Nat.zero_le _) G1 hx (by unfold pA; rw [h40]; exact hp0) hb (fun u hu => absurd hu (Nat.not_lt_zero _))⟩⟩
    · have h4 := r3 i ‹_›
      have e := ih ‹_› (su G1 39 (su (G1 39) i (nI (gw S s i)))) (eqx_su 39 _ rfl hx) h40 (fun j hj => by
        rw [su_eq, su_if]
        split
        · rename_i e
          rw [e]
        · exact hb j (by omega))
      rw [sd, gw, beq_f h9] at e
      simp only [nI_add, zn_clI (show i < 2 ^ 31 by omega), hp_0, hp_1, hp_2, hp_3, hp_4, hp_5, hp_6, hp_7, hp_8, hp_9, hp_10, hp_11, hp_12, hp_13, hp_14, hp_15, hp_16, hp_17, hp_18, hp_19, hp_20, hp_22, hp_23, hp_24, hp_25, hp_26, hp_27, hp_28, hp_29, hp_30, hp_31, hp_32, hp_33, hp_34, hp_35, hp_36, hp_37, hp_38, hp_39, hp_40, hp_41, hp_42, hp_43, hp_44, hp_45, hp_46, hp_47, hp_48, hp_49, hf0_5, hf0_6, hf0_7, hf1_1, hf3_0, hf3_2, hf3_6, hf10_0, hf10_2, hf10_6, hf17_3, hf17_4, hf20_3, hf20_4, hf30_0, hf30_1, hf30_3, hf30_7, hf30_11, hf30_12, hf30_20, hf30_22, hf30_23, hf30_24, hf30_25, hf30_21, hf30_31, upd_su, updL_su, f3 i ‹_›, wI_t (show S 1 i < 4 by omega)]
      exact ⟨⟨e⟩⟩
    · have e := ih ‹_› (su G1 39 (su (G1 39) i (nI (gw S s i)))) (eqx_su 39 _ rfl hx) h40 (fun j hj => by
        rw [su_eq, su_if]
        split
        · rename_i e
          rw [e]
        · exact hb j (by omega))
      rw [sd, gw, beq_t h9] at e
      simp only [nI_add, zn_clI (show i < 2 ^ 31 by omega), hp_0, hp_1, hp_2, hp_3, hp_4, hp_5, hp_6, hp_7, hp_8, hp_9, hp_10, hp_11, hp_12, hp_13, hp_14, hp_15, hp_16, hp_17, hp_18, hp_19, hp_20, hp_22, hp_23, hp_24, hp_25, hp_26, hp_27, hp_28, hp_29, hp_30, hp_31, hp_32, hp_33, hp_34, hp_35, hp_36, hp_37, hp_38, hp_39, hp_40, hp_41, hp_42, hp_43, hp_44, hp_45, hp_46, hp_47, hp_48, hp_49, hf0_5, hf0_6, hf0_7, hf1_1, hf3_0, hf3_2, hf3_6, hf10_0, hf10_2, hf10_6, hf17_3, hf17_4, hf20_3, hf20_4, hf30_0, hf30_1, hf30_3, hf30_7, hf30_11, hf30_12, hf30_20, hf30_22, hf30_23, hf30_24, hf30_25, hf30_21, hf30_31, upd_su, updL_su, seedL_2]
      exact ⟨⟨e⟩⟩
  refine sm_body [2] 80 sm_k131 (fun CT K hC hK => ?_)
  repeat' first
    | (with_reducible refine And.intro ?_ ?_)
    | ((with_reducible intro h9); first | exact absurd h9 (by decide) | skip)
    | (with_reducible exact zn_in (by omega) (by decide))
    | (with_reducible exact z01) | (with_reducible exact z11) | (with_reducible exact zb01 _)
    | (with_reducible exact zn_inb (by omega) (by decide))
    | (with_reducible exact zn_ina (by omega) (by decide))
    | (with_reducible exact zn_inc (by omega) (by decide))
    | ((conv => whnf); first | (with_reducible refine And.intro ?_ ?_) | ((with_reducible intro h9); first | exact absurd h9 (by decide) | skip) | (with_reducible refine hK _ _ _ _ (sm_un ?_)))
  have e := lo 0 (Nat.zero_le _) G eqx_rfl rfl (fun j hj => absurd hj (Nat.not_lt_zero _))
  rw [show sd S s 0 = s from rfl, seedL_self hL] at e
  exact ⟨⟨e⟩⟩
set_option maxRecDepth 100000 in
set_option maxHeartbeats 4000000 in
theorem s_gustsNow (hC : sm_C 5 CT) (hD : mD S G) (hR : dR S) (hp0 : pA G) {s d q : Nat} (hs : s < 2147483648) (hd : d ≤ 40) (hq : q < 2)
    (hQ : ∀ G' L', eqx [39, 40] G G' → pA G' → Q (some (.int (nI (if q = 0 then hits S s d else sdd S s d)))) (hp G' L')) : CT 132 [.ref 30, .int (nI d), .int (nI s), .int (nI q)] (hp G L) Q := by
  obtain ⟨r1, r2, r3, r4⟩ := id hR
  refine sm_meth hC [some (.ref 30), some (.int (nI d)), some (.int (nI s)), some (.int (nI q)), none, none] rfl rfl rfl ?_
  have lo : ∀ k, k ≤ d → ∀ G1 L1, eqx [39, 40] G G1 → pA G1 → L1 30 21 = lN (sdd S s k) → sm_Wk 4 132 Q none 12 [some (.ref 30), some (.int (nI d)), some (.int (nI s)), some (.int (nI q)), some (.int (nI (hits S s k))), some (.int (nI k))] [] (hp G1 L1) := by
    refine up _ (fun k hk ih G1 L1 hx hpa hl => ?_)
    have hsk := sdd_lt (S := S) hs k
    have hD1 := mD_x hx rfl hD
    refine sm_body [12] 80 sm_k132 (fun CT K hC hK => ?_)
    repeat' first
      | (with_reducible refine And.intro ?_ ?_)
      | ((with_reducible intro h9); first | exact absurd h9 (by decide) | (replace h9 := zle (by omega) (by omega) h9) | (replace h9 := znle (by omega) (by omega) h9) | skip)
      | (with_reducible exact zn_in (by omega) (by decide))
      | (with_reducible exact z01) | (with_reducible exact z11) | (with_reducible exact zb01 _)
      | (with_reducible exact zn_inb (by omega) (by decide))
      | (with_reducible exact zn_ina (by omega) (by decide))
      | (with_reducible exact zn_inc (by omega) (by decide))
      | ((conv => whnf); first | (with_reducible refine And.intro ?_ ?_) | ((with_reducible intro h9); first | exact absurd h9 (by decide) | (replace h9 := zle (by omega) (by omega) h9) | (replace h9 := znle (by omega) (by omega) h9) | skip) | (with_reducible refine hK _ _ _ _ (sm_un ?_)) | (with_reducible refine s_goDay (hC.mono (by omega)) hD1 hR hpa hsk hl (fun G2 hx2 hpa2 => ?_)))
    · obtain rfl : k = d := by omega
      refine zq ?_ (hQ G1 L1 hx hpa)
      rw [if_f (zneq ‹¬ nI q = nI 0›), hl, lN_i]
    · obtain rfl : k = d := by omega
      refine zq ?_ (hQ G1 L1 hx hpa)
      rw [if_t (zeq (by omega) (by omega) ‹nI q = nI 0›)]
    · simp only [nI_add]; exact ⟨⟨ih ‹_› G2 _ (eqx_trans hx hx2) hpa2 rfl⟩⟩
  refine sm_body [12] 80 sm_k132 (fun CT K hC hK => ?_)
  repeat' first
    | (with_reducible refine And.intro ?_ ?_)
    | ((with_reducible intro h9); first | exact absurd h9 (by decide) | skip)
    | (with_reducible exact zn_in (by omega) (by decide))
    | (with_reducible exact z01) | (with_reducible exact z11) | (with_reducible exact zb01 _)
    | (with_reducible exact zn_inb (by omega) (by decide))
    | (with_reducible exact zn_ina (by omega) (by decide))
    | (with_reducible exact zn_inc (by omega) (by decide))
    | ((conv => whnf); first | (with_reducible refine And.intro ?_ ?_) | ((with_reducible intro h9); first | exact absurd h9 (by decide) | skip) | (with_reducible refine hK _ _ _ _ (sm_un ?_)))
  simp only [hp_0, hp_1, hp_2, hp_3, hp_4, hp_5, hp_6, hp_7, hp_8, hp_9, hp_10, hp_11, hp_12, hp_13, hp_14, hp_15, hp_16, hp_17, hp_18, hp_19, hp_20, hp_22, hp_23, hp_24, hp_25, hp_26, hp_27, hp_28, hp_29, hp_30, hp_31, hp_32, hp_33, hp_34, hp_35, hp_36, hp_37, hp_38, hp_39, hp_40, hp_41, hp_42, hp_43, hp_44, hp_45, hp_46, hp_47, hp_48, hp_49, hf0_5, hf0_6, hf0_7, hf1_1, hf3_0, hf3_2, hf3_6, hf10_0, hf10_2, hf10_6, hf17_3, hf17_4, hf20_3, hf20_4, hf30_0, hf30_1, hf30_3, hf30_7, hf30_11, hf30_12, hf30_20, hf30_22, hf30_23, hf30_24, hf30_25, hf30_21, hf30_31, upd_su, updL_su, su_self, nI_l (show s < 2 ^ 31 by omega)]
  exact ⟨⟨lo 0 (Nat.zero_le _) G (seedL L s) eqx_rfl hp0 rfl⟩⟩
set_option maxRecDepth 100000 in
set_option maxHeartbeats 4000000 in
theorem g_gusts (hC : sm_C 6 CT) (hR : RS c S) (hI : Im c S G) {x y z : Int32} (hQ : ∀ G' L', eqx mdlP G G' → Im c S G' → Q (some (.int (A_gusts S x y z))) (hp G' L')) : CT 133 [.ref 30, .int x, .int y, .int z] (hp G L) Q := by
  obtain ⟨hdR, hnR, -⟩ := id hR
  obtain ⟨r1, r2, r3, r4⟩ := id hdR
  obtain ⟨i1, i2, i3, i4, i5, i6, i7⟩ := id hI
  have e1 := i1.1
  refine sm_meth hC [some (.ref 30), some (.int x), some (.int y), some (.int z)] rfl rfl rfl ?_
  unfold A_gusts at hQ
  refine sm_body [] 80 sm_k133 (fun CT K hC hK => ?_)
  repeat' first
    | (with_reducible refine And.intro ?_ ?_)
    | ((with_reducible intro h9); first | exact absurd h9 (by decide) | (replace h9 := sb_f h9) | ((have h8 := inb_ex (x := z) (sb_t h9); obtain ⟨q, hq, rfl⟩ := h8)) | ((rw [e1] at h9; replace h9 := zneq h9)) | ((rw [e1] at h9; replace h9 := zeq (by omega) (by omega) h9)) | skip)
    | (with_reducible exact zn_in (by omega) (by decide))
    | (with_reducible exact z01) | (with_reducible exact z11) | (with_reducible exact zb01 _)
    | (with_reducible exact zn_inb (by omega) (by decide))
    | (with_reducible exact zn_ina (by omega) (by decide))
    | (with_reducible exact zn_inc (by omega) (by decide))
    | ((conv => whnf); first | (with_reducible refine And.intro ?_ ?_) | ((with_reducible intro h9); first | exact absurd h9 (by decide) | (replace h9 := sb_f h9) | ((have h8 := inb_ex (x := z) (sb_t h9); obtain ⟨q, hq, rfl⟩ := h8)) | ((rw [e1] at h9; replace h9 := zneq h9)) | ((rw [e1] at h9; replace h9 := zeq (by omega) (by omega) h9)) | skip) | (with_reducible refine hK _ _ _ _ (sm_un ?_)) | (with_reducible refine s_within (hC.mono (by omega)) (fun hl hr => ?_) (fun hn => ?_)) | (with_reducible refine b_withinM (n := 2) (hC.mono (by omega)) (by decide) rfl ?_))
  · rw [if_f (fun o => absurd h9 (Int32.not_lt.mpr o.2.2.1))] at hQ
    exact hQ G L eqx_rfl hI
  · have o1 : nI 1 ≤ x := ‹_›
    have o2 : x ≤ nI 40 := ‹_›
    have o3 : nI 0 ≤ y := Int32.not_lt.mp ‹¬ y < nI 0›
    have o5 : nI 0 ≤ z := ‹_›
    have o6 : z ≤ nI 1 := ‹_›
    have o4 : inb z 2 = true := o_in (n := 1) (by decide) (Int32.not_lt.mpr o5) o6
    rw [if_t ⟨o1, o2, o3, o4⟩, if_f h9] at hQ
    obtain ⟨q, hq, rfl⟩ := inb_ex o4
    obtain ⟨dd, hd, ex⟩ := wi_t (x := x) (y := nI 40) (n := 41) (by decide) rfl (Int32.le_trans (by decide) o1) o2
    subst ex
    obtain ⟨s, hs, ey⟩ := nI_of (x := y) (Int32.not_lt.mpr o3)
    subst ey
    have hs : s < 2147483648 := hs
    simp only [ci hq (show 2 ≤ 100 by decide), zn_clI (show dd < 2 ^ 31 by omega), zn_clI (show s < 2 ^ 31 by omega)] at hQ
    repeat' first
      | (with_reducible refine And.intro ?_ ?_)
      | ((with_reducible intro h9); first | exact absurd h9 (by decide) | skip)
      | (with_reducible exact zn_in (by omega) (by decide))
      | (with_reducible exact z01) | (with_reducible exact z11) | (with_reducible exact zb01 _)
      | (with_reducible exact zn_inb (by omega) (by decide))
      | (with_reducible exact zn_ina (by omega) (by decide))
      | (with_reducible exact zn_inc (by omega) (by decide))
      | ((conv => whnf); first | (with_reducible refine And.intro ?_ ?_) | ((with_reducible intro h9); first | exact absurd h9 (by decide) | skip) | (with_reducible refine hK _ _ _ _ (sm_un ?_)) | (with_reducible refine s_gustsNow (hC.mono (by omega)) i1 hdR i7 hs (by omega) hq (fun G' L' hx hp => ?_)))
    exact hQ G' L' (eqx_sub rfl hx) (Im_39 (eqx_sub rfl hx) hp hI)
  · have o1 : nI 1 ≤ x := ‹_›
    have o2 : x ≤ nI 40 := ‹_›
    have o3 : nI 0 ≤ y := Int32.not_lt.mp ‹¬ y < nI 0›
    have o5 : nI 0 ≤ z := ‹_›
    have o6 : z ≤ nI 1 := ‹_›
    have o4 : inb z 2 = true := o_in (n := 1) (by decide) (Int32.not_lt.mpr o5) o6
    rw [if_t ⟨o1, o2, o3, o4⟩, if_t h9] at hQ
    exact hQ G L eqx_rfl hI
  · have hn0 : ¬ (nI 0 ≤ z ∧ z ≤ nI 1) := ‹_›
    rw [if_f (fun o => by
      obtain ⟨q, hq, e⟩ := inb_ex o.2.2.2
      rw [e] at hn0
      exact hn0 ⟨nI_le (Nat.zero_le q) (by omega), nI_le (by omega) (by decide)⟩)] at hQ
    exact hQ G L eqx_rfl hI
  · have hn0 : ¬ (nI 1 ≤ x ∧ x ≤ nI 40) := ‹_›
    rw [if_f (fun o => hn0 ⟨o.1, o.2.1⟩)] at hQ
    exact hQ G L eqx_rfl hI
end GUSTM
