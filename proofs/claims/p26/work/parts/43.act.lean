/-! The law's see and act. -/
section ACT
variable {CT : sm_CT} {G : Nat → Nat → Int32} {L : Nat → Nat → Int64} {Q : sm_Q} {S : Nat → Nat → Nat} {c : Nat} {h : sm_H}
theorem see_in {v k q : Nat} (hR : dR S) (hv : v < S 0 1) (hk : k < S 0 0) (hq : q < 4) : (S 0 2 = 10 → N_see S (nI v) (nI k) (nI q) = S ∧ A_see S (nI v) (nI k) (nI q) = -104) ∧ (S 0 2 ≠ 10 → N_see S (nI v) (nI k) (nI q) = seeS S v k q ∧ A_see S (nI v) (nI k) (nI q) = nI (S 0 2 + 1)) := by
  have r1 := hR.1
  have r2 := hR.2.1
  unfold N_see A_see okSee
  rw [inb_n hv (by omega), inb_n hk (by omega), inb_n hq (by decide), zn_clI (by omega), zn_clI (by omega), zn_clI (by omega)]
  exact ⟨fun e => ⟨if_t e, if_t e⟩, fun e => ⟨if_f e, if_f e⟩⟩
set_option maxRecDepth 100000 in
set_option maxHeartbeats 4000000 in
theorem l_see (hC : sm_C 4 CT) (hI : LI S G) {v k q : Nat} (hv : v < S 0 1) (hk : k < S 0 0) (hq : q < 4)
    (hQ : ∀ G' S', eqx lawA G G' → LI S' G' → S' 0 0 = S 0 0 → S' 0 1 = S 0 1 → Q (some (.int (nI 1))) (hp G' L)) : CT 86 [.ref 0, .ref 31, .int (nI v), .int (nI k), .int (nI q)] (hp G L) Q := by
  obtain ⟨hR, hIc, hW, ⟨w1, w2⟩, hpos⟩ := hI
  obtain ⟨s1, s2⟩ := see_in hR.1 hv hk hq
  have n10 := hR.2.1.1
  obtain ⟨n, en⟩ : ∃ n, n = S 0 2 := ⟨_, rfl⟩
  rw [← en] at n10 w1 w2 s1 s2
  have w1' : G 31 (nI 30).toNatClampNeg = nI n := w1
  refine sm_meth hC [some (.ref 0), some (.ref 31), some (.int (nI v)), some (.int (nI k)), some (.int (nI q)), none] rfl rfl rfl ?_
  by_cases h10 : n = 10
  · obtain ⟨eN, eA⟩ := s1 h10
    refine sm_body [] 80 sm_k86 (fun CT K hC hK => ?_)
    repeat' first
      | (with_reducible refine And.intro ?_ ?_)
      | ((with_reducible intro h9); first | exact absurd h9 (by decide) | ((rw [w1', h10] at h9; exact absurd rfl h9)) | skip)
      | (with_reducible exact zn_in (by omega) (by decide))
      | (with_reducible exact z01) | (with_reducible exact z11) | (with_reducible exact zb01 _)
      | (with_reducible exact zn_inb (by omega) (by decide))
      | (with_reducible exact zn_ina (by omega) (by decide))
      | (with_reducible exact zn_inc (by omega) (by decide))
      | (with_reducible exact zn_ind (by omega) (by decide))
      | (with_reducible exact zn_ine (by omega) (by decide))
      | ((conv => whnf); first | (with_reducible refine And.intro ?_ ?_) | ((with_reducible intro h9); first | exact absurd h9 (by decide) | ((rw [w1', h10] at h9; exact absurd rfl h9)) | skip) | (with_reducible refine hK _ _ _ _ (sm_un ?_)) | (refine f_see (hC.mono (by omega)) hR hIc (fun G2 hx2 hI2 => ?_)))
    all_goals rw [eA] at h9
    · exact absurd rfl h9
    · rw [eN] at hI2
      exact hQ G2 S (eqx_sub rfl hx2) ⟨hR, hI2, wD_x hx2 rfl hW, wS_x hx2 rfl ⟨by rw [← en]; exact w1, by rw [← en]; exact w2⟩, hpos⟩ rfl rfl
  · obtain ⟨eN, eA⟩ := s2 h10
    have tail : ∀ G1, eqx [31] G G1 → (∀ j, j < 3 * n → G1 31 j = G 31 j) → G1 31 30 = nI (n + 1) → G1 31 (3 * n) = nI v → G1 31 (3 * n + 1) = nI k → G1 31 (3 * n + 2) = nI q → sm_Wk 3 86 Q none 61 [some (.ref 0), some (.ref 31), some (.int (nI v)), some (.int (nI k)), some (.int (nI q)), some (.int (nI 0))] [] (hp G1 L) := by
      intro G1 hx a1 a2 a3 a4 a5
      have hI1 : Ic S G1 := Ic_x (eqx_sub rfl hx) hIc
      refine sm_body [] 80 sm_k86 (fun CT K hC hK => ?_)
      repeat' first
        | (with_reducible refine And.intro ?_ ?_)
        | ((with_reducible intro h9); first | exact absurd h9 (by decide) | (exact absurd rfl h9) | skip)
        | (with_reducible exact zn_in (by omega) (by decide))
        | (with_reducible exact z01) | (with_reducible exact z11) | (with_reducible exact zb01 _)
        | (with_reducible exact zn_inb (by omega) (by decide))
        | (with_reducible exact zn_ina (by omega) (by decide))
        | (with_reducible exact zn_inc (by omega) (by decide))
        | (with_reducible exact zn_ind (by omega) (by decide))
        | (with_reducible exact zn_ine (by omega) (by decide))
        | ((conv => whnf); first | (with_reducible refine And.intro ?_ ?_) | ((with_reducible intro h9); first | exact absurd h9 (by decide) | (exact absurd rfl h9) | skip) | (with_reducible refine hK _ _ _ _ (sm_un ?_)) | (refine f_see (hC.mono (by omega)) hR hI1 (fun G2 hx2 hI2 => ?_)))
      all_goals
        have a2' : G2 31 (nI 30).toNatClampNeg = nI (n + 1) := by rw [hx2 31 rfl]; exact a2
        rw [eA, a2'] at h9
      · exact absurd rfl h9
      · rw [eN] at hI2
        have hR2 := R_see hR (nI v) (nI k) (nI q)
        rw [eN] at hR2
        have e31 : G2 31 = G1 31 := hx2 31 rfl
        have e30 : G2 30 = G 30 := by rw [hx2 30 rfl, hx 30 rfl]
        refine hQ G2 _ (eqx_trans (eqx_sub rfl hx) (eqx_sub rfl hx2)) ⟨hR2, hI2, ?_, ⟨?_, fun j hj => ?_⟩, hpos⟩ rfl rfl
        · unfold wD at hW ⊢
          rw [e30]
          exact hW
        · show G2 31 30 = nI (S 0 2 + 1)
          rw [e31, a2, en]
        · have hj : j < S 0 2 + 1 := hj
          show G2 31 (3 * j) = nI (su (S 6) (S 0 2) v j) ∧ G2 31 (3 * j + 1) = nI (su (S 7) (S 0 2) k j) ∧ G2 31 (3 * j + 2) = nI (su (S 8) (S 0 2) q j)
          rw [e31, ← en, su_if, su_if, su_if]
          by_cases e : j = n
          · subst e
            rw [if_t rfl, if_t rfl, if_t rfl]
            exact ⟨a3, a4, a5⟩
          · rw [if_f e, if_f e, if_f e, a1 _ (by omega), a1 _ (by omega), a1 _ (by omega)]
            exact w2 j (by omega)
    have e7 : ∀ a b c : Int32, su (su (su (G 31) (3 * n) a) (3 * n + 1) b) (3 * n + 2) c 30 = nI n := fun a b c => by
      rw [su_ne _ _ (by omega), su_ne _ _ (by omega), su_ne _ _ (by omega)]
      exact w1
    have f0 : (nI (3 * n)).toNatClampNeg = 3 * n := zn_clI (by omega)
    have f1 : (nI (3 * n + 1)).toNatClampNeg = 3 * n + 1 := zn_clI (by omega)
    have f2 : (nI (3 * n + 2)).toNatClampNeg = 3 * n + 2 := zn_clI (by omega)
    have u1 : ∀ a : Int32, su (G 31) (3 * n) a 30 = nI n := fun a => by rw [su_ne _ _ (by omega)]; exact w1
    have u2 : ∀ a b : Int32, su (su (G 31) (3 * n) a) (3 * n + 1) b 30 = nI n := fun a b => by rw [su_ne _ _ (by omega), su_ne _ _ (by omega)]; exact w1
    refine sm_body [61] 80 sm_k86 (fun CT K hC hK => ?_)
    repeat' first
      | (with_reducible refine And.intro ?_ ?_)
      | ((with_reducible intro h9); first | exact absurd h9 (by decide) | ((rw [w1'] at h9; replace h9 := zeq (b := 10) (by omega) (by decide) h9; exact absurd h9 h10)) | skip)
      | (with_reducible exact zn_in (by omega) (by decide))
      | (with_reducible exact z01) | (with_reducible exact z11) | (with_reducible exact zb01 _)
      | (with_reducible exact zn_inb (by omega) (by decide))
      | (with_reducible exact zn_ina (by omega) (by decide))
      | (with_reducible exact zn_inc (by omega) (by decide))
      | (with_reducible exact zn_ind (by omega) (by decide))
      | (with_reducible exact zn_ine (by omega) (by decide))
      | ((conv => whnf); first | (with_reducible refine And.intro ?_ ?_) | ((with_reducible intro h9); first | exact absurd h9 (by decide) | ((rw [w1'] at h9; replace h9 := zeq (b := 10) (by omega) (by decide) h9; exact absurd h9 h10)) | skip) | (with_reducible refine hK _ _ _ _ (sm_un ?_)) | ((simp only [w1, w1', c30, upd_su, u1, u2, pk_mul, nI_add, f0, f1, f2]; exact zn_in (by omega) (by decide))))
    simp only [w1, w1', c30, upd_su, u1, u2, e7, pk_mul, nI_add, f0, f1, f2, hp_0, hp_1, hp_2, hp_3, hp_4, hp_5, hp_6, hp_7, hp_8, hp_9, hp_10, hp_11, hp_12, hp_13, hp_14, hp_15, hp_16, hp_17, hp_18, hp_19, hp_20, hp_22, hp_23, hp_24, hp_25, hp_26, hp_27, hp_28, hp_29, hp_30, hp_31, hp_32, hp_33, hp_34, hp_35, hf0_5, hf0_6, hf0_7, hf1_1, hf3_0, hf3_2, hf3_6, hf10_0, hf10_2, hf10_6, hf17_3, hf17_4, hf20_3, hf20_4, upd_su, updL_su, su_eq, su_su]
    have ga : ∀ j, j < 3 * n → ∀ a b c d : Int32, su (su (su (su (G 31) (3 * n) a) (3 * n + 1) b) (3 * n + 2) c) 30 d j = G 31 j := fun j h1 a b c d => by
      rw [su_ne _ _ (by omega), su_ne _ _ (by omega), su_ne _ _ (by omega), su_ne _ _ (by omega)]
    refine ⟨⟨tail _ (eqx_su 31 _ rfl eqx_rfl) (fun j hj => ?_) ?_ ?_ ?_ ?_⟩⟩
    · rw [su_eq]; exact ga j (by omega) _ _ _ _
    · rw [su_eq, su_eq]
    · rw [su_eq, su_ne _ _ (by omega), su_ne _ _ (by omega), su_ne _ _ (by omega), su_eq]
    · rw [su_eq, su_ne _ _ (by omega), su_ne _ _ (by omega), su_eq]
    · rw [su_eq, su_ne _ _ (by omega), su_eq]
theorem wind_in {k j : Nat} (hR : dR S) (hj : j < S 0 0) (hk : k ≤ 4) : N_wind S (nI j) (wI k) = su S 1 (su (S 1) j k) ∧ A_wind S (nI j) (wI k) = wI (S 1 j) := by
  have r1 := hR.1
  unfold N_wind A_wind
  rw [inb_n hj (by omega), zn_clI (by omega)]
  by_cases e : k = 4
  · subst e
    rw [wI_4]
    exact ⟨rfl, rfl⟩
  · rw [wI_t (by omega), if_f (zn_nem (by omega)), if_f (zn_nem (by omega)), inb_n (show k < 4 by omega) (by decide), zn_clI (by omega)]
    exact ⟨rfl, rfl⟩
theorem oil_in {k v : Nat} (hR : dR S) (hv : v < S 0 1) (hk : k < 4) : N_oil S (nI v) (nI k) = su S 4 (su (S 4) v k) ∧ A_oil S (nI v) (nI k) = nI (S 4 v) := by
  have r1 := hR.2.1
  unfold N_oil A_oil
  rw [inb_n hv (by omega), zn_clI (by omega), inb_n hk (by decide), zn_clI (by omega)]
  exact ⟨rfl, rfl⟩
set_option maxRecDepth 100000 in
set_option maxHeartbeats 4000000 in
theorem l_act (hC : sm_C 8 CT) {x : Nat} {u : Int32} (hx31 : x < 2 ^ 31) (hI : LI S G) (hv : 0 < S 0 1)
    (hQ : ∀ G' S', eqx lawA G G' → LI S' G' → S' 0 0 = S 0 0 → S' 0 1 = S 0 1 → Q (some (.int (nI 1))) (hp G' L)) : CT 87 [.ref 0, .int (nI x), .int u, .ref 30, .ref 31, .ref 32, .ref 33] (hp G L) Q := by
  have hI' := hI
  obtain ⟨hR, hIc, hW, hS, hpos⟩ := hI'
  obtain ⟨w1, w2, w3, w4⟩ := id hW
  obtain ⟨s1, s2⟩ := id hS
  have w1' : G 30 (nI 6).toNatClampNeg = nI (S 0 0) := w1
  have w2' : G 30 (nI 7).toNatClampNeg = nI (S 0 1) := w2
  have s1' : G 31 (nI 30).toNatClampNeg = nI (S 0 2) := s1
  obtain ⟨r1, r2, r3, r4⟩ := id hR.1
  have n10 := hR.2.1.1
  refine sm_meth hC [some (.ref 0), some (.int (nI x)), some (.int u), some (.ref 30), some (.ref 31), some (.ref 32), some (.ref 33), none, none, none, none, none] rfl rfl rfl ?_
  have hh : x / 16 % S 0 0 < S 0 0 := Nat.mod_lt _ hpos
  have hvv : x / 128 % S 0 1 < S 0 1 := Nat.mod_lt _ hv
  obtain ⟨r, er⟩ : ∃ r, r = x % 16 := ⟨_, rfl⟩
  obtain ⟨k, ek⟩ : ∃ k, k = x / 16 % S 0 0 := ⟨_, rfl⟩
  obtain ⟨v, ev⟩ : ∃ v, v = x / 128 % S 0 1 := ⟨_, rfl⟩
  rw [← ek] at hh
  rw [← ev] at hvv
  have h16 : r < 16 := by omega
  have c16 : sm_ir (nI x) (nI 16) = nI r := by rw [er]; exact zn_ir hx31 (by decide) (by decide)
  have cdk : sm_ir (nI x / nI 16) (nI (S 0 0)) = nI k := by rw [ek, pk_div hx31 (by decide) (by decide), zn_ir (by omega) (by omega) (by omega)]
  have cdv : sm_ir (nI x / nI 128) (nI (S 0 1)) = nI v := by rw [ev, pk_div hx31 (by decide) (by decide), zn_ir (by omega) (by omega) (by omega)]
  have c10 : sm_ir (nI x / nI 1024) (nI 4) = nI (x / 1024 % 4) := by rw [pk_div hx31 (by decide) (by decide), zn_ir (by omega) (by decide) (by decide)]
  have c40 : sm_ir (nI x / nI 4096) (nI 4) = nI (x / 4096 % 4) := by rw [pk_div hx31 (by decide) (by decide), zn_ir (by omega) (by decide) (by decide)]
  have c65 : sm_ir (nI x / nI 65536) (nI 4) = nI (x / 65536 % 4) := by rw [pk_div hx31 (by decide) (by decide), zn_ir (by omega) (by decide) (by decide)]
  have ck : (nI k).toNatClampNeg = k := zn_clI (by omega)
  -- a wind
  have windT : ∀ q, q ≤ 4 → ∀ G1 fr, eqx [30] G G1 → (∀ j, j ≠ k → G1 30 j = G 30 j) → G1 30 k = wI q → sm_Wk 7 87 Q none 117 [some (.ref 0), some (.int (nI x)), some (.int u), some (.ref 30), some (.ref 31), some (.ref 32), some (.ref 33), some (.int (nI r)), some (.int (nI k)), some (.int (nI v)), some (.int fr), some (.int (wI (S 1 k)))] [] (hp G1 L) := by
    intro q hq G1 fr hx a1 a2
    have hI1 : Ic S G1 := Ic_x (eqx_sub rfl hx) hIc
    obtain ⟨eN, eA⟩ := wind_in hR.1 hh hq
    have a2' : G1 30 (nI k).toNatClampNeg = wI q := by rw [ck]; exact a2
    refine sm_body [] 80 sm_k87 (fun CT K hC hK => ?_)
    repeat' first
      | (with_reducible refine And.intro ?_ ?_)
      | ((with_reducible intro h9); first | exact absurd h9 (by decide) | skip)
      | (with_reducible exact zn_in (by omega) (by decide))
      | (with_reducible exact z01) | (with_reducible exact z11) | (with_reducible exact zb01 _)
      | (with_reducible exact zn_inb (by omega) (by decide))
      | (with_reducible exact zn_ina (by omega) (by decide))
      | (with_reducible exact zn_inc (by omega) (by decide))
      | (with_reducible exact zn_ind (by omega) (by decide))
      | (with_reducible exact zn_ine (by omega) (by decide))
      | ((conv => whnf); first | (with_reducible refine And.intro ?_ ?_) | ((with_reducible intro h9); first | exact absurd h9 (by decide) | skip) | (with_reducible refine hK _ _ _ _ (sm_un ?_)) | (rw [a2']; refine f_wind (hC.mono (by omega)) hR hI1 (fun G2 hx2 hI2 => ?_)))
    all_goals rw [eA] at h9
    · exact absurd rfl h9
    · rw [eN] at hI2
      have hR2 := R_wind hR (nI k) (wI q)
      rw [eN] at hR2
      have e30 : G2 30 = G1 30 := hx2 30 rfl
      have e31 : G2 31 = G 31 := by rw [hx2 31 rfl, hx 31 rfl]
      refine hQ G2 _ (eqx_trans (eqx_sub rfl hx) (eqx_sub rfl hx2)) ⟨hR2, hI2, ⟨?_, ?_, fun j hj => ?_, fun j hj => ?_⟩, ?_, hpos⟩ rfl rfl
      · show G2 30 6 = nI (S 0 0)
        rw [e30, a1 6 (by omega)]
        exact w1
      · show G2 30 7 = nI (S 0 1)
        rw [e30, a1 7 (by omega)]
        exact w2
      · show G2 30 j = wI (su (S 1) k q j)
        rw [e30, su_if]
        by_cases e : j = k
        · subst e; rw [if_t rfl]; exact a2
        · rw [if_f e, a1 j e]; exact w3 j hj
      · show G2 30 (8 + 3 * j) = nI (S 2 j) ∧ G2 30 (9 + 3 * j) = nI (S 3 j) ∧ G2 30 (10 + 3 * j) = nI (S 4 j)
        rw [e30, a1 _ (by omega), a1 _ (by omega), a1 _ (by omega)]
        exact w4 j hj
      · show wS (S 0 2) (S 6) (S 7) (S 8) G2
        unfold wS at hS ⊢
        rw [e31]
        exact hS
  have windL : ∀ i, i ≤ S 0 0 → ∀ fr, sm_Wk 7 87 Q none 41 [some (.ref 0), some (.int (nI x)), some (.int u), some (.ref 30), some (.ref 31), some (.ref 32), some (.ref 33), some (.int (nI r)), some (.int (nI k)), some (.int (nI v)), some (.int fr), some (.int (nI i))] [] (hp G L) := by
    refine up _ (fun i hi ih fr => ?_)
    refine sm_body [41, 117] 80 sm_k87 (fun CT K hC hK => ?_)
    repeat' first
      | (with_reducible refine And.intro ?_ ?_)
      | ((with_reducible intro h9); first | exact absurd h9 (by decide) | (replace h9 := nle w1' (by omega) (by omega) h9) | (replace h9 := yle w1' (by omega) (by omega) h9) | (skip) | skip)
      | (with_reducible exact zn_in (by omega) (by decide))
      | (with_reducible exact z01) | (with_reducible exact z11) | (with_reducible exact zb01 _)
      | (with_reducible exact zn_inb (by omega) (by decide))
      | (with_reducible exact zn_ina (by omega) (by decide))
      | (with_reducible exact zn_inc (by omega) (by decide))
      | (with_reducible exact zn_ind (by omega) (by decide))
      | (with_reducible exact zn_ine (by omega) (by decide))
      | ((conv => whnf); first | (with_reducible refine And.intro ?_ ?_) | ((with_reducible intro h9); first | exact absurd h9 (by decide) | (replace h9 := nle w1' (by omega) (by omega) h9) | (replace h9 := yle w1' (by omega) (by omega) h9) | (skip) | skip) | (with_reducible refine hK _ _ _ _ (sm_un ?_)))
    · simp only [ck, c40, w3 k hh, hp_0, hp_1, hp_2, hp_3, hp_4, hp_5, hp_6, hp_7, hp_8, hp_9, hp_10, hp_11, hp_12, hp_13, hp_14, hp_15, hp_16, hp_17, hp_18, hp_19, hp_20, hp_22, hp_23, hp_24, hp_25, hp_26, hp_27, hp_28, hp_29, hp_30, hp_31, hp_32, hp_33, hp_34, hp_35, hf0_5, hf0_6, hf0_7, hf1_1, hf3_0, hf3_2, hf3_6, hf10_0, hf10_2, hf10_6, hf17_3, hf17_4, hf20_3, hf20_4, upd_su, updL_su]
      exact ⟨⟨windT (x / 4096 % 4) (by omega) _ _ (eqx_su 30 _ rfl eqx_rfl) (fun j hj => by rw [su_eq, su_ne _ _ hj]) (by rw [su_eq, su_eq, wI_t (by omega)])⟩⟩
    · simp only [ck, c40, w3 k hh, hp_0, hp_1, hp_2, hp_3, hp_4, hp_5, hp_6, hp_7, hp_8, hp_9, hp_10, hp_11, hp_12, hp_13, hp_14, hp_15, hp_16, hp_17, hp_18, hp_19, hp_20, hp_22, hp_23, hp_24, hp_25, hp_26, hp_27, hp_28, hp_29, hp_30, hp_31, hp_32, hp_33, hp_34, hp_35, hf0_5, hf0_6, hf0_7, hf1_1, hf3_0, hf3_2, hf3_6, hf10_0, hf10_2, hf10_6, hf17_3, hf17_4, hf20_3, hf20_4, upd_su, updL_su]
      exact ⟨⟨windT (x / 4096 % 4) (by omega) _ _ (eqx_su 30 _ rfl eqx_rfl) (fun j hj => by rw [su_eq, su_ne _ _ hj]) (by rw [su_eq, su_eq, wI_t (by omega)])⟩⟩
    · simp only [ck, w3 k hh, hp_0, hp_1, hp_2, hp_3, hp_4, hp_5, hp_6, hp_7, hp_8, hp_9, hp_10, hp_11, hp_12, hp_13, hp_14, hp_15, hp_16, hp_17, hp_18, hp_19, hp_20, hp_22, hp_23, hp_24, hp_25, hp_26, hp_27, hp_28, hp_29, hp_30, hp_31, hp_32, hp_33, hp_34, hp_35, hf0_5, hf0_6, hf0_7, hf1_1, hf3_0, hf3_2, hf3_6, hf10_0, hf10_2, hf10_6, hf17_3, hf17_4, hf20_3, hf20_4, upd_su, updL_su]
      exact ⟨⟨windT 4 (by omega) _ _ (eqx_su 30 _ rfl eqx_rfl) (fun j hj => by rw [su_eq, su_ne _ _ hj]) (by rw [su_eq, su_eq, wI_4])⟩⟩
    all_goals
      simp only [nI_add i 1]
      exact ⟨⟨ih ‹_› _⟩⟩
  -- oil
  have oilT : ∀ G1, eqx [30] G G1 → (∀ j, j ≠ 10 + 3 * v → G1 30 j = G 30 j) → G1 30 (10 + 3 * v) = nI (x / 1024 % 4) → sm_Wk 7 87 Q none 171 [some (.ref 0), some (.int (nI x)), some (.int u), some (.ref 30), some (.ref 31), some (.ref 32), some (.ref 33), some (.int (nI r)), some (.int (nI k)), some (.int (nI v)), some (.int (nI (S 4 v))), none] [] (hp G1 L) := by
    intro G1 hx a1 a2
    have hI1 : Ic S G1 := Ic_x (eqx_sub rfl hx) hIc
    obtain ⟨eN, eA⟩ := oil_in hR.1 hvv (show x / 1024 % 4 < 4 by omega)
    refine sm_body [] 80 sm_k87 (fun CT K hC hK => ?_)
    repeat' first
      | (with_reducible refine And.intro ?_ ?_)
      | ((with_reducible intro h9); first | exact absurd h9 (by decide) | skip)
      | (with_reducible exact zn_in (by omega) (by decide))
      | (with_reducible exact z01) | (with_reducible exact z11) | (with_reducible exact zb01 _)
      | (with_reducible exact zn_inb (by omega) (by decide))
      | (with_reducible exact zn_ina (by omega) (by decide))
      | (with_reducible exact zn_inc (by omega) (by decide))
      | (with_reducible exact zn_ind (by omega) (by decide))
      | (with_reducible exact zn_ine (by omega) (by decide))
      | ((conv => whnf); first | (with_reducible refine And.intro ?_ ?_) | ((with_reducible intro h9); first | exact absurd h9 (by decide) | skip) | (with_reducible refine hK _ _ _ _ (sm_un ?_)) | (rw [c10]; refine f_oil (hC.mono (by omega)) hR hI1 (fun G2 hx2 hI2 => ?_)))
    all_goals rw [eA] at h9
    · exact absurd rfl h9
    · rw [eN] at hI2
      have hR2 := R_oil hR (nI v) (nI (x / 1024 % 4))
      rw [eN] at hR2
      have e30 : G2 30 = G1 30 := hx2 30 rfl
      have e31 : G2 31 = G 31 := by rw [hx2 31 rfl, hx 31 rfl]
      refine hQ G2 _ (eqx_trans (eqx_sub rfl hx) (eqx_sub rfl hx2)) ⟨hR2, hI2, ⟨?_, ?_, fun j hj => ?_, fun j hj => ?_⟩, ?_, hpos⟩ rfl rfl
      · show G2 30 6 = nI (S 0 0)
        rw [e30, a1 6 (by omega)]
        exact w1
      · show G2 30 7 = nI (S 0 1)
        rw [e30, a1 7 (by omega)]
        exact w2
      · have hj : j < S 0 0 := hj
        show G2 30 j = wI (S 1 j)
        rw [e30, a1 j (by omega)]
        exact w3 j hj
      · have hj : j < S 0 1 := hj
        show G2 30 (8 + 3 * j) = nI (S 2 j) ∧ G2 30 (9 + 3 * j) = nI (S 3 j) ∧ G2 30 (10 + 3 * j) = nI (su (S 4) v (x / 1024 % 4) j)
        rw [e30, a1 _ (by omega), a1 _ (by omega), su_if]
        refine ⟨(w4 j hj).1, (w4 j hj).2.1, ?_⟩
        by_cases e : j = v
        · subst e; rw [if_t rfl]; exact a2
        · rw [if_f e, a1 _ (by omega)]; exact (w4 j hj).2.2
      · show wS (S 0 2) (S 6) (S 7) (S 8) G2
        unfold wS at hS ⊢
        rw [e31]
        exact hS
  -- all forgotten
  have forgetT : ∀ G1, eqx [31] G G1 → G1 31 30 = nI 0 → sm_Wk 7 87 Q none 214 [some (.ref 0), some (.int (nI x)), some (.int u), some (.ref 30), some (.ref 31), some (.ref 32), some (.ref 33), some (.int (nI r)), some (.int (nI k)), some (.int (nI v)), some (.int (nI (S 0 2))), none] [] (hp G1 L) := by
    intro G1 hx a1
    have hI1 : Ic S G1 := Ic_x (eqx_sub rfl hx) hIc
    refine sm_body [] 80 sm_k87 (fun CT K hC hK => ?_)
    repeat' first
      | (with_reducible refine And.intro ?_ ?_)
      | ((with_reducible intro h9); first | exact absurd h9 (by decide) | (exact absurd rfl h9) | skip)
      | (with_reducible exact zn_in (by omega) (by decide))
      | (with_reducible exact z01) | (with_reducible exact z11) | (with_reducible exact zb01 _)
      | (with_reducible exact zn_inb (by omega) (by decide))
      | (with_reducible exact zn_ina (by omega) (by decide))
      | (with_reducible exact zn_inc (by omega) (by decide))
      | (with_reducible exact zn_ind (by omega) (by decide))
      | (with_reducible exact zn_ine (by omega) (by decide))
      | ((conv => whnf); first | (with_reducible refine And.intro ?_ ?_) | ((with_reducible intro h9); first | exact absurd h9 (by decide) | (exact absurd rfl h9) | skip) | (with_reducible refine hK _ _ _ _ (sm_un ?_)) | (refine f_forget (hC.mono (by omega)) hR hI1 (fun G2 hx2 hI2 => ?_)))
    have e30 : G2 30 = G 30 := by rw [hx2 30 rfl, hx 30 rfl]
    refine hQ G2 _ (eqx_trans (eqx_sub rfl hx) (eqx_sub rfl hx2)) ⟨R_forget hR, hI2, ?_, ⟨?_, fun j hj => absurd hj (Nat.not_lt_zero _)⟩, hpos⟩ rfl rfl
    · show wD S G2
      unfold wD at hW ⊢
      rw [e30]
      exact hW
    · show G2 31 30 = nI 0
      rw [hx2 31 rfl]
      exact a1
  -- something seen
  have hnc : 0 < nc S := Nat.pow_pos (by decide)
  have hnc2 := nc_le hR.1
  have hcode : x / 4096 % nc S < nc S := Nat.mod_lt _ hnc
  have ccode : sm_ir (nI x / nI 4096) (nI (nc S)) = nI (x / 4096 % nc S) := by rw [pk_div hx31 (by decide) (by decide), zn_ir (by omega) hnc (by omega)]
  have seeT : ∀ G1, eqx [31, 32, 33] G G1 → G1 31 = G 31 → ld S (x / 4096 % nc S) G1 → ∀ o, sm_Wk 7 87 Q none 271 [some (.ref 0), some (.int (nI x)), some (.int u), some (.ref 30), some (.ref 31), some (.ref 32), some (.ref 33), some (.int (nI r)), some (.int (nI k)), some (.int (nI v)), some (.int (nI (S 0 2))), some (.int o)] [] (hp G1 L) := by
    intro G1 hx a1 a2 o
    have hI1 : LI S G1 := ⟨hR, Ic_x (eqx_sub rfl hx) hIc, wD_x hx rfl hW, by unfold wS at hS ⊢; rw [a1]; exact hS, hpos⟩
    have e33 : G1 33 (nI 6 * nI v + nI k).toNatClampNeg = nI (ps S (wd S (x / 4096 % nc S)) v (k + 1)) := by rw [pk_mul, nI_add, zn_clI (by omega)]; exact a2.2 v hvv k hh
    refine sm_body [] 80 sm_k87 (fun CT K hC hK => ?_)
    repeat' first
      | (with_reducible refine And.intro ?_ ?_)
      | ((with_reducible intro h9); first | exact absurd h9 (by decide) | skip)
      | (with_reducible exact zn_in (by omega) (by decide))
      | (with_reducible exact z01) | (with_reducible exact z11) | (with_reducible exact zb01 _)
      | (with_reducible exact zn_inb (by omega) (by decide))
      | (with_reducible exact zn_ina (by omega) (by decide))
      | (with_reducible exact zn_inc (by omega) (by decide))
      | (with_reducible exact zn_ind (by omega) (by decide))
      | (with_reducible exact zn_ine (by omega) (by decide))
      | ((conv => whnf); first | (with_reducible refine And.intro ?_ ?_) | ((with_reducible intro h9); first | exact absurd h9 (by decide) | skip) | (with_reducible refine hK _ _ _ _ (sm_un ?_)) | ((rw [c65]; refine l_see (hC.mono (by omega)) hI1 hvv hh (by omega) (fun G2 S2 hx2 hI2 e1 e2 => ?_))) | ((rw [e33]; refine l_see (hC.mono (by omega)) hI1 hvv hh (ps_lt4 hR.1 hvv _ _) (fun G2 S2 hx2 hI2 e1 e2 => ?_))))
    all_goals exact hQ G2 S2 (eqx_trans (eqx_sub rfl hx) hx2) hI2 e1 e2
  have mid : sm_Wk 7 87 Q none 29 [some (.ref 0), some (.int (nI x)), some (.int u), some (.ref 30), some (.ref 31), some (.ref 32), some (.ref 33), some (.int (nI r)), some (.int (nI k)), some (.int (nI v)), none, none] [] (hp G L) := by
    have cv : (nI 10 + nI 3 * nI v).toNatClampNeg = 10 + 3 * v := by rw [pk_mul, nI_add, zn_clI (by omega)]
    refine sm_body [41, 171, 214, 271] 120 sm_k87 (fun CT K hC hK => ?_)
    repeat' first
      | (with_reducible refine And.intro ?_ ?_)
      | ((with_reducible intro h9); first | exact absurd h9 (by decide) | (exact absurd h9 (zn_ne (show nc S ≠ 0 by omega) (by omega) (by decide))) | (skip) | skip)
      | (with_reducible exact zn_in (by omega) (by decide))
      | (with_reducible exact z01) | (with_reducible exact z11) | (with_reducible exact zb01 _)
      | (with_reducible exact zn_inb (by omega) (by decide))
      | (with_reducible exact zn_ina (by omega) (by decide))
      | (with_reducible exact zn_inc (by omega) (by decide))
      | (with_reducible exact zn_ind (by omega) (by decide))
      | (with_reducible exact zn_ine (by omega) (by decide))
      | ((conv => whnf); first | (with_reducible refine And.intro ?_ ?_) | ((with_reducible intro h9); first | exact absurd h9 (by decide) | (exact absurd h9 (zn_ne (show nc S ≠ 0 by omega) (by omega) (by decide))) | (skip) | skip) | (with_reducible refine hK _ _ _ _ (sm_un ?_)) | ((simp only [hp_0, hp_1, hp_2, hp_3, hp_4, hp_5, hp_6, hp_7, hp_8, hp_9, hp_10, hp_11, hp_12, hp_13, hp_14, hp_15, hp_16, hp_17, hp_18, hp_19, hp_20, hp_22, hp_23, hp_24, hp_25, hp_26, hp_27, hp_28, hp_29, hp_30, hp_31, hp_32, hp_33, hp_34, hp_35, hf0_5, hf0_6, hf0_7, hf1_1, hf3_0, hf3_2, hf3_6, hf10_0, hf10_2, hf10_6, hf17_3, hf17_4, hf20_3, hf20_4, upd_su, updL_su]; refine l_codes (hC.mono (by omega)) (wD_x (ps := [31]) (eqx_su 31 _ rfl eqx_rfl) rfl hW) hR.1 ?_)) | ((rw [ccode]; refine l_fits (hC.mono (by omega)) (wD_x (ps := [31]) (eqx_su 31 _ rfl eqx_rfl) rfl hW) hR.1 (n := 0) (a := fun _ => 0) (b := fun _ => 0) (d := fun _ => 0) (by decide) (fun k hk => absurd hk (Nat.not_lt_zero _)) ⟨rfl, fun k hk => absurd hk (Nat.not_lt_zero _)⟩ (by omega) (fun G2 hx2 hl2 => ?_))))
    · simp only [s1, s1', c30, hp_0, hp_1, hp_2, hp_3, hp_4, hp_5, hp_6, hp_7, hp_8, hp_9, hp_10, hp_11, hp_12, hp_13, hp_14, hp_15, hp_16, hp_17, hp_18, hp_19, hp_20, hp_22, hp_23, hp_24, hp_25, hp_26, hp_27, hp_28, hp_29, hp_30, hp_31, hp_32, hp_33, hp_34, hp_35, hf0_5, hf0_6, hf0_7, hf1_1, hf3_0, hf3_2, hf3_6, hf10_0, hf10_2, hf10_6, hf17_3, hf17_4, hf20_3, hf20_4, upd_su, updL_su, su_eq, su_su]
      have e31 : su G2 31 (su (G2 31) 30 (nI (S 0 2))) 31 = G 31 := by
        rw [su_eq, hx2 31 rfl, su_eq, c30, su_su, ← s1, su_self]
      exact ⟨⟨seeT _ (eqx_su 31 _ rfl (eqx_trans (eqx_su (ps := [31, 32, 33]) 31 _ rfl eqx_rfl) (eqx_sub rfl hx2))) e31 hl2 _⟩⟩
    · simp only [s1, s1', c30, hp_0, hp_1, hp_2, hp_3, hp_4, hp_5, hp_6, hp_7, hp_8, hp_9, hp_10, hp_11, hp_12, hp_13, hp_14, hp_15, hp_16, hp_17, hp_18, hp_19, hp_20, hp_22, hp_23, hp_24, hp_25, hp_26, hp_27, hp_28, hp_29, hp_30, hp_31, hp_32, hp_33, hp_34, hp_35, hf0_5, hf0_6, hf0_7, hf1_1, hf3_0, hf3_2, hf3_6, hf10_0, hf10_2, hf10_6, hf17_3, hf17_4, hf20_3, hf20_4, upd_su, updL_su]
      exact ⟨⟨forgetT _ (eqx_su 31 _ rfl eqx_rfl) rfl⟩⟩
    · simp only [cv, c10, (w4 v hvv).2.2, hp_0, hp_1, hp_2, hp_3, hp_4, hp_5, hp_6, hp_7, hp_8, hp_9, hp_10, hp_11, hp_12, hp_13, hp_14, hp_15, hp_16, hp_17, hp_18, hp_19, hp_20, hp_22, hp_23, hp_24, hp_25, hp_26, hp_27, hp_28, hp_29, hp_30, hp_31, hp_32, hp_33, hp_34, hp_35, hf0_5, hf0_6, hf0_7, hf1_1, hf3_0, hf3_2, hf3_6, hf10_0, hf10_2, hf10_6, hf17_3, hf17_4, hf20_3, hf20_4, upd_su, updL_su]
      exact ⟨⟨oilT _ (eqx_su 30 _ rfl eqx_rfl) (fun j hj => by rw [su_eq, su_ne _ _ hj]) (by rw [su_eq, su_eq])⟩⟩
    · exact ⟨⟨windL 0 (Nat.zero_le _) _⟩⟩
  refine sm_body [29] 120 sm_k87 (fun CT K hC hK => ?_)
  repeat' first
    | (with_reducible refine And.intro ?_ ?_)
    | ((with_reducible intro h9); first | exact absurd h9 (by decide) | ((rw [w1'] at h9; exact absurd h9 (zn_ne (by omega) (by omega) (by decide)))) | ((rw [w2'] at h9; exact absurd h9 (zn_ne (by omega) (by omega) (by decide)))) | skip)
    | (with_reducible exact zn_in (by omega) (by decide))
    | (with_reducible exact z01) | (with_reducible exact z11) | (with_reducible exact zb01 _)
    | (with_reducible exact zn_inb (by omega) (by decide))
    | (with_reducible exact zn_ina (by omega) (by decide))
    | (with_reducible exact zn_inc (by omega) (by decide))
    | (with_reducible exact zn_ind (by omega) (by decide))
    | (with_reducible exact zn_ine (by omega) (by decide))
    | ((conv => whnf); first | (with_reducible refine And.intro ?_ ?_) | ((with_reducible intro h9); first | exact absurd h9 (by decide) | ((rw [w1'] at h9; exact absurd h9 (zn_ne (by omega) (by omega) (by decide)))) | ((rw [w2'] at h9; exact absurd h9 (zn_ne (by omega) (by omega) (by decide)))) | skip) | (with_reducible refine hK _ _ _ _ (sm_un ?_)))
  simp only [w1', w2', c16, cdk, cdv]
  exact ⟨⟨mid⟩⟩
end ACT
