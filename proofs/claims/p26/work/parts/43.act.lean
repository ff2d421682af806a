/-! The law's see and act. -/
section ACT
variable {CT : sm_CT} {G : Nat → Nat → Int32} {L : Nat → Nat → Int64} {Q : sm_Q} {S : Nat → Nat → Nat} {c : Nat} {h : sm_H}
theorem see_in {v k q : Nat} (hR : dR S) (hv : v < S 0 1) (hk : k < S 0 0) (hq : q < 4) : (S 0 2 = 10 → N_see S (nI v) (nI k) (nI q) = S ∧ A_see S (nI v) (nI k) (nI q) = -104) ∧ (S 0 2 ≠ 10 → N_see S (nI v) (nI k) (nI q) = seeS S v k q ∧ A_see S (nI v) (nI k) (nI q) = nI (S 0 2 + 1)) := by
  have r1 := hR.1
  have r2 := hR.2.1
  unfold N_see A_see okSee
  rw [inb_n hv (by omega), inb_n hk (by omega), inb_n hq (by decide), zn_clI (by omega), zn_clI (by omega), zn_clI (by omega)]
  exact ⟨fun e => ⟨if_t e, if_t e⟩, fun e => ⟨if_f e, if_f e⟩⟩
set_option maxRecDepth 100000 in
set_option maxHeartbeats 4000000 in
theorem l_see (hC : sm_C 4 CT) (hI : LI S G) {v k q : Nat} (hv : v < S 0 1) (hk : k < S 0 0) (hq : q < 4)
    (hQ : ∀ G' S', eqx lawA G G' → LI S' G' → S' 0 0 = S 0 0 → S' 0 1 = S 0 1 → Q (some (.int (nI 1))) (hp G' L)) : CT 86 [.ref 0, .ref 31, .int (nI v), .int (nI k), .int (nI q)] (hp G L) Q := by
  obtain ⟨hR, hIc, hW, ⟨w1, w2⟩, hpos⟩ := hI
  obtain ⟨s1, s2⟩ := see_in hR.1 hv hk hq
  have n10 := hR.2.1.1
  obtain ⟨n, en⟩ : ∃ n, n = S 0 2 := ⟨_, rfl⟩
  rw [← en] at n10 w1 w2 s1 s2
  have w1' : G 31 (nI 30).toNatClampNeg = nI n := w1
  refine sm_meth hC [some (.ref 0), some (.ref 31), some (.int (nI v)), some (.int (nI k)), some (.int (nI q)), none] rfl rfl rfl ?_
  by_cases h10 : n = 10
  · obtain ⟨eN, eA⟩ := s1 h10
    refine sm_body [] 80 sm_k86 (fun CT K hC hK => ?_)
    repeat' first
      | (with_reducible refine And.intro ?_ ?_)
      | ((with_reducible intro h9); first | exact absurd h9 (by decide) | ((rw [w1', h10] at h9; exact absurd rfl h9)) | skip)
      | (with_reducible exact zn_in (by omega) (by decide))
      | (with_reducible exact z01) | (with_reducible exact z11) | (with_reducible exact zb01 _)
      | (with_reducible exact zn_inb (by omega) (by decide))
      | (with_reducible exact zn_ina (by omega) (by decide))
      | (with_reducible exact zn_inc (by omega) (by decide))
      | (with_reducible exact zn_ind (by omega) (by decide))
      | (with_reducible exact zn_ine (by omega) (by decide))
      | ((conv => whnf); first | (with_reducible refine And.intro ?_ ?_) | ((with_reducible intro h9); first | exact absurd h9 (by decide) | ((rw [w1', h10] at h9; exact absurd rfl h9)) | skip) | (with_reducible refine hK _ _ _ _ (sm_un ?_)) | (refine f_see (hC.mono (by omega)) hR hIc (fun G2 hx2 hI2 => ?_)))
    all_goals rw [eA] at h9
    · exact absurd rfl h9
    · rw [eN] at hI2
      exact hQ G2 S (eqx_sub rfl hx2) ⟨hR, hI2, wD_x hx2 rfl hW, wS_x hx2 rfl ⟨by rw [← en]; exact w1, by rw [← en]; exact w2⟩, hpos⟩ rfl rfl
  · obtain ⟨eN, eA⟩ := s2 h10
    have tail : ∀ G1, eqx [31] G G1 → (∀ j, j < 3 * n → G1 31 j = G 31 j) → G1 31 30 = nI (n + 1) → G1 31 (3 * n) = nI v → G1 31 (3 * n + 1) = nI k → G1 31 (3 * n + 2) = nI q → sm_Wk 3 86 Q none 61 [some (.ref 0), some (.ref 31), some (.int (nI v)), some (.int (nI k)), some (.int (nI q)), some (.int (nI 0))] [] (hp G1 L) := by
      intro G1 hx a1 a2 a3 a4 a5
      have hI1 : Ic S G1 := Ic_x (eqx_sub rfl hx) hIc
      refine sm_body [] 80 sm_k86 (fun CT K hC hK => ?_)
      repeat' first
        | (with_reducible refine And.intro ?_ ?_)
        | ((with_reducible intro h9); first | exact absurd h9 (by decide) | (exact absurd rfl h9) | skip)
        | (with_reducible exact zn_in (by omega) (by decide))
        | (with_reducible exact z01) | (with_reducible exact z11) | (with_reducible exact zb01 _)
        | (with_reducible exact zn_inb (by omega) (by decide))
        | (with_reducible exact zn_ina (by omega) (by decide))
        | (with_reducible exact zn_inc (by omega) (by decide))
        | (with_reducible exact zn_ind (by omega) (by decide))
        | (with_reducible exact zn_ine (by omega) (by decide))
        | ((conv => whnf); first | (with_reducible refine And.intro ?_ ?_) | ((with_reducible intro h9); first | exact absurd h9 (by decide) | (exact absurd rfl h9) | skip) | (with_reducible refine hK _ _ _ _ (sm_un ?_)) | (refine f_see (hC.mono (by omega)) hR hI1 (fun G2 hx2 hI2 => ?_)))
      all_goals
        have a2' : G2 31 (nI 30).toNatClampNeg = nI (n + 1) := by rw [hx2 31 rfl]; exact a2
        rw [eA, a2'] at h9
      · exact absurd rfl h9
      · rw [eN] at hI2
        have hR2 := R_see hR (nI v) (nI k) (nI q)
        rw [eN] at hR2
        have e31 : G2 31 = G1 31 := hx2 31 rfl
        have e30 : G2 30 = G 30 := by rw [hx2 30 rfl, hx 30 rfl]
        refine hQ G2 _ (eqx_trans (eqx_sub rfl hx) (eqx_sub rfl hx2)) ⟨hR2, hI2, ?_, ⟨?_, fun j hj => ?_⟩, hpos⟩ rfl rfl
        · unfold wD at hW ⊢
          rw [e30]
          exact hW
        · show G2 31 30 = nI (S 0 2 + 1)
          rw [e31, a2, en]
        · have hj : j < S 0 2 + 1 := hj
          show G2 31 (3 * j) = nI (su (S 6) (S 0 2) v j) ∧ G2 31 (3 * j + 1) = nI (su (S 7) (S 0 2) k j) ∧ G2 31 (3 * j + 2) = nI (su (S 8) (S 0 2) q j)
          rw [e31, ← en, su_if, su_if, su_if]
          by_cases e : j = n
          · subst e
            rw [if_t rfl, if_t rfl, if_t rfl]
            exact ⟨a3, a4, a5⟩
          · rw [if_f e, if_f e, if_f e, a1 _ (by omega), a1 _ (by omega), a1 _ (by omega)]
            exact w2 j (by omega)
    have e7 : ∀ a b c : Int32, su (su (su (G 31) (3 * n) a) (3 * n + 1) b) (3 * n + 2) c 30 = nI n := fun a b c => by
      rw [su_ne _ _ (by omega), su_ne _ _ (by omega), su_ne _ _ (by omega)]
      exact w1
    have f0 : (nI (3 * n)).toNatClampNeg = 3 * n := zn_clI (by omega)
    have f1 : (nI (3 * n + 1)).toNatClampNeg = 3 * n + 1 := zn_clI (by omega)
    have f2 : (nI (3 * n + 2)).toNatClampNeg = 3 * n + 2 := zn_clI (by omega)
    have u1 : ∀ a : Int32, su (G 31) (3 * n) a 30 = nI n := fun a => by rw [su_ne _ _ (by omega)]; exact w1
    have u2 : ∀ a b : Int32, su (su (G 31) (3 * n) a) (3 * n + 1) b 30 = nI n := fun a b => by rw [su_ne _ _ (by omega), su_ne _ _ (by omega)]; exact w1
    refine sm_body [61] 80 sm_k86 (fun CT K hC hK => ?_)
    repeat' first
      | (with_reducible refine And.intro ?_ ?_)
      | ((with_reducible intro h9); first | exact absurd h9 (by decide) | ((rw [w1'] at h9; replace h9 := zeq (b := 10) (by omega) (by decide) h9; exact absurd h9 h10)) | skip)
      | (with_reducible exact zn_in (by omega) (by decide))
      | (with_reducible exact z01) | (with_reducible exact z11) | (with_reducible exact zb01 _)
      | (with_reducible exact zn_inb (by omega) (by decide))
      | (with_reducible exact zn_ina (by omega) (by decide))
      | (with_reducible exact zn_inc (by omega) (by decide))
      | (with_reducible exact zn_ind (by omega) (by decide))
      | (with_reducible exact zn_ine (by omega) (by decide))
      | ((conv => whnf); first | (with_reducible refine And.intro ?_ ?_) | ((with_reducible intro h9); first | exact absurd h9 (by decide) | ((rw [w1'] at h9; replace h9 := zeq (b := 10) (by omega) (by decide) h9; exact absurd h9 h10)) | skip) | (with_reducible refine hK _ _ _ _ (sm_un ?_)) | ((simp only [w1, w1', c30, upd_su, u1, u2, pk_mul, nI_add, f0, f1, f2]; exact zn_in (by omega) (by decide))))
    simp only [w1, w1', c30, upd_su, u1, u2, e7, pk_mul, nI_add, f0, f1, f2, hp_0, hp_1, hp_2, hp_3, hp_4, hp_5, hp_6, hp_7, hp_8, hp_9, hp_10, hp_11, hp_12, hp_13, hp_14, hp_15, hp_16, hp_17, hp_18, hp_19, hp_20, hp_22, hp_23, hp_24, hp_25, hp_26, hp_27, hp_28, hp_29, hp_30, hp_31, hp_32, hp_33, hp_34, hp_35, hf0_5, hf0_6, hf0_7, hf1_1, hf3_0, hf3_2, hf3_6, hf10_0, hf10_2, hf10_6, hf17_3, hf17_4, hf20_3, hf20_4, upd_su, updL_su, su_eq, su_su]
    have ga : ∀ j, j < 3 * n → ∀ a b c d : Int32, su (su (su (su (G 31) (3 * n) a) (3 * n + 1) b) (3 * n + 2) c) 30 d j = G 31 j := fun j h1 a b c d => by
      rw [su_ne _ _ (by omega), su_ne _ _ (by omega), su_ne _ _ (by omega), su_ne _ _ (by omega)]
    refine ⟨⟨tail _ (eqx_su 31 _ rfl eqx_rfl) (fun j hj => ?_) ?_ ?_ ?_ ?_⟩⟩
    · rw [su_eq]; exact ga j (by omega) _ _ _ _
    · rw [su_eq, su_eq]
    · rw [su_eq, su_ne _ _ (by omega), su_ne _ _ (by omega), su_ne _ _ (by omega), su_eq]
    · rw [su_eq, su_ne _ _ (by omega), su_ne _ _ (by omega), su_eq]
    · rw [su_eq, su_ne _ _ (by omega), su_eq]
end ACT
