/-! fits: the winds of a code, where all point by them, whether what is seen is so. -/
section FITS
variable {CT : sm_CT} {G : Nat → Nat → Int32} {L : Nat → Nat → Int64} {Q : sm_Q} {S : Nat → Nat → Nat} {h : sm_H}
set_option maxRecDepth 100000 in
set_option maxHeartbeats 4000000 in
theorem l_fits (hC : sm_C 3 CT) (hW : wD S G) (hR : dR S) {n : Nat} {a b d : Nat → Nat} (hn : n ≤ 10) (hab : ∀ k, k < n → a k < S 0 1 ∧ b k < S 0 0 ∧ d k < 4) (hS : wS n a b d G) {c : Nat} (hc : c < 2 ^ 31)
    (hQ : ∀ G', eqx [32, 33] G G' → ld S c G' → Q (some (.int (sm_b (decide (∀ k, k < n → ps S (wd S c) (a k) (b k + 1) = d k))))) (hp G' L)) : CT 85 [.ref 30, .ref 31, .int (nI c), .ref 32, .ref 33] (hp G L) Q := by
  have hR' := hR
  obtain ⟨r1, r2, r3, r4⟩ := hR'
  have p4 : ∀ v, v < S 0 1 → ∀ i, ps S (wd S c) v i < 4 := fun v hv i => ps_lt (r4 v hv).2.1 i (fun j hj => wd_lt hR c j)
  refine sm_meth hC [some (.ref 30), some (.ref 31), some (.int (nI c)), some (.ref 32), some (.ref 33), none, none, none, none] rfl rfl rfl ?_
  have lo3 : ∀ i, i ≤ n → ∀ G1 q, eqx [32, 33] G G1 → ld S c G1 → q = decide (∀ k, k < i → ps S (wd S c) (a k) (b k + 1) = d k) → sm_Wk 2 85 Q none 156 [some (.ref 30), some (.ref 31), some (.int (nI c)), some (.ref 32), some (.ref 33), none, some (.int (sm_b q)), some (.int (nI i)), none] [] (hp G1 L) := by
    refine up _ (fun i hi ih G1 q hx hl hb => ?_)
    obtain ⟨f1, f2⟩ := wS_x hx rfl hS
    have hl2 := hl.2
    refine sm_body [156] 60 sm_k85 (fun CT K hC hK => ?_)
    have f1 : G1 31 (nI 30).toNatClampNeg = nI n := f1
    have eb : i < n → (nI 6 * G1 31 (nI 3 * nI i).toNatClampNeg + G1 31 (nI 3 * nI i + nI 1).toNatClampNeg = nI (6 * a i + b i)) := by
      intro hl
      rw [pk_mul, nI_add, zn_clI (by omega), zn_clI (by omega), (f2 i hl).1, (f2 i hl).2.1, pk_mul, nI_add]
    have ei : i < n → sm_in (nI (6 * a i + b i)) 24 := fun hl => by
      have := hab i hl
      exact zn_in (by omega) (by decide)
    have ee : i < n → (G1 33 (nI (6 * a i + b i)).toNatClampNeg = G1 31 (nI 3 * nI i + nI 2).toNatClampNeg ↔ ps S (wd S c) (a i) (b i + 1) = d i) := by
      intro hl
      have := hab i hl
      rw [pk_mul, nI_add, zn_clI (by omega), zn_clI (by omega), (f2 i hl).2.2, hl2 _ this.1 _ this.2.1, nI_eq (by have := p4 _ this.1 (b i + 1); omega) (by omega)]
    repeat' first
      | (with_reducible refine And.intro ?_ ?_)
      | ((with_reducible intro h9); first | exact absurd h9 (by decide) | (replace h9 := nle f1 (by omega) (by omega) h9) | (replace h9 := yle f1 (by omega) (by omega) h9) | (rw [eb ‹_›, ee ‹_›] at h9) | (replace h9 := sb_f h9) | (replace h9 := sb_t h9) | skip)
      | (with_reducible exact zn_in (by omega) (by decide))
      | (with_reducible exact z01) | (with_reducible exact z11) | (with_reducible exact zb01 _)
      | (with_reducible exact zn_inb (by omega) (by decide))
      | (with_reducible exact zn_ina (by omega) (by decide))
      | (with_reducible exact zn_inc (by omega) (by decide))
      | (with_reducible exact zn_ind (by omega) (by decide))
      | (with_reducible exact zn_ine (by omega) (by decide))
      | ((conv => whnf); first | (with_reducible refine And.intro ?_ ?_) | ((with_reducible intro h9); first | exact absurd h9 (by decide) | (replace h9 := nle f1 (by omega) (by omega) h9) | (replace h9 := yle f1 (by omega) (by omega) h9) | (rw [eb ‹_›, ee ‹_›] at h9) | (replace h9 := sb_f h9) | (replace h9 := sb_t h9) | skip) | (with_reducible refine hK _ _ _ _ (sm_un ?_)) | (rw [eb ‹_›]; exact ei ‹_›))
    all_goals first
      | ((obtain rfl : i = n := by omega); subst hb; exact hQ G1 hx hl)
      | ((simp only [nI_add]; exact ⟨⟨ih ‹_› G1 false hx hl (by rw [h9] at hb; refine (decide_eq_false (fun z => ?_)).symm; exact absurd hb.symm (by rw [decide_eq_true (fun k hk => z k (by omega))]; decide))⟩⟩))
      | ((simp only [nI_add]; exact ⟨⟨ih ‹_› G1 false hx hl (decide_eq_false (fun z => h9 (z i (by omega)))).symm⟩⟩))
      | ((have hb' : q = true := ‹q = true›; rw [hb'] at hb; have hz := of_decide_eq_true hb.symm; simp only [nI_add]; exact ⟨⟨ih ‹_› G1 true hx hl (decide_eq_true (fun k hk => if e : k = i then (by subst e; exact h9) else hz k (by omega))).symm⟩⟩))
  have lo2 : ∀ i, i ≤ S 0 1 → ∀ G1, eqx [32, 33] G G1 → (∀ h, h < S 0 0 → G1 32 h = nI (wd S c h)) → (∀ v, v < i → ∀ h, h < S 0 0 → G1 33 (6 * v + h) = nI (ps S (wd S c) v (h + 1))) → sm_Wk 2 85 Q none 64 [some (.ref 30), some (.ref 31), some (.int (nI c)), some (.ref 32), some (.ref 33), none, some (.int (nI i)), none, none] [] (hp G1 L) := by
    refine up _ (fun i hi ih G1 hx h1 h2 => ?_)
    obtain ⟨e1, e2, e3, e4⟩ := wD_x hx rfl hW
    have e2 : G1 30 (nI 7).toNatClampNeg = nI (S 0 1) := e2
    have inner : i < S 0 1 → ∀ j, j ≤ S 0 0 → ∀ G2, eqx [33] G1 G2 → (∀ v, v < i → ∀ h, h < S 0 0 → G2 33 (6 * v + h) = nI (ps S (wd S c) v (h + 1))) → (∀ h, h < j → G2 33 (6 * i + h) = nI (ps S (wd S c) i (h + 1))) → sm_Wk 2 85 Q none 87 [some (.ref 30), some (.ref 31), some (.int (nI c)), some (.ref 32), some (.ref 33), none, some (.int (nI i)), some (.int (nI (ps S (wd S c) i j))), some (.int (nI j))] [] (hp G2 L) := by
      intro hl
      refine up _ (fun j hj ihj G2 hx2 h3 h4 => ?_)
      have g1 : G2 30 (nI 6).toNatClampNeg = nI (S 0 0) := by rw [hx2 30 rfl]; exact e1
      have gk : G2 30 (nI 8 + nI 3 * nI i).toNatClampNeg = nI (S 2 i) := by rw [hx2 30 rfl, pk_mul, nI_add, zn_clI (by omega)]; exact (e4 i hl).1
      have gt : G2 30 (nI 10 + nI 3 * nI i).toNatClampNeg = nI (S 4 i) := by rw [hx2 30 rfl, pk_mul, nI_add, zn_clI (by omega)]; exact (e4 i hl).2.2
      have gw : j < S 0 0 → G2 32 (nI j).toNatClampNeg = nI (wd S c j) := fun hj => by rw [hx2 32 rfl, zn_clI (by omega)]; exact h1 j hj
      refine sm_body [64, 87] 80 sm_k85 (fun CT K hC hK => ?_)
      repeat' first
        | (with_reducible refine And.intro ?_ ?_)
        | ((with_reducible intro h9); first | exact absurd h9 (by decide) | (replace h9 := nle g1 (by omega) (by omega) h9) | (replace h9 := yle g1 (by omega) (by omega) h9) | skip)
        | (with_reducible exact zn_in (by omega) (by decide))
        | (with_reducible exact z01) | (with_reducible exact z11) | (with_reducible exact zb01 _)
        | (with_reducible exact zn_inb (by omega) (by decide))
        | (with_reducible exact zn_ina (by omega) (by decide))
        | (with_reducible exact zn_inc (by omega) (by decide))
        | (with_reducible exact zn_ind (by omega) (by decide))
        | (with_reducible exact zn_ine (by omega) (by decide))
        | ((conv => whnf); first | (with_reducible refine And.intro ?_ ?_) | ((with_reducible intro h9); first | exact absurd h9 (by decide) | (replace h9 := nle g1 (by omega) (by omega) h9) | (replace h9 := yle g1 (by omega) (by omega) h9) | skip) | (with_reducible refine hK _ _ _ _ (sm_un ?_)) | (rw [gk, gt, gw ‹_›]; refine l_turns (hC.mono (by decide)) (r4 i hl).1 (r4 i hl).2.2 (p4 i hl j) (wd_lt hR c j) ?_))
      · obtain rfl : j = S 0 0 := by omega
        simp only [nI_add]; exact ⟨⟨sm_less (ih hl G2 (eqx_trans hx (eqx_sub rfl hx2)) (fun h hh => by rw [hx2 32 rfl]; exact h1 h hh) (fun v hv h hh => if e : v = i then (by subst e; exact h4 h hh) else h3 v (by omega) h hh)) ⟨rfl, rfl, rfl, rfl, rfl, rfl, trivial⟩⟩⟩
      · simp only [pk_mul, nI_add, zn_clI (show 6 * i + j < 2 ^ 31 by omega), hp_0, hp_1, hp_2, hp_3, hp_4, hp_5, hp_6, hp_7, hp_8, hp_9, hp_10, hp_11, hp_12, hp_13, hp_14, hp_15, hp_16, hp_17, hp_18, hp_19, hp_20, hp_22, hp_23, hp_24, hp_25, hp_26, hp_27, hp_28, hp_29, hp_30, hp_31, hp_32, hp_33, hp_34, hp_35, hf0_5, hf0_6, hf0_7, hf1_1, hf3_0, hf3_2, hf3_6, hf10_0, hf10_2, hf10_6, hf17_3, hf17_4, hf20_3, hf20_4, upd_su, updL_su]
        refine ⟨⟨ihj ‹_› _ (eqx_su 33 _ rfl hx2) (fun v hv h hh => ?_) (fun h hh => ?_)⟩⟩
        · rw [su_eq, su_if, if_neg (by omega)]
          exact h3 v hv h hh
        · rw [su_eq, su_if]
          by_cases hji : h = j
          · subst hji; rw [if_pos rfl]; rfl
          · rw [if_neg (by omega)]; exact h4 h (by omega)
    refine sm_body [64, 87, 156] 80 sm_k85 (fun CT K hC hK => ?_)
    repeat' first
      | (with_reducible refine And.intro ?_ ?_)
      | ((with_reducible intro h9); first | exact absurd h9 (by decide) | (replace h9 := nle e2 (by omega) (by omega) h9) | (replace h9 := yle e2 (by omega) (by omega) h9) | skip)
      | (with_reducible exact zn_in (by omega) (by decide))
      | (with_reducible exact z01) | (with_reducible exact z11) | (with_reducible exact zb01 _)
      | (with_reducible exact zn_inb (by omega) (by decide))
      | (with_reducible exact zn_ina (by omega) (by decide))
      | (with_reducible exact zn_inc (by omega) (by decide))
      | (with_reducible exact zn_ind (by omega) (by decide))
      | (with_reducible exact zn_ine (by omega) (by decide))
      | ((conv => whnf); first | (with_reducible refine And.intro ?_ ?_) | ((with_reducible intro h9); first | exact absurd h9 (by decide) | (replace h9 := nle e2 (by omega) (by omega) h9) | (replace h9 := yle e2 (by omega) (by omega) h9) | skip) | (with_reducible refine hK _ _ _ _ (sm_un ?_)))
    · obtain rfl : i = S 0 1 := by omega
      exact ⟨⟨sm_less (lo3 0 (Nat.zero_le _) G1 true hx ⟨h1, h2⟩ (decide_eq_true (fun k hk => absurd hk (Nat.not_lt_zero _))).symm) ⟨rfl, rfl, rfl, rfl, rfl, rfl, rfl, trivial⟩⟩⟩
    · have gs : G1 30 (nI 9 + nI 3 * nI i).toNatClampNeg = nI (S 3 i) := by rw [pk_mul, nI_add, zn_clI (by omega)]; exact (e4 i h9).2.1
      rw [gs]
      exact ⟨⟨inner h9 0 (Nat.zero_le _) G1 eqx_rfl h2 (fun h hh => absurd hh (Nat.not_lt_zero _))⟩⟩
  have lo : ∀ i, i ≤ S 0 0 → ∀ G1, eqx [32, 33] G G1 → (∀ h, h < i → G1 32 h = nI (wd S c h)) → sm_Wk 2 85 Q none 6 [some (.ref 30), some (.ref 31), some (.int (nI c)), some (.ref 32), some (.ref 33), some (.int (nI (rm S c i))), some (.int (nI i)), none, none] [] (hp G1 L) := by
    refine up _ (fun i hi ih G1 hx h1 => ?_)
    obtain ⟨e1, e2, e3, e4⟩ := wD_x hx rfl hW
    have e1 : G1 30 (nI 6).toNatClampNeg = nI (S 0 0) := e1
    have eb : i < S 0 0 → (nI 0 ≤ G1 30 (nI i).toNatClampNeg ↔ S 1 i ≠ 4) := by
      intro hl
      rw [zn_clI (by omega), e3 i hl, wI_ge (r3 i hl)]
    have hr := rm_le (S := S) (c := c) i
    refine sm_body [6, 64] 80 sm_k85 (fun CT K hC hK => ?_)
    repeat' first
      | (with_reducible refine And.intro ?_ ?_)
      | ((with_reducible intro h9); first | exact absurd h9 (by decide) | (replace h9 := nle e1 (by omega) (by omega) h9) | (replace h9 := yle e1 (by omega) (by omega) h9) | ((rw [eb ‹_›] at h9; first | exact absurd ‹S 1 i ≠ 4› h9 | exact absurd h9 ‹¬ S 1 i ≠ 4› | skip)) | skip)
      | (with_reducible exact zn_in (by omega) (by decide))
      | (with_reducible exact z01) | (with_reducible exact z11) | (with_reducible exact zb01 _)
      | (with_reducible exact zn_inb (by omega) (by decide))
      | (with_reducible exact zn_ina (by omega) (by decide))
      | (with_reducible exact zn_inc (by omega) (by decide))
      | (with_reducible exact zn_ind (by omega) (by decide))
      | (with_reducible exact zn_ine (by omega) (by decide))
      | ((conv => whnf); first | (with_reducible refine And.intro ?_ ?_) | ((with_reducible intro h9); first | exact absurd h9 (by decide) | (replace h9 := nle e1 (by omega) (by omega) h9) | (replace h9 := yle e1 (by omega) (by omega) h9) | ((rw [eb ‹_›] at h9; first | exact absurd ‹S 1 i ≠ 4› h9 | exact absurd h9 ‹¬ S 1 i ≠ 4› | skip)) | skip) | (with_reducible refine hK _ _ _ _ (sm_un ?_)))
    · obtain rfl : i = S 0 0 := by omega
      exact ⟨⟨sm_less (lo2 0 (Nat.zero_le _) G1 hx h1 (fun v hv => absurd hv (Nat.not_lt_zero _))) ⟨rfl, rfl, rfl, rfl, rfl, rfl, trivial⟩⟩⟩
    all_goals have hl : i < S 0 0 := by omega
    · have hb : Nat.beq (S 1 i) 4 = false := beq_f ‹S 1 i ≠ 4›
      have er : rm S c (i + 1) = rm S c i := by rw [rm, hb]; rfl
      have ew : wd S c i = S 1 i := by rw [wd, if_pos hl, hb]; rfl
      have hk := r3 i hl
      have ex : G1 30 i = nI (wd S c i) := by rw [e3 i hl, ew, wI_t (by have := ‹S 1 i ≠ 4›; omega)]
      simp only [nI_add, zn_clI (show i < 2 ^ 31 by omega), hp_0, hp_1, hp_2, hp_3, hp_4, hp_5, hp_6, hp_7, hp_8, hp_9, hp_10, hp_11, hp_12, hp_13, hp_14, hp_15, hp_16, hp_17, hp_18, hp_19, hp_20, hp_22, hp_23, hp_24, hp_25, hp_26, hp_27, hp_28, hp_29, hp_30, hp_31, hp_32, hp_33, hp_34, hp_35, hf0_5, hf0_6, hf0_7, hf1_1, hf3_0, hf3_2, hf3_6, hf10_0, hf10_2, hf10_6, hf17_3, hf17_4, hf20_3, hf20_4, upd_su, updL_su, ← er, ex]
      refine ⟨⟨ih hl _ (eqx_su 32 _ rfl hx) (fun j hj => ?_)⟩⟩
      rw [su_eq, su_if]
      by_cases hji : j = i
      · subst hji; rw [if_pos rfl]
      · rw [if_neg hji]; exact h1 j (by omega)
    · have hb : Nat.beq (S 1 i) 4 = true := beq_t (Decidable.not_not.mp ‹¬ S 1 i ≠ 4›)
      have er : rm S c (i + 1) = rm S c i / 4 := by rw [rm, hb]; rfl
      have ew : wd S c i = rm S c i % 4 := by rw [wd, if_pos hl, hb]; rfl
      simp only [nI_add, pk_div (show rm S c i < 2 ^ 31 by omega) (show 0 < 4 by decide) (show 4 < 2 ^ 31 by decide), zn_ir (show rm S c i < 2 ^ 31 by omega) (show 0 < 4 by decide) (show 4 < 2 ^ 31 by decide), zn_clI (show i < 2 ^ 31 by omega), hp_0, hp_1, hp_2, hp_3, hp_4, hp_5, hp_6, hp_7, hp_8, hp_9, hp_10, hp_11, hp_12, hp_13, hp_14, hp_15, hp_16, hp_17, hp_18, hp_19, hp_20, hp_22, hp_23, hp_24, hp_25, hp_26, hp_27, hp_28, hp_29, hp_30, hp_31, hp_32, hp_33, hp_34, hp_35, hf0_5, hf0_6, hf0_7, hf1_1, hf3_0, hf3_2, hf3_6, hf10_0, hf10_2, hf10_6, hf17_3, hf17_4, hf20_3, hf20_4, upd_su, updL_su, ← er, ← ew]
      refine ⟨⟨ih hl _ (eqx_su 32 _ rfl hx) (fun j hj => ?_)⟩⟩
      rw [su_eq, su_if]
      by_cases hji : j = i
      · subst hji; rw [if_pos rfl]
      · rw [if_neg hji]; exact h1 j (by omega)
  refine sm_body [6] 40 sm_k85 (fun CT K hC hK => ?_)
  repeat' first
    | (with_reducible refine And.intro ?_ ?_)
    | ((with_reducible intro h9); first | exact absurd h9 (by decide) | skip)
    | (with_reducible exact zn_in (by omega) (by decide))
    | (with_reducible exact z01) | (with_reducible exact z11) | (with_reducible exact zb01 _)
    | (with_reducible exact zn_inb (by omega) (by decide))
    | (with_reducible exact zn_ina (by omega) (by decide))
    | (with_reducible exact zn_inc (by omega) (by decide))
    | (with_reducible exact zn_ind (by omega) (by decide))
    | (with_reducible exact zn_ine (by omega) (by decide))
    | ((conv => whnf); first | (with_reducible refine And.intro ?_ ?_) | ((with_reducible intro h9); first | exact absurd h9 (by decide) | skip) | (with_reducible refine hK _ _ _ _ (sm_un ?_)))
  exact ⟨⟨lo 0 (Nat.zero_le _) G eqx_rfl (fun j hj => absurd hj (Nat.not_lt_zero _))⟩⟩
end FITS
