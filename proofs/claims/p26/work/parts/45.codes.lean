/-! The law's loop: what is counted over all codes. -/
def knO (S : Nat → Nat → Nat) : Nat := ct (fun h => !Nat.beq (S 1 h) 4) (S 0 0)
/-- bits of what blows and of where all point, behind i codes, or i + 1 where A or B says so -/
def bP (S : Nat → Nat → Nat) (i : Nat) (A : Nat → Bool) (B : Nat → Nat → Bool) (G : Nat → Nat → Int32) : Prop := (∀ h, h < S 0 0 → G 35 h = nI (bq 4 (fun q => cbl S h q (i + bn (A h))))) ∧ (∀ v, v < S 0 1 → ∀ h, h < S 0 0 → G 34 (6 * v + h) = nI (bq 4 (fun q => cpt S v h q (i + bn (B v h)))))
section CODES
variable {G : Nat → Nat → Int32} {L : Nat → Nat → Int64} {Q : sm_Q} {S : Nat → Nat → Nat} {n t x : Nat} {f : Nat → Int32}
theorem LI_x {ps : List Nat} {G' : Nat → Nat → Int32} (hx : eqx ps G G') (hm : (ps.all (sm_mem [32, 33, 34, 35])) = true) (h : LI S G) : LI S G' := by
  have hx := eqx_sub hm hx
  obtain ⟨h1, h2, h3, h4, h5⟩ := h
  exact ⟨h1, Ic_x (eqx_sub rfl hx) h2, wD_x hx rfl h3, wS_x hx rfl h4, h5⟩
set_option maxRecDepth 100000 in
set_option maxHeartbeats 4000000 in
theorem lw_A (hI : LI S G) (hN : ∀ G', eqx [35] G G' → (∀ h, h < S 0 0 → G' 35 h = nI 0) → sm_Wk 20 143 Q (some (n, f)) 188 [some (.ref 9999), some (.ref 0), some (.ref 30), some (.ref 31), some (.ref 32), some (.ref 33), some (.ref 34), some (.ref 35), some (.int (nI (S 0 1))), some (.int (nI t)), some (.int (nI x)), some (.int (nI (knO S))), none, none, none, none, none, none, none, none, none, none, none, none, none, none, none] [] (hp G' L)) : sm_Wk 20 143 Q (some (n, f)) 144 [some (.ref 9999), some (.ref 0), some (.ref 30), some (.ref 31), some (.ref 32), some (.ref 33), some (.ref 34), some (.ref 35), some (.int (nI (S 0 1))), some (.int (nI t)), some (.int (nI x)), none, none, none, none, none, none, none, none, none, none, none, none, none, none, none, none] [] (hp G L) := by
  obtain ⟨hR, hIc, ⟨w1, w2, w3, w4⟩, hS, hpos⟩ := hI
  obtain ⟨r1, r2, r3, r4⟩ := hR.1
  have lo : ∀ i, i ≤ S 0 0 → ∀ G1, eqx [35] G G1 → (∀ h, h < i → G1 35 h = nI 0) → sm_Wk 20 143 Q (some (n, f)) 150 [some (.ref 9999), some (.ref 0), some (.ref 30), some (.ref 31), some (.ref 32), some (.ref 33), some (.ref 34), some (.ref 35), some (.int (nI (S 0 1))), some (.int (nI t)), some (.int (nI x)), some (.int (nI (ct (fun h => !Nat.beq (S 1 h) 4) i))), some (.int (nI i)), none, none, none, none, none, none, none, none, none, none, none, none, none, none] [] (hp G1 L) := by
    refine up _ (fun i hi ih G1 hx h0 => ?_)
    have w1' : G1 30 (nI 6).toNatClampNeg = nI (S 0 0) := by rw [hx 30 rfl]; exact w1
    have eb : i < S 0 0 → (nI 0 ≤ G1 30 (nI i).toNatClampNeg ↔ S 1 i ≠ 4) := by
      intro hl
      rw [hx 30 rfl, zn_clI (by omega), w3 i hl, wI_ge (r3 i hl)]
    have h1 : ∀ h, h < i + 1 → su G1 35 (su (G1 35) i (nI 0)) 35 h = nI 0 := fun h hh => by
      rw [su_eq, su_if]
      split
      · rfl
      · exact h0 h (by omega)
    refine sm_body [150, 188] 80 sm_k143 (fun CT K hC hK => ?_)
    repeat' first
      | (with_reducible refine And.intro ?_ ?_)
      | ((with_reducible intro h9); first | exact absurd h9 (by decide) | (replace h9 := nle w1' (by omega) (by omega) h9) | (replace h9 := yle w1' (by omega) (by omega) h9) | (rw [eb ‹_›] at h9) | skip)
      | (with_reducible exact zn_in (by omega) (by decide))
      | (with_reducible exact z01) | (with_reducible exact z11) | (with_reducible exact zb01 _)
      | (with_reducible exact zn_inb (by omega) (by decide))
      | (with_reducible exact zn_ina (by omega) (by decide))
      | (with_reducible exact zn_inc (by omega) (by decide))
      | (with_reducible exact zn_ind (by omega) (by decide))
      | (with_reducible exact zn_ine (by omega) (by decide))
      | ((conv => whnf); first | (with_reducible refine And.intro ?_ ?_) | ((with_reducible intro h9); first | exact absurd h9 (by decide) | (replace h9 := nle w1' (by omega) (by omega) h9) | (replace h9 := yle w1' (by omega) (by omega) h9) | (rw [eb ‹_›] at h9) | skip) | (with_reducible refine hK _ _ _ _ (sm_un ?_)))
    · obtain rfl : i = S 0 0 := by omega
      exact ⟨⟨sm_less (hN G1 hx h0) ⟨rfl, rfl, rfl, rfl, rfl, rfl, rfl, rfl, rfl, rfl, rfl, rfl, trivial⟩⟩⟩
    · have e := ih (by omega) _ (eqx_su 35 (su (G1 35) i (nI 0)) rfl hx) h1
      rw [ct, show (!Nat.beq (S 1 i) 4) = true by rw [beq_f h9]; rfl, bn_t rfl] at e
      simp only [nI_add, zn_clI (show i < 2 ^ 31 by omega), hp_0, hp_1, hp_2, hp_3, hp_4, hp_5, hp_6, hp_7, hp_8, hp_9, hp_10, hp_11, hp_12, hp_13, hp_14, hp_15, hp_16, hp_17, hp_18, hp_19, hp_20, hp_22, hp_23, hp_24, hp_25, hp_26, hp_27, hp_28, hp_29, hp_30, hp_31, hp_32, hp_33, hp_34, hp_35, hf0_5, hf0_6, hf0_7, hf1_1, hf3_0, hf3_2, hf3_6, hf10_0, hf10_2, hf10_6, hf17_3, hf17_4, hf20_3, hf20_4, upd_su, updL_su]
      exact ⟨⟨e⟩⟩
    · have e := ih (by omega) _ (eqx_su 35 (su (G1 35) i (nI 0)) rfl hx) h1
      rw [ct, show (!Nat.beq (S 1 i) 4) = false by rw [beq_t (Decidable.not_not.mp h9)]; rfl, bn_f rfl] at e
      simp only [nI_add, zn_clI (show i < 2 ^ 31 by omega), hp_0, hp_1, hp_2, hp_3, hp_4, hp_5, hp_6, hp_7, hp_8, hp_9, hp_10, hp_11, hp_12, hp_13, hp_14, hp_15, hp_16, hp_17, hp_18, hp_19, hp_20, hp_22, hp_23, hp_24, hp_25, hp_26, hp_27, hp_28, hp_29, hp_30, hp_31, hp_32, hp_33, hp_34, hp_35, hf0_5, hf0_6, hf0_7, hf1_1, hf3_0, hf3_2, hf3_6, hf10_0, hf10_2, hf10_6, hf17_3, hf17_4, hf20_3, hf20_4, upd_su, updL_su]
      exact ⟨⟨e⟩⟩
  refine sm_body [150] 80 sm_k143 (fun CT K hC hK => ?_)
  repeat' first
    | (with_reducible refine And.intro ?_ ?_)
    | ((with_reducible intro h9); first | exact absurd h9 (by decide) | skip)
    | (with_reducible exact zn_in (by omega) (by decide))
    | (with_reducible exact z01) | (with_reducible exact z11) | (with_reducible exact zb01 _)
    | (with_reducible exact zn_inb (by omega) (by decide))
    | (with_reducible exact zn_ina (by omega) (by decide))
    | (with_reducible exact zn_inc (by omega) (by decide))
    | (with_reducible exact zn_ind (by omega) (by decide))
    | (with_reducible exact zn_ine (by omega) (by decide))
    | ((conv => whnf); first | (with_reducible refine And.intro ?_ ?_) | ((with_reducible intro h9); first | exact absurd h9 (by decide) | skip) | (with_reducible refine hK _ _ _ _ (sm_un ?_)))
  exact ⟨⟨lo 0 (Nat.zero_le _) G eqx_rfl (fun h hh => absurd hh (Nat.not_lt_zero _))⟩⟩
set_option maxRecDepth 100000 in
set_option maxHeartbeats 4000000 in
theorem lw_B {kn : Nat} (hN : ∀ G', eqx [34] G G' → (∀ k, k < 24 → G' 34 k = nI 0) → sm_Wk 20 143 Q (some (n, f)) 210 [some (.ref 9999), some (.ref 0), some (.ref 30), some (.ref 31), some (.ref 32), some (.ref 33), some (.ref 34), some (.ref 35), some (.int (nI (S 0 1))), some (.int (nI t)), some (.int (nI x)), some (.int (nI kn)), none, none, none, none, none, none, none, none, none, none, none, none, none, none, none] [] (hp G' L)) : sm_Wk 20 143 Q (some (n, f)) 188 [some (.ref 9999), some (.ref 0), some (.ref 30), some (.ref 31), some (.ref 32), some (.ref 33), some (.ref 34), some (.ref 35), some (.int (nI (S 0 1))), some (.int (nI t)), some (.int (nI x)), some (.int (nI kn)), none, none, none, none, none, none, none, none, none, none, none, none, none, none, none] [] (hp G L) := by
  have lo : ∀ i, i ≤ 24 → ∀ G1, eqx [34] G G1 → (∀ h, h < i → G1 34 h = nI 0) → sm_Wk 20 143 Q (some (n, f)) 191 [some (.ref 9999), some (.ref 0), some (.ref 30), some (.ref 31), some (.ref 32), some (.ref 33), some (.ref 34), some (.ref 35), some (.int (nI (S 0 1))), some (.int (nI t)), some (.int (nI x)), some (.int (nI kn)), some (.int (nI i)), none, none, none, none, none, none, none, none, none, none, none, none, none, none] [] (hp G1 L) := by
    refine up _ (fun i hi ih G1 hx h0 => ?_)
    refine sm_body [191, 210] 80 sm_k143 (fun CT K hC hK => ?_)
    repeat' first
      | (with_reducible refine And.intro ?_ ?_)
      | ((with_reducible intro h9); first | exact absurd h9 (by decide) | (replace h9 := zle (a := 24) (by omega) (by omega) h9) | (replace h9 := znle (a := 24) (by omega) (by omega) h9) | skip)
      | (with_reducible exact zn_in (by omega) (by decide))
      | (with_reducible exact z01) | (with_reducible exact z11) | (with_reducible exact zb01 _)
      | (with_reducible exact zn_inb (by omega) (by decide))
      | (with_reducible exact zn_ina (by omega) (by decide))
      | (with_reducible exact zn_inc (by omega) (by decide))
      | (with_reducible exact zn_ind (by omega) (by decide))
      | (with_reducible exact zn_ine (by omega) (by decide))
      | ((conv => whnf); first | (with_reducible refine And.intro ?_ ?_) | ((with_reducible intro h9); first | exact absurd h9 (by decide) | (replace h9 := zle (a := 24) (by omega) (by omega) h9) | (replace h9 := znle (a := 24) (by omega) (by omega) h9) | skip) | (with_reducible refine hK _ _ _ _ (sm_un ?_)))
    · obtain rfl : i = 24 := by omega
      exact ⟨⟨sm_less (hN G1 hx h0) ⟨rfl, rfl, rfl, rfl, rfl, rfl, rfl, rfl, rfl, rfl, rfl, rfl, trivial⟩⟩⟩
    · simp only [nI_add, zn_clI (show i < 2 ^ 31 by omega), hp_0, hp_1, hp_2, hp_3, hp_4, hp_5, hp_6, hp_7, hp_8, hp_9, hp_10, hp_11, hp_12, hp_13, hp_14, hp_15, hp_16, hp_17, hp_18, hp_19, hp_20, hp_22, hp_23, hp_24, hp_25, hp_26, hp_27, hp_28, hp_29, hp_30, hp_31, hp_32, hp_33, hp_34, hp_35, hf0_5, hf0_6, hf0_7, hf1_1, hf3_0, hf3_2, hf3_6, hf10_0, hf10_2, hf10_6, hf17_3, hf17_4, hf20_3, hf20_4, upd_su, updL_su]
      refine ⟨⟨ih (by omega) _ (eqx_su 34 _ rfl hx) (fun h hh => ?_)⟩⟩
      rw [su_eq, su_if]
      split
      · rfl
      · exact h0 h (by omega)
  refine sm_body [191] 80 sm_k143 (fun CT K hC hK => ?_)
  repeat' first
    | (with_reducible refine And.intro ?_ ?_)
    | ((with_reducible intro h9); first | exact absurd h9 (by decide) | skip)
    | (with_reducible exact zn_in (by omega) (by decide))
    | (with_reducible exact z01) | (with_reducible exact z11) | (with_reducible exact zb01 _)
    | (with_reducible exact zn_inb (by omega) (by decide))
    | (with_reducible exact zn_ina (by omega) (by decide))
    | (with_reducible exact zn_inc (by omega) (by decide))
    | (with_reducible exact zn_ind (by omega) (by decide))
    | (with_reducible exact zn_ine (by omega) (by decide))
    | ((conv => whnf); first | (with_reducible refine And.intro ?_ ?_) | ((with_reducible intro h9); first | exact absurd h9 (by decide) | skip) | (with_reducible refine hK _ _ _ _ (sm_un ?_)))
  exact ⟨⟨lo 0 (Nat.zero_le _) G eqx_rfl (fun h hh => absurd hh (Nat.not_lt_zero _))⟩⟩
theorem cbl_1 {h i : Nat} (e : ft S (wd S i) = true) : (fun q => cbl S h q (i + 1)) = fun q => cbl S h q i + bn (Nat.beq (wd S i h) q) := funext fun q => cbl_t e
theorem cpt_1 {v h i : Nat} (e : ft S (wd S i) = true) : (fun q => cpt S v h q (i + 1)) = fun q => cpt S v h q i + bn (Nat.beq (ps S (wd S i) v (h + 1)) q) := funext fun q => cpt_t e
theorem bP_le {i : Nat} {A A' : Nat → Bool} {B B' : Nat → Nat → Bool} (h : bP S i A B G) (hA : ∀ h, h < S 0 0 → A h = A' h) (hB : ∀ v, v < S 0 1 → ∀ h, h < S 0 0 → B v h = B' v h) : bP S i A' B' G :=
  ⟨fun k hk => by rw [← hA k hk]; exact h.1 k hk, fun v hv k hk => by rw [← hB v hv k hk]; exact h.2 v hv k hk⟩
set_option maxRecDepth 100000 in
set_option maxHeartbeats 4000000 in
/-- a code that fits: its bits -/
theorem lw_in {kn ff nn i : Nat} (hI : LI S G) (he : ft S (wd S i) = true) (hl : ld S i G) (hb : bP S i (fun _ => false) (fun _ _ => false) G)
    (hN : ∀ G', eqx [34, 35] G G' → bP S i (fun _ => true) (fun _ _ => true) G' → sm_Wk 20 143 Q (some (n, f)) 322 [some (.ref 9999), some (.ref 0), some (.ref 30), some (.ref 31), some (.ref 32), some (.ref 33), some (.ref 34), some (.ref 35), some (.int (nI (S 0 1))), some (.int (nI t)), some (.int (nI x)), some (.int (nI kn)), some (.int (nI ff)), some (.int (nI nn)), some (.int (nI i)), none, none, none, none, none, none, none, none, none, none, none, none] [] (hp G' L)) : sm_Wk 20 143 Q (some (n, f)) 246 [some (.ref 9999), some (.ref 0), some (.ref 30), some (.ref 31), some (.ref 32), some (.ref 33), some (.ref 34), some (.ref 35), some (.int (nI (S 0 1))), some (.int (nI t)), some (.int (nI x)), some (.int (nI kn)), some (.int (nI ff)), some (.int (nI nn)), some (.int (nI i)), none, none, none, none, none, none, none, none, none, none, none, none] [] (hp G L) := by
  obtain ⟨hR, hIc, ⟨w1, w2, w3, w4⟩, hS, hpos⟩ := hI
  obtain ⟨r1, r2, r3, r4⟩ := id hR.1
  have lo : ∀ j, j ≤ S 0 0 → ∀ G1, eqx [34, 35] G G1 → bP S i (fun h => decide (h < j)) (fun _ h => decide (h < j)) G1 → ∀ o, sm_Wk 20 143 Q (some (n, f)) 249 [some (.ref 9999), some (.ref 0), some (.ref 30), some (.ref 31), some (.ref 32), some (.ref 33), some (.ref 34), some (.ref 35), some (.int (nI (S 0 1))), some (.int (nI t)), some (.int (nI x)), some (.int (nI kn)), some (.int (nI ff)), some (.int (nI nn)), some (.int (nI i)), some (.int (nI j)), o, none, none, none, none, none, none, none, none, none, none] [] (hp G1 L) := by
    refine up _ (fun j hj ih G1 hx hb1 o => ?_)
    have w1' : G1 30 (nI 6).toNatClampNeg = nI (S 0 0) := by rw [hx 30 rfl]; exact w1
    have inner : j < S 0 0 → ∀ v, v ≤ S 0 1 → ∀ G2, eqx [34, 35] G G2 → bP S i (fun h => decide (h < j + 1)) (fun u h => decide (h < j) || (Nat.beq h j && decide (u < v))) G2 → sm_Wk 20 143 Q (some (n, f)) 276 [some (.ref 9999), some (.ref 0), some (.ref 30), some (.ref 31), some (.ref 32), some (.ref 33), some (.ref 34), some (.ref 35), some (.int (nI (S 0 1))), some (.int (nI t)), some (.int (nI x)), some (.int (nI kn)), some (.int (nI ff)), some (.int (nI nn)), some (.int (nI i)), some (.int (nI j)), some (.int (nI v)), none, none, none, none, none, none, none, none, none, none] [] (hp G2 L) := by
      intro hjl
      refine up _ (fun v hv ihv G2 hx2 hb2 => ?_)
      refine sm_body [249, 276] 80 sm_k143 (fun CT K hC hK => ?_)
      repeat' first
        | (with_reducible refine And.intro ?_ ?_)
        | ((with_reducible intro h9); first | exact absurd h9 (by decide) | (replace h9 := zle (by omega) (by omega) h9) | (replace h9 := znle (by omega) (by omega) h9) | skip)
        | (with_reducible exact zn_in (by omega) (by decide))
        | (with_reducible exact z01) | (with_reducible exact z11) | (with_reducible exact zb01 _)
        | (with_reducible exact zn_inb (by omega) (by decide))
        | (with_reducible exact zn_ina (by omega) (by decide))
        | (with_reducible exact zn_inc (by omega) (by decide))
        | (with_reducible exact zn_ind (by omega) (by decide))
        | (with_reducible exact zn_ine (by omega) (by decide))
        | ((conv => whnf); first | (with_reducible refine And.intro ?_ ?_) | ((with_reducible intro h9); first | exact absurd h9 (by decide) | (replace h9 := zle (by omega) (by omega) h9) | (replace h9 := znle (by omega) (by omega) h9) | skip) | (with_reducible refine hK _ _ _ _ (sm_un ?_)))
      · obtain rfl : v = S 0 1 := by omega
        simp only [nI_add]
        refine ⟨⟨ih hjl G2 hx2 (bP_le hb2 (fun _ _ => rfl) (fun u hu h hh => ?_)) _⟩⟩
        by_cases e : h = j
        · subst e; rw [beq_t rfl]; simp [hu]
        · rw [beq_f e]; simp; omega
      · have p4 := ps_lt4 hR.1 h9 i (j + 1)
        have e1 := hb2.2 v h9 j hjl
        dsimp only at e1
        rw [show (decide (j < j) || (Nat.beq j j && decide (v < v))) = false by simp, bn_f rfl, Nat.add_zero] at e1
        have e2 : G2 33 (6 * v + j) = nI (ps S (wd S i) v (j + 1)) := by rw [hx2 33 rfl]; exact hl.2 v h9 j hjl
        simp only [pk_mul, nI_add, zn_clI (show 6 * v + j < 2 ^ 31 by omega), e1, e2, zn_shl (show ps S (wd S i) v (j + 1) < 32 by omega), Nat.one_mul, zn_or, bq_step p4, ← cpt_1 he, hp_0, hp_1, hp_2, hp_3, hp_4, hp_5, hp_6, hp_7, hp_8, hp_9, hp_10, hp_11, hp_12, hp_13, hp_14, hp_15, hp_16, hp_17, hp_18, hp_19, hp_20, hp_22, hp_23, hp_24, hp_25, hp_26, hp_27, hp_28, hp_29, hp_30, hp_31, hp_32, hp_33, hp_34, hp_35, hf0_5, hf0_6, hf0_7, hf1_1, hf3_0, hf3_2, hf3_6, hf10_0, hf10_2, hf10_6, hf17_3, hf17_4, hf20_3, hf20_4, upd_su, updL_su]
        refine ⟨⟨ihv h9 _ (eqx_su 34 _ rfl hx2) ⟨fun h hh => hb2.1 h hh, fun u hu h hh => ?_⟩⟩⟩
        dsimp only
        rw [su_eq, su_if]
        by_cases e : u = v ∧ h = j
        · obtain ⟨rfl, rfl⟩ := e
          rw [if_pos rfl, show (decide (h < h) || (Nat.beq h h && decide (u < u + 1))) = true by simp [beq_t], bn_t rfl]
        · rw [if_neg (by omega), hb2.2 u hu h hh]
          have z : (decide (h < j) || (Nat.beq h j && decide (u < v))) = (decide (h < j) || (Nat.beq h j && decide (u < v + 1))) := by
            by_cases e3 : h = j
            · have : u ≠ v := fun z => e ⟨z, e3⟩
              rw [show decide (u < v) = decide (u < v + 1) from decide_eq_decide.mpr (by omega)]
            · rw [beq_f e3, Bool.false_and, Bool.false_and]
          dsimp only
          rw [z]
    refine sm_body [276, 322] 80 sm_k143 (fun CT K hC hK => ?_)
    repeat' first
      | (with_reducible refine And.intro ?_ ?_)
      | ((with_reducible intro h9); first | exact absurd h9 (by decide) | (replace h9 := nle w1' (by omega) (by omega) h9) | (replace h9 := yle w1' (by omega) (by omega) h9) | skip)
      | (with_reducible exact zn_in (by omega) (by decide))
      | (with_reducible exact z01) | (with_reducible exact z11) | (with_reducible exact zb01 _)
      | (with_reducible exact zn_inb (by omega) (by decide))
      | (with_reducible exact zn_ina (by omega) (by decide))
      | (with_reducible exact zn_inc (by omega) (by decide))
      | (with_reducible exact zn_ind (by omega) (by decide))
      | (with_reducible exact zn_ine (by omega) (by decide))
      | ((conv => whnf); first | (with_reducible refine And.intro ?_ ?_) | ((with_reducible intro h9); first | exact absurd h9 (by decide) | (replace h9 := nle w1' (by omega) (by omega) h9) | (replace h9 := yle w1' (by omega) (by omega) h9) | skip) | (with_reducible refine hK _ _ _ _ (sm_un ?_)))
    · obtain rfl : j = S 0 0 := by omega
      refine ⟨⟨sm_less (hN G1 hx (bP_le hb1 (fun h hh => decide_eq_true hh) (fun v hv h hh => decide_eq_true hh))) ⟨rfl, rfl, rfl, rfl, rfl, rfl, rfl, rfl, rfl, rfl, rfl, rfl, rfl, rfl, rfl, trivial⟩⟩⟩
    · have p4 := wd_lt hR.1 i j
      have e1 := hb1.1 j h9
      dsimp only at e1
      rw [show decide (j < j) = false by simp, bn_f rfl, Nat.add_zero] at e1
      have e2 : G1 32 j = nI (wd S i j) := by rw [hx 32 rfl]; exact hl.1 j h9
      simp only [zn_clI (show j < 2 ^ 31 by omega), e1, e2, zn_shl (show wd S i j < 32 by omega), Nat.one_mul, zn_or, bq_step p4, ← cbl_1 he, hp_0, hp_1, hp_2, hp_3, hp_4, hp_5, hp_6, hp_7, hp_8, hp_9, hp_10, hp_11, hp_12, hp_13, hp_14, hp_15, hp_16, hp_17, hp_18, hp_19, hp_20, hp_22, hp_23, hp_24, hp_25, hp_26, hp_27, hp_28, hp_29, hp_30, hp_31, hp_32, hp_33, hp_34, hp_35, hf0_5, hf0_6, hf0_7, hf1_1, hf3_0, hf3_2, hf3_6, hf10_0, hf10_2, hf10_6, hf17_3, hf17_4, hf20_3, hf20_4, upd_su, updL_su]
      refine ⟨⟨inner h9 0 (Nat.zero_le _) _ (eqx_su 35 _ rfl hx) ⟨fun h hh => ?_, fun u hu h hh => ?_⟩⟩⟩
      · dsimp only
        rw [su_eq, su_if]
        by_cases e : h = j
        · subst e
          rw [if_pos rfl, show decide (h < h + 1) = true by simp, bn_t rfl]
        · rw [if_neg e, hb1.1 h hh]
          dsimp only
          rw [show decide (h < j) = decide (h < j + 1) from decide_eq_decide.mpr (by omega)]
      · rw [su_ne _ _ (by decide), hb1.2 u hu h hh]
        simp
  refine sm_body [249] 80 sm_k143 (fun CT K hC hK => ?_)
  repeat' first
    | (with_reducible refine And.intro ?_ ?_)
    | ((with_reducible intro h9); first | exact absurd h9 (by decide) | skip)
    | (with_reducible exact zn_in (by omega) (by decide))
    | (with_reducible exact z01) | (with_reducible exact z11) | (with_reducible exact zb01 _)
    | (with_reducible exact zn_inb (by omega) (by decide))
    | (with_reducible exact zn_ina (by omega) (by decide))
    | (with_reducible exact zn_inc (by omega) (by decide))
    | (with_reducible exact zn_ind (by omega) (by decide))
    | (with_reducible exact zn_ine (by omega) (by decide))
    | ((conv => whnf); first | (with_reducible refine And.intro ?_ ?_) | ((with_reducible intro h9); first | exact absurd h9 (by decide) | skip) | (with_reducible refine hK _ _ _ _ (sm_un ?_)))
  exact ⟨⟨lo 0 (Nat.zero_le _) G eqx_rfl (bP_le hb (fun h hh => by simp) (fun v hv h hh => by simp)) _⟩⟩
theorem bq_0 (c : Nat → Nat) (h : ∀ q, c q = 0) : bq 4 c = 0 := by
  simp [bq, h]
theorem bP_0 (h1 : ∀ h, h < S 0 0 → G 35 h = nI 0) (h2 : ∀ k, k < 24 → G 34 k = nI 0) (hR : dR S) : bP S 0 (fun _ => false) (fun _ _ => false) G := by
  have r1 := hR.1
  have r2 := hR.2.1
  refine ⟨fun h hh => ?_, fun v hv h hh => ?_⟩
  · exact (h1 h hh).trans (congrArg nI (bq_0 _ (fun q => rfl)).symm)
  · exact (h2 _ (by omega)).trans (congrArg nI (bq_0 _ (fun q => rfl)).symm)
theorem ft_eq {i : Nat} : decide (∀ k, k < S 0 2 → ps S (wd S i) (S 6 k) (S 7 k + 1) = S 8 k) = ft S (wd S i) := rfl
/-- behind all codes -/
def bA (S : Nat → Nat → Nat) (G : Nat → Nat → Int32) : Prop := (∀ h, h < S 0 0 → G 35 h = nI (bq 4 (aBl S h))) ∧ (∀ v, v < S 0 1 → ∀ h, h < S 0 0 → G 34 (6 * v + h) = nI (bq 4 (aPt S v h)))
theorem bA_of {A : Nat → Bool} {B : Nat → Nat → Bool} (hR : dR S) (h : bP S (nc S) (fun _ => false) (fun _ _ => false) G) : bA S G := by
  refine ⟨fun k hk => ?_, fun v hv k hk => ?_⟩
  · rw [h.1 k hk]
    exact congrArg (fun z => nI (bq 4 z)) (funext fun q => (aBl_codes hR).symm)
  · rw [h.2 v hv k hk]
    exact congrArg (fun z => nI (bq 4 z)) (funext fun q => (aPt_codes hR).symm)
theorem bP_t {i : Nat} (h : bP S i (fun _ => true) (fun _ _ => true) G) : bP S (i + 1) (fun _ => false) (fun _ _ => false) G := h
theorem bP_f {i : Nat} (he : ft S (wd S i) = false) (h : bP S i (fun _ => false) (fun _ _ => false) G) : bP S (i + 1) (fun _ => false) (fun _ _ => false) G := by
  refine ⟨fun k hk => ?_, fun v hv k hk => ?_⟩
  · rw [h.1 k hk]
    exact congrArg (fun z => nI (bq 4 z)) (funext fun q => (cbl_f he).symm)
  · rw [h.2 v hv k hk]
    exact congrArg (fun z => nI (bq 4 z)) (funext fun q => (cpt_f he).symm)
theorem bP_x {ps : List Nat} {G' : Nat → Nat → Int32} {i : Nat} {A : Nat → Bool} {B : Nat → Nat → Bool} (hx : eqx ps G G') (h1 : sm_mem ps 34 = false) (h2 : sm_mem ps 35 = false) (h : bP S i A B G) : bP S i A B G' := by
  unfold bP
  rw [hx 34 h1, hx 35 h2]
  exact h
set_option maxRecDepth 100000 in
set_option maxHeartbeats 4000000 in
theorem lw_C {kn : Nat} (hI : LI S G) (hb : bP S 0 (fun _ => false) (fun _ _ => false) G)
    (hN : ∀ G', eqx [32, 33, 34, 35] G G' → bA S G' → sm_Wk 20 143 Q (some (n, f)) 328 [some (.ref 9999), some (.ref 0), some (.ref 30), some (.ref 31), some (.ref 32), some (.ref 33), some (.ref 34), some (.ref 35), some (.int (nI (S 0 1))), some (.int (nI t)), some (.int (nI x)), some (.int (nI kn)), some (.int (nI (aAll S))), none, none, none, none, none, none, none, none, none, none, none, none, none, none] [] (hp G' L)) : sm_Wk 20 143 Q (some (n, f)) 210 [some (.ref 9999), some (.ref 0), some (.ref 30), some (.ref 31), some (.ref 32), some (.ref 33), some (.ref 34), some (.ref 35), some (.int (nI (S 0 1))), some (.int (nI t)), some (.int (nI x)), some (.int (nI kn)), none, none, none, none, none, none, none, none, none, none, none, none, none, none, none] [] (hp G L) := by
  have hR := hI.1
  have hnc := nc_le hR.1
  have n10 := hR.2.1.1
  have j1 := hI.2.2.1
  have j2 := hR.1
  have lo : ∀ i, i ≤ nc S → ∀ G1, eqx [32, 33, 34, 35] G G1 → bP S i (fun _ => false) (fun _ _ => false) G1 → sm_Wk 20 143 Q (some (n, f)) 222 [some (.ref 9999), some (.ref 0), some (.ref 30), some (.ref 31), some (.ref 32), some (.ref 33), some (.ref 34), some (.ref 35), some (.int (nI (S 0 1))), some (.int (nI t)), some (.int (nI x)), some (.int (nI kn)), some (.int (nI (sg i (fun c => bn (ft S (wd S c)))))), some (.int (nI (nc S))), some (.int (nI i)), none, none, none, none, none, none, none, none, none, none, none, none] [] (hp G1 L) := by
    refine up _ (fun i hi ih G1 hx hb1 => ?_)
    have hI1 : LI S G1 := LI_x hx rfl hI
    obtain ⟨k1, k2, k3, k4, k5⟩ := id hI1
    obtain ⟨hdR, hnR, -⟩ := id hR
    have hab := hnR.2
    have next : ∀ G2, eqx [32, 33, 34, 35] G1 G2 → i < nc S → bP S (i + 1) (fun _ => false) (fun _ _ => false) G2 → sm_Wk 20 143 Q (some (n, f)) 322 [some (.ref 9999), some (.ref 0), some (.ref 30), some (.ref 31), some (.ref 32), some (.ref 33), some (.ref 34), some (.ref 35), some (.int (nI (S 0 1))), some (.int (nI t)), some (.int (nI x)), some (.int (nI kn)), some (.int (nI (sg (i + 1) (fun c => bn (ft S (wd S c)))))), some (.int (nI (nc S))), some (.int (nI i)), none, none, none, none, none, none, none, none, none, none, none, none] [] (hp G2 L) := by
      intro G2 hx2 hl hb2
      refine sm_body [222] 80 sm_k143 (fun CT K hC hK => ?_)
      repeat' first
        | (with_reducible refine And.intro ?_ ?_)
        | ((with_reducible intro h9); first | exact absurd h9 (by decide) | skip)
        | (with_reducible exact zn_in (by omega) (by decide))
        | (with_reducible exact z01) | (with_reducible exact z11) | (with_reducible exact zb01 _)
        | (with_reducible exact zn_inb (by omega) (by decide))
        | (with_reducible exact zn_ina (by omega) (by decide))
        | (with_reducible exact zn_inc (by omega) (by decide))
        | (with_reducible exact zn_ind (by omega) (by decide))
        | (with_reducible exact zn_ine (by omega) (by decide))
        | ((conv => whnf); first | (with_reducible refine And.intro ?_ ?_) | ((with_reducible intro h9); first | exact absurd h9 (by decide) | skip) | (with_reducible refine hK _ _ _ _ (sm_un ?_)))
      simp only [nI_add]; exact ⟨⟨ih hl G2 (eqx_trans hx hx2) hb2⟩⟩
    refine sm_body [246, 322, 328] 80 sm_k143 (fun CT K hC hK => ?_)
    repeat' first
      | (with_reducible refine And.intro ?_ ?_)
      | ((with_reducible intro h9); first | exact absurd h9 (by decide) | (replace h9 := zle (by omega) (by omega) h9) | (replace h9 := znle (by omega) (by omega) h9) | (replace h9 := sb_f h9) | (replace h9 := sb_t h9) | skip)
      | (with_reducible exact zn_in (by omega) (by decide))
      | (with_reducible exact z01) | (with_reducible exact z11) | (with_reducible exact zb01 _)
      | (with_reducible exact zn_inb (by omega) (by decide))
      | (with_reducible exact zn_ina (by omega) (by decide))
      | (with_reducible exact zn_inc (by omega) (by decide))
      | (with_reducible exact zn_ind (by omega) (by decide))
      | (with_reducible exact zn_ine (by omega) (by decide))
      | ((conv => whnf); first | (with_reducible refine And.intro ?_ ?_) | ((with_reducible intro h9); first | exact absurd h9 (by decide) | (replace h9 := zle (by omega) (by omega) h9) | (replace h9 := znle (by omega) (by omega) h9) | (replace h9 := sb_f h9) | (replace h9 := sb_t h9) | skip) | (with_reducible refine hK _ _ _ _ (sm_un ?_)) | (with_reducible refine l_fits (hC.mono (by omega)) k3 hdR n10 hab k4 (by omega) (fun G2 hx2 hl2 => ?_)))
    · obtain rfl : i = nc S := by omega
      rw [← aAll_codes hR.1]
      exact ⟨⟨sm_less (hN G1 hx (bA_of (A := fun _ => false) (B := fun _ _ => false) hR.1 hb1)) ⟨rfl, rfl, rfl, rfl, rfl, rfl, rfl, rfl, rfl, rfl, rfl, rfl, rfl, trivial⟩⟩⟩
    · have he : ft S (wd S i) = false := h9
      have e := next G2 (eqx_sub rfl hx2) ‹_› (bP_f he (bP_x hx2 rfl rfl hb1))
      rw [sg, bn_f he, Nat.add_zero] at e
      exact ⟨⟨e⟩⟩
    · have he : ft S (wd S i) = true := h9
      simp only [nI_add]
      refine ⟨⟨lw_in (LI_x hx2 rfl hI1) he hl2 (bP_x hx2 rfl rfl hb1) (fun G3 hx3 hb3 => ?_)⟩⟩
      have e := next G3 (eqx_trans (eqx_sub rfl hx2) (eqx_sub rfl hx3)) ‹_› (bP_t hb3)
      rw [sg, bn_t he] at e
      exact e
  refine sm_body [222] 80 sm_k143 (fun CT K hC hK => ?_)
  repeat' first
    | (with_reducible refine And.intro ?_ ?_)
    | ((with_reducible intro h9); first | exact absurd h9 (by decide) | skip)
    | (with_reducible exact zn_in (by omega) (by decide))
    | (with_reducible exact z01) | (with_reducible exact z11) | (with_reducible exact zb01 _)
    | (with_reducible exact zn_inb (by omega) (by decide))
    | (with_reducible exact zn_ina (by omega) (by decide))
    | (with_reducible exact zn_inc (by omega) (by decide))
    | (with_reducible exact zn_ind (by omega) (by decide))
    | (with_reducible exact zn_ine (by omega) (by decide))
    | ((conv => whnf); first | (with_reducible refine And.intro ?_ ?_) | ((with_reducible intro h9); first | exact absurd h9 (by decide) | skip) | (with_reducible refine hK _ _ _ _ (sm_un ?_)) | (with_reducible refine l_codes (hC.mono (by omega)) j1 j2 ?_))
  exact ⟨⟨lo 0 (Nat.zero_le _) G eqx_rfl hb⟩⟩
end CODES
