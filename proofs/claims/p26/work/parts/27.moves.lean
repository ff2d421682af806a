/-! Calls that change the state: forget, see, vane, image, restore, day. -/
section MOVES2
variable {CT : sm_CT} {G : Nat → Nat → Int32} {L : Nat → Nat → Int64} {Q : sm_Q} {S : Nat → Nat → Nat} {c : Nat} {h : sm_H}
set_option maxRecDepth 100000 in
set_option maxHeartbeats 4000000 in
theorem s_clearSeen (hC : sm_C 1 CT) (hQ : ∀ x y, (∀ v, v < 4 → x v = nI 0) → (∀ i, i < 24 → y i = nI 15) → Q none (hp (su (su (su G 3 (su (G 3) 6 (nI 0))) 8 x) 9 y) L)) : CT 6 [.ref 3] (hp G L) Q := by
  refine sm_meth hC [some (.ref 3), none] rfl rfl rfl ?_
  have lo2 : ∀ i, i ≤ 24 → ∀ x y, (∀ v, v < 4 → x v = nI 0) → (∀ j, j < i → y j = nI 15) → sm_Wk 0 6 Q none 27 [some (.ref 3), some (.int (nI i))] [] (hp (su (su (su G 3 (su (G 3) 6 (nI 0))) 8 x) 9 y) L) := by
    refine up _ (fun i hi ih x y hx hy => ?_)
    refine sm_body [27] 60 sm_k6 (fun CT K hC hK => ?_)
    repeat' first
      | (with_reducible refine And.intro ?_ ?_)
      | ((with_reducible intro h9); first | exact absurd h9 (by decide) | (replace h9 := zle (a := 24) (by omega) (by omega) h9) | (replace h9 := znle (a := 24) (by omega) (by omega) h9) | skip)
      | (with_reducible exact zn_in (by omega) (by decide))
      | (with_reducible exact z01) | (with_reducible exact z11) | (with_reducible exact zb01 _)
      | (with_reducible exact zn_inb (by omega) (by decide))
      | (with_reducible exact zn_ina (by omega) (by decide))
      | (with_reducible exact zn_inc (by omega) (by decide))
      | ((conv => whnf); first | (with_reducible refine And.intro ?_ ?_) | ((with_reducible intro h9); first | exact absurd h9 (by decide) | (replace h9 := zle (a := 24) (by omega) (by omega) h9) | (replace h9 := znle (a := 24) (by omega) (by omega) h9) | skip) | (with_reducible refine hK _ _ _ _ (sm_un ?_)))
    · exact hQ x y hx (fun j hj => hy j (by omega))
    · simp only [hp_0, hp_1, hp_2, hp_3, hp_4, hp_5, hp_6, hp_7, hp_8, hp_9, hp_10, hp_11, hp_12, hp_13, hp_14, hp_15, hp_16, hp_17, hp_18, hp_19, hp_20, hp_22, hp_23, hp_24, hp_25, hp_26, hp_27, hp_28, hp_29, hp_30, hp_31, hp_32, hp_33, hp_34, hp_35, hf0_5, hf0_6, hf0_7, hf1_1, hf3_0, hf3_2, hf3_6, hf10_0, hf10_2, hf10_6, hf17_3, hf17_4, hf20_3, hf20_4, upd_su, updL_su, nI_add, zn_clI (show i < 2 ^ 31 by omega), su_eq, su_su]
      refine ⟨⟨ih ‹_› _ _ hx (fun j hj => ?_)⟩⟩
      rw [su_if]
      split
      · rfl
      · exact hy j (by omega)
  have lo : ∀ i, i ≤ 4 → ∀ x, (∀ j, j < i → x j = nI 0) → sm_Wk 0 6 Q none 7 [some (.ref 3), some (.int (nI i))] [] (hp (su (su G 3 (su (G 3) 6 (nI 0))) 8 x) L) := by
    refine up _ (fun i hi ih x hx => ?_)
    refine sm_body [7, 27] 60 sm_k6 (fun CT K hC hK => ?_)
    repeat' first
      | (with_reducible refine And.intro ?_ ?_)
      | ((with_reducible intro h9); first | exact absurd h9 (by decide) | (replace h9 := zle (a := 4) (by omega) (by omega) h9) | (replace h9 := znle (a := 4) (by omega) (by omega) h9) | skip)
      | (with_reducible exact zn_in (by omega) (by decide))
      | (with_reducible exact z01) | (with_reducible exact z11) | (with_reducible exact zb01 _)
      | (with_reducible exact zn_inb (by omega) (by decide))
      | (with_reducible exact zn_ina (by omega) (by decide))
      | (with_reducible exact zn_inc (by omega) (by decide))
      | ((conv => whnf); first | (with_reducible refine And.intro ?_ ?_) | ((with_reducible intro h9); first | exact absurd h9 (by decide) | (replace h9 := zle (a := 4) (by omega) (by omega) h9) | (replace h9 := znle (a := 4) (by omega) (by omega) h9) | skip) | (with_reducible refine hK _ _ _ _ (sm_un ?_)))
    · have e := lo2 0 (Nat.zero_le _) x (G 9) (fun v hv => hx v (by omega)) (fun j hj => absurd hj (Nat.not_lt_zero _))
      have eG : su (su (su G 3 (su (G 3) 6 (nI 0))) 8 x) 9 (G 9) = su (su G 3 (su (G 3) 6 (nI 0))) 8 x := su_self (su (su G 3 (su (G 3) 6 (nI 0))) 8 x) 9
      rw [eG] at e
      exact ⟨⟨e⟩⟩
    · simp only [hp_0, hp_1, hp_2, hp_3, hp_4, hp_5, hp_6, hp_7, hp_8, hp_9, hp_10, hp_11, hp_12, hp_13, hp_14, hp_15, hp_16, hp_17, hp_18, hp_19, hp_20, hp_22, hp_23, hp_24, hp_25, hp_26, hp_27, hp_28, hp_29, hp_30, hp_31, hp_32, hp_33, hp_34, hp_35, hf0_5, hf0_6, hf0_7, hf1_1, hf3_0, hf3_2, hf3_6, hf10_0, hf10_2, hf10_6, hf17_3, hf17_4, hf20_3, hf20_4, upd_su, updL_su, nI_add, zn_clI (show i < 2 ^ 31 by omega), su_eq, su_su]
      refine ⟨⟨ih ‹_› _ (fun j hj => ?_)⟩⟩
      rw [su_if]
      split
      · rfl
      · exact hx j (by omega)
  refine sm_body [7] 60 sm_k6 (fun CT K hC hK => ?_)
  repeat' first
    | (with_reducible refine And.intro ?_ ?_)
    | ((with_reducible intro h9); first | exact absurd h9 (by decide) | skip)
    | (with_reducible exact zn_in (by omega) (by decide))
    | (with_reducible exact z01) | (with_reducible exact z11) | (with_reducible exact zb01 _)
    | (with_reducible exact zn_inb (by omega) (by decide))
    | (with_reducible exact zn_ina (by omega) (by decide))
    | (with_reducible exact zn_inc (by omega) (by decide))
    | ((conv => whnf); first | (with_reducible refine And.intro ?_ ?_) | ((with_reducible intro h9); first | exact absurd h9 (by decide) | skip) | (with_reducible refine hK _ _ _ _ (sm_un ?_)))
  simp only [hp_0, hp_1, hp_2, hp_3, hp_4, hp_5, hp_6, hp_7, hp_8, hp_9, hp_10, hp_11, hp_12, hp_13, hp_14, hp_15, hp_16, hp_17, hp_18, hp_19, hp_20, hp_22, hp_23, hp_24, hp_25, hp_26, hp_27, hp_28, hp_29, hp_30, hp_31, hp_32, hp_33, hp_34, hp_35, hf0_5, hf0_6, hf0_7, hf1_1, hf3_0, hf3_2, hf3_6, hf10_0, hf10_2, hf10_6, hf17_3, hf17_4, hf20_3, hf20_4, upd_su, updL_su]
  have e := lo 0 (Nat.zero_le _) (G 8) (fun j hj => absurd hj (Nat.not_lt_zero _))
  have eG : su (su G 3 (su (G 3) 6 (nI 0))) 8 (G 8) = su G 3 (su (G 3) 6 (nI 0)) := su_self (su G 3 (su (G 3) 6 (nI 0))) 8
  rw [eG] at e
  exact ⟨⟨e⟩⟩
def N_forget (S : Nat → Nat → Nat) : Nat → Nat → Nat := su S 0 (su (S 0) 2 0)
theorem lf_0 {S : Nat → Nat → Nat} (h : S 0 2 = 0) (v k : Nat) : lf S v k = 15 := by
  have e : ∀ q, ob S v k q = true := fun q => decide_eq_true (fun j hj => by omega)
  unfold lf
  rw [e, e, e, e]
  rfl
theorem so_0 {S : Nat → Nat → Nat} (h : S 0 2 = 0) (v : Nat) : so S v = 0 := by
  unfold so
  rw [h]
  rfl
set_option maxRecDepth 100000 in
set_option maxHeartbeats 4000000 in
theorem f_forget (hC : sm_C 2 CT) (hR : RS c S) (hI : Ic S G) (hQ : ∀ G', eqx clsP G G' → Ic (N_forget S) G' → Q (some (.int (nI (S 0 2)))) (hp G' L)) : CT 52 [.ref 0] (hp G L) Q := by
  obtain ⟨i1, i2, i3, i4, i5⟩ := id hI
  obtain ⟨e1, e2, e3, e4, e5, e6, e7⟩ := id i1
  refine sm_meth hC [some (.ref 0), none] rfl rfl rfl ?_
  refine sm_body [] 60 sm_k52 (fun CT K hC hK => ?_)
  repeat' first
    | (with_reducible refine And.intro ?_ ?_)
    | ((with_reducible intro h9); first | exact absurd h9 (by decide) | skip)
    | (with_reducible exact zn_in (by omega) (by decide))
    | (with_reducible exact z01) | (with_reducible exact z11) | (with_reducible exact zb01 _)
    | (with_reducible exact zn_inb (by omega) (by decide))
    | (with_reducible exact zn_ina (by omega) (by decide))
    | (with_reducible exact zn_inc (by omega) (by decide))
    | ((conv => whnf); first | (with_reducible refine And.intro ?_ ?_) | ((with_reducible intro h9); first | exact absurd h9 (by decide) | skip) | (with_reducible refine hK _ _ _ _ (sm_un ?_)) | (with_reducible refine s_clearSeen (hC.mono (by omega)) (fun x y hx hy => ?_)))
  conv => whnf
  simp only [hp_0, hp_1, hp_2, hp_3, hp_4, hp_5, hp_6, hp_7, hp_8, hp_9, hp_10, hp_11, hp_12, hp_13, hp_14, hp_15, hp_16, hp_17, hp_18, hp_19, hp_20, hp_22, hp_23, hp_24, hp_25, hp_26, hp_27, hp_28, hp_29, hp_30, hp_31, hp_32, hp_33, hp_34, hp_35, hf0_5, hf0_6, hf0_7, hf1_1, hf3_0, hf3_2, hf3_6, hf10_0, hf10_2, hf10_6, hf17_3, hf17_4, hf20_3, hf20_4, upd_su, updL_su, e3]
  refine hQ _ (eqx_su 17 _ rfl (eqx_su 9 _ rfl (eqx_su 8 _ rfl (eqx_su 3 _ rfl eqx_rfl)))) ⟨⟨e1, e2, rfl, e4, e5, fun v hv => ?_, fun v hv k hk => ?_⟩, i2, i3, Or.inr rfl, fun h => hF_sim ⟨rfl, rfl, rfl, rfl, rfl, rfl, rfl, rfl, rfl, rfl⟩ (i5 h)⟩
  · rw [so_0 rfl]; exact hx v hv
  · rw [lf_0 rfl]; exact hy _ (by have hk : k < S 0 0 := hk; have := hR.1.1; omega)
theorem R_forget (hR : RS c S) : RS c (N_forget S) := by
  obtain ⟨a1, a2, a3, a4, a5, a6, a7, a8, a9⟩ := hR
  exact ⟨a1, ⟨Nat.zero_le _, fun k hk => absurd hk (Nat.not_lt_zero _)⟩, a3, a4, a5, a6, a7, a8, fun h => ⟨(a9 h).1, (a9 h).2.1, dR_sim ⟨rfl, rfl, rfl, rfl, rfl, rfl, rfl, rfl, rfl, rfl⟩ (a9 h).2.2.1, nR_sim ⟨rfl, rfl, rfl, rfl, rfl, rfl, rfl, rfl, rfl, rfl⟩ (a9 h).2.2.2⟩⟩
-- see
def okSee (S : Nat → Nat → Nat) (x y z : Int32) : Bool := inb x (S 0 1) && inb y (S 0 0)
def A_see (S : Nat → Nat → Nat) (x y z : Int32) : Int32 := cond (okSee S x y z) (cond (inb z 4) (if S 0 2 = 10 then -104 else nI (S 0 2 + 1)) (-102)) (-101)
def seeS (S : Nat → Nat → Nat) (v k q : Nat) : Nat → Nat → Nat := su (su (su (su S 6 (su (S 6) (S 0 2) v)) 7 (su (S 7) (S 0 2) k)) 8 (su (S 8) (S 0 2) q)) 0 (su (S 0) 2 (S 0 2 + 1))
def N_see (S : Nat → Nat → Nat) (x y z : Int32) : Nat → Nat → Nat := cond (okSee S x y z) (cond (inb z 4) (if S 0 2 = 10 then S else seeS S x.toNatClampNeg y.toNatClampNeg z.toNatClampNeg) S) S
theorem ob_see {S : Nat → Nat → Nat} {v k q a b d : Nat} : ob (seeS S v k q) a b d = (ob S a b d && (!(Nat.beq v a && Nat.beq k b) || Nat.beq q d)) := by
  have e : (∀ j, j < S 0 2 + 1 → su (S 6) (S 0 2) v j = a → su (S 7) (S 0 2) k j = b → su (S 8) (S 0 2) q j = d) ↔ ((∀ j, j < S 0 2 → S 6 j = a → S 7 j = b → S 8 j = d) ∧ (v = a → k = b → q = d)) := by
    constructor
    · intro h
      refine ⟨fun j hj e1 e2 => ?_, fun e1 e2 => ?_⟩
      · have := h j (by omega)
        rw [su_ne _ _ (by omega), su_ne _ _ (by omega), su_ne _ _ (by omega)] at this
        exact this e1 e2
      · have := h (S 0 2) (by omega)
        rw [su_eq, su_eq, su_eq] at this
        exact this e1 e2
    · rintro ⟨h1, h2⟩ j hj
      by_cases e : j = S 0 2
      · subst e
        rw [su_eq, su_eq, su_eq]
        exact h2
      · rw [su_ne _ _ e, su_ne _ _ e, su_ne _ _ e]
        exact h1 j (by omega)
  have e2 : (!(Nat.beq v a && Nat.beq k b) || Nat.beq q d) = decide (v = a → k = b → q = d) := by
    by_cases h1 : v = a <;> by_cases h2 : k = b <;> by_cases h3 : q = d <;> simp [h1, h2, h3, beq_t, beq_f]
  rw [e2]
  show decide (∀ j, j < S 0 2 + 1 → su (S 6) (S 0 2) v j = a → su (S 7) (S 0 2) k j = b → su (S 8) (S 0 2) q j = d) = _
  unfold ob
  rw [← Bool.decide_and]
  exact decide_eq_decide.mpr e
theorem lf_see {S : Nat → Nat → Nat} {v k q a b : Nat} (hq : q < 4) : lf (seeS S v k q) a b = if v = a ∧ k = b then lf S a b &&& 2 ^ q else lf S a b := by
  have e1 : ∀ d, ob (seeS S v k q) a b d = (ob S a b d && (!(Nat.beq v a && Nat.beq k b) || Nat.beq q d)) := fun d => ob_see
  unfold lf
  simp only [e1]
  by_cases h : v = a ∧ k = b
  · rw [if_t h, beq_t h.1, beq_t h.2]
    have : ∀ b0 b1 b2 b3 : Bool, ∀ q, q < 4 → bn (b0 && (!(true && true) || Nat.beq q 0)) + 2 * bn (b1 && (!(true && true) || Nat.beq q 1)) + 4 * bn (b2 && (!(true && true) || Nat.beq q 2)) + 8 * bn (b3 && (!(true && true) || Nat.beq q 3)) = (bn b0 + 2 * bn b1 + 4 * bn b2 + 8 * bn b3) &&& 2 ^ q := by decide
    exact this _ _ _ _ q hq
  · rw [if_f h]
    have : (Nat.beq v a && Nat.beq k b) = false := by
      by_cases h1 : v = a
      · have h2 : k ≠ b := fun e => h ⟨h1, e⟩
        rw [beq_f h2, Bool.and_false]
      · rw [beq_f h1, Bool.false_and]
    simp only [this, Bool.not_false, Bool.true_or, Bool.and_true]
theorem so_see {S : Nat → Nat → Nat} {v k q a : Nat} : so (seeS S v k q) a = so S a + bn (Nat.beq v a) := by
  show ct (fun j => Nat.beq (su (S 6) (S 0 2) v j) a) (S 0 2 + 1) = _
  rw [ct, su_eq]
  congr 1
  exact ct_congr (fun i hi => by rw [su_ne _ _ (by omega)])
end MOVES2
