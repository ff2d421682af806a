/-! Calls that change the state: blank, forget, oil, wind, letter. -/
section MOVES
variable {CT : sm_CT} {G : Nat → Nat → Int32} {L : Nat → Nat → Int64} {Q : sm_Q} {S : Nat → Nat → Nat} {c : Nat} {h : sm_H}
def N_blank (S : Nat → Nat → Nat) : Nat → Nat → Nat := su S 0 (su (S 0) 3 0)
theorem R_blank (hR : RS c S) : RS c (N_blank S) := by
  obtain ⟨a1, a2, a3, a4, a5, a6, a7, a8, a9⟩ := hR
  exact ⟨dR_sim ⟨rfl, rfl, rfl, rfl, rfl, rfl, rfl, rfl, rfl, rfl⟩ a1, nR_sim ⟨rfl, rfl, rfl, rfl, rfl, rfl, rfl, rfl, rfl, rfl⟩ a2, Nat.zero_le _, fun i hi => absurd hi (Nat.not_lt_zero _), a5, a6, a7, a8, fun h => ⟨(a9 h).1, (a9 h).2.1, dR_sim ⟨rfl, rfl, rfl, rfl, rfl, rfl, rfl, rfl, rfl, rfl⟩ (a9 h).2.2.1, nR_sim ⟨rfl, rfl, rfl, rfl, rfl, rfl, rfl, rfl, rfl, rfl⟩ (a9 h).2.2.2⟩⟩
-- oil
def A_oil (S : Nat → Nat → Nat) (x y : Int32) : Int32 := cond (inb x (S 0 1)) (cond (inb y 4) (nI (S 4 x.toNatClampNeg)) (-102)) (-101)
def N_oil (S : Nat → Nat → Nat) (x y : Int32) : Nat → Nat → Nat := cond (inb x (S 0 1)) (cond (inb y 4) (su S 4 (su (S 4) x.toNatClampNeg y.toNatClampNeg)) S) S
set_option maxRecDepth 100000 in
set_option maxHeartbeats 4000000 in
theorem f_oil (hC : sm_C 2 CT) (hR : RS c S) (hI : Ic S G) {x y : Int32} (hQ : ∀ G', eqx clsP G G' → Ic (N_oil S x y) G' → Q (some (.int (A_oil S x y))) (hp G' L)) : CT 50 [.ref 0, .int x, .int y] (hp G L) Q := by
  obtain ⟨i1, i2, i3, i4, i5⟩ := id hI
  obtain ⟨hdR, hnR, -⟩ := id hR
  obtain ⟨r1, r2, r3, r4⟩ := id hdR
  obtain ⟨e1, e2, e3, e4, e5, e6, e7⟩ := id i1
  refine sm_meth hC [some (.ref 0), some (.int x), some (.int y), none] rfl rfl rfl ?_
  refine sm_body [] 60 sm_k50 (fun CT K hC hK => ?_)
  unfold A_oil N_oil at hQ
  repeat' first
    | (with_reducible refine And.intro ?_ ?_)
    | ((with_reducible intro h9); first | exact absurd h9 (by decide) | (replace h9 := sb_f h9) | (obtain ⟨j, hj, rfl⟩ := inb_ex (x := x) (sb_t h9)) | (obtain ⟨k, hk, rfl⟩ := inb_ex (x := y) (sb_t h9)) | skip)
    | (with_reducible exact zn_in (by omega) (by decide))
    | (with_reducible exact z01) | (with_reducible exact z11) | (with_reducible exact zb01 _)
    | (with_reducible exact zn_inb (by omega) (by decide))
    | (with_reducible exact zn_ina (by omega) (by decide))
    | (with_reducible exact zn_inc (by omega) (by decide))
    | ((conv => whnf); first | (with_reducible refine And.intro ?_ ?_) | ((with_reducible intro h9); first | exact absurd h9 (by decide) | (replace h9 := sb_f h9) | (obtain ⟨j, hj, rfl⟩ := inb_ex (x := x) (sb_t h9)) | (obtain ⟨k, hk, rfl⟩ := inb_ex (x := y) (sb_t h9)) | skip) | (with_reducible refine hK _ _ _ _ (sm_un ?_)) | (with_reducible refine b_hasVane (hC.mono (by omega)) e2 r2 ?_) | (with_reducible refine b_isTwist (hC.mono (by omega)) ?_))
  · conv => whnf
    have cj : (nI j).toNatClampNeg = j := zn_clI (by omega)
    have ck : (nI k).toNatClampNeg = k := zn_clI (by omega)
    simp only [inb_n hj (show S 0 1 < 2 ^ 31 by omega), inb_n hk (show 4 < 2 ^ 31 by decide), cj, ck, cond_true] at hQ
    simp only [hp_0, hp_1, hp_2, hp_3, hp_4, hp_5, hp_6, hp_7, hp_8, hp_9, hp_10, hp_11, hp_12, hp_13, hp_14, hp_15, hp_16, hp_17, hp_18, hp_19, hp_20, hp_22, hp_23, hp_24, hp_25, hp_26, hp_27, hp_28, hp_29, hp_30, hp_31, hp_32, hp_33, hp_34, hp_35, hf0_5, hf0_6, hf0_7, hf1_1, hf3_0, hf3_2, hf3_6, hf10_0, hf10_2, hf10_6, hf17_3, hf17_4, hf20_3, hf20_4, upd_su, updL_su, cj, (e5 j hj).2.2]
    refine hQ _ (eqx_su 17 _ rfl (eqx_su 7 _ rfl eqx_rfl)) ⟨⟨e1, e2, e3, e4, fun i hi => ?_, e6, e7⟩, i2, i3, Or.inr rfl, fun h => ?_⟩
    · refine ⟨(e5 i hi).1, (e5 i hi).2.1, ?_⟩
      show su (G 7) j (nI k) i = nI (su (S 4) j k i)
      rw [su_if, su_if]
      split
      · rfl
      · exact (e5 i hi).2.2
    · exact hF_sim ⟨rfl, rfl, rfl, rfl, rfl, rfl, rfl, rfl, rfl, rfl⟩ (i5 h)
  · simp only [inb_n hj (show S 0 1 < 2 ^ 31 by omega), ‹inb y 4 = false›, cond_true, cond_false] at hQ
    exact hQ G eqx_rfl hI
  · simp only [‹inb x (S 0 1) = false›, cond_false] at hQ
    exact hQ G eqx_rfl hI
theorem R_oil (hR : RS c S) (x y : Int32) : RS c (N_oil S x y) := by
  unfold N_oil
  cases hx : inb x (S 0 1) with
  | false => exact hR
  | true =>
    cases hy : inb y 4 with
    | false => exact hR
    | true =>
      obtain ⟨k, hk, rfl⟩ := inb_ex hy
      obtain ⟨a1, a2, a3, a4, a5, a6, a7, a8, a9⟩ := hR
      refine ⟨⟨a1.1, a1.2.1, a1.2.2.1, fun i hi => ⟨(a1.2.2.2 i hi).1, (a1.2.2.2 i hi).2.1, ?_⟩⟩, a2, a3, a4, a5, a6, a7, a8, fun h => ⟨(a9 h).1, (a9 h).2.1, dR_sim ⟨rfl, rfl, rfl, rfl, rfl, rfl, rfl, rfl, rfl, rfl⟩ (a9 h).2.2.1, nR_sim ⟨rfl, rfl, rfl, rfl, rfl, rfl, rfl, rfl, rfl, rfl⟩ (a9 h).2.2.2⟩⟩
      show su (S 4) x.toNatClampNeg (nI k).toNatClampNeg i < 4
      rw [su_if, zn_clI (by omega)]
      split
      · exact hk
      · exact (a1.2.2.2 i hi).2.2
-- wind
def A_wind (S : Nat → Nat → Nat) (x y : Int32) : Int32 := cond (inb x (S 0 0)) (if y = -1 then wI (S 1 x.toNatClampNeg) else cond (inb y 4) (wI (S 1 x.toNatClampNeg)) (-102)) (-101)
def N_wind (S : Nat → Nat → Nat) (x y : Int32) : Nat → Nat → Nat := cond (inb x (S 0 0)) (if y = -1 then su S 1 (su (S 1) x.toNatClampNeg 4) else cond (inb y 4) (su S 1 (su (S 1) x.toNatClampNeg y.toNatClampNeg)) S) S
theorem if_t {α : Type} {p : Prop} [Decidable p] {x y : α} (h : p) : (if p then x else y) = x := by
  split
  · rfl
  · exact absurd h ‹_›
theorem if_f {α : Type} {p : Prop} [Decidable p] {x y : α} (h : ¬ p) : (if p then x else y) = y := by
  split
  · exact absurd ‹_› h
  · rfl
set_option maxRecDepth 100000 in
set_option maxHeartbeats 4000000 in
theorem f_wind (hC : sm_C 2 CT) (hR : RS c S) (hI : Ic S G) {x y : Int32} (hQ : ∀ G', eqx clsP G G' → Ic (N_wind S x y) G' → Q (some (.int (A_wind S x y))) (hp G' L)) : CT 46 [.ref 0, .int x, .int y] (hp G L) Q := by
  obtain ⟨i1, i2, i3, i4, i5⟩ := id hI
  obtain ⟨hdR, hnR, -⟩ := id hR
  obtain ⟨r1, r2, r3, r4⟩ := id hdR
  obtain ⟨e1, e2, e3, e4, e5, e6, e7⟩ := id i1
  refine sm_meth hC [some (.ref 0), some (.int x), some (.int y), none] rfl rfl rfl ?_
  refine sm_body [] 60 sm_k46 (fun CT K hC hK => ?_)
  unfold A_wind N_wind at hQ
  have key : ∀ j, j < S 0 0 → ∀ k, k ≤ 4 → ∀ G', G' = su (su G 4 (su (G 4) j (wI k))) 17 (su (G 17) 4 (nI 1)) → eqx clsP G G' ∧ Ic (su S 1 (su (S 1) j k)) G' := by
    intro j hj k hk G' eG
    subst eG
    refine ⟨eqx_su 17 _ rfl (eqx_su 4 _ rfl eqx_rfl), ⟨e1, e2, e3, fun i hi => ?_, e5, e6, e7⟩, i2, i3, Or.inr rfl, fun h => hF_sim ⟨rfl, rfl, rfl, rfl, rfl, rfl, rfl, rfl, rfl, rfl⟩ (i5 h)⟩
    show su (G 4) j (wI k) i = wI (su (S 1) j k i)
    rw [su_if, su_if]
    split
    · rfl
    · exact e4 i hi
  repeat' first
    | (with_reducible refine And.intro ?_ ?_)
    | ((with_reducible intro h9); first | exact absurd h9 (by decide) | (replace h9 := sb_f h9) | ((have h8 := inb_ex (x := x) (sb_t h9); obtain ⟨j, hj, rfl⟩ := h8)) | ((have h8 := inb_ex (x := y) (sb_t h9); obtain ⟨k, hk, rfl⟩ := h8)) | skip)
    | (with_reducible exact zn_in (by omega) (by decide))
    | (with_reducible exact z01) | (with_reducible exact z11) | (with_reducible exact zb01 _)
    | (with_reducible exact zn_inb (by omega) (by decide))
    | (with_reducible exact zn_ina (by omega) (by decide))
    | (with_reducible exact zn_inc (by omega) (by decide))
    | ((conv => whnf); first | (with_reducible refine And.intro ?_ ?_) | ((with_reducible intro h9); first | exact absurd h9 (by decide) | (replace h9 := sb_f h9) | ((have h8 := inb_ex (x := x) (sb_t h9); obtain ⟨j, hj, rfl⟩ := h8)) | ((have h8 := inb_ex (x := y) (sb_t h9); obtain ⟨k, hk, rfl⟩ := h8)) | skip) | (with_reducible refine hK _ _ _ _ (sm_un ?_)) | (with_reducible refine b_hasHour (hC.mono (by omega)) e1 r1 ?_) | (with_reducible refine b_isQuarter (hC.mono (by omega)) ?_))
  · conv => whnf
    have cj : (nI j).toNatClampNeg = j := zn_clI (by omega)
    subst h9
    simp only [inb_n hj (show S 0 0 < 2 ^ 31 by omega), cj, cond_true, if_true] at hQ
    simp only [hp_0, hp_1, hp_2, hp_3, hp_4, hp_5, hp_6, hp_7, hp_8, hp_9, hp_10, hp_11, hp_12, hp_13, hp_14, hp_15, hp_16, hp_17, hp_18, hp_19, hp_20, hp_22, hp_23, hp_24, hp_25, hp_26, hp_27, hp_28, hp_29, hp_30, hp_31, hp_32, hp_33, hp_34, hp_35, hf0_5, hf0_6, hf0_7, hf1_1, hf3_0, hf3_2, hf3_6, hf10_0, hf10_2, hf10_6, hf17_3, hf17_4, hf20_3, hf20_4, upd_su, updL_su, cj, e4 j hj]
    have e := key j hj 4 (by decide) _ rfl
    exact hQ _ e.1 e.2
  · conv => whnf
    have cj : (nI j).toNatClampNeg = j := zn_clI (by omega)
    have ck : (nI k).toNatClampNeg = k := zn_clI (by omega)
    simp only [inb_n hj (show S 0 0 < 2 ^ 31 by omega), inb_n hk (show 4 < 2 ^ 31 by decide), cj, ck, cond_true, if_f ‹¬ nI k = -1›] at hQ
    simp only [hp_0, hp_1, hp_2, hp_3, hp_4, hp_5, hp_6, hp_7, hp_8, hp_9, hp_10, hp_11, hp_12, hp_13, hp_14, hp_15, hp_16, hp_17, hp_18, hp_19, hp_20, hp_22, hp_23, hp_24, hp_25, hp_26, hp_27, hp_28, hp_29, hp_30, hp_31, hp_32, hp_33, hp_34, hp_35, hf0_5, hf0_6, hf0_7, hf1_1, hf3_0, hf3_2, hf3_6, hf10_0, hf10_2, hf10_6, hf17_3, hf17_4, hf20_3, hf20_4, upd_su, updL_su, cj, e4 j hj]
    have e := key j hj k (by omega) _ rfl
    rw [wI_t hk] at e
    exact hQ _ e.1 e.2
  · simp only [inb_n hj (show S 0 0 < 2 ^ 31 by omega), h9, cond_true, cond_false, if_f ‹¬ y = -1›] at hQ
    exact hQ G eqx_rfl hI
  · simp only [h9, cond_false] at hQ
    exact hQ G eqx_rfl hI
theorem R_wind (hR : RS c S) (x y : Int32) : RS c (N_wind S x y) := by
  unfold N_wind
  cases hx : inb x (S 0 0) with
  | false => exact hR
  | true =>
    have key : ∀ k, k ≤ 4 → RS c (su S 1 (su (S 1) x.toNatClampNeg k)) := by
      intro k hk
      obtain ⟨a1, a2, a3, a4, a5, a6, a7, a8, a9⟩ := hR
      refine ⟨⟨a1.1, a1.2.1, fun i hi => ?_, a1.2.2.2⟩, a2, a3, a4, a5, a6, a7, a8, fun h => ⟨(a9 h).1, (a9 h).2.1, dR_sim ⟨rfl, rfl, rfl, rfl, rfl, rfl, rfl, rfl, rfl, rfl⟩ (a9 h).2.2.1, nR_sim ⟨rfl, rfl, rfl, rfl, rfl, rfl, rfl, rfl, rfl, rfl⟩ (a9 h).2.2.2⟩⟩
      show su (S 1) x.toNatClampNeg k i ≤ 4
      rw [su_if]
      split
      · exact hk
      · exact a1.2.2.1 i hi
    simp only [cond_true]
    split
    · exact key 4 (by decide)
    · cases hy : inb y 4 with
      | false => exact hR
      | true =>
        obtain ⟨k, hk, rfl⟩ := inb_ex hy
        exact key _ (by rw [zn_clI (by omega)]; omega)
-- letter
def A_letter (S : Nat → Nat → Nat) (x : Int32) : Int32 := if nI 32 ≤ x ∧ x ≤ nI 126 then (if S 0 3 = 8 then -104 else nI (S 0 3 + 1)) else -102
def N_letter (S : Nat → Nat → Nat) (x : Int32) : Nat → Nat → Nat := if nI 32 ≤ x ∧ x ≤ nI 126 then (if S 0 3 = 8 then S else su (su S 0 (su (S 0) 3 (S 0 3 + 1))) 5 (su (S 5) (S 0 3) x.toNatClampNeg)) else S
theorem x126 {x : Int32} (h1 : nI 32 ≤ x) (h2 : x ≤ nI 126) : ∃ j, 32 ≤ j ∧ j ≤ 126 ∧ x = nI j := by
  obtain ⟨j, hj, e⟩ := wi_t (x := x) (y := nI 126) (n := 127) (by decide) rfl (Int32.le_trans (by decide) h1) h2
  subst e
  have := zle (by decide) (by omega) h1
  exact ⟨j, by omega, by omega, rfl⟩
set_option maxRecDepth 100000 in
set_option maxHeartbeats 4000000 in
theorem s_add (hC : sm_C 1 CT) {n x : Nat} (e : G 1 1 = nI n) (hn : n ≤ 8) (hQ : ∀ G', G' = (if n = 8 then G else su (su G 2 (su (G 2) n (nI x))) 1 (su (G 1) 1 (nI (n + 1)))) → Q (some (.int (if n = 8 then nI 0 else nI 1))) (hp G' L)) : CT 22 [.ref 1, .int (nI x)] (hp G L) Q := by
  refine sm_meth hC [some (.ref 1), some (.int (nI x))] rfl rfl rfl ?_
  refine sm_body [] 60 sm_k22 (fun CT K hC hK => ?_)
  repeat' first
    | (with_reducible refine And.intro ?_ ?_)
    | ((with_reducible intro h9); first | exact absurd h9 (by decide) | ((rw [e] at h9; replace h9 := zle (a := 8) (by omega) (by omega) h9)) | ((rw [e] at h9; replace h9 := znle (a := 8) (by omega) (by omega) h9)) | ((rw [e] at h9; replace h9 := zlt (b := 8) (by omega) (by omega) h9)) | ((rw [e] at h9; replace h9 := znl (b := 8) (by omega) (by omega) h9)) | skip)
    | (with_reducible exact zn_in (by omega) (by decide))
    | (with_reducible exact z01) | (with_reducible exact z11) | (with_reducible exact zb01 _)
    | (with_reducible exact zn_inb (by omega) (by decide))
    | (with_reducible exact zn_ina (by omega) (by decide))
    | (with_reducible exact zn_inc (by omega) (by decide))
    | ((conv => whnf); first | (with_reducible refine And.intro ?_ ?_) | ((with_reducible intro h9); first | exact absurd h9 (by decide) | ((rw [e] at h9; replace h9 := zle (a := 8) (by omega) (by omega) h9)) | ((rw [e] at h9; replace h9 := znle (a := 8) (by omega) (by omega) h9)) | ((rw [e] at h9; replace h9 := zlt (b := 8) (by omega) (by omega) h9)) | ((rw [e] at h9; replace h9 := znl (b := 8) (by omega) (by omega) h9)) | skip) | (with_reducible refine hK _ _ _ _ (sm_un ?_)) | ((rw [e]; exact zn_in (by omega) (by decide))))
  · have h8 : ¬ n = 8 := by omega
    have cn : (nI n).toNatClampNeg = n := zn_clI (by omega)
    have e9 := hQ _ rfl
    rw [if_f h8, if_f h8] at e9
    simp only [hp_0, hp_1, hp_2, hp_3, hp_4, hp_5, hp_6, hp_7, hp_8, hp_9, hp_10, hp_11, hp_12, hp_13, hp_14, hp_15, hp_16, hp_17, hp_18, hp_19, hp_20, hp_22, hp_23, hp_24, hp_25, hp_26, hp_27, hp_28, hp_29, hp_30, hp_31, hp_32, hp_33, hp_34, hp_35, hf0_5, hf0_6, hf0_7, hf1_1, hf3_0, hf3_2, hf3_6, hf10_0, hf10_2, hf10_6, hf17_3, hf17_4, hf20_3, hf20_4, upd_su, updL_su, e, cn, nI_add]
    exact e9
  · have h8 : n = 8 := by omega
    have e := hQ _ rfl
    rw [if_t h8, if_t h8] at e
    exact e
set_option maxRecDepth 100000 in
set_option maxHeartbeats 4000000 in
theorem f_letter (hC : sm_C 2 CT) (hR : RS c S) (hI : Ic S G) {x : Int32} (hQ : ∀ G', eqx clsP G G' → Ic (N_letter S x) G' → Q (some (.int (A_letter S x))) (hp G' L)) : CT 42 [.ref 0, .int x] (hp G L) Q := by
  obtain ⟨i1, i2, i3, i4, i5⟩ := id hI
  have r8 := hR.2.2.1
  refine sm_meth hC [some (.ref 0), some (.int x)] rfl rfl rfl ?_
  unfold A_letter N_letter at hQ
  by_cases hx : nI 32 ≤ x ∧ x ≤ nI 126
  · obtain ⟨j, h1, h2, rfl⟩ := x126 hx.1 hx.2
    simp only [if_t hx, zn_clI (show j < 2 ^ 31 by omega)] at hQ
    refine sm_body [] 60 sm_k42 (fun CT K hC hK => ?_)
    repeat' first
      | (with_reducible refine And.intro ?_ ?_)
      | ((with_reducible intro h9); first | exact absurd h9 (by decide) | (exact absurd (Int32.not_lt.mpr hx.1) (Decidable.not_not.mpr h9)) | (exact absurd hx.2 (Int32.not_le.mpr h9)) | skip)
      | (with_reducible exact zn_in (by omega) (by decide))
      | (with_reducible exact z01) | (with_reducible exact z11) | (with_reducible exact zb01 _)
      | (with_reducible exact zn_inb (by omega) (by decide))
      | (with_reducible exact zn_ina (by omega) (by decide))
      | (with_reducible exact zn_inc (by omega) (by decide))
      | ((conv => whnf); first | (with_reducible refine And.intro ?_ ?_) | ((with_reducible intro h9); first | exact absurd h9 (by decide) | (exact absurd (Int32.not_lt.mpr hx.1) (Decidable.not_not.mpr h9)) | (exact absurd hx.2 (Int32.not_le.mpr h9)) | skip) | (with_reducible refine hK _ _ _ _ (sm_un ?_)) | (refine s_add hC i2.1 r8 (fun G' eG => ?_)))
    · have h8 : S 0 3 = 8 := by
        by_cases h : S 0 3 = 8
        · exact h
        · rw [if_f h] at h9; exact absurd h9 (by decide)
      simp only [if_t h8] at hQ eG
      subst eG
      exact hQ _ eqx_rfl hI
    · have h8 : ¬ S 0 3 = 8 := by
        intro h
        rw [if_t h] at h9
        exact h9 rfl
      simp only [if_f h8] at hQ eG
      subst eG
      refine hQ _ (eqx_su 1 _ rfl (eqx_su 2 _ rfl eqx_rfl)) ⟨hF_sim ⟨rfl, rfl, rfl, rfl, rfl, rfl, rfl, rfl, rfl, rfl⟩ i1, ⟨rfl, fun i hi => ?_⟩, i3, (by have e : cT (su (su S 0 (su (S 0) 3 (S 0 3 + 1))) 5 (su (S 5) (S 0 3) j)) G := cT_sim (S := S) (S' := su (su S 0 (su (S 0) 3 (S 0 3 + 1))) 5 (su (S 5) (S 0 3) j)) ⟨rfl, rfl, rfl, rfl, rfl, rfl, rfl, rfl, rfl, rfl⟩ i4; exact e), fun h => hF_sim ⟨rfl, rfl, rfl, rfl, rfl, rfl, rfl, rfl, rfl, rfl⟩ (i5 h)⟩
      show su (G 2) (S 0 3) (nI j) i = nI (su (S 5) (S 0 3) j i)
      have hi : i < S 0 3 + 1 := hi
      rw [su_if, su_if]
      split
      · rfl
      · exact i2.2 i (by omega)
    · exact absurd hx.2 h9
  · simp only [if_f hx] at hQ
    refine sm_body [] 60 sm_k42 (fun CT K hC hK => ?_)
    repeat' first
      | (with_reducible refine And.intro ?_ ?_)
      | ((with_reducible intro h9); first | exact absurd h9 (by decide) | ((have h8 : x ≤ nI 126 := h9; exact absurd ⟨Int32.not_lt.mp ‹¬ x < nI 32›, h8⟩ hx)) | skip)
      | (with_reducible exact zn_in (by omega) (by decide))
      | (with_reducible exact z01) | (with_reducible exact z11) | (with_reducible exact zb01 _)
      | (with_reducible exact zn_inb (by omega) (by decide))
      | (with_reducible exact zn_ina (by omega) (by decide))
      | (with_reducible exact zn_inc (by omega) (by decide))
      | ((conv => whnf); first | (with_reducible refine And.intro ?_ ?_) | ((with_reducible intro h9); first | exact absurd h9 (by decide) | ((have h8 : x ≤ nI 126 := h9; exact absurd ⟨Int32.not_lt.mp ‹¬ x < nI 32›, h8⟩ hx)) | skip) | (with_reducible refine hK _ _ _ _ (sm_un ?_)))
    all_goals exact hQ G eqx_rfl hI
theorem R_letter (hR : RS c S) (x : Int32) : RS c (N_letter S x) := by
  unfold N_letter
  split
  · split
    · exact hR
    · rename_i hx h8
      obtain ⟨j, h1, h2, rfl⟩ := x126 hx.1 hx.2
      obtain ⟨a1, a2, a3, a4, a5, a6, a7, a8, a9⟩ := hR
      refine ⟨dR_sim ⟨rfl, rfl, rfl, rfl, rfl, rfl, rfl, rfl, rfl, rfl⟩ a1, nR_sim ⟨rfl, rfl, rfl, rfl, rfl, rfl, rfl, rfl, rfl, rfl⟩ a2, ?_, fun i hi => ?_, a5, a6, a7, a8, fun h => ⟨(a9 h).1, (a9 h).2.1, dR_sim ⟨rfl, rfl, rfl, rfl, rfl, rfl, rfl, rfl, rfl, rfl⟩ (a9 h).2.2.1, nR_sim ⟨rfl, rfl, rfl, rfl, rfl, rfl, rfl, rfl, rfl, rfl⟩ (a9 h).2.2.2⟩⟩
      · show S 0 3 + 1 ≤ 8
        omega
      · have hi : i < S 0 3 + 1 := hi
        show 32 ≤ su (S 5) (S 0 3) (nI j).toNatClampNeg i ∧ su (S 5) (S 0 3) (nI j).toNatClampNeg i ≤ 126
        rw [su_if, zn_clI (by omega)]
        split
        · omega
        · exact a4 i (by omega)
  · exact hR
end MOVES
