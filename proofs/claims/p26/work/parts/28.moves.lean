/-! Calls that change the state: see, vane. -/
theorem i0 {j n : Nat} (h : j < n) (hn : n ≤ 100) : inb (nI j) n = true := inb_n h (by omega)
theorem ci {j n : Nat} (h : j < n) (hn : n ≤ 100) : (nI j).toNatClampNeg = j := zn_clI (by omega)
section MOVES3
variable {CT : sm_CT} {G : Nat → Nat → Int32} {L : Nat → Nat → Int64} {Q : sm_Q} {S : Nat → Nat → Nat} {c : Nat} {h : sm_H}
set_option maxRecDepth 100000 in
set_option maxHeartbeats 4000000 in
theorem s_witness (hC : sm_C 1 CT) {v k q : Nat} (hv : v < 4) (hk : k < 6) (hQ : Q none (hp (su (su (su G 9 (su (G 9) (v * 6 + k) (G 9 (v * 6 + k) &&& sm_shl (nI 1) (nI q)))) 8 (su (G 8) v (G 8 v + nI 1))) 3 (su (G 3) 6 (G 3 6 + nI 1))) L)) : CT 5 [.ref 3, .int (nI v), .int (nI k), .int (nI q)] (hp G L) Q := by
  refine sm_meth hC [some (.ref 3), some (.int (nI v)), some (.int (nI k)), some (.int (nI q))] rfl rfl rfl ?_
  refine sm_body [] 80 sm_k5 (fun CT K hC hK => ?_)
  repeat' first
    | (with_reducible refine And.intro ?_ ?_)
    | ((with_reducible intro h9); first | exact absurd h9 (by decide) | skip)
    | (with_reducible exact zn_in (by omega) (by decide))
    | (with_reducible exact z01) | (with_reducible exact z11) | (with_reducible exact zb01 _)
    | (with_reducible exact zn_inb (by omega) (by decide))
    | (with_reducible exact zn_ina (by omega) (by decide))
    | (with_reducible exact zn_inc (by omega) (by decide))
    | ((conv => whnf); first | (with_reducible refine And.intro ?_ ?_) | ((with_reducible intro h9); first | exact absurd h9 (by decide) | skip) | (with_reducible refine hK _ _ _ _ (sm_un ?_)))
  conv => whnf
  simp only [pk_mul, nI_add, zn_clI (show v * 6 + k < 2 ^ 31 by omega), zn_clI (show v < 2 ^ 31 by omega), hp_0, hp_1, hp_2, hp_3, hp_4, hp_5, hp_6, hp_7, hp_8, hp_9, hp_10, hp_11, hp_12, hp_13, hp_14, hp_15, hp_16, hp_17, hp_18, hp_19, hp_20, hp_22, hp_23, hp_24, hp_25, hp_26, hp_27, hp_28, hp_29, hp_30, hp_31, hp_32, hp_33, hp_34, hp_35, hf0_5, hf0_6, hf0_7, hf1_1, hf3_0, hf3_2, hf3_6, hf10_0, hf10_2, hf10_6, hf17_3, hf17_4, hf20_3, hf20_4, upd_su, updL_su] at hQ ⊢
  exact hQ
set_option maxRecDepth 100000 in
set_option maxHeartbeats 4000000 in
theorem f_see (hC : sm_C 2 CT) (hR : RS c S) (hI : Ic S G) {x y z : Int32} (hQ : ∀ G', eqx clsP G G' → Ic (N_see S x y z) G' → Q (some (.int (A_see S x y z))) (hp G' L)) : CT 51 [.ref 0, .int x, .int y, .int z] (hp G L) Q := by
  obtain ⟨i1, i2, i3, i4, i5⟩ := id hI
  obtain ⟨hdR, hnR, -⟩ := id hR
  obtain ⟨r1, r2, r3, r4⟩ := id hdR
  have n1 := hnR.1
  obtain ⟨e1, e2, e3, e4, e5, e6, e7⟩ := id i1
  refine sm_meth hC [some (.ref 0), some (.int x), some (.int y), some (.int z)] rfl rfl rfl ?_
  refine sm_body [] 60 sm_k51 (fun CT K hC hK => ?_)
  unfold A_see N_see okSee at hQ
  repeat' first
    | (with_reducible refine And.intro ?_ ?_)
    | ((with_reducible intro h9); first | exact absurd h9 (by decide) | (replace h9 := sb_f h9) | ((have h8 := inb_ex (x := x) (sb_t h9); obtain ⟨j, hj, rfl⟩ := h8)) | ((have h8 := inb_ex (x := y) (sb_t h9); obtain ⟨k, hk, rfl⟩ := h8)) | ((have h8 := inb_ex (x := z) (sb_t h9); obtain ⟨q, hq, rfl⟩ := h8)) | ((rw [e3] at h9; replace h9 := zlt (b := 10) (by omega) (by omega) h9)) | ((rw [e3] at h9; replace h9 := znl (b := 10) (by omega) (by omega) h9)) | skip)
    | (with_reducible exact zn_in (by omega) (by decide))
    | (with_reducible exact z01) | (with_reducible exact z11) | (with_reducible exact zb01 _)
    | (with_reducible exact zn_inb (by omega) (by decide))
    | (with_reducible exact zn_ina (by omega) (by decide))
    | (with_reducible exact zn_inc (by omega) (by decide))
    | ((conv => whnf); first | (with_reducible refine And.intro ?_ ?_) | ((with_reducible intro h9); first | exact absurd h9 (by decide) | (replace h9 := sb_f h9) | ((have h8 := inb_ex (x := x) (sb_t h9); obtain ⟨j, hj, rfl⟩ := h8)) | ((have h8 := inb_ex (x := y) (sb_t h9); obtain ⟨k, hk, rfl⟩ := h8)) | ((have h8 := inb_ex (x := z) (sb_t h9); obtain ⟨q, hq, rfl⟩ := h8)) | ((rw [e3] at h9; replace h9 := zlt (b := 10) (by omega) (by omega) h9)) | ((rw [e3] at h9; replace h9 := znl (b := 10) (by omega) (by omega) h9)) | skip) | (with_reducible refine hK _ _ _ _ (sm_un ?_)) | (with_reducible refine b_hasVane (hC.mono (by omega)) e2 r2 ?_) | (with_reducible refine b_hasHour (hC.mono (by omega)) e1 r1 ?_) | (with_reducible refine b_isQuarter (hC.mono (by omega)) ?_) | (with_reducible refine s_witness (hC.mono (by omega)) (by omega) (by omega) ?_))
  · (simp only [h9, Bool.and_true, Bool.true_and, Bool.false_and, Bool.and_false, cond_true, cond_false] at hQ; exact hQ G eqx_rfl hI)
  · have n10 : ¬ S 0 2 = 10 := by omega
    simp only [i0 hj (show S 0 1 ≤ 100 by omega), i0 hk (show S 0 0 ≤ 100 by omega), i0 hq (show 4 ≤ 100 by decide), ci hj (show S 0 1 ≤ 100 by omega), ci hk (show S 0 0 ≤ 100 by omega), ci hq (show 4 ≤ 100 by decide), if_f n10, Bool.and_true, Bool.true_and, Bool.false_and, Bool.and_false, cond_true, cond_false] at hQ
    conv => whnf
    simp only [hp_0, hp_1, hp_2, hp_3, hp_4, hp_5, hp_6, hp_7, hp_8, hp_9, hp_10, hp_11, hp_12, hp_13, hp_14, hp_15, hp_16, hp_17, hp_18, hp_19, hp_20, hp_22, hp_23, hp_24, hp_25, hp_26, hp_27, hp_28, hp_29, hp_30, hp_31, hp_32, hp_33, hp_34, hp_35, hf0_5, hf0_6, hf0_7, hf1_1, hf3_0, hf3_2, hf3_6, hf10_0, hf10_2, hf10_6, hf17_3, hf17_4, hf20_3, hf20_4, upd_su, updL_su]
    rw [← nI_add, ← e3] at hQ
    refine hQ _ (eqx_su 17 _ rfl (eqx_su 3 _ rfl (eqx_su 8 _ rfl (eqx_su 9 _ rfl eqx_rfl)))) ⟨⟨e1, e2, ?_, e4, e5, fun v hv => ?_, fun v hv b hb => ?_⟩, i2, i3, Or.inr rfl, fun h => hF_sim ⟨rfl, rfl, rfl, rfl, rfl, rfl, rfl, rfl, rfl, rfl⟩ (i5 h)⟩
    · show G 3 6 + nI 1 = nI (S 0 2 + 1)
      rw [e3, nI_add]
    · show su (G 8) j (G 8 j + nI 1) v = _
      rw [so_see, su_if]
      by_cases hvj : v = j
      · subst hvj
        rw [if_pos rfl, beq_t rfl, e6 v hv, nI_add]
        rfl
      · rw [if_neg hvj, beq_f (Ne.symm hvj), e6 v hv]
        rfl
    · have hb : b < S 0 0 := hb
      have r16 := hR.1.1
      show su (G 9) (j * 6 + k) (G 9 (j * 6 + k) &&& sm_shl (nI 1) (nI q)) (v * 6 + b) = _
      rw [lf_see hq, su_if]
      by_cases hc : j = v ∧ k = b
      · rw [if_t hc, if_t (show v * 6 + b = j * 6 + k by omega), hc.1, hc.2, e7 v hv b hb, zn_shl (by omega), Nat.one_mul, zn_and]
      · rw [if_f hc, if_f (show ¬ v * 6 + b = j * 6 + k by omega), e7 v hv b hb]
  · (simp only [i0 hj (show S 0 1 ≤ 100 by omega), i0 hk (show S 0 0 ≤ 100 by omega), i0 hq (show 4 ≤ 100 by decide), if_t (show S 0 2 = 10 by omega), Bool.and_true, Bool.true_and, Bool.false_and, Bool.and_false, cond_true, cond_false] at hQ; exact hQ G eqx_rfl hI)
  · (simp only [i0 hj (show S 0 1 ≤ 100 by omega), i0 hk (show S 0 0 ≤ 100 by omega), h9, Bool.and_true, Bool.true_and, Bool.false_and, Bool.and_false, cond_true, cond_false] at hQ; exact hQ G eqx_rfl hI)
  · (simp only [i0 hj (show S 0 1 ≤ 100 by omega), h9, Bool.and_true, Bool.true_and, Bool.false_and, Bool.and_false, cond_true, cond_false] at hQ; exact hQ G eqx_rfl hI)
theorem R_see (hR : RS c S) (x y z : Int32) : RS c (N_see S x y z) := by
  unfold N_see okSee
  cases hx : inb x (S 0 1) with
  | false => exact hR
  | true =>
    cases hy : inb y (S 0 0) with
    | false => exact hR
    | true =>
      cases hz : inb z 4 with
      | false => exact hR
      | true =>
        simp only [Bool.and_true, cond_true]
        split
        · exact hR
        · rename_i h10
          obtain ⟨j, hj, rfl⟩ := inb_ex hx
          obtain ⟨k, hk, rfl⟩ := inb_ex hy
          obtain ⟨q, hq, rfl⟩ := inb_ex hz
          obtain ⟨a1, a2, a3, a4, a5, a6, a7, a8, a9⟩ := hR
          have h4 := a1.2.1
          have h6 := a1.1
          have n1 := a2.1
          rw [ci hj (by omega), ci hk (by omega), ci hq (by decide)]
          refine ⟨a1, ⟨?_, fun i hi => ?_⟩, a3, a4, a5, a6, a7, a8, fun h => ⟨(a9 h).1, (a9 h).2.1, dR_sim ⟨rfl, rfl, rfl, rfl, rfl, rfl, rfl, rfl, rfl, rfl⟩ (a9 h).2.2.1, nR_sim ⟨rfl, rfl, rfl, rfl, rfl, rfl, rfl, rfl, rfl, rfl⟩ (a9 h).2.2.2⟩⟩
          · show S 0 2 + 1 ≤ 10
            omega
          · have hi : i < S 0 2 + 1 := hi
            show su (S 6) (S 0 2) j i < S 0 1 ∧ su (S 7) (S 0 2) k i < S 0 0 ∧ su (S 8) (S 0 2) q i < 4
            simp only [su_if]
            split
            · exact ⟨hj, hk, hq⟩
            · exact a2.2 i (by omega)
-- vane
def okVane (x y z : Int32) : Bool := inb x 5 && (inb y 4 && inb z 4)
def A_vane (S : Nat → Nat → Nat) (x y z : Int32) : Int32 := cond (okVane x y z) (if S 0 0 = 0 then -103 else if S 0 1 = 4 then -104 else nI (S 0 1)) (-102)
def vaneS (S : Nat → Nat → Nat) (k a t : Nat) : Nat → Nat → Nat := su (su (su (su S 2 (su (S 2) (S 0 1) k)) 3 (su (S 3) (S 0 1) a)) 4 (su (S 4) (S 0 1) t)) 0 (su (S 0) 1 (S 0 1 + 1))
def N_vane (S : Nat → Nat → Nat) (x y z : Int32) : Nat → Nat → Nat := cond (okVane x y z) (if S 0 0 = 0 then S else if S 0 1 = 4 then S else vaneS S x.toNatClampNeg y.toNatClampNeg z.toNatClampNeg) S
set_option maxRecDepth 100000 in
set_option maxHeartbeats 4000000 in
theorem s_raise (hC : sm_C 1 CT) {k a t n : Nat} (e : G 3 2 = nI n) (hn : n < 4) (hQ : Q none (hp (su (su (su (su G 5 (su (G 5) n (nI k))) 6 (su (G 6) n (nI a))) 7 (su (G 7) n (nI t))) 3 (su (G 3) 2 (nI (n + 1)))) L)) : CT 4 [.ref 3, .int (nI k), .int (nI a), .int (nI t)] (hp G L) Q := by
  refine sm_meth hC [some (.ref 3), some (.int (nI k)), some (.int (nI a)), some (.int (nI t))] rfl rfl rfl ?_
  refine sm_body [] 80 sm_k4 (fun CT K hC hK => ?_)
  have cn : (nI n).toNatClampNeg = n := zn_clI (by omega)
  repeat' first
    | (with_reducible refine And.intro ?_ ?_)
    | ((with_reducible intro h9); first | exact absurd h9 (by decide) | ((rw [e] at h9; replace h9 := zlt (b := 4) (by omega) (by omega) h9)) | ((rw [e] at h9; replace h9 := znl (b := 4) (by omega) (by omega) h9; exfalso; omega)) | skip)
    | (with_reducible exact zn_in (by omega) (by decide))
    | (with_reducible exact z01) | (with_reducible exact z11) | (with_reducible exact zb01 _)
    | (with_reducible exact zn_inb (by omega) (by decide))
    | (with_reducible exact zn_ina (by omega) (by decide))
    | (with_reducible exact zn_inc (by omega) (by decide))
    | ((conv => whnf); first | (with_reducible refine And.intro ?_ ?_) | ((with_reducible intro h9); first | exact absurd h9 (by decide) | ((rw [e] at h9; replace h9 := zlt (b := 4) (by omega) (by omega) h9)) | ((rw [e] at h9; replace h9 := znl (b := 4) (by omega) (by omega) h9; exfalso; omega)) | skip) | (with_reducible refine hK _ _ _ _ (sm_un ?_)) | ((rw [e]; exact zn_in (by omega) (by decide))))
  conv => whnf
  simp only [hp_0, hp_1, hp_2, hp_3, hp_4, hp_5, hp_6, hp_7, hp_8, hp_9, hp_10, hp_11, hp_12, hp_13, hp_14, hp_15, hp_16, hp_17, hp_18, hp_19, hp_20, hp_22, hp_23, hp_24, hp_25, hp_26, hp_27, hp_28, hp_29, hp_30, hp_31, hp_32, hp_33, hp_34, hp_35, hf0_5, hf0_6, hf0_7, hf1_1, hf3_0, hf3_2, hf3_6, hf10_0, hf10_2, hf10_6, hf17_3, hf17_4, hf20_3, hf20_4, upd_su, updL_su, e, cn, nI_add]
  exact hQ
set_option maxRecDepth 100000 in
set_option maxHeartbeats 4000000 in
theorem f_vane (hC : sm_C 2 CT) (hR : RS c S) (hI : Ic S G) {x y z : Int32} (hQ : ∀ G', eqx clsP G G' → Ic (N_vane S x y z) G' → Q (some (.int (A_vane S x y z))) (hp G' L)) : CT 47 [.ref 0, .int x, .int y, .int z] (hp G L) Q := by
  obtain ⟨i1, i2, i3, i4, i5⟩ := id hI
  obtain ⟨hdR, hnR, -⟩ := id hR
  obtain ⟨r1, r2, r3, r4⟩ := id hdR
  obtain ⟨e1, e2, e3, e4, e5, e6, e7⟩ := id i1
  refine sm_meth hC [some (.ref 0), some (.int x), some (.int y), some (.int z)] rfl rfl rfl ?_
  refine sm_body [] 60 sm_k47 (fun CT K hC hK => ?_)
  unfold A_vane N_vane okVane at hQ
  repeat' first
    | (with_reducible refine And.intro ?_ ?_)
    | ((with_reducible intro h9); first | exact absurd h9 (by decide) | (replace h9 := sb_f h9) | ((have h8 := inb_ex (x := x) (sb_t h9); obtain ⟨j, hj, rfl⟩ := h8)) | ((have h8 := inb_ex (x := y) (sb_t h9); obtain ⟨k, hk, rfl⟩ := h8)) | ((have h8 := inb_ex (x := z) (sb_t h9); obtain ⟨q, hq, rfl⟩ := h8)) | ((rw [e1] at h9; replace h9 := zeq (by omega) (by omega) h9)) | ((rw [e1] at h9; replace h9 := zneq h9)) | ((rw [e2] at h9; replace h9 := zlt (b := 4) (by omega) (by omega) h9)) | ((rw [e2] at h9; replace h9 := znl (b := 4) (by omega) (by omega) h9)) | skip)
    | (with_reducible exact zn_in (by omega) (by decide))
    | (with_reducible exact z01) | (with_reducible exact z11) | (with_reducible exact zb01 _)
    | (with_reducible exact zn_inb (by omega) (by decide))
    | (with_reducible exact zn_ina (by omega) (by decide))
    | (with_reducible exact zn_inc (by omega) (by decide))
    | ((conv => whnf); first | (with_reducible refine And.intro ?_ ?_) | ((with_reducible intro h9); first | exact absurd h9 (by decide) | (replace h9 := sb_f h9) | ((have h8 := inb_ex (x := x) (sb_t h9); obtain ⟨j, hj, rfl⟩ := h8)) | ((have h8 := inb_ex (x := y) (sb_t h9); obtain ⟨k, hk, rfl⟩ := h8)) | ((have h8 := inb_ex (x := z) (sb_t h9); obtain ⟨q, hq, rfl⟩ := h8)) | ((rw [e1] at h9; replace h9 := zeq (by omega) (by omega) h9)) | ((rw [e1] at h9; replace h9 := zneq h9)) | ((rw [e2] at h9; replace h9 := zlt (b := 4) (by omega) (by omega) h9)) | ((rw [e2] at h9; replace h9 := znl (b := 4) (by omega) (by omega) h9)) | skip) | (with_reducible refine hK _ _ _ _ (sm_un ?_)) | (with_reducible refine b_isKind (hC.mono (by omega)) ?_) | (with_reducible refine b_isQuarter (hC.mono (by omega)) ?_) | (with_reducible refine b_isTwist (hC.mono (by omega)) ?_) | (with_reducible refine s_raise (hC.mono (by omega)) e2 ‹_› ?_))
  · (simp only [h9, Bool.and_true, Bool.true_and, Bool.false_and, Bool.and_false, cond_true, cond_false] at hQ; exact hQ G eqx_rfl hI)
  · (simp only [i0 hj (show 5 ≤ 100 by decide), h9, Bool.and_true, Bool.true_and, Bool.false_and, Bool.and_false, cond_true, cond_false] at hQ; exact hQ G eqx_rfl hI)
  · have n4 : ¬ S 0 1 = 4 := by omega
    simp only [i0 hj (show 5 ≤ 100 by decide), i0 hk (show 4 ≤ 100 by decide), i0 hq (show 4 ≤ 100 by decide), ci hj (show 5 ≤ 100 by decide), ci hk (show 4 ≤ 100 by decide), ci hq (show 4 ≤ 100 by decide), if_f ‹S 0 0 ≠ 0›, if_f n4, Bool.and_true, Bool.true_and, Bool.false_and, Bool.and_false, cond_true, cond_false] at hQ
    conv => whnf
    simp only [hp_0, hp_1, hp_2, hp_3, hp_4, hp_5, hp_6, hp_7, hp_8, hp_9, hp_10, hp_11, hp_12, hp_13, hp_14, hp_15, hp_16, hp_17, hp_18, hp_19, hp_20, hp_22, hp_23, hp_24, hp_25, hp_26, hp_27, hp_28, hp_29, hp_30, hp_31, hp_32, hp_33, hp_34, hp_35, hf0_5, hf0_6, hf0_7, hf1_1, hf3_0, hf3_2, hf3_6, hf10_0, hf10_2, hf10_6, hf17_3, hf17_4, hf20_3, hf20_4, upd_su, updL_su]
    refine zq ?_ (hQ _ (eqx_su 17 _ rfl (eqx_su 3 _ rfl (eqx_su 7 _ rfl (eqx_su 6 _ rfl (eqx_su 5 _ rfl eqx_rfl))))) ⟨⟨e1, rfl, e3, e4, fun i hi => ?_, e6, e7⟩, i2, i3, Or.inr rfl, fun h => ?_⟩)
    · show nI (S 0 1 + 1) - nI 1 = nI (S 0 1)
      rw [pk_sub (by omega)]
      rfl
    · have hi : i < S 0 1 + 1 := hi
      show su (G 5) (S 0 1) (nI j) i = nI (su (S 2) (S 0 1) j i) ∧ su (G 6) (S 0 1) (nI k) i = nI (su (S 3) (S 0 1) k i) ∧ su (G 7) (S 0 1) (nI q) i = nI (su (S 4) (S 0 1) q i)
      simp only [su_if]
      split
      · exact ⟨rfl, rfl, rfl⟩
      · exact e5 i (by omega)
    · obtain ⟨q1, q2, q3, q4, q5, q6, q7⟩ := i5 h
      have hle := (hR.2.2.2.2.2.2.2.2 h).2.1
      refine ⟨q1, q2, q3, q4, fun i hi => ?_, q6, q7⟩
      have hi : i < S 0 7 := hi
      have q := q5 i hi
      refine ⟨?_, ?_, q.2.2⟩
      · show G 12 i = nI (su (S 2) (S 0 1) j i)
        rw [su_ne _ _ (by omega)]
        exact q.1
      · show G 13 i = nI (su (S 3) (S 0 1) k i)
        rw [su_ne _ _ (by omega)]
        exact q.2.1
  · (simp only [i0 hj (show 5 ≤ 100 by decide), i0 hk (show 4 ≤ 100 by decide), i0 hq (show 4 ≤ 100 by decide), if_f ‹S 0 0 ≠ 0›, if_t (show S 0 1 = 4 by omega), Bool.and_true, Bool.true_and, Bool.false_and, Bool.and_false, cond_true, cond_false] at hQ; exact hQ G eqx_rfl hI)
  · (simp only [i0 hj (show 5 ≤ 100 by decide), i0 hk (show 4 ≤ 100 by decide), i0 hq (show 4 ≤ 100 by decide), if_t h9, Bool.and_true, Bool.true_and, Bool.false_and, Bool.and_false, cond_true, cond_false] at hQ; exact hQ G eqx_rfl hI)
  · (simp only [i0 hj (show 5 ≤ 100 by decide), i0 hk (show 4 ≤ 100 by decide), h9, Bool.and_true, Bool.true_and, Bool.false_and, Bool.and_false, cond_true, cond_false] at hQ; exact hQ G eqx_rfl hI)
theorem R_vane (hR : RS c S) (x y z : Int32) : RS c (N_vane S x y z) := by
  unfold N_vane okVane
  cases hx : inb x 5 with
  | false => exact hR
  | true =>
    cases hy : inb y 4 with
    | false => exact hR
    | true =>
      cases hz : inb z 4 with
      | false => exact hR
      | true =>
        simp only [Bool.and_true, cond_true]
        split
        · exact hR
        · split
          · exact hR
          · rename_i h0 h4
            obtain ⟨j, hj, rfl⟩ := inb_ex hx
            obtain ⟨k, hk, rfl⟩ := inb_ex hy
            obtain ⟨q, hq, rfl⟩ := inb_ex hz
            obtain ⟨a1, a2, a3, a4, a5, a6, a7, a8, a9⟩ := hR
            have b4 := a1.2.1
            rw [ci hj (by decide), ci hk (by decide), ci hq (by decide)]
            refine ⟨⟨a1.1, ?_, a1.2.2.1, fun i hi => ?_⟩, ⟨a2.1, fun i hi => ?_⟩, a3, a4, a5, a6, a7, fun h => absurd h h0, fun h => ?_⟩
            · show S 0 1 + 1 ≤ 4
              omega
            · have hi : i < S 0 1 + 1 := hi
              show su (S 2) (S 0 1) j i ≤ 4 ∧ su (S 3) (S 0 1) k i < 4 ∧ su (S 4) (S 0 1) q i < 4
              simp only [su_if]
              split
              · exact ⟨by omega, hk, hq⟩
              · exact a1.2.2.2 i (by omega)
            · have e := a2.2 i hi
              exact ⟨Nat.lt_succ_of_lt e.1, e.2⟩
            · obtain ⟨u1, u2, u3, u4⟩ := a9 h
              refine ⟨u1, Nat.le_succ_of_le u2, ⟨u3.1, u3.2.1, u3.2.2.1, fun i hi => ?_⟩, u4⟩
              have hi : i < S 0 7 := hi
              have e := u3.2.2.2 i hi
              show su (S 2) (S 0 1) j i ≤ 4 ∧ su (S 3) (S 0 1) k i < 4 ∧ S 10 i < 4
              rw [su_ne _ _ (by omega), su_ne _ _ (by omega)]
              exact e
end MOVES3
