/-! proof of the class: which set tells. -/
theorem bq_pos {c : Nat → Nat} : ∀ {n}, bq n c = bq n (fun v => bn (decide (0 < c v)))
  | 0 => rfl
  | n + 1 => by
    rw [bq, bq, bq_pos (c := c) (n := n)]
    by_cases h : 0 < c n
    · rw [if_t h, if_t (by rw [decide_eq_true h]; decide)]
    · rw [if_f h, if_f (by rw [decide_eq_false h]; decide)]
theorem pc_bq {c : Nat → Nat} : pc (bq 4 c) = ct (fun v => decide (0 < c v)) 4 := by
  have h := bq_lt (c := c) 4
  rw [pc_16 _ (by omega)]
  apply ct_congr
  intro v hv
  rw [bq_pos, inS_bq (f := fun v => decide (0 < c v)), decide_eq_true hv, Bool.true_and]
theorem ct_one {P : Nat → Bool} {q0 : Nat} (h4 : q0 < 4) (h : P q0 = true) : ct P 4 = 1 ↔ ∀ q, q < 4 → P q = true → q = q0 := by
  have e : ct P 4 = bn (P 0) + bn (P 1) + bn (P 2) + bn (P 3) := by simp only [ct, Nat.zero_add]
  have l0 := bn_lt (P 0)
  have l1 := bn_lt (P 1)
  have l2 := bn_lt (P 2)
  have l3 := bn_lt (P 3)
  have b0 := bn_t h
  rw [e]
  constructor
  · intro hs q hq hP
    have b1 := bn_t hP
    have hc : q0 = 0 ∨ q0 = 1 ∨ q0 = 2 ∨ q0 = 3 := by omega
    have hd : q = 0 ∨ q = 1 ∨ q = 2 ∨ q = 3 := by omega
    rcases hc with rfl | rfl | rfl | rfl <;> rcases hd with rfl | rfl | rfl | rfl <;> omega
  · intro z
    have hz : ∀ q, q < 4 → q ≠ q0 → bn (P q) = 0 := fun q hq hne => by
      cases hP : P q with
      | false => rfl
      | true => exact absurd (z q hq hP) hne
    have hc : q0 = 0 ∨ q0 = 1 ∨ q0 = 2 ∨ q0 = 3 := by omega
    rcases hc with rfl | rfl | rfl | rfl
    · have := hz 1 (by decide) (by decide); have := hz 2 (by decide) (by decide); have := hz 3 (by decide) (by decide); omega
    · have := hz 0 (by decide) (by decide); have := hz 2 (by decide) (by decide); have := hz 3 (by decide) (by decide); omega
    · have := hz 0 (by decide) (by decide); have := hz 1 (by decide) (by decide); have := hz 3 (by decide) (by decide); omega
    · have := hz 0 (by decide) (by decide); have := hz 1 (by decide) (by decide); have := hz 2 (by decide) (by decide); omega
theorem cnt_ne {S : Nat → Nat → Nat} (hR : dR S) {P : (Nat → Nat) → Bool} : cnt S P ≠ 0 ↔ ∃ c, c < nc S ∧ ft S (wd S c) = true ∧ P (wd S c) = true := by
  rw [cnt_codes hR, sg_ne]
  constructor
  · rintro ⟨c, hc, h⟩
    refine ⟨c, hc, ?_⟩
    cases h1 : ft S (wd S c) with
    | false => rw [h1] at h; exact absurd rfl h
    | true =>
      cases h2 : P (wd S c) with
      | false => rw [h1, h2] at h; exact absurd rfl h
      | true => exact ⟨rfl, rfl⟩
  · rintro ⟨c, hc, h1, h2⟩
    refine ⟨c, hc, ?_⟩
    rw [h1, h2]
    decide
theorem aBl_ne {S : Nat → Nat → Nat} (hR : dR S) {k q : Nat} : decide (0 < aBl S k q) = true ↔ ∃ c, c < nc S ∧ ft S (wd S c) = true ∧ wd S c k = q := by
  rw [decide_eq_true_iff]
  unfold aBl
  rw [Nat.pos_iff_ne_zero, cnt_ne hR]
  constructor
  · rintro ⟨c, h1, h2, h3⟩
    exact ⟨c, h1, h2, Nat.eq_of_beq_eq_true h3⟩
  · rintro ⟨c, h1, h2, h3⟩
    exact ⟨c, h1, h2, beq_t h3⟩
theorem inS_0 (v : Nat) : inS 0 v = false := by
  unfold inS
  rw [Nat.zero_div]
  rfl
/-- of all that fits, the wind of hour k is one: the empty set tells -/
theorem bl_TL {S : Nat → Nat → Nat} (hR : dR S) {k : Nat} (h0 : aAll S ≠ 0) : pc (bq 4 (aBl S k)) = 1 ↔ TL S k 0 = true := by
  obtain ⟨c0, hc0, hf0, -⟩ := (cnt_ne hR).mp h0
  have h4 := wd_lt hR c0 k
  rw [pc_bq, ct_one h4 ((aBl_ne hR).mpr ⟨c0, hc0, hf0, rfl⟩)]
  unfold TL
  rw [decide_eq_true_iff]
  constructor
  · intro z a ha b hb hfa hfb _
    rw [z _ (wd_lt hR a k) ((aBl_ne hR).mpr ⟨a, ha, hfa, rfl⟩), z _ (wd_lt hR b k) ((aBl_ne hR).mpr ⟨b, hb, hfb, rfl⟩)]
  · intro z q hq hP
    obtain ⟨c, hc, hf, e⟩ := (aBl_ne hR).mp hP
    rw [← e]
    exact z c hc c0 hc0 hf hf0 (decide_eq_true (fun v _ hx => by rw [inS_0] at hx; exact absurd hx (by decide)))
theorem fw_z {P : Nat → Bool} (h : P 0 = true) : ∀ n, fw P (n + 1) = 0
  | 0 => fw_B ⟨Or.inl rfl, h⟩
  | n + 1 => by
    have ih := fw_z h n
    rw [fw_A (fun z => ?_), ih]
    rw [ih] at z
    rcases z.1 with z | z
    · exact absurd z (by decide)
    · exact absurd z (Nat.not_lt.mpr (Nat.le_trans (Nat.le_of_eq (by decide)) (Nat.zero_le _)))
theorem in_mem : ∀ x, x < 16 → x ≠ 0 → ∃ v, v < 4 ∧ inS x v = true ∧ 2 ^ v ≤ x := by decide +kernel
theorem in_ex {x n : Nat} (hn : n ≤ 4) (h0 : x ≠ 0) (hx : x < 2 ^ n) : ∃ v, v < n ∧ inS x v = true := by
  obtain ⟨v, h1, h2, h3⟩ := in_mem x (by have := pow_vn hn; omega) h0
  refine ⟨v, ?_, h2⟩
  exact (Nat.pow_lt_pow_iff_right (a := 2) (by decide)).mp (by omega)
theorem Ic_w {S G G' : _} (hx : eqx [20, 22, 23, 24, 25, 26, 27, 28, 29] G G') (h : Ic S G) : Ic S G' := by
  unfold Ic hH hK cP cQ cT tl at *
  simp only [hx 0 rfl, hx 1 rfl, hx 2 rfl, hx 3 rfl, hx 4 rfl, hx 5 rfl, hx 6 rfl, hx 7 rfl, hx 8 rfl, hx 9 rfl, hx 10 rfl, hx 11 rfl, hx 12 rfl, hx 13 rfl, hx 14 rfl, hx 15 rfl, hx 16 rfl, hx 17 rfl, hx 18 rfl, hx 19 rfl]
  exact h
section TELL
variable {CT : sm_CT} {G : Nat → Nat → Int32} {L : Nat → Nat → Int64} {Q : sm_Q} {S : Nat → Nat → Nat} {c : Nat} {h : sm_H}
set_option maxRecDepth 100000 in
set_option maxHeartbeats 4000000 in
theorem s_tell (hC : sm_C 14 CT) (hD : cD S G) (hR : dR S) (hL : cL S G) {k x v0 : Nat} (hk : k < S 0 0) (hx : x < 16) (hv0 : v0 < S 0 1) (hx0 : inS x v0 = true) (hQ : ∀ G', eqx [20, 22, 23, 24, 25, 26, 27, 28, 29] G G' → Q (some (.int (sm_b (tw S x k (S 0 0) 0 [fun _ => 0])))) (hp G' L)) : CT 36 [.ref 20, .int (nI x), .int (nI k)] (hp G L) Q := by
  obtain ⟨r1, r2, r3, r4⟩ := id hR
  refine sm_meth hC [some (.ref 20), some (.int (nI x)), some (.int (nI k)), none] rfl rfl rfl ?_
  have lo : ∀ v, v ≤ S 0 1 → ∀ G1, eqx [20, 22, 23, 24, 25, 26, 27, 28, 29] G G1 → G1 20 3 = nI k → G1 20 4 = nI (bz x v) → sm_Wk 13 36 Q none 12 [some (.ref 20), some (.int (nI x)), some (.int (nI k)), some (.int (nI v))] [] (hp G1 L) := by
    refine up _ (fun v hv ih G1 hx1 fk fb => ?_)
    have hD1 := cD_x hx1 rfl hD
    have hL1 := cL_x hx1 rfl hL
    have e2 := hD1.2.1
    have eb := bit_in (x := x) (i := v) (by omega) (by omega)
    have ez : nI (bz x v) ||| sm_shl (nI 3) (nI 2 * nI v) = nI (bz x v + 3 * 4 ^ v) := by
      rw [zn_sh2 (by omega), zn_or]
      exact nI_i (zp_or (f := fun v => cond (inS x v) 3 0) (n := v) (fun _ _ => b34 _) 3)
    refine sm_body [12] 100 sm_k36 (fun CT K hC hK => ?_)
    repeat' first
      | (with_reducible refine And.intro ?_ ?_)
      | ((with_reducible intro h9); first | exact absurd h9 (by decide) | (replace h9 := nle e2 (by omega) (by omega) h9) | (replace h9 := yle e2 (by omega) (by omega) h9) | ((rw [eb] at h9; replace h9 := bn1 h9)) | ((rw [eb] at h9; replace h9 := bn0 h9)) | skip)
      | (with_reducible exact zn_in (by omega) (by decide))
      | (with_reducible exact z01) | (with_reducible exact z11) | (with_reducible exact zb01 _)
      | (with_reducible exact zn_inb (by omega) (by decide))
      | (with_reducible exact zn_ina (by omega) (by decide))
      | (with_reducible exact zn_inc (by omega) (by decide))
      | ((conv => whnf); first | (with_reducible refine And.intro ?_ ?_) | ((with_reducible intro h9); first | exact absurd h9 (by decide) | (replace h9 := nle e2 (by omega) (by omega) h9) | (replace h9 := yle e2 (by omega) (by omega) h9) | ((rw [eb] at h9; replace h9 := bn1 h9)) | ((rw [eb] at h9; replace h9 := bn0 h9)) | skip) | (with_reducible refine hK _ _ _ _ (sm_un ?_)) | (refine ⟨22, rfl, ?_⟩) | (with_reducible refine s_startPose (hC.mono (by omega)) hD1 hR ?_))
    · obtain rfl : v = S 0 1 := by omega
      conv => whnf
      simp only [hp_0, hp_1, hp_2, hp_3, hp_4, hp_5, hp_6, hp_7, hp_8, hp_9, hp_10, hp_11, hp_12, hp_13, hp_14, hp_15, hp_16, hp_17, hp_18, hp_19, hp_20, hp_22, hp_23, hp_24, hp_25, hp_26, hp_27, hp_28, hp_29, hp_30, hp_31, hp_32, hp_33, hp_34, hp_35, hp_36, hp_37, hp_38, hp_39, hp_40, hp_41, hp_42, hp_43, hp_44, hp_45, hp_46, hp_47, hp_48, hp_49, hf0_5, hf0_6, hf0_7, hf1_1, hf3_0, hf3_2, hf3_6, hf10_0, hf10_2, hf10_6, hf17_3, hf17_4, hf20_3, hf20_4, hf30_0, hf30_1, hf30_3, hf30_7, hf30_11, hf30_12, hf30_20, hf30_22, hf30_23, hf30_24, hf30_25, hf30_21, hf30_31, upd_su, updL_su]
      have i0 : (nI 0).toNatClampNeg = 0 := zn_clI (by decide)
      simp only [i0]
      have hx2 : eqx [20, 22, 23, 24, 25, 26, 27, 28, 29] G1 (su (su G1 22 (su (G1 22) 0 (nI (zp (S 0 1) (S 3))))) 29 (su (G1 29) 0 (nI 1))) := eqx_su 29 _ rfl (eqx_su 22 _ rfl eqx_rfl)
      refine s_told_0 (n := S 0 0) (x := x) (gl := [fun _ => 0]) (hC.mono (by omega)) (cD_x hx2 rfl hD1) hR (cL_x hx2 rfl hL1) (Nat.zero_add _) hk fk fb hv0 hx0 rfl (fun i w hw => ?_) (by decide) (fun w _ i hi => absurd hi (Nat.not_lt_zero _)) (fun G3 hx3 _ => ?_)
      · have h0 : i = 0 := by
          have := (List.getElem?_eq_some_iff.mp hw).1
          have hl : i < 1 := this
          omega
        subst h0
        have hw : (fun _ => 0) = w := Option.some.inj hw
        show su (G1 22) 0 _ 0 = _
        rw [su_eq]
        unfold en
        rw [if_f (Nat.not_lt_zero _), Nat.zero_mul, Nat.zero_add]
        rfl
      · repeat' first
          | (with_reducible refine And.intro ?_ ?_)
          | ((with_reducible intro h9); first | exact absurd h9 (by decide) | skip)
          | (with_reducible exact zn_in (by omega) (by decide))
          | (with_reducible exact z01) | (with_reducible exact z11) | (with_reducible exact zb01 _)
          | (with_reducible exact zn_inb (by omega) (by decide))
          | (with_reducible exact zn_ina (by omega) (by decide))
          | (with_reducible exact zn_inc (by omega) (by decide))
          | ((conv => whnf); first | (with_reducible refine And.intro ?_ ?_) | ((with_reducible intro h9); first | exact absurd h9 (by decide) | skip) | (with_reducible refine hK _ _ _ _ (sm_un ?_)))
        exact hQ G3 (eqx_trans hx1 (eqx_trans hx2 (eqx_sub rfl hx3)))
    · have e := ih ‹v < S 0 1› G1 hx1 fk
      have hb : bz x (v + 1) = bz x v := by
        show bz x v + cond (inS x v) 3 0 * 4 ^ v = _
        rw [h9]
        exact congrArg _ (Nat.zero_mul _)
      rw [hb] at e
      simp only [nI_add]; exact ⟨⟨e fb⟩⟩
    · have hi : inS x v = true := h9
      have e := ih ‹v < S 0 1› (su G1 20 (su (G1 20) 4 (nI (bz x v + 3 * 4 ^ v)))) (eqx_su 20 _ rfl hx1) fk
      have hb : bz x (v + 1) = bz x v + 3 * 4 ^ v := by
        show bz x v + cond (inS x v) 3 0 * 4 ^ v = _
        rw [hi]
        rfl
      rw [hb] at e
      simp only [fb, ez, nI_add, hp_0, hp_1, hp_2, hp_3, hp_4, hp_5, hp_6, hp_7, hp_8, hp_9, hp_10, hp_11, hp_12, hp_13, hp_14, hp_15, hp_16, hp_17, hp_18, hp_19, hp_20, hp_22, hp_23, hp_24, hp_25, hp_26, hp_27, hp_28, hp_29, hp_30, hp_31, hp_32, hp_33, hp_34, hp_35, hp_36, hp_37, hp_38, hp_39, hp_40, hp_41, hp_42, hp_43, hp_44, hp_45, hp_46, hp_47, hp_48, hp_49, hf0_5, hf0_6, hf0_7, hf1_1, hf3_0, hf3_2, hf3_6, hf10_0, hf10_2, hf10_6, hf17_3, hf17_4, hf20_3, hf20_4, hf30_0, hf30_1, hf30_3, hf30_7, hf30_11, hf30_12, hf30_20, hf30_22, hf30_23, hf30_24, hf30_25, hf30_21, hf30_31, upd_su, updL_su]
      exact ⟨⟨e rfl⟩⟩
  refine sm_body [12] 40 sm_k36 (fun CT K hC hK => ?_)
  repeat' first
    | (with_reducible refine And.intro ?_ ?_)
    | ((with_reducible intro h9); first | exact absurd h9 (by decide) | skip)
    | (with_reducible exact zn_in (by omega) (by decide))
    | (with_reducible exact z01) | (with_reducible exact z11) | (with_reducible exact zb01 _)
    | (with_reducible exact zn_inb (by omega) (by decide))
    | (with_reducible exact zn_ina (by omega) (by decide))
    | (with_reducible exact zn_inc (by omega) (by decide))
    | ((conv => whnf); first | (with_reducible refine And.intro ?_ ?_) | ((with_reducible intro h9); first | exact absurd h9 (by decide) | skip) | (with_reducible refine hK _ _ _ _ (sm_un ?_)))
  conv => whnf
  simp only [hp_0, hp_1, hp_2, hp_3, hp_4, hp_5, hp_6, hp_7, hp_8, hp_9, hp_10, hp_11, hp_12, hp_13, hp_14, hp_15, hp_16, hp_17, hp_18, hp_19, hp_20, hp_22, hp_23, hp_24, hp_25, hp_26, hp_27, hp_28, hp_29, hp_30, hp_31, hp_32, hp_33, hp_34, hp_35, hp_36, hp_37, hp_38, hp_39, hp_40, hp_41, hp_42, hp_43, hp_44, hp_45, hp_46, hp_47, hp_48, hp_49, hf0_5, hf0_6, hf0_7, hf1_1, hf3_0, hf3_2, hf3_6, hf10_0, hf10_2, hf10_6, hf17_3, hf17_4, hf20_3, hf20_4, hf30_0, hf30_1, hf30_3, hf30_7, hf30_11, hf30_12, hf30_20, hf30_22, hf30_23, hf30_24, hf30_25, hf30_21, hf30_31, upd_su, updL_su]
  exact ⟨⟨lo 0 (Nat.zero_le _) _ (eqx_su 20 _ rfl (eqx_su 20 _ rfl eqx_rfl)) rfl rfl⟩⟩
/-- the fewest that tell, 16: none -/
def fwK (S : Nat → Nat → Nat) (k : Nat) : Nat := if aAll S = 0 then 16 else fw (TL S k) (2 ^ S 0 1)
set_option maxRecDepth 100000 in
set_option maxHeartbeats 4000000 in
theorem s_fewestW {S' : Nat → Nat → Nat} (hC : sm_C 16 CT) (hdR : dR S) (hnR : nR S) (hs : sim S' S) (hR : RS c S') (hI : Ic S' G) {k : Nat} (hk : k < S 0 0) (hQ : ∀ G', eqx clsP G G' → Ic S' G' → Q (some (.int (bI16 (fwK S k)))) (hp G' L)) : CT 67 [.ref 0, .int (nI k)] (hp G L) Q := by
  obtain ⟨r1, r2, r3, r4⟩ := id hdR
  have hp2 := pow_vn r2
  have es : sm_shl (nI 1) (nI (S 0 1)) = nI (2 ^ S 0 1) := by rw [zn_shl (by omega), Nat.one_mul]
  have hp0 : 0 < 2 ^ S 0 1 := Nat.pow_pos (by decide)
  refine sm_meth hC [some (.ref 0), some (.int (nI k)), none, none] rfl rfl rfl ?_
  have lo : aAll S ≠ 0 → ∀ i, i ≤ 2 ^ S 0 1 → 1 ≤ i → ∀ G1, eqx clsP G G1 → Ic S' G1 → sm_Wk 15 67 Q none 40 [some (.ref 0), some (.int (nI k)), some (.int (bI16 (fw (TL S k) i))), some (.int (nI i))] [] (hp G1 L) := by
    intro h0
    refine up _ (fun i hi ih h1i G1 hx1 hI1 => ?_)
    have hH1 : hH S G1 := hF_sim hs hI1.1
    have hD1 := hH_cD hH1
    have hL1 := hH_cL hH1
    have e2 := hD1.2.1
    have hfw := fw_lt (P := TL S k) i
    have hb16 : fw (TL S k) i ≤ 16 := by omega
    have hex : i < 2 ^ S 0 1 → ∃ v, v < S 0 1 ∧ inS i v = true := fun h => in_ex r2 (by omega) h
    refine sm_body [40] 100 sm_k67 (fun CT K hC hK => ?_)
    repeat' first
      | (with_reducible refine And.intro ?_ ?_)
      | ((with_reducible intro h9); first | exact absurd h9 (by decide) | ((rw [e2, es] at h9; replace h9 := zle (by omega) (by omega) h9)) | ((rw [e2, es] at h9; replace h9 := znle (by omega) (by omega) h9)) | (replace h9 := sb_f h9) | (replace h9 := sb_t h9) | skip)
      | (with_reducible exact zn_in (by omega) (by decide))
      | (with_reducible exact z01) | (with_reducible exact z11) | (with_reducible exact zb01 _)
      | (with_reducible exact zn_inb (by omega) (by decide))
      | (with_reducible exact zn_ina (by omega) (by decide))
      | (with_reducible exact zn_inc (by omega) (by decide))
      | ((conv => whnf); first | (with_reducible refine And.intro ?_ ?_) | ((with_reducible intro h9); first | exact absurd h9 (by decide) | ((rw [e2, es] at h9; replace h9 := zle (by omega) (by omega) h9)) | ((rw [e2, es] at h9; replace h9 := znle (by omega) (by omega) h9)) | (replace h9 := sb_f h9) | (replace h9 := sb_t h9) | skip) | (with_reducible refine hK _ _ _ _ (sm_un ?_)) | (with_reducible refine s_isFewer (hC.mono (by omega)) (by omega) hb16 ?_) | ((obtain ⟨v0, hv0, hx0⟩ := hex ‹i < 2 ^ S 0 1›; refine s_tell (x := i) (hC.mono (by omega)) hD1 hdR hL1 hk (by omega) hv0 hx0 (fun G2 hx2 => ?_); rw [tw_TL hdR hnR])))
    · obtain rfl : i = 2 ^ S 0 1 := by omega
      have e := hQ G1 hx1 hI1
      unfold fwK at e
      rw [if_f h0] at e
      exact e
    · have hz := of_decide_eq_false h9
      have e := ih ‹i < 2 ^ S 0 1› (by omega) G1 hx1 hI1
      rw [fw_A (fun z => hz z.1)] at e
      simp only [nI_add]; exact ⟨⟨e⟩⟩
    · have e := ih ‹i < 2 ^ S 0 1› (by omega) G2 (eqx_trans hx1 (eqx_sub rfl hx2)) (Ic_w hx2 hI1)
      rw [fw_A (fun z => by have hP : TL S k i = false := h9; rw [hP] at z; exact absurd z.2 (by decide))] at e
      simp only [nI_add]; exact ⟨⟨e⟩⟩
    · have hP : TL S k i = true := h9
      have e := ih ‹i < 2 ^ S 0 1› (by omega) G2 (eqx_trans hx1 (eqx_sub rfl hx2)) (Ic_w hx2 hI1)
      rw [fw_B ⟨of_decide_eq_true ‹decide (fw (TL S k) i = 16 ∨ pc i < pc (fw (TL S k) i)) = true›, hP⟩, bI16_n (by omega)] at e
      simp only [nI_add]; exact ⟨⟨e⟩⟩
  refine sm_body [40] 80 sm_k67 (fun CT K hC hK => ?_)
  repeat' first
    | (with_reducible refine And.intro ?_ ?_)
    | ((with_reducible intro h9); first | exact absurd h9 (by decide) | ((rw [tl_all hnR (tl_sim hs ht)] at h9; replace h9 := zneq h9)) | ((rw [tl_all hnR (tl_sim hs ht)] at h9; replace h9 := zeq (aAll31 hdR) (by decide) h9)) | (replace h9 := zneq h9) | (replace h9 := zeq (by rw [pc_bq]; have := ct_le (P := fun v => decide (0 < aBl S k v)) 4; omega) (by decide) h9) | skip)
    | (with_reducible exact zn_in (by omega) (by decide))
    | (with_reducible exact z01) | (with_reducible exact z11) | (with_reducible exact zb01 _)
    | (with_reducible exact zn_inb (by omega) (by decide))
    | (with_reducible exact zn_ina (by omega) (by decide))
    | (with_reducible exact zn_inc (by omega) (by decide))
    | ((conv => whnf); first | (with_reducible refine And.intro ?_ ?_) | ((with_reducible intro h9); first | exact absurd h9 (by decide) | ((rw [tl_all hnR (tl_sim hs ht)] at h9; replace h9 := zneq h9)) | ((rw [tl_all hnR (tl_sim hs ht)] at h9; replace h9 := zeq (aAll31 hdR) (by decide) h9)) | (replace h9 := zneq h9) | (replace h9 := zeq (by rw [pc_bq]; have := ct_le (P := fun v => decide (0 < aBl S k v)) 4; omega) (by decide) h9) | skip) | (with_reducible refine hK _ _ _ _ (sm_un ?_)) | (refine f_refresh (hC.mono (by omega)) hR hI (fun G1 hx1 hI1 ht => ?_)) | (refine s_blown (c := aBl S k) (hC.mono (by omega)) (by omega) (fun q _ => aBl31 hdR k q) (fun q hq => tl_bl hnR (tl_sim hs ht) hk r1 hq) ?_) | (refine s_bitCount (hC.mono (by omega)) (by have := bq_lt (c := aBl S k) 4; omega) ?_))
  · have hb : pc (bq 4 (aBl S k)) ≠ 1 := h9
    have hT : TL S k 0 = false := by
      cases e : TL S k 0 with
      | false => rfl
      | true => exact absurd ((bl_TL hdR ‹aAll S ≠ 0›).mpr e) hb
    have e := lo ‹aAll S ≠ 0› 1 (by omega) (Nat.le_refl _) G1 (eqx_sub rfl hx1) hI1
    rw [show fw (TL S k) 1 = 16 from by rw [fw_A (fun z => by rw [hT] at z; exact absurd z.2 (by decide))]; rfl] at e
    exact ⟨⟨e⟩⟩
  · have hT := (bl_TL hdR ‹aAll S ≠ 0›).mp ‹pc (bq 4 (aBl S k)) = 1›
    have e := hQ G1 (eqx_sub rfl hx1) hI1
    unfold fwK at e
    obtain ⟨m, hm⟩ : ∃ m, 2 ^ S 0 1 = m + 1 := ⟨2 ^ S 0 1 - 1, by omega⟩
    rw [if_f ‹aAll S ≠ 0›, hm, fw_z hT] at e
    exact e
  · have e := hQ G1 (eqx_sub rfl hx1) hI1
    unfold fwK at e
    rw [if_t ‹aAll S = 0›] at e
    exact e
theorem fwK_le (hR : dR S) (k : Nat) : fwK S k ≤ 16 := by
  unfold fwK
  split
  · exact Nat.le_refl _
  · have h1 := fw_lt (P := TL S k) (2 ^ S 0 1)
    have h2 := pow_vn hR.2.1
    omega
theorem fwK_R {k j : Nat} : soR (fwK S k) j = proofR S k j := by
  unfold fwK proofR
  split
  · rfl
  · rfl
set_option maxRecDepth 100000 in
set_option maxHeartbeats 4000000 in
theorem f_proof (hC : sm_C 20 CT) (hR : RS c S) (hI : Ic S G) {x y : Int32} (hQ : ∀ G', eqx clsP G G' → Ic (N_proof S x y) G' → Q (some (.int (A_proof S x y))) (hp G' L)) : CT 57 [.ref 0, .int x, .int y] (hp G L) Q := by
  obtain ⟨hdR, hnR, -⟩ := id hR
  obtain ⟨r1, r2, r3, r4⟩ := id hdR
  obtain ⟨e1, e2, -⟩ := id hI.1
  have ea := hI.2.2.1.2.2
  have r30 := hR.2.2.2.2.2.1
  refine sm_meth hC [some (.ref 0), some (.int x), some (.int y)] rfl rfl rfl ?_
  unfold A_proof N_proof at hQ
  refine sm_body [] 80 sm_k57 (fun CT K hC hK => ?_)
  repeat' first
    | (with_reducible refine And.intro ?_ ?_)
    | ((with_reducible intro h9); first | exact absurd h9 (by decide) | (replace h9 := of_decide_eq_false (p := S 0 1 = 0 ∨ 30 ≤ S 0 5) (sb_f h9)) | (replace h9 := of_decide_eq_true (p := S 0 1 = 0 ∨ 30 ≤ S 0 5) (sb_t h9)) | (replace h9 := sb_f h9) | ((have h8 := inb_ex (x := x) (sb_t h9); obtain ⟨j, hj, rfl⟩ := h8)) | skip)
    | (with_reducible exact zn_in (by omega) (by decide))
    | (with_reducible exact z01) | (with_reducible exact z11) | (with_reducible exact zb01 _)
    | (with_reducible exact zn_inb (by omega) (by decide))
    | (with_reducible exact zn_ina (by omega) (by decide))
    | (with_reducible exact zn_inc (by omega) (by decide))
    | ((conv => whnf); first | (with_reducible refine And.intro ?_ ?_) | ((with_reducible intro h9); first | exact absurd h9 (by decide) | (replace h9 := of_decide_eq_false (p := S 0 1 = 0 ∨ 30 ≤ S 0 5) (sb_f h9)) | (replace h9 := of_decide_eq_true (p := S 0 1 = 0 ∨ 30 ≤ S 0 5) (sb_t h9)) | (replace h9 := sb_f h9) | ((have h8 := inb_ex (x := x) (sb_t h9); obtain ⟨j, hj, rfl⟩ := h8)) | skip) | (with_reducible refine hK _ _ _ _ (sm_un ?_)) | (with_reducible refine b_hasHour (hC.mono (by omega)) e1 r1 ?_) | (with_reducible refine s_isInquiryClosed (hC.mono (by omega)) e2 r2 ea r30 ?_))
  · (simp only [i0 hj (show S 0 0 ≤ 100 by omega), (inb_lo h9 : inb y 2 = false), Bool.and_true, Bool.true_and, Bool.false_and, Bool.and_false, cond_true, cond_false] at hQ; exact hQ G eqx_rfl hI)
  · obtain ⟨k, hk, rfl⟩ := inb_ex (o_in (n := 1) (by decide) ‹¬ y < nI 0› ‹y ≤ nI 1›)
    simp only [i0 hj (show S 0 0 ≤ 100 by omega), i0 hk (show 2 ≤ 100 by decide), ci hj (show S 0 0 ≤ 100 by omega), ci hk (show 2 ≤ 100 by decide), cond_true, if_f ‹¬ (S 0 1 = 0 ∨ 30 ≤ S 0 5)›] at hQ
    conv => whnf
    simp only [hp_0, hp_1, hp_2, hp_3, hp_4, hp_5, hp_6, hp_7, hp_8, hp_9, hp_10, hp_11, hp_12, hp_13, hp_14, hp_15, hp_16, hp_17, hp_18, hp_19, hp_20, hp_22, hp_23, hp_24, hp_25, hp_26, hp_27, hp_28, hp_29, hp_30, hp_31, hp_32, hp_33, hp_34, hp_35, hp_36, hp_37, hp_38, hp_39, hp_40, hp_41, hp_42, hp_43, hp_44, hp_45, hp_46, hp_47, hp_48, hp_49, hf0_5, hf0_6, hf0_7, hf1_1, hf3_0, hf3_2, hf3_6, hf10_0, hf10_2, hf10_6, hf17_3, hf17_4, hf20_3, hf20_4, hf30_0, hf30_1, hf30_3, hf30_7, hf30_11, hf30_12, hf30_20, hf30_22, hf30_23, hf30_24, hf30_25, hf30_21, hf30_31, upd_su, updL_su]
    refine s_fewestW (S := S) (S' := incA S) (G := su G 0 (su (G 0) 7 (G 0 7 + nI 1))) (hC.mono (by omega)) hdR hnR ⟨rfl, rfl, rfl, rfl, rfl, rfl, rfl, rfl, rfl, rfl⟩ (R_inc hR ‹_›) (I_inc hI) hj (fun G2 hx2 hI2 => ?_)
    have e := hQ G2 (eqx_trans (eqx_su 0 _ rfl eqx_rfl) hx2) hI2
    rw [← fwK_R] at e
    repeat' first
      | (with_reducible refine And.intro ?_ ?_)
      | ((with_reducible intro h9); first | exact absurd h9 (by decide) | skip)
      | (with_reducible exact zn_in (by omega) (by decide))
      | (with_reducible exact z01) | (with_reducible exact z11) | (with_reducible exact zb01 _)
      | (with_reducible exact zn_inb (by omega) (by decide))
      | (with_reducible exact zn_ina (by omega) (by decide))
      | (with_reducible exact zn_inc (by omega) (by decide))
      | ((conv => whnf); first | (with_reducible refine And.intro ?_ ?_) | ((with_reducible intro h9); first | exact absurd h9 (by decide) | skip) | (with_reducible refine hK _ _ _ _ (sm_un ?_)) | (with_reducible refine s_sizeOrSet (hC.mono (by omega)) (fwK_le hdR j) hk ?_))
    exact e
  · obtain ⟨k, hk, rfl⟩ := inb_ex (o_in (n := 1) (by decide) ‹¬ y < nI 0› ‹y ≤ nI 1›)
    simp only [i0 hj (show S 0 0 ≤ 100 by omega), i0 hk (show 2 ≤ 100 by decide), cond_true, if_t ‹S 0 1 = 0 ∨ 30 ≤ S 0 5›] at hQ
    exact hQ G eqx_rfl hI
  · (simp only [i0 hj (show S 0 0 ≤ 100 by omega), (o_gt (n := 1) (by decide) h9 : inb y 2 = false), Bool.and_true, Bool.true_and, Bool.false_and, Bool.and_false, cond_true, cond_false] at hQ; exact hQ G eqx_rfl hI)
  · (simp only [h9, Bool.and_true, Bool.true_and, Bool.false_and, Bool.and_false, cond_true, cond_false] at hQ; exact hQ G eqx_rfl hI)
end TELL
