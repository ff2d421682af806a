/-! proof of the class: the next group. -/
section FILL
variable {CT : sm_CT} {G : Nat → Nat → Int32} {L : Nat → Nat → Int64} {Q : sm_Q} {S : Nat → Nat → Nat} {c : Nat} {h : sm_H}
set_option maxRecDepth 100000 in
set_option maxHeartbeats 4000000 in
theorem s_fill_0 (hC : sm_C 5 CT) (hD : cD S G) (hR : dR S) (hL : cL S G) (hh : 0 < S 0 0) {a q x v0 : Nat} (hq : q < 4) (ea : G 20 3 = nI a) (ha : a < 6) (eb : G 20 4 = nI (bz x (S 0 1))) (hv0 : v0 < S 0 1) (hx0 : inS x v0 = true) {gl : List (Nat → Nat)} (hne : gl ≠ []) (h1 : G 29 0 = nI gl.length) (hg : rwp S a 0 gl (G 22)) (hb : gl.length ≤ 2 ^ 0) (hw : ∀ w, w ∈ gl → ∀ i, i < 0 → w i < 4)
    (hQ : ∀ G', eqx [23, 29] G G' → (∀ i, i ≠ 1 → G' 29 i = G 29 i) → G' 29 1 = nI (nx S x 0 q (hdp S 0 gl) gl 4).length → rwp S a 1 (nx S x 0 q (hdp S 0 gl) gl 4) (G' 23) → Q (some (.int (nI (bq 4 (fun p => bn (al S x (tf S (hdp S 0 gl) p) (tf S (hdp S 0 gl) q))))))) (hp G' L)) : CT 39 [.ref 20, .int (nI 0), .int (nI q)] (hp G L) Q := by
  obtain ⟨r1, r2, r3, r4⟩ := id hR
  obtain ⟨f, hfd⟩ : ∃ f, f = hdp S 0 gl := ⟨_, rfl⟩
  rw [← hfd] at hQ
  have hf : ∀ v, v < S 0 1 → f v < 4 := by
    intro v hv
    subst hfd
    cases gl with
    | nil => exact absurd rfl hne
    | cons w0 gr => exact ps_lt (r4 v hv).2.1 _ (hw w0 List.mem_cons_self)
  obtain ⟨k0, e0⟩ : ∃ k, G 22 (nI 0).toNatClampNeg = nI (k * 256 + zp (S 0 1) f) := by
    subst hfd
    rw [zn_clI (show 0 < 2 ^ 31 by decide)]
    cases gl with
    | nil => exact absurd rfl hne
    | cons w0 gr => exact ⟨_, hg 0 w0 rfl⟩
  have hz := zp_256 r2 hf
  have hct := al_two hR hv0 hx0 (hf v0 hv0) hq
  have hfq : ∀ v, v < S 0 1 → tf S f q v < 4 := fun v hv => trn_lt (hf v hv) hq
  have ezb : ∀ g : Nat → Nat, (∀ v, v < S 0 1 → g v < 4) → zp (S 0 1) g &&& bz x (S 0 1) < 256 := fun g hg => Nat.lt_of_le_of_lt Nat.and_le_left (zp_256 r2 hg)
  refine sm_meth hC [some (.ref 20), some (.int (nI 0)), some (.int (nI q)), none, none, none, none] rfl rfl rfl ?_
  have lo : ∀ i, i ≤ 4 → ∀ G1, eqx [23, 29] G G1 → (∀ i, i ≠ 1 → G1 29 i = G 29 i) → G1 29 1 = nI (nx S x 0 q f gl i).length → rwp S a 1 (nx S x 0 q f gl i) (G1 23) → sm_Wk 4 39 Q none 44 [some (.ref 20), some (.int (nI 0)), some (.int (nI q)), some (.int (nI (zp (S 0 1) f))), some (.int (nI (zp (S 0 1) (tf S f q) &&& bz x (S 0 1)))), some (.int (nI (bq i (fun p => bn (al S x (tf S f p) (tf S f q)))))), some (.int (nI i))] [] (hp G1 L) := by
    refine up _ (fun i hi ih G1 hx1 hs29 hsz hrw => ?_)
    have fb : G1 20 4 = nI (bz x (S 0 1)) := by rw [hx1 20 rfl]; exact eb
    have fa : G1 20 3 = nI a := by rw [hx1 20 rfl]; exact ea
    have f1 : G1 29 0 = nI gl.length := by rw [hs29 0 (by decide)]; exact h1
    have fg : rwp S a 0 gl (G1 22) := by rw [hx1 22 rfl]; exact hg
    have hD1 := cD_x hx1 rfl hD
    have hL1 := cL_x hx1 rfl hL
    have hft : i < 4 → ∀ v, v < S 0 1 → tf S f i v < 4 := fun h v hv => trn_lt (hf v hv) h
    have hbn : i < 4 → al S x (tf S f i) (tf S f q) = true → (nx S x 0 q f gl i).length + gl.length ≤ 64 := by
      intro h4 he
      have h5 : ct (fun i => al S x (tf S f i) (tf S f q)) i + bn (al S x (tf S f i) (tf S f q)) ≤ ct (fun i => al S x (tf S f i) (tf S f q)) 4 := ct_up (n := i + 1) h4
      rw [he, bn_t rfl] at h5
      have h7 := Nat.mul_le_mul_right gl.length (show ct (fun i => al S x (tf S f i) (tf S f q)) i ≤ 1 by omega)
      have h8 : (2 : Nat) ^ 0 ≤ 32 := by decide
      have hlen := nx_len (S := S) (x := x) (h := 0) (q := q) (f := f) (gl := gl) i
      omega
    have eo : bq i (fun p => bn (al S x (tf S f p) (tf S f q))) ||| 1 * 2 ^ i = bq i (fun p => bn (al S x (tf S f p) (tf S f q))) + 2 ^ i := by rw [Nat.one_mul]; exact bq_or i
    refine sm_body [44] 120 sm_k39 (fun CT K hC hK => ?_)
    repeat' first
      | (with_reducible refine And.intro ?_ ?_)
      | ((with_reducible intro h9); first | exact absurd h9 (by decide) | (replace h9 := zle (by omega) (by omega) h9) | (replace h9 := znle (by omega) (by omega) h9) | (replace h9 := sb_f h9) | (replace h9 := sb_t h9) | ((rw [fb, zn_and] at h9; replace h9 := zneq h9)) | ((rw [fb, zn_and] at h9; replace h9 := (bz_al (hft ‹i < 4›) hfq).mp (zeq (by have := ezb _ (hft ‹i < 4›); exact Nat.lt_trans this (by decide)) (by have := ezb _ hfq; omega) h9))) | skip)
      | (with_reducible exact zn_in (by omega) (by decide))
      | (with_reducible exact z01) | (with_reducible exact z11) | (with_reducible exact zb01 _)
      | (with_reducible exact zn_inb (by omega) (by decide))
      | (with_reducible exact zn_ina (by omega) (by decide))
      | (with_reducible exact zn_inc (by omega) (by decide))
      | ((conv => whnf); first | (with_reducible refine And.intro ?_ ?_) | ((with_reducible intro h9); first | exact absurd h9 (by decide) | (replace h9 := zle (by omega) (by omega) h9) | (replace h9 := znle (by omega) (by omega) h9) | (replace h9 := sb_f h9) | (replace h9 := sb_t h9) | ((rw [fb, zn_and] at h9; replace h9 := zneq h9)) | ((rw [fb, zn_and] at h9; replace h9 := (bz_al (hft ‹i < 4›) hfq).mp (zeq (by have := ezb _ (hft ‹i < 4›); exact Nat.lt_trans this (by decide)) (by have := ezb _ hfq; omega) h9))) | skip) | (with_reducible refine hK _ _ _ _ (sm_un ?_)) | (with_reducible refine s_turnedPose (hC.mono (by omega)) hD1 hR hf ‹i < 4› ?_) | (with_reducible refine s_mayBlow (hC.mono (by omega)) hD1 hR hh ‹i < 4› ?_) | (refine s_blow_0 (gl := gl) (nl := nx S x 0 q f gl i) (hC.mono (by omega)) hD1 hR hL1 hh ‹i < 4› fa ha f1 hsz fg hrw (hbn ‹i < 4› ‹al S x (tf S f i) (tf S f q) = true›) hw (fun G2 hx2 hs2 hsz2 hrw2 => ?_)))
    · obtain rfl : i = 4 := by omega
      exact hQ G1 hx1 hs29 hsz hrw
    · have ha0 : al S x (tf S f i) (tf S f q) = false := by
        cases hal : al S x (tf S f i) (tf S f q) with
        | false => rfl
        | true => exact absurd ((bz_al (hft ‹i < 4›) hfq).mpr hal) h9
      have e := ih ‹i < 4› G1 hx1 hs29
      rw [nx_a ha0, bq_bn, ha0, bn_f rfl, Nat.zero_mul, Nat.add_zero] at e
      simp only [nI_add]; exact ⟨⟨e hsz hrw⟩⟩
    · have ha1 : al S x (tf S f i) (tf S f q) = true := ‹_›
      have e := ih ‹i < 4› G1 hx1 hs29
      rw [nx_b ha1 h9, bq_bn, ha1, bn_t rfl, Nat.one_mul] at e
      simp only [nI_add, zn_shl (show i < 32 by omega), zn_or, eo]
      exact ⟨⟨e hsz hrw⟩⟩
    · have ha1 : al S x (tf S f i) (tf S f q) = true := ‹_›
      have e := ih ‹i < 4› G2 (eqx_trans hx1 hx2) (fun j hj => (hs2 j hj).trans (hs29 j hj))
      rw [nx_c ha1 ‹may S 0 i = true›, bq_bn, ha1, bn_t rfl, Nat.one_mul] at e
      simp only [nI_add, zn_shl (show i < 32 by omega), zn_or, eo]
      exact ⟨⟨e hsz2 hrw2⟩⟩
  have e1i : (nI 0 + nI 1).toNatClampNeg = 1 := by rw [nI_add, zn_clI (show 0 + 1 < 2 ^ 31 by decide)]
  refine sm_body [44] 80 sm_k39 (fun CT K hC hK => ?_)
  repeat' first
    | (with_reducible refine And.intro ?_ ?_)
    | ((with_reducible intro h9); first | exact absurd h9 (by decide) | skip)
    | (with_reducible exact zn_in (by omega) (by decide))
    | (with_reducible exact z01) | (with_reducible exact z11) | (with_reducible exact zb01 _)
    | (with_reducible exact zn_inb (by omega) (by decide))
    | (with_reducible exact zn_ina (by omega) (by decide))
    | (with_reducible exact zn_inc (by omega) (by decide))
    | ((conv => whnf); first | (with_reducible refine And.intro ?_ ?_) | ((with_reducible intro h9); first | exact absurd h9 (by decide) | skip) | (with_reducible refine hK _ _ _ _ (sm_un ?_)) | (refine Exists.intro 22 (And.intro rfl ?_)) | ((rw [e0, e_255 hz]; refine s_turnedPose (hC.mono (by omega)) hD hR hf hq ?_)))
  conv => whnf
  simp only [e1i, eb, zn_and, hp_0, hp_1, hp_2, hp_3, hp_4, hp_5, hp_6, hp_7, hp_8, hp_9, hp_10, hp_11, hp_12, hp_13, hp_14, hp_15, hp_16, hp_17, hp_18, hp_19, hp_20, hp_22, hp_23, hp_24, hp_25, hp_26, hp_27, hp_28, hp_29, hp_30, hp_31, hp_32, hp_33, hp_34, hp_35, hp_36, hp_37, hp_38, hp_39, hp_40, hp_41, hp_42, hp_43, hp_44, hp_45, hp_46, hp_47, hp_48, hp_49, hf0_5, hf0_6, hf0_7, hf1_1, hf3_0, hf3_2, hf3_6, hf10_0, hf10_2, hf10_6, hf17_3, hf17_4, hf20_3, hf20_4, hf30_0, hf30_1, hf30_3, hf30_7, hf30_11, hf30_12, hf30_20, hf30_22, hf30_23, hf30_24, hf30_25, hf30_21, hf30_31, upd_su, updL_su]
  refine ⟨⟨lo 0 (Nat.zero_le _) _ (eqx_su 29 _ rfl eqx_rfl) (fun j hj => ?_) ?_ (fun i w hw => ?_)⟩⟩
  · show su (G 29) 1 _ j = _
    rw [su_if, if_f hj]
  · show su (G 29) 1 _ 1 = _
    rw [su_eq]
    rfl
  · have hw : ([] : List (Nat → Nat))[i]? = some w := hw
    simp at hw
set_option maxRecDepth 100000 in
set_option maxHeartbeats 4000000 in
theorem s_fill_1 (hC : sm_C 5 CT) (hD : cD S G) (hR : dR S) (hL : cL S G) (hh : 1 < S 0 0) {a q x v0 : Nat} (hq : q < 4) (ea : G 20 3 = nI a) (ha : a < 6) (eb : G 20 4 = nI (bz x (S 0 1))) (hv0 : v0 < S 0 1) (hx0 : inS x v0 = true) {gl : List (Nat → Nat)} (hne : gl ≠ []) (h1 : G 29 1 = nI gl.length) (hg : rwp S a 1 gl (G 23)) (hb : gl.length ≤ 2 ^ 1) (hw : ∀ w, w ∈ gl → ∀ i, i < 1 → w i < 4)
    (hQ : ∀ G', eqx [24, 29] G G' → (∀ i, i ≠ 2 → G' 29 i = G 29 i) → G' 29 2 = nI (nx S x 1 q (hdp S 1 gl) gl 4).length → rwp S a 2 (nx S x 1 q (hdp S 1 gl) gl 4) (G' 24) → Q (some (.int (nI (bq 4 (fun p => bn (al S x (tf S (hdp S 1 gl) p) (tf S (hdp S 1 gl) q))))))) (hp G' L)) : CT 39 [.ref 20, .int (nI 1), .int (nI q)] (hp G L) Q := by
  obtain ⟨r1, r2, r3, r4⟩ := id hR
  obtain ⟨f, hfd⟩ : ∃ f, f = hdp S 1 gl := ⟨_, rfl⟩
  rw [← hfd] at hQ
  have hf : ∀ v, v < S 0 1 → f v < 4 := by
    intro v hv
    subst hfd
    cases gl with
    | nil => exact absurd rfl hne
    | cons w0 gr => exact ps_lt (r4 v hv).2.1 _ (hw w0 List.mem_cons_self)
  obtain ⟨k0, e0⟩ : ∃ k, G 23 (nI 0).toNatClampNeg = nI (k * 256 + zp (S 0 1) f) := by
    subst hfd
    rw [zn_clI (show 0 < 2 ^ 31 by decide)]
    cases gl with
    | nil => exact absurd rfl hne
    | cons w0 gr => exact ⟨_, hg 0 w0 rfl⟩
  have hz := zp_256 r2 hf
  have hct := al_two hR hv0 hx0 (hf v0 hv0) hq
  have hfq : ∀ v, v < S 0 1 → tf S f q v < 4 := fun v hv => trn_lt (hf v hv) hq
  have ezb : ∀ g : Nat → Nat, (∀ v, v < S 0 1 → g v < 4) → zp (S 0 1) g &&& bz x (S 0 1) < 256 := fun g hg => Nat.lt_of_le_of_lt Nat.and_le_left (zp_256 r2 hg)
  refine sm_meth hC [some (.ref 20), some (.int (nI 1)), some (.int (nI q)), none, none, none, none] rfl rfl rfl ?_
  have lo : ∀ i, i ≤ 4 → ∀ G1, eqx [24, 29] G G1 → (∀ i, i ≠ 2 → G1 29 i = G 29 i) → G1 29 2 = nI (nx S x 1 q f gl i).length → rwp S a 2 (nx S x 1 q f gl i) (G1 24) → sm_Wk 4 39 Q none 44 [some (.ref 20), some (.int (nI 1)), some (.int (nI q)), some (.int (nI (zp (S 0 1) f))), some (.int (nI (zp (S 0 1) (tf S f q) &&& bz x (S 0 1)))), some (.int (nI (bq i (fun p => bn (al S x (tf S f p) (tf S f q)))))), some (.int (nI i))] [] (hp G1 L) := by
    refine up _ (fun i hi ih G1 hx1 hs29 hsz hrw => ?_)
    have fb : G1 20 4 = nI (bz x (S 0 1)) := by rw [hx1 20 rfl]; exact eb
    have fa : G1 20 3 = nI a := by rw [hx1 20 rfl]; exact ea
    have f1 : G1 29 1 = nI gl.length := by rw [hs29 1 (by decide)]; exact h1
    have fg : rwp S a 1 gl (G1 23) := by rw [hx1 23 rfl]; exact hg
    have hD1 := cD_x hx1 rfl hD
    have hL1 := cL_x hx1 rfl hL
    have hft : i < 4 → ∀ v, v < S 0 1 → tf S f i v < 4 := fun h v hv => trn_lt (hf v hv) h
    have hbn : i < 4 → al S x (tf S f i) (tf S f q) = true → (nx S x 1 q f gl i).length + gl.length ≤ 64 := by
      intro h4 he
      have h5 : ct (fun i => al S x (tf S f i) (tf S f q)) i + bn (al S x (tf S f i) (tf S f q)) ≤ ct (fun i => al S x (tf S f i) (tf S f q)) 4 := ct_up (n := i + 1) h4
      rw [he, bn_t rfl] at h5
      have h7 := Nat.mul_le_mul_right gl.length (show ct (fun i => al S x (tf S f i) (tf S f q)) i ≤ 1 by omega)
      have h8 : (2 : Nat) ^ 1 ≤ 32 := by decide
      have hlen := nx_len (S := S) (x := x) (h := 1) (q := q) (f := f) (gl := gl) i
      omega
    have eo : bq i (fun p => bn (al S x (tf S f p) (tf S f q))) ||| 1 * 2 ^ i = bq i (fun p => bn (al S x (tf S f p) (tf S f q))) + 2 ^ i := by rw [Nat.one_mul]; exact bq_or i
    refine sm_body [44] 120 sm_k39 (fun CT K hC hK => ?_)
    repeat' first
      | (with_reducible refine And.intro ?_ ?_)
      | ((with_reducible intro h9); first | exact absurd h9 (by decide) | (replace h9 := zle (by omega) (by omega) h9) | (replace h9 := znle (by omega) (by omega) h9) | (replace h9 := sb_f h9) | (replace h9 := sb_t h9) | ((rw [fb, zn_and] at h9; replace h9 := zneq h9)) | ((rw [fb, zn_and] at h9; replace h9 := (bz_al (hft ‹i < 4›) hfq).mp (zeq (by have := ezb _ (hft ‹i < 4›); exact Nat.lt_trans this (by decide)) (by have := ezb _ hfq; omega) h9))) | skip)
      | (with_reducible exact zn_in (by omega) (by decide))
      | (with_reducible exact z01) | (with_reducible exact z11) | (with_reducible exact zb01 _)
      | (with_reducible exact zn_inb (by omega) (by decide))
      | (with_reducible exact zn_ina (by omega) (by decide))
      | (with_reducible exact zn_inc (by omega) (by decide))
      | ((conv => whnf); first | (with_reducible refine And.intro ?_ ?_) | ((with_reducible intro h9); first | exact absurd h9 (by decide) | (replace h9 := zle (by omega) (by omega) h9) | (replace h9 := znle (by omega) (by omega) h9) | (replace h9 := sb_f h9) | (replace h9 := sb_t h9) | ((rw [fb, zn_and] at h9; replace h9 := zneq h9)) | ((rw [fb, zn_and] at h9; replace h9 := (bz_al (hft ‹i < 4›) hfq).mp (zeq (by have := ezb _ (hft ‹i < 4›); exact Nat.lt_trans this (by decide)) (by have := ezb _ hfq; omega) h9))) | skip) | (with_reducible refine hK _ _ _ _ (sm_un ?_)) | (with_reducible refine s_turnedPose (hC.mono (by omega)) hD1 hR hf ‹i < 4› ?_) | (with_reducible refine s_mayBlow (hC.mono (by omega)) hD1 hR hh ‹i < 4› ?_) | (refine s_blow_1 (gl := gl) (nl := nx S x 1 q f gl i) (hC.mono (by omega)) hD1 hR hL1 hh ‹i < 4› fa ha f1 hsz fg hrw (hbn ‹i < 4› ‹al S x (tf S f i) (tf S f q) = true›) hw (fun G2 hx2 hs2 hsz2 hrw2 => ?_)))
    · obtain rfl : i = 4 := by omega
      exact hQ G1 hx1 hs29 hsz hrw
    · have ha0 : al S x (tf S f i) (tf S f q) = false := by
        cases hal : al S x (tf S f i) (tf S f q) with
        | false => rfl
        | true => exact absurd ((bz_al (hft ‹i < 4›) hfq).mpr hal) h9
      have e := ih ‹i < 4› G1 hx1 hs29
      rw [nx_a ha0, bq_bn, ha0, bn_f rfl, Nat.zero_mul, Nat.add_zero] at e
      simp only [nI_add]; exact ⟨⟨e hsz hrw⟩⟩
    · have ha1 : al S x (tf S f i) (tf S f q) = true := ‹_›
      have e := ih ‹i < 4› G1 hx1 hs29
      rw [nx_b ha1 h9, bq_bn, ha1, bn_t rfl, Nat.one_mul] at e
      simp only [nI_add, zn_shl (show i < 32 by omega), zn_or, eo]
      exact ⟨⟨e hsz hrw⟩⟩
    · have ha1 : al S x (tf S f i) (tf S f q) = true := ‹_›
      have e := ih ‹i < 4› G2 (eqx_trans hx1 hx2) (fun j hj => (hs2 j hj).trans (hs29 j hj))
      rw [nx_c ha1 ‹may S 1 i = true›, bq_bn, ha1, bn_t rfl, Nat.one_mul] at e
      simp only [nI_add, zn_shl (show i < 32 by omega), zn_or, eo]
      exact ⟨⟨e hsz2 hrw2⟩⟩
  have e1i : (nI 1 + nI 1).toNatClampNeg = 2 := by rw [nI_add, zn_clI (show 1 + 1 < 2 ^ 31 by decide)]
  refine sm_body [44] 80 sm_k39 (fun CT K hC hK => ?_)
  repeat' first
    | (with_reducible refine And.intro ?_ ?_)
    | ((with_reducible intro h9); first | exact absurd h9 (by decide) | skip)
    | (with_reducible exact zn_in (by omega) (by decide))
    | (with_reducible exact z01) | (with_reducible exact z11) | (with_reducible exact zb01 _)
    | (with_reducible exact zn_inb (by omega) (by decide))
    | (with_reducible exact zn_ina (by omega) (by decide))
    | (with_reducible exact zn_inc (by omega) (by decide))
    | ((conv => whnf); first | (with_reducible refine And.intro ?_ ?_) | ((with_reducible intro h9); first | exact absurd h9 (by decide) | skip) | (with_reducible refine hK _ _ _ _ (sm_un ?_)) | (refine Exists.intro 23 (And.intro rfl ?_)) | ((rw [e0, e_255 hz]; refine s_turnedPose (hC.mono (by omega)) hD hR hf hq ?_)))
  conv => whnf
  simp only [e1i, eb, zn_and, hp_0, hp_1, hp_2, hp_3, hp_4, hp_5, hp_6, hp_7, hp_8, hp_9, hp_10, hp_11, hp_12, hp_13, hp_14, hp_15, hp_16, hp_17, hp_18, hp_19, hp_20, hp_22, hp_23, hp_24, hp_25, hp_26, hp_27, hp_28, hp_29, hp_30, hp_31, hp_32, hp_33, hp_34, hp_35, hp_36, hp_37, hp_38, hp_39, hp_40, hp_41, hp_42, hp_43, hp_44, hp_45, hp_46, hp_47, hp_48, hp_49, hf0_5, hf0_6, hf0_7, hf1_1, hf3_0, hf3_2, hf3_6, hf10_0, hf10_2, hf10_6, hf17_3, hf17_4, hf20_3, hf20_4, hf30_0, hf30_1, hf30_3, hf30_7, hf30_11, hf30_12, hf30_20, hf30_22, hf30_23, hf30_24, hf30_25, hf30_21, hf30_31, upd_su, updL_su]
  refine ⟨⟨lo 0 (Nat.zero_le _) _ (eqx_su 29 _ rfl eqx_rfl) (fun j hj => ?_) ?_ (fun i w hw => ?_)⟩⟩
  · show su (G 29) 2 _ j = _
    rw [su_if, if_f hj]
  · show su (G 29) 2 _ 2 = _
    rw [su_eq]
    rfl
  · have hw : ([] : List (Nat → Nat))[i]? = some w := hw
    simp at hw
set_option maxRecDepth 100000 in
set_option maxHeartbeats 4000000 in
theorem s_fill_2 (hC : sm_C 5 CT) (hD : cD S G) (hR : dR S) (hL : cL S G) (hh : 2 < S 0 0) {a q x v0 : Nat} (hq : q < 4) (ea : G 20 3 = nI a) (ha : a < 6) (eb : G 20 4 = nI (bz x (S 0 1))) (hv0 : v0 < S 0 1) (hx0 : inS x v0 = true) {gl : List (Nat → Nat)} (hne : gl ≠ []) (h1 : G 29 2 = nI gl.length) (hg : rwp S a 2 gl (G 24)) (hb : gl.length ≤ 2 ^ 2) (hw : ∀ w, w ∈ gl → ∀ i, i < 2 → w i < 4)
    (hQ : ∀ G', eqx [25, 29] G G' → (∀ i, i ≠ 3 → G' 29 i = G 29 i) → G' 29 3 = nI (nx S x 2 q (hdp S 2 gl) gl 4).length → rwp S a 3 (nx S x 2 q (hdp S 2 gl) gl 4) (G' 25) → Q (some (.int (nI (bq 4 (fun p => bn (al S x (tf S (hdp S 2 gl) p) (tf S (hdp S 2 gl) q))))))) (hp G' L)) : CT 39 [.ref 20, .int (nI 2), .int (nI q)] (hp G L) Q := by
  obtain ⟨r1, r2, r3, r4⟩ := id hR
  obtain ⟨f, hfd⟩ : ∃ f, f = hdp S 2 gl := ⟨_, rfl⟩
  rw [← hfd] at hQ
  have hf : ∀ v, v < S 0 1 → f v < 4 := by
    intro v hv
    subst hfd
    cases gl with
    | nil => exact absurd rfl hne
    | cons w0 gr => exact ps_lt (r4 v hv).2.1 _ (hw w0 List.mem_cons_self)
  obtain ⟨k0, e0⟩ : ∃ k, G 24 (nI 0).toNatClampNeg = nI (k * 256 + zp (S 0 1) f) := by
    subst hfd
    rw [zn_clI (show 0 < 2 ^ 31 by decide)]
    cases gl with
    | nil => exact absurd rfl hne
    | cons w0 gr => exact ⟨_, hg 0 w0 rfl⟩
  have hz := zp_256 r2 hf
  have hct := al_two hR hv0 hx0 (hf v0 hv0) hq
  have hfq : ∀ v, v < S 0 1 → tf S f q v < 4 := fun v hv => trn_lt (hf v hv) hq
  have ezb : ∀ g : Nat → Nat, (∀ v, v < S 0 1 → g v < 4) → zp (S 0 1) g &&& bz x (S 0 1) < 256 := fun g hg => Nat.lt_of_le_of_lt Nat.and_le_left (zp_256 r2 hg)
  refine sm_meth hC [some (.ref 20), some (.int (nI 2)), some (.int (nI q)), none, none, none, none] rfl rfl rfl ?_
  have lo : ∀ i, i ≤ 4 → ∀ G1, eqx [25, 29] G G1 → (∀ i, i ≠ 3 → G1 29 i = G 29 i) → G1 29 3 = nI (nx S x 2 q f gl i).length → rwp S a 3 (nx S x 2 q f gl i) (G1 25) → sm_Wk 4 39 Q none 44 [some (.ref 20), some (.int (nI 2)), some (.int (nI q)), some (.int (nI (zp (S 0 1) f))), some (.int (nI (zp (S 0 1) (tf S f q) &&& bz x (S 0 1)))), some (.int (nI (bq i (fun p => bn (al S x (tf S f p) (tf S f q)))))), some (.int (nI i))] [] (hp G1 L) := by
    refine up _ (fun i hi ih G1 hx1 hs29 hsz hrw => ?_)
    have fb : G1 20 4 = nI (bz x (S 0 1)) := by rw [hx1 20 rfl]; exact eb
    have fa : G1 20 3 = nI a := by rw [hx1 20 rfl]; exact ea
    have f1 : G1 29 2 = nI gl.length := by rw [hs29 2 (by decide)]; exact h1
    have fg : rwp S a 2 gl (G1 24) := by rw [hx1 24 rfl]; exact hg
    have hD1 := cD_x hx1 rfl hD
    have hL1 := cL_x hx1 rfl hL
    have hft : i < 4 → ∀ v, v < S 0 1 → tf S f i v < 4 := fun h v hv => trn_lt (hf v hv) h
    have hbn : i < 4 → al S x (tf S f i) (tf S f q) = true → (nx S x 2 q f gl i).length + gl.length ≤ 64 := by
      intro h4 he
      have h5 : ct (fun i => al S x (tf S f i) (tf S f q)) i + bn (al S x (tf S f i) (tf S f q)) ≤ ct (fun i => al S x (tf S f i) (tf S f q)) 4 := ct_up (n := i + 1) h4
      rw [he, bn_t rfl] at h5
      have h7 := Nat.mul_le_mul_right gl.length (show ct (fun i => al S x (tf S f i) (tf S f q)) i ≤ 1 by omega)
      have h8 : (2 : Nat) ^ 2 ≤ 32 := by decide
      have hlen := nx_len (S := S) (x := x) (h := 2) (q := q) (f := f) (gl := gl) i
      omega
    have eo : bq i (fun p => bn (al S x (tf S f p) (tf S f q))) ||| 1 * 2 ^ i = bq i (fun p => bn (al S x (tf S f p) (tf S f q))) + 2 ^ i := by rw [Nat.one_mul]; exact bq_or i
    refine sm_body [44] 120 sm_k39 (fun CT K hC hK => ?_)
    repeat' first
      | (with_reducible refine And.intro ?_ ?_)
      | ((with_reducible intro h9); first | exact absurd h9 (by decide) | (replace h9 := zle (by omega) (by omega) h9) | (replace h9 := znle (by omega) (by omega) h9) | (replace h9 := sb_f h9) | (replace h9 := sb_t h9) | ((rw [fb, zn_and] at h9; replace h9 := zneq h9)) | ((rw [fb, zn_and] at h9; replace h9 := (bz_al (hft ‹i < 4›) hfq).mp (zeq (by have := ezb _ (hft ‹i < 4›); exact Nat.lt_trans this (by decide)) (by have := ezb _ hfq; omega) h9))) | skip)
      | (with_reducible exact zn_in (by omega) (by decide))
      | (with_reducible exact z01) | (with_reducible exact z11) | (with_reducible exact zb01 _)
      | (with_reducible exact zn_inb (by omega) (by decide))
      | (with_reducible exact zn_ina (by omega) (by decide))
      | (with_reducible exact zn_inc (by omega) (by decide))
      | ((conv => whnf); first | (with_reducible refine And.intro ?_ ?_) | ((with_reducible intro h9); first | exact absurd h9 (by decide) | (replace h9 := zle (by omega) (by omega) h9) | (replace h9 := znle (by omega) (by omega) h9) | (replace h9 := sb_f h9) | (replace h9 := sb_t h9) | ((rw [fb, zn_and] at h9; replace h9 := zneq h9)) | ((rw [fb, zn_and] at h9; replace h9 := (bz_al (hft ‹i < 4›) hfq).mp (zeq (by have := ezb _ (hft ‹i < 4›); exact Nat.lt_trans this (by decide)) (by have := ezb _ hfq; omega) h9))) | skip) | (with_reducible refine hK _ _ _ _ (sm_un ?_)) | (with_reducible refine s_turnedPose (hC.mono (by omega)) hD1 hR hf ‹i < 4› ?_) | (with_reducible refine s_mayBlow (hC.mono (by omega)) hD1 hR hh ‹i < 4› ?_) | (refine s_blow_2 (gl := gl) (nl := nx S x 2 q f gl i) (hC.mono (by omega)) hD1 hR hL1 hh ‹i < 4› fa ha f1 hsz fg hrw (hbn ‹i < 4› ‹al S x (tf S f i) (tf S f q) = true›) hw (fun G2 hx2 hs2 hsz2 hrw2 => ?_)))
    · obtain rfl : i = 4 := by omega
      exact hQ G1 hx1 hs29 hsz hrw
    · have ha0 : al S x (tf S f i) (tf S f q) = false := by
        cases hal : al S x (tf S f i) (tf S f q) with
        | false => rfl
        | true => exact absurd ((bz_al (hft ‹i < 4›) hfq).mpr hal) h9
      have e := ih ‹i < 4› G1 hx1 hs29
      rw [nx_a ha0, bq_bn, ha0, bn_f rfl, Nat.zero_mul, Nat.add_zero] at e
      simp only [nI_add]; exact ⟨⟨e hsz hrw⟩⟩
    · have ha1 : al S x (tf S f i) (tf S f q) = true := ‹_›
      have e := ih ‹i < 4› G1 hx1 hs29
      rw [nx_b ha1 h9, bq_bn, ha1, bn_t rfl, Nat.one_mul] at e
      simp only [nI_add, zn_shl (show i < 32 by omega), zn_or, eo]
      exact ⟨⟨e hsz hrw⟩⟩
    · have ha1 : al S x (tf S f i) (tf S f q) = true := ‹_›
      have e := ih ‹i < 4› G2 (eqx_trans hx1 hx2) (fun j hj => (hs2 j hj).trans (hs29 j hj))
      rw [nx_c ha1 ‹may S 2 i = true›, bq_bn, ha1, bn_t rfl, Nat.one_mul] at e
      simp only [nI_add, zn_shl (show i < 32 by omega), zn_or, eo]
      exact ⟨⟨e hsz2 hrw2⟩⟩
  have e1i : (nI 2 + nI 1).toNatClampNeg = 3 := by rw [nI_add, zn_clI (show 2 + 1 < 2 ^ 31 by decide)]
  refine sm_body [44] 80 sm_k39 (fun CT K hC hK => ?_)
  repeat' first
    | (with_reducible refine And.intro ?_ ?_)
    | ((with_reducible intro h9); first | exact absurd h9 (by decide) | skip)
    | (with_reducible exact zn_in (by omega) (by decide))
    | (with_reducible exact z01) | (with_reducible exact z11) | (with_reducible exact zb01 _)
    | (with_reducible exact zn_inb (by omega) (by decide))
    | (with_reducible exact zn_ina (by omega) (by decide))
    | (with_reducible exact zn_inc (by omega) (by decide))
    | ((conv => whnf); first | (with_reducible refine And.intro ?_ ?_) | ((with_reducible intro h9); first | exact absurd h9 (by decide) | skip) | (with_reducible refine hK _ _ _ _ (sm_un ?_)) | (refine Exists.intro 24 (And.intro rfl ?_)) | ((rw [e0, e_255 hz]; refine s_turnedPose (hC.mono (by omega)) hD hR hf hq ?_)))
  conv => whnf
  simp only [e1i, eb, zn_and, hp_0, hp_1, hp_2, hp_3, hp_4, hp_5, hp_6, hp_7, hp_8, hp_9, hp_10, hp_11, hp_12, hp_13, hp_14, hp_15, hp_16, hp_17, hp_18, hp_19, hp_20, hp_22, hp_23, hp_24, hp_25, hp_26, hp_27, hp_28, hp_29, hp_30, hp_31, hp_32, hp_33, hp_34, hp_35, hp_36, hp_37, hp_38, hp_39, hp_40, hp_41, hp_42, hp_43, hp_44, hp_45, hp_46, hp_47, hp_48, hp_49, hf0_5, hf0_6, hf0_7, hf1_1, hf3_0, hf3_2, hf3_6, hf10_0, hf10_2, hf10_6, hf17_3, hf17_4, hf20_3, hf20_4, hf30_0, hf30_1, hf30_3, hf30_7, hf30_11, hf30_12, hf30_20, hf30_22, hf30_23, hf30_24, hf30_25, hf30_21, hf30_31, upd_su, updL_su]
  refine ⟨⟨lo 0 (Nat.zero_le _) _ (eqx_su 29 _ rfl eqx_rfl) (fun j hj => ?_) ?_ (fun i w hw => ?_)⟩⟩
  · show su (G 29) 3 _ j = _
    rw [su_if, if_f hj]
  · show su (G 29) 3 _ 3 = _
    rw [su_eq]
    rfl
  · have hw : ([] : List (Nat → Nat))[i]? = some w := hw
    simp at hw
set_option maxRecDepth 100000 in
set_option maxHeartbeats 4000000 in
theorem s_fill_3 (hC : sm_C 5 CT) (hD : cD S G) (hR : dR S) (hL : cL S G) (hh : 3 < S 0 0) {a q x v0 : Nat} (hq : q < 4) (ea : G 20 3 = nI a) (ha : a < 6) (eb : G 20 4 = nI (bz x (S 0 1))) (hv0 : v0 < S 0 1) (hx0 : inS x v0 = true) {gl : List (Nat → Nat)} (hne : gl ≠ []) (h1 : G 29 3 = nI gl.length) (hg : rwp S a 3 gl (G 25)) (hb : gl.length ≤ 2 ^ 3) (hw : ∀ w, w ∈ gl → ∀ i, i < 3 → w i < 4)
    (hQ : ∀ G', eqx [26, 29] G G' → (∀ i, i ≠ 4 → G' 29 i = G 29 i) → G' 29 4 = nI (nx S x 3 q (hdp S 3 gl) gl 4).length → rwp S a 4 (nx S x 3 q (hdp S 3 gl) gl 4) (G' 26) → Q (some (.int (nI (bq 4 (fun p => bn (al S x (tf S (hdp S 3 gl) p) (tf S (hdp S 3 gl) q))))))) (hp G' L)) : CT 39 [.ref 20, .int (nI 3), .int (nI q)] (hp G L) Q := by
  obtain ⟨r1, r2, r3, r4⟩ := id hR
  obtain ⟨f, hfd⟩ : ∃ f, f = hdp S 3 gl := ⟨_, rfl⟩
  rw [← hfd] at hQ
  have hf : ∀ v, v < S 0 1 → f v < 4 := by
    intro v hv
    subst hfd
    cases gl with
    | nil => exact absurd rfl hne
    | cons w0 gr => exact ps_lt (r4 v hv).2.1 _ (hw w0 List.mem_cons_self)
  obtain ⟨k0, e0⟩ : ∃ k, G 25 (nI 0).toNatClampNeg = nI (k * 256 + zp (S 0 1) f) := by
    subst hfd
    rw [zn_clI (show 0 < 2 ^ 31 by decide)]
    cases gl with
    | nil => exact absurd rfl hne
    | cons w0 gr => exact ⟨_, hg 0 w0 rfl⟩
  have hz := zp_256 r2 hf
  have hct := al_two hR hv0 hx0 (hf v0 hv0) hq
  have hfq : ∀ v, v < S 0 1 → tf S f q v < 4 := fun v hv => trn_lt (hf v hv) hq
  have ezb : ∀ g : Nat → Nat, (∀ v, v < S 0 1 → g v < 4) → zp (S 0 1) g &&& bz x (S 0 1) < 256 := fun g hg => Nat.lt_of_le_of_lt Nat.and_le_left (zp_256 r2 hg)
  refine sm_meth hC [some (.ref 20), some (.int (nI 3)), some (.int (nI q)), none, none, none, none] rfl rfl rfl ?_
  have lo : ∀ i, i ≤ 4 → ∀ G1, eqx [26, 29] G G1 → (∀ i, i ≠ 4 → G1 29 i = G 29 i) → G1 29 4 = nI (nx S x 3 q f gl i).length → rwp S a 4 (nx S x 3 q f gl i) (G1 26) → sm_Wk 4 39 Q none 44 [some (.ref 20), some (.int (nI 3)), some (.int (nI q)), some (.int (nI (zp (S 0 1) f))), some (.int (nI (zp (S 0 1) (tf S f q) &&& bz x (S 0 1)))), some (.int (nI (bq i (fun p => bn (al S x (tf S f p) (tf S f q)))))), some (.int (nI i))] [] (hp G1 L) := by
    refine up _ (fun i hi ih G1 hx1 hs29 hsz hrw => ?_)
    have fb : G1 20 4 = nI (bz x (S 0 1)) := by rw [hx1 20 rfl]; exact eb
    have fa : G1 20 3 = nI a := by rw [hx1 20 rfl]; exact ea
    have f1 : G1 29 3 = nI gl.length := by rw [hs29 3 (by decide)]; exact h1
    have fg : rwp S a 3 gl (G1 25) := by rw [hx1 25 rfl]; exact hg
    have hD1 := cD_x hx1 rfl hD
    have hL1 := cL_x hx1 rfl hL
    have hft : i < 4 → ∀ v, v < S 0 1 → tf S f i v < 4 := fun h v hv => trn_lt (hf v hv) h
    have hbn : i < 4 → al S x (tf S f i) (tf S f q) = true → (nx S x 3 q f gl i).length + gl.length ≤ 64 := by
      intro h4 he
      have h5 : ct (fun i => al S x (tf S f i) (tf S f q)) i + bn (al S x (tf S f i) (tf S f q)) ≤ ct (fun i => al S x (tf S f i) (tf S f q)) 4 := ct_up (n := i + 1) h4
      rw [he, bn_t rfl] at h5
      have h7 := Nat.mul_le_mul_right gl.length (show ct (fun i => al S x (tf S f i) (tf S f q)) i ≤ 1 by omega)
      have h8 : (2 : Nat) ^ 3 ≤ 32 := by decide
      have hlen := nx_len (S := S) (x := x) (h := 3) (q := q) (f := f) (gl := gl) i
      omega
    have eo : bq i (fun p => bn (al S x (tf S f p) (tf S f q))) ||| 1 * 2 ^ i = bq i (fun p => bn (al S x (tf S f p) (tf S f q))) + 2 ^ i := by rw [Nat.one_mul]; exact bq_or i
    refine sm_body [44] 120 sm_k39 (fun CT K hC hK => ?_)
    repeat' first
      | (with_reducible refine And.intro ?_ ?_)
      | ((with_reducible intro h9); first | exact absurd h9 (by decide) | (replace h9 := zle (by omega) (by omega) h9) | (replace h9 := znle (by omega) (by omega) h9) | (replace h9 := sb_f h9) | (replace h9 := sb_t h9) | ((rw [fb, zn_and] at h9; replace h9 := zneq h9)) | ((rw [fb, zn_and] at h9; replace h9 := (bz_al (hft ‹i < 4›) hfq).mp (zeq (by have := ezb _ (hft ‹i < 4›); exact Nat.lt_trans this (by decide)) (by have := ezb _ hfq; omega) h9))) | skip)
      | (with_reducible exact zn_in (by omega) (by decide))
      | (with_reducible exact z01) | (with_reducible exact z11) | (with_reducible exact zb01 _)
      | (with_reducible exact zn_inb (by omega) (by decide))
      | (with_reducible exact zn_ina (by omega) (by decide))
      | (with_reducible exact zn_inc (by omega) (by decide))
      | ((conv => whnf); first | (with_reducible refine And.intro ?_ ?_) | ((with_reducible intro h9); first | exact absurd h9 (by decide) | (replace h9 := zle (by omega) (by omega) h9) | (replace h9 := znle (by omega) (by omega) h9) | (replace h9 := sb_f h9) | (replace h9 := sb_t h9) | ((rw [fb, zn_and] at h9; replace h9 := zneq h9)) | ((rw [fb, zn_and] at h9; replace h9 := (bz_al (hft ‹i < 4›) hfq).mp (zeq (by have := ezb _ (hft ‹i < 4›); exact Nat.lt_trans this (by decide)) (by have := ezb _ hfq; omega) h9))) | skip) | (with_reducible refine hK _ _ _ _ (sm_un ?_)) | (with_reducible refine s_turnedPose (hC.mono (by omega)) hD1 hR hf ‹i < 4› ?_) | (with_reducible refine s_mayBlow (hC.mono (by omega)) hD1 hR hh ‹i < 4› ?_) | (refine s_blow_3 (gl := gl) (nl := nx S x 3 q f gl i) (hC.mono (by omega)) hD1 hR hL1 hh ‹i < 4› fa ha f1 hsz fg hrw (hbn ‹i < 4› ‹al S x (tf S f i) (tf S f q) = true›) hw (fun G2 hx2 hs2 hsz2 hrw2 => ?_)))
    · obtain rfl : i = 4 := by omega
      exact hQ G1 hx1 hs29 hsz hrw
    · have ha0 : al S x (tf S f i) (tf S f q) = false := by
        cases hal : al S x (tf S f i) (tf S f q) with
        | false => rfl
        | true => exact absurd ((bz_al (hft ‹i < 4›) hfq).mpr hal) h9
      have e := ih ‹i < 4› G1 hx1 hs29
      rw [nx_a ha0, bq_bn, ha0, bn_f rfl, Nat.zero_mul, Nat.add_zero] at e
      simp only [nI_add]; exact ⟨⟨e hsz hrw⟩⟩
    · have ha1 : al S x (tf S f i) (tf S f q) = true := ‹_›
      have e := ih ‹i < 4› G1 hx1 hs29
      rw [nx_b ha1 h9, bq_bn, ha1, bn_t rfl, Nat.one_mul] at e
      simp only [nI_add, zn_shl (show i < 32 by omega), zn_or, eo]
      exact ⟨⟨e hsz hrw⟩⟩
    · have ha1 : al S x (tf S f i) (tf S f q) = true := ‹_›
      have e := ih ‹i < 4› G2 (eqx_trans hx1 hx2) (fun j hj => (hs2 j hj).trans (hs29 j hj))
      rw [nx_c ha1 ‹may S 3 i = true›, bq_bn, ha1, bn_t rfl, Nat.one_mul] at e
      simp only [nI_add, zn_shl (show i < 32 by omega), zn_or, eo]
      exact ⟨⟨e hsz2 hrw2⟩⟩
  have e1i : (nI 3 + nI 1).toNatClampNeg = 4 := by rw [nI_add, zn_clI (show 3 + 1 < 2 ^ 31 by decide)]
  refine sm_body [44] 80 sm_k39 (fun CT K hC hK => ?_)
  repeat' first
    | (with_reducible refine And.intro ?_ ?_)
    | ((with_reducible intro h9); first | exact absurd h9 (by decide) | skip)
    | (with_reducible exact zn_in (by omega) (by decide))
    | (with_reducible exact z01) | (with_reducible exact z11) | (with_reducible exact zb01 _)
    | (with_reducible exact zn_inb (by omega) (by decide))
    | (with_reducible exact zn_ina (by omega) (by decide))
    | (with_reducible exact zn_inc (by omega) (by decide))
    | ((conv => whnf); first | (with_reducible refine And.intro ?_ ?_) | ((with_reducible intro h9); first | exact absurd h9 (by decide) | skip) | (with_reducible refine hK _ _ _ _ (sm_un ?_)) | (refine Exists.intro 25 (And.intro rfl ?_)) | ((rw [e0, e_255 hz]; refine s_turnedPose (hC.mono (by omega)) hD hR hf hq ?_)))
  conv => whnf
  simp only [e1i, eb, zn_and, hp_0, hp_1, hp_2, hp_3, hp_4, hp_5, hp_6, hp_7, hp_8, hp_9, hp_10, hp_11, hp_12, hp_13, hp_14, hp_15, hp_16, hp_17, hp_18, hp_19, hp_20, hp_22, hp_23, hp_24, hp_25, hp_26, hp_27, hp_28, hp_29, hp_30, hp_31, hp_32, hp_33, hp_34, hp_35, hp_36, hp_37, hp_38, hp_39, hp_40, hp_41, hp_42, hp_43, hp_44, hp_45, hp_46, hp_47, hp_48, hp_49, hf0_5, hf0_6, hf0_7, hf1_1, hf3_0, hf3_2, hf3_6, hf10_0, hf10_2, hf10_6, hf17_3, hf17_4, hf20_3, hf20_4, hf30_0, hf30_1, hf30_3, hf30_7, hf30_11, hf30_12, hf30_20, hf30_22, hf30_23, hf30_24, hf30_25, hf30_21, hf30_31, upd_su, updL_su]
  refine ⟨⟨lo 0 (Nat.zero_le _) _ (eqx_su 29 _ rfl eqx_rfl) (fun j hj => ?_) ?_ (fun i w hw => ?_)⟩⟩
  · show su (G 29) 4 _ j = _
    rw [su_if, if_f hj]
  · show su (G 29) 4 _ 4 = _
    rw [su_eq]
    rfl
  · have hw : ([] : List (Nat → Nat))[i]? = some w := hw
    simp at hw
set_option maxRecDepth 100000 in
set_option maxHeartbeats 4000000 in
theorem s_fill_4 (hC : sm_C 5 CT) (hD : cD S G) (hR : dR S) (hL : cL S G) (hh : 4 < S 0 0) {a q x v0 : Nat} (hq : q < 4) (ea : G 20 3 = nI a) (ha : a < 6) (eb : G 20 4 = nI (bz x (S 0 1))) (hv0 : v0 < S 0 1) (hx0 : inS x v0 = true) {gl : List (Nat → Nat)} (hne : gl ≠ []) (h1 : G 29 4 = nI gl.length) (hg : rwp S a 4 gl (G 26)) (hb : gl.length ≤ 2 ^ 4) (hw : ∀ w, w ∈ gl → ∀ i, i < 4 → w i < 4)
    (hQ : ∀ G', eqx [27, 29] G G' → (∀ i, i ≠ 5 → G' 29 i = G 29 i) → G' 29 5 = nI (nx S x 4 q (hdp S 4 gl) gl 4).length → rwp S a 5 (nx S x 4 q (hdp S 4 gl) gl 4) (G' 27) → Q (some (.int (nI (bq 4 (fun p => bn (al S x (tf S (hdp S 4 gl) p) (tf S (hdp S 4 gl) q))))))) (hp G' L)) : CT 39 [.ref 20, .int (nI 4), .int (nI q)] (hp G L) Q := by
  obtain ⟨r1, r2, r3, r4⟩ := id hR
  obtain ⟨f, hfd⟩ : ∃ f, f = hdp S 4 gl := ⟨_, rfl⟩
  rw [← hfd] at hQ
  have hf : ∀ v, v < S 0 1 → f v < 4 := by
    intro v hv
    subst hfd
    cases gl with
    | nil => exact absurd rfl hne
    | cons w0 gr => exact ps_lt (r4 v hv).2.1 _ (hw w0 List.mem_cons_self)
  obtain ⟨k0, e0⟩ : ∃ k, G 26 (nI 0).toNatClampNeg = nI (k * 256 + zp (S 0 1) f) := by
    subst hfd
    rw [zn_clI (show 0 < 2 ^ 31 by decide)]
    cases gl with
    | nil => exact absurd rfl hne
    | cons w0 gr => exact ⟨_, hg 0 w0 rfl⟩
  have hz := zp_256 r2 hf
  have hct := al_two hR hv0 hx0 (hf v0 hv0) hq
  have hfq : ∀ v, v < S 0 1 → tf S f q v < 4 := fun v hv => trn_lt (hf v hv) hq
  have ezb : ∀ g : Nat → Nat, (∀ v, v < S 0 1 → g v < 4) → zp (S 0 1) g &&& bz x (S 0 1) < 256 := fun g hg => Nat.lt_of_le_of_lt Nat.and_le_left (zp_256 r2 hg)
  refine sm_meth hC [some (.ref 20), some (.int (nI 4)), some (.int (nI q)), none, none, none, none] rfl rfl rfl ?_
  have lo : ∀ i, i ≤ 4 → ∀ G1, eqx [27, 29] G G1 → (∀ i, i ≠ 5 → G1 29 i = G 29 i) → G1 29 5 = nI (nx S x 4 q f gl i).length → rwp S a 5 (nx S x 4 q f gl i) (G1 27) → sm_Wk 4 39 Q none 44 [some (.ref 20), some (.int (nI 4)), some (.int (nI q)), some (.int (nI (zp (S 0 1) f))), some (.int (nI (zp (S 0 1) (tf S f q) &&& bz x (S 0 1)))), some (.int (nI (bq i (fun p => bn (al S x (tf S f p) (tf S f q)))))), some (.int (nI i))] [] (hp G1 L) := by
    refine up _ (fun i hi ih G1 hx1 hs29 hsz hrw => ?_)
    have fb : G1 20 4 = nI (bz x (S 0 1)) := by rw [hx1 20 rfl]; exact eb
    have fa : G1 20 3 = nI a := by rw [hx1 20 rfl]; exact ea
    have f1 : G1 29 4 = nI gl.length := by rw [hs29 4 (by decide)]; exact h1
    have fg : rwp S a 4 gl (G1 26) := by rw [hx1 26 rfl]; exact hg
    have hD1 := cD_x hx1 rfl hD
    have hL1 := cL_x hx1 rfl hL
    have hft : i < 4 → ∀ v, v < S 0 1 → tf S f i v < 4 := fun h v hv => trn_lt (hf v hv) h
    have hbn : i < 4 → al S x (tf S f i) (tf S f q) = true → (nx S x 4 q f gl i).length + gl.length ≤ 64 := by
      intro h4 he
      have h5 : ct (fun i => al S x (tf S f i) (tf S f q)) i + bn (al S x (tf S f i) (tf S f q)) ≤ ct (fun i => al S x (tf S f i) (tf S f q)) 4 := ct_up (n := i + 1) h4
      rw [he, bn_t rfl] at h5
      have h7 := Nat.mul_le_mul_right gl.length (show ct (fun i => al S x (tf S f i) (tf S f q)) i ≤ 1 by omega)
      have h8 : (2 : Nat) ^ 4 ≤ 32 := by decide
      have hlen := nx_len (S := S) (x := x) (h := 4) (q := q) (f := f) (gl := gl) i
      omega
    have eo : bq i (fun p => bn (al S x (tf S f p) (tf S f q))) ||| 1 * 2 ^ i = bq i (fun p => bn (al S x (tf S f p) (tf S f q))) + 2 ^ i := by rw [Nat.one_mul]; exact bq_or i
    refine sm_body [44] 120 sm_k39 (fun CT K hC hK => ?_)
    repeat' first
      | (with_reducible refine And.intro ?_ ?_)
      | ((with_reducible intro h9); first | exact absurd h9 (by decide) | (replace h9 := zle (by omega) (by omega) h9) | (replace h9 := znle (by omega) (by omega) h9) | (replace h9 := sb_f h9) | (replace h9 := sb_t h9) | ((rw [fb, zn_and] at h9; replace h9 := zneq h9)) | ((rw [fb, zn_and] at h9; replace h9 := (bz_al (hft ‹i < 4›) hfq).mp (zeq (by have := ezb _ (hft ‹i < 4›); exact Nat.lt_trans this (by decide)) (by have := ezb _ hfq; omega) h9))) | skip)
      | (with_reducible exact zn_in (by omega) (by decide))
      | (with_reducible exact z01) | (with_reducible exact z11) | (with_reducible exact zb01 _)
      | (with_reducible exact zn_inb (by omega) (by decide))
      | (with_reducible exact zn_ina (by omega) (by decide))
      | (with_reducible exact zn_inc (by omega) (by decide))
      | ((conv => whnf); first | (with_reducible refine And.intro ?_ ?_) | ((with_reducible intro h9); first | exact absurd h9 (by decide) | (replace h9 := zle (by omega) (by omega) h9) | (replace h9 := znle (by omega) (by omega) h9) | (replace h9 := sb_f h9) | (replace h9 := sb_t h9) | ((rw [fb, zn_and] at h9; replace h9 := zneq h9)) | ((rw [fb, zn_and] at h9; replace h9 := (bz_al (hft ‹i < 4›) hfq).mp (zeq (by have := ezb _ (hft ‹i < 4›); exact Nat.lt_trans this (by decide)) (by have := ezb _ hfq; omega) h9))) | skip) | (with_reducible refine hK _ _ _ _ (sm_un ?_)) | (with_reducible refine s_turnedPose (hC.mono (by omega)) hD1 hR hf ‹i < 4› ?_) | (with_reducible refine s_mayBlow (hC.mono (by omega)) hD1 hR hh ‹i < 4› ?_) | (refine s_blow_4 (gl := gl) (nl := nx S x 4 q f gl i) (hC.mono (by omega)) hD1 hR hL1 hh ‹i < 4› fa ha f1 hsz fg hrw (hbn ‹i < 4› ‹al S x (tf S f i) (tf S f q) = true›) hw (fun G2 hx2 hs2 hsz2 hrw2 => ?_)))
    · obtain rfl : i = 4 := by omega
      exact hQ G1 hx1 hs29 hsz hrw
    · have ha0 : al S x (tf S f i) (tf S f q) = false := by
        cases hal : al S x (tf S f i) (tf S f q) with
        | false => rfl
        | true => exact absurd ((bz_al (hft ‹i < 4›) hfq).mpr hal) h9
      have e := ih ‹i < 4› G1 hx1 hs29
      rw [nx_a ha0, bq_bn, ha0, bn_f rfl, Nat.zero_mul, Nat.add_zero] at e
      simp only [nI_add]; exact ⟨⟨e hsz hrw⟩⟩
    · have ha1 : al S x (tf S f i) (tf S f q) = true := ‹_›
      have e := ih ‹i < 4› G1 hx1 hs29
      rw [nx_b ha1 h9, bq_bn, ha1, bn_t rfl, Nat.one_mul] at e
      simp only [nI_add, zn_shl (show i < 32 by omega), zn_or, eo]
      exact ⟨⟨e hsz hrw⟩⟩
    · have ha1 : al S x (tf S f i) (tf S f q) = true := ‹_›
      have e := ih ‹i < 4› G2 (eqx_trans hx1 hx2) (fun j hj => (hs2 j hj).trans (hs29 j hj))
      rw [nx_c ha1 ‹may S 4 i = true›, bq_bn, ha1, bn_t rfl, Nat.one_mul] at e
      simp only [nI_add, zn_shl (show i < 32 by omega), zn_or, eo]
      exact ⟨⟨e hsz2 hrw2⟩⟩
  have e1i : (nI 4 + nI 1).toNatClampNeg = 5 := by rw [nI_add, zn_clI (show 4 + 1 < 2 ^ 31 by decide)]
  refine sm_body [44] 80 sm_k39 (fun CT K hC hK => ?_)
  repeat' first
    | (with_reducible refine And.intro ?_ ?_)
    | ((with_reducible intro h9); first | exact absurd h9 (by decide) | skip)
    | (with_reducible exact zn_in (by omega) (by decide))
    | (with_reducible exact z01) | (with_reducible exact z11) | (with_reducible exact zb01 _)
    | (with_reducible exact zn_inb (by omega) (by decide))
    | (with_reducible exact zn_ina (by omega) (by decide))
    | (with_reducible exact zn_inc (by omega) (by decide))
    | ((conv => whnf); first | (with_reducible refine And.intro ?_ ?_) | ((with_reducible intro h9); first | exact absurd h9 (by decide) | skip) | (with_reducible refine hK _ _ _ _ (sm_un ?_)) | (refine Exists.intro 26 (And.intro rfl ?_)) | ((rw [e0, e_255 hz]; refine s_turnedPose (hC.mono (by omega)) hD hR hf hq ?_)))
  conv => whnf
  simp only [e1i, eb, zn_and, hp_0, hp_1, hp_2, hp_3, hp_4, hp_5, hp_6, hp_7, hp_8, hp_9, hp_10, hp_11, hp_12, hp_13, hp_14, hp_15, hp_16, hp_17, hp_18, hp_19, hp_20, hp_22, hp_23, hp_24, hp_25, hp_26, hp_27, hp_28, hp_29, hp_30, hp_31, hp_32, hp_33, hp_34, hp_35, hp_36, hp_37, hp_38, hp_39, hp_40, hp_41, hp_42, hp_43, hp_44, hp_45, hp_46, hp_47, hp_48, hp_49, hf0_5, hf0_6, hf0_7, hf1_1, hf3_0, hf3_2, hf3_6, hf10_0, hf10_2, hf10_6, hf17_3, hf17_4, hf20_3, hf20_4, hf30_0, hf30_1, hf30_3, hf30_7, hf30_11, hf30_12, hf30_20, hf30_22, hf30_23, hf30_24, hf30_25, hf30_21, hf30_31, upd_su, updL_su]
  refine ⟨⟨lo 0 (Nat.zero_le _) _ (eqx_su 29 _ rfl eqx_rfl) (fun j hj => ?_) ?_ (fun i w hw => ?_)⟩⟩
  · show su (G 29) 5 _ j = _
    rw [su_if, if_f hj]
  · show su (G 29) 5 _ 5 = _
    rw [su_eq]
    rfl
  · have hw : ([] : List (Nat → Nat))[i]? = some w := hw
    simp at hw
set_option maxRecDepth 100000 in
set_option maxHeartbeats 4000000 in
theorem s_fill_5 (hC : sm_C 5 CT) (hD : cD S G) (hR : dR S) (hL : cL S G) (hh : 5 < S 0 0) {a q x v0 : Nat} (hq : q < 4) (ea : G 20 3 = nI a) (ha : a < 6) (eb : G 20 4 = nI (bz x (S 0 1))) (hv0 : v0 < S 0 1) (hx0 : inS x v0 = true) {gl : List (Nat → Nat)} (hne : gl ≠ []) (h1 : G 29 5 = nI gl.length) (hg : rwp S a 5 gl (G 27)) (hb : gl.length ≤ 2 ^ 5) (hw : ∀ w, w ∈ gl → ∀ i, i < 5 → w i < 4)
    (hQ : ∀ G', eqx [28, 29] G G' → (∀ i, i ≠ 6 → G' 29 i = G 29 i) → G' 29 6 = nI (nx S x 5 q (hdp S 5 gl) gl 4).length → rwp S a 6 (nx S x 5 q (hdp S 5 gl) gl 4) (G' 28) → Q (some (.int (nI (bq 4 (fun p => bn (al S x (tf S (hdp S 5 gl) p) (tf S (hdp S 5 gl) q))))))) (hp G' L)) : CT 39 [.ref 20, .int (nI 5), .int (nI q)] (hp G L) Q := by
  obtain ⟨r1, r2, r3, r4⟩ := id hR
  obtain ⟨f, hfd⟩ : ∃ f, f = hdp S 5 gl := ⟨_, rfl⟩
  rw [← hfd] at hQ
  have hf : ∀ v, v < S 0 1 → f v < 4 := by
    intro v hv
    subst hfd
    cases gl with
    | nil => exact absurd rfl hne
    | cons w0 gr => exact ps_lt (r4 v hv).2.1 _ (hw w0 List.mem_cons_self)
  obtain ⟨k0, e0⟩ : ∃ k, G 27 (nI 0).toNatClampNeg = nI (k * 256 + zp (S 0 1) f) := by
    subst hfd
    rw [zn_clI (show 0 < 2 ^ 31 by decide)]
    cases gl with
    | nil => exact absurd rfl hne
    | cons w0 gr => exact ⟨_, hg 0 w0 rfl⟩
  have hz := zp_256 r2 hf
  have hct := al_two hR hv0 hx0 (hf v0 hv0) hq
  have hfq : ∀ v, v < S 0 1 → tf S f q v < 4 := fun v hv => trn_lt (hf v hv) hq
  have ezb : ∀ g : Nat → Nat, (∀ v, v < S 0 1 → g v < 4) → zp (S 0 1) g &&& bz x (S 0 1) < 256 := fun g hg => Nat.lt_of_le_of_lt Nat.and_le_left (zp_256 r2 hg)
  refine sm_meth hC [some (.ref 20), some (.int (nI 5)), some (.int (nI q)), none, none, none, none] rfl rfl rfl ?_
  have lo : ∀ i, i ≤ 4 → ∀ G1, eqx [28, 29] G G1 → (∀ i, i ≠ 6 → G1 29 i = G 29 i) → G1 29 6 = nI (nx S x 5 q f gl i).length → rwp S a 6 (nx S x 5 q f gl i) (G1 28) → sm_Wk 4 39 Q none 44 [some (.ref 20), some (.int (nI 5)), some (.int (nI q)), some (.int (nI (zp (S 0 1) f))), some (.int (nI (zp (S 0 1) (tf S f q) &&& bz x (S 0 1)))), some (.int (nI (bq i (fun p => bn (al S x (tf S f p) (tf S f q)))))), some (.int (nI i))] [] (hp G1 L) := by
    refine up _ (fun i hi ih G1 hx1 hs29 hsz hrw => ?_)
    have fb : G1 20 4 = nI (bz x (S 0 1)) := by rw [hx1 20 rfl]; exact eb
    have fa : G1 20 3 = nI a := by rw [hx1 20 rfl]; exact ea
    have f1 : G1 29 5 = nI gl.length := by rw [hs29 5 (by decide)]; exact h1
    have fg : rwp S a 5 gl (G1 27) := by rw [hx1 27 rfl]; exact hg
    have hD1 := cD_x hx1 rfl hD
    have hL1 := cL_x hx1 rfl hL
    have hft : i < 4 → ∀ v, v < S 0 1 → tf S f i v < 4 := fun h v hv => trn_lt (hf v hv) h
    have hbn : i < 4 → al S x (tf S f i) (tf S f q) = true → (nx S x 5 q f gl i).length + gl.length ≤ 64 := by
      intro h4 he
      have h5 : ct (fun i => al S x (tf S f i) (tf S f q)) i + bn (al S x (tf S f i) (tf S f q)) ≤ ct (fun i => al S x (tf S f i) (tf S f q)) 4 := ct_up (n := i + 1) h4
      rw [he, bn_t rfl] at h5
      have h7 := Nat.mul_le_mul_right gl.length (show ct (fun i => al S x (tf S f i) (tf S f q)) i ≤ 1 by omega)
      have h8 : (2 : Nat) ^ 5 ≤ 32 := by decide
      have hlen := nx_len (S := S) (x := x) (h := 5) (q := q) (f := f) (gl := gl) i
      omega
    have eo : bq i (fun p => bn (al S x (tf S f p) (tf S f q))) ||| 1 * 2 ^ i = bq i (fun p => bn (al S x (tf S f p) (tf S f q))) + 2 ^ i := by rw [Nat.one_mul]; exact bq_or i
    refine sm_body [44] 120 sm_k39 (fun CT K hC hK => ?_)
    repeat' first
      | (with_reducible refine And.intro ?_ ?_)
      | ((with_reducible intro h9); first | exact absurd h9 (by decide) | (replace h9 := zle (by omega) (by omega) h9) | (replace h9 := znle (by omega) (by omega) h9) | (replace h9 := sb_f h9) | (replace h9 := sb_t h9) | ((rw [fb, zn_and] at h9; replace h9 := zneq h9)) | ((rw [fb, zn_and] at h9; replace h9 := (bz_al (hft ‹i < 4›) hfq).mp (zeq (by have := ezb _ (hft ‹i < 4›); exact Nat.lt_trans this (by decide)) (by have := ezb _ hfq; omega) h9))) | skip)
      | (with_reducible exact zn_in (by omega) (by decide))
      | (with_reducible exact z01) | (with_reducible exact z11) | (with_reducible exact zb01 _)
      | (with_reducible exact zn_inb (by omega) (by decide))
      | (with_reducible exact zn_ina (by omega) (by decide))
      | (with_reducible exact zn_inc (by omega) (by decide))
      | ((conv => whnf); first | (with_reducible refine And.intro ?_ ?_) | ((with_reducible intro h9); first | exact absurd h9 (by decide) | (replace h9 := zle (by omega) (by omega) h9) | (replace h9 := znle (by omega) (by omega) h9) | (replace h9 := sb_f h9) | (replace h9 := sb_t h9) | ((rw [fb, zn_and] at h9; replace h9 := zneq h9)) | ((rw [fb, zn_and] at h9; replace h9 := (bz_al (hft ‹i < 4›) hfq).mp (zeq (by have := ezb _ (hft ‹i < 4›); exact Nat.lt_trans this (by decide)) (by have := ezb _ hfq; omega) h9))) | skip) | (with_reducible refine hK _ _ _ _ (sm_un ?_)) | (with_reducible refine s_turnedPose (hC.mono (by omega)) hD1 hR hf ‹i < 4› ?_) | (with_reducible refine s_mayBlow (hC.mono (by omega)) hD1 hR hh ‹i < 4› ?_) | (refine s_blow_5 (gl := gl) (nl := nx S x 5 q f gl i) (hC.mono (by omega)) hD1 hR hL1 hh ‹i < 4› fa ha f1 hsz fg hrw (hbn ‹i < 4› ‹al S x (tf S f i) (tf S f q) = true›) hw (fun G2 hx2 hs2 hsz2 hrw2 => ?_)))
    · obtain rfl : i = 4 := by omega
      exact hQ G1 hx1 hs29 hsz hrw
    · have ha0 : al S x (tf S f i) (tf S f q) = false := by
        cases hal : al S x (tf S f i) (tf S f q) with
        | false => rfl
        | true => exact absurd ((bz_al (hft ‹i < 4›) hfq).mpr hal) h9
      have e := ih ‹i < 4› G1 hx1 hs29
      rw [nx_a ha0, bq_bn, ha0, bn_f rfl, Nat.zero_mul, Nat.add_zero] at e
      simp only [nI_add]; exact ⟨⟨e hsz hrw⟩⟩
    · have ha1 : al S x (tf S f i) (tf S f q) = true := ‹_›
      have e := ih ‹i < 4› G1 hx1 hs29
      rw [nx_b ha1 h9, bq_bn, ha1, bn_t rfl, Nat.one_mul] at e
      simp only [nI_add, zn_shl (show i < 32 by omega), zn_or, eo]
      exact ⟨⟨e hsz hrw⟩⟩
    · have ha1 : al S x (tf S f i) (tf S f q) = true := ‹_›
      have e := ih ‹i < 4› G2 (eqx_trans hx1 hx2) (fun j hj => (hs2 j hj).trans (hs29 j hj))
      rw [nx_c ha1 ‹may S 5 i = true›, bq_bn, ha1, bn_t rfl, Nat.one_mul] at e
      simp only [nI_add, zn_shl (show i < 32 by omega), zn_or, eo]
      exact ⟨⟨e hsz2 hrw2⟩⟩
  have e1i : (nI 5 + nI 1).toNatClampNeg = 6 := by rw [nI_add, zn_clI (show 5 + 1 < 2 ^ 31 by decide)]
  refine sm_body [44] 80 sm_k39 (fun CT K hC hK => ?_)
  repeat' first
    | (with_reducible refine And.intro ?_ ?_)
    | ((with_reducible intro h9); first | exact absurd h9 (by decide) | skip)
    | (with_reducible exact zn_in (by omega) (by decide))
    | (with_reducible exact z01) | (with_reducible exact z11) | (with_reducible exact zb01 _)
    | (with_reducible exact zn_inb (by omega) (by decide))
    | (with_reducible exact zn_ina (by omega) (by decide))
    | (with_reducible exact zn_inc (by omega) (by decide))
    | ((conv => whnf); first | (with_reducible refine And.intro ?_ ?_) | ((with_reducible intro h9); first | exact absurd h9 (by decide) | skip) | (with_reducible refine hK _ _ _ _ (sm_un ?_)) | (refine Exists.intro 27 (And.intro rfl ?_)) | ((rw [e0, e_255 hz]; refine s_turnedPose (hC.mono (by omega)) hD hR hf hq ?_)))
  conv => whnf
  simp only [e1i, eb, zn_and, hp_0, hp_1, hp_2, hp_3, hp_4, hp_5, hp_6, hp_7, hp_8, hp_9, hp_10, hp_11, hp_12, hp_13, hp_14, hp_15, hp_16, hp_17, hp_18, hp_19, hp_20, hp_22, hp_23, hp_24, hp_25, hp_26, hp_27, hp_28, hp_29, hp_30, hp_31, hp_32, hp_33, hp_34, hp_35, hp_36, hp_37, hp_38, hp_39, hp_40, hp_41, hp_42, hp_43, hp_44, hp_45, hp_46, hp_47, hp_48, hp_49, hf0_5, hf0_6, hf0_7, hf1_1, hf3_0, hf3_2, hf3_6, hf10_0, hf10_2, hf10_6, hf17_3, hf17_4, hf20_3, hf20_4, hf30_0, hf30_1, hf30_3, hf30_7, hf30_11, hf30_12, hf30_20, hf30_22, hf30_23, hf30_24, hf30_25, hf30_21, hf30_31, upd_su, updL_su]
  refine ⟨⟨lo 0 (Nat.zero_le _) _ (eqx_su 29 _ rfl eqx_rfl) (fun j hj => ?_) ?_ (fun i w hw => ?_)⟩⟩
  · show su (G 29) 6 _ j = _
    rw [su_if, if_f hj]
  · show su (G 29) 6 _ 6 = _
    rw [su_eq]
    rfl
  · have hw : ([] : List (Nat → Nat))[i]? = some w := hw
    simp at hw
end FILL
