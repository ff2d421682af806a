/-! The tally: its walk over all winds. -/
def sg : Nat → (Nat → Nat) → Nat
  | 0, _ => 0
  | n + 1, g => sg n g + g n
theorem sg_congr {g g' : Nat → Nat} : ∀ {n}, (∀ i, i < n → g i = g' i) → sg n g = sg n g'
  | 0, _ => rfl
  | n + 1, h => by
    show sg n g + g n = sg n g' + g' n
    rw [sg_congr (n := n) (fun i hi => h i (by omega)), h n (by omega)]
/-- one way noted: the index i of poses -/
def nt (vn h : Nat) (f : Nat → Nat) (m i : Nat) : Nat := if i / 24 < vn ∧ i / 4 % 6 = h ∧ i % 4 = f (i / 24) then m else 0
def gt (h w m i : Nat) : Nat := if i = h * 4 + w then m else 0
def tf (S : Nat → Nat → Nat) (f : Nat → Nat) (q : Nat) : Nat → Nat := fun v => tv S v (f v) q
def okq (S : Nat → Nat → Nat) (h : Nat) (f : Nat → Nat) (q : Nat) : Bool := may S h q && ag S h (tf S f q)
def wk (S : Nat → Nat → Nat) : Nat → Nat → (Nat → Nat) → Nat
  | 0, _, _ => 1
  | n + 1, h, f => sg 4 (fun q => cond (okq S h f q) (wk S n (h + 1) (tf S f q)) 0)
def wx (S : Nat → Nat → Nat) : Nat → Nat → (Nat → Nat) → Nat → Nat
  | 0, _, _, _ => 0
  | n + 1, h, f, i => sg 4 (fun q => cond (okq S h f q) (wx S n (h + 1) (tf S f q) i + nt (S 0 1) h (tf S f q) (wk S n (h + 1) (tf S f q)) i) 0)
def wy (S : Nat → Nat → Nat) : Nat → Nat → (Nat → Nat) → Nat → Nat
  | 0, _, _, _ => 0
  | n + 1, h, f, i => sg 4 (fun q => cond (okq S h f q) (wy S n (h + 1) (tf S f q) i + gt h q (wk S n (h + 1) (tf S f q)) i) 0)
theorem cD_x {ps : List Nat} {S G G' : _} (hx : eqx ps G G') (hm : (sm_mem ps 3 || (sm_mem ps 4 || (sm_mem ps 5 || (sm_mem ps 6 || sm_mem ps 7)))) = false) (h : cD S G) : cD S G' := by
  simp only [Bool.or_eq_false_iff] at hm
  obtain ⟨h3, h4, h5, h6, h7⟩ := hm
  unfold cD
  rw [hx 3 h3, hx 4 h4, hx 5 h5, hx 6 h6, hx 7 h7]
  exact h
theorem cD_v {S G : _} (h : cD S G) : G 3 2 = nI (S 0 1) := h.2.1
theorem cD_h {S G : _} (h : cD S G) : G 3 0 = nI (S 0 0) := h.1
theorem cL_x {ps : List Nat} {S G G' : _} (hx : eqx ps G G') (hm : sm_mem ps 9 = false) (h : cL S G) : cL S G' := by
  unfold cL
  rw [hx 9 hm]
  exact h
theorem nt_step {i h m j : Nat} {f : Nat → Nat} (hf : f i < 4) (hh : h < 6) : nt (i + 1) h f m j = if j = (i * 6 + h) * 4 + f i then nt i h f m j + m else nt i h f m j := by
  unfold nt
  by_cases hji : j / 24 = i
  · rw [hji]
    by_cases hc : j = (i * 6 + h) * 4 + f i
    · rw [if_pos hc, if_pos (by omega), if_neg (by omega)]
      omega
    · rw [if_neg hc, if_neg (by omega), if_neg (by omega)]
  · have hc : ¬ j = (i * 6 + h) * 4 + f i := by omega
    rw [if_neg hc]
    by_cases hl : j / 24 < i
    · simp only [hl, show j / 24 < i + 1 by omega]
    · simp only [hl, show ¬ j / 24 < i + 1 by omega]
theorem nt_0 {h m j : Nat} {f : Nat → Nat} : nt 0 h f m j = 0 := by
  unfold nt
  rw [if_neg (by omega)]
/-- bits of the counts above 0 -/
def bq : Nat → (Nat → Nat) → Nat
  | 0, _ => 0
  | n + 1, c => bq n c + (if 0 < c n then 2 ^ n else 0)
theorem bq_lt {c : Nat → Nat} : ∀ n, bq n c < 2 ^ n
  | 0 => Nat.zero_lt_one
  | n + 1 => by
    have h1 := bq_lt (c := c) n
    show bq n c + _ < _
    rw [Nat.pow_succ]
    split <;> omega
theorem bq_or {c : Nat → Nat} (n : Nat) : bq n c ||| 2 ^ n = bq n c + 2 ^ n := by
  have h := Nat.two_pow_add_eq_or_of_lt (bq_lt (c := c) n) 1
  rw [Nat.mul_one] at h
  rw [Nat.or_comm, ← h, Nat.add_comm]
section TALLY
variable {CT : sm_CT} {G : Nat → Nat → Int32} {L : Nat → Nat → Int64} {Q : sm_Q} {S : Nat → Nat → Nat}
set_option maxRecDepth 100000 in
set_option maxHeartbeats 4000000 in
theorem s_note (hC : sm_C 1 CT) (e2 : G 3 2 = nI (S 0 1)) (hv : S 0 1 ≤ 4) {f : Nat → Nat} {h w m : Nat} (hf : ∀ v, v < S 0 1 → f v < 4) (hh : h < 6) (hw : w < 4) {X Y : Nat → Nat} (hX : ∀ i, i < 96 → G 18 i = nI (X i)) (hY : ∀ i, i < 24 → G 19 i = nI (Y i))
    (hQ : ∀ G', eqx [18, 19] G G' → (∀ i, i < 96 → G' 18 i = nI (X i + nt (S 0 1) h f m i)) → (∀ i, i < 24 → G' 19 i = nI (Y i + gt h w m i)) → Q none (hp G' L)) : CT 29 [.ref 17, .int (nI h), .int (nI w), .int (nI (zp (S 0 1) f)), .int (nI m)] (hp G L) Q := by
  have h256 := zp_256 hv hf
  refine sm_meth hC [some (.ref 17), some (.int (nI h)), some (.int (nI w)), some (.int (nI (zp (S 0 1) f))), some (.int (nI m)), none] rfl rfl rfl ?_
  have lo : ∀ i, i ≤ S 0 1 → ∀ G1, eqx [18, 19] G G1 → (∀ j, j < 96 → G1 18 j = nI (X j + nt i h f m j)) → (∀ j, j < 24 → G1 19 j = nI (Y j + gt h w m j)) → sm_Wk 0 29 Q none 18 [some (.ref 17), some (.int (nI h)), some (.int (nI w)), some (.int (nI (zp (S 0 1) f))), some (.int (nI m)), some (.int (nI i))] [] (hp G1 L) := by
    refine up _ (fun i hi ih G1 hx hX1 hY1 => ?_)
    refine sm_body [18] 80 sm_k29 (fun CT K hC hK => ?_)
    have e2' : G1 3 2 = nI (S 0 1) := by rw [hx 3 rfl]; exact e2
    have hidx : i < S 0 1 → (nI i * nI 6 + nI h) * nI 4 + (sm_shr (nI (zp (S 0 1) f)) (nI 2 * nI i) &&& nI 3) = nI ((i * 6 + h) * 4 + f i) := by
      intro hl
      rw [zn_at2 (by omega) (by omega), zp_at hf hl]
      simp only [pk_mul, nI_add]
    repeat' first
      | (with_reducible refine And.intro ?_ ?_)
      | ((with_reducible intro h9); first | exact absurd h9 (by decide) | (replace h9 := nle e2' (by omega) (by omega) h9) | (replace h9 := yle e2' (by omega) (by omega) h9) | skip)
      | (with_reducible exact zn_in (by omega) (by decide))
      | (with_reducible exact z01) | (with_reducible exact z11) | (with_reducible exact zb01 _)
      | (with_reducible exact zn_inb (by omega) (by decide))
      | (with_reducible exact zn_ina (by omega) (by decide))
      | (with_reducible exact zn_inc (by omega) (by decide))
      | ((conv => whnf); first | (with_reducible refine And.intro ?_ ?_) | ((with_reducible intro h9); first | exact absurd h9 (by decide) | (replace h9 := nle e2' (by omega) (by omega) h9) | (replace h9 := yle e2' (by omega) (by omega) h9) | skip) | (with_reducible refine hK _ _ _ _ (sm_un ?_)) | (rw [hidx ‹_›]; exact zn_in (by have := hf i ‹_›; omega) (by decide)))
    · obtain rfl : i = S 0 1 := by omega
      exact hQ G1 hx hX1 hY1
    · have hfi := hf i h9
      simp only [hidx h9, zn_clI (show (i * 6 + h) * 4 + f i < 2 ^ 31 by omega), hp_0, hp_1, hp_2, hp_3, hp_4, hp_5, hp_6, hp_7, hp_8, hp_9, hp_10, hp_11, hp_12, hp_13, hp_14, hp_15, hp_16, hp_17, hp_18, hp_19, hp_20, hp_22, hp_23, hp_24, hp_25, hp_26, hp_27, hp_28, hp_29, hp_30, hp_31, hp_32, hp_33, hp_34, hp_35, hf0_5, hf0_6, hf0_7, hf1_1, hf3_0, hf3_2, hf3_6, hf10_0, hf10_2, hf10_6, hf17_3, hf17_4, hf20_3, hf20_4, upd_su, updL_su, nI_add]
      refine ⟨⟨ih h9 _ (eqx_su 18 _ rfl hx) (fun j hj => ?_) (fun j hj => ?_)⟩⟩
      · rw [su_eq, su_if, nt_step hfi hh]
        split
        · rename_i hc
          rw [← hc, hX1 j hj, nI_add, Nat.add_assoc]
        · exact hX1 j hj
      · rw [su_ne _ _ (by decide)]
        exact hY1 j hj
  refine sm_body [18] 80 sm_k29 (fun CT K hC hK => ?_)
  repeat' first
    | (with_reducible refine And.intro ?_ ?_)
    | ((with_reducible intro h9); first | exact absurd h9 (by decide) | skip)
    | (with_reducible exact zn_in (by omega) (by decide))
    | (with_reducible exact z01) | (with_reducible exact z11) | (with_reducible exact zb01 _)
    | (with_reducible exact zn_inb (by omega) (by decide))
    | (with_reducible exact zn_ina (by omega) (by decide))
    | (with_reducible exact zn_inc (by omega) (by decide))
    | ((conv => whnf); first | (with_reducible refine And.intro ?_ ?_) | ((with_reducible intro h9); first | exact absurd h9 (by decide) | skip) | (with_reducible refine hK _ _ _ _ (sm_un ?_)))
  simp only [pk_mul, nI_add, zn_clI (show h * 4 + w < 2 ^ 31 by omega), hp_0, hp_1, hp_2, hp_3, hp_4, hp_5, hp_6, hp_7, hp_8, hp_9, hp_10, hp_11, hp_12, hp_13, hp_14, hp_15, hp_16, hp_17, hp_18, hp_19, hp_20, hp_22, hp_23, hp_24, hp_25, hp_26, hp_27, hp_28, hp_29, hp_30, hp_31, hp_32, hp_33, hp_34, hp_35, hf0_5, hf0_6, hf0_7, hf1_1, hf3_0, hf3_2, hf3_6, hf10_0, hf10_2, hf10_6, hf17_3, hf17_4, hf20_3, hf20_4, upd_su, updL_su]
  refine ⟨⟨lo 0 (Nat.zero_le _) _ (eqx_su 19 _ rfl eqx_rfl) (fun j hj => ?_) (fun j hj => ?_)⟩⟩
  · rw [su_ne _ _ (by decide), nt_0]
    exact hX j hj
  · rw [su_eq, su_if, gt]
    split
    · rename_i hc
      rw [← hc, hY j hj, nI_add]
    · exact hY j hj
set_option maxRecDepth 100000 in
set_option maxHeartbeats 4000000 in
theorem s_walk (hR : dR S) : ∀ n h (f X Y : Nat → Nat) (G : Nat → Nat → Int32) (CT : sm_CT) (Q : sm_Q), sm_C (n + 4) CT → cD S G → cL S G → h + n = S 0 0 → (∀ v, v < S 0 1 → f v < 4) → (∀ i, i < 96 → G 18 i = nI (X i)) → (∀ i, i < 24 → G 19 i = nI (Y i)) →
    (∀ G', eqx [18, 19] G G' → (∀ i, i < 96 → G' 18 i = nI (X i + wx S n h f i)) → (∀ i, i < 24 → G' 19 i = nI (Y i + wy S n h f i)) → Q (some (.int (nI (wk S n h f)))) (hp G' L)) → CT 28 [.ref 17, .int (nI h), .int (nI (zp (S 0 1) f))] (hp G L) Q := by
  have hR' := hR
  obtain ⟨r1, r2, r3, r4⟩ := hR'
  intro n
  induction n with
  | zero =>
    intro h f X Y G CT Q hC hD hL hn hf hX hY hQ
    obtain ⟨e1, e2, e3, e4⟩ := hD
    refine sm_meth hC [some (.ref 17), some (.int (nI h)), some (.int (nI (zp (S 0 1) f))), none, none, none, none] rfl rfl rfl ?_
    refine sm_body [] 60 sm_k28 (fun CT K hC hK => ?_)
    repeat' first
      | (with_reducible refine And.intro ?_ ?_)
      | ((with_reducible intro h9); first | exact absurd h9 (by decide) | ((rw [e1, nI_ltI (by omega) (by omega)] at h9; exact absurd h9 (by omega))) | skip)
      | (with_reducible exact zn_in (by omega) (by decide))
      | (with_reducible exact z01) | (with_reducible exact z11) | (with_reducible exact zb01 _)
      | (with_reducible exact zn_inb (by omega) (by decide))
      | (with_reducible exact zn_ina (by omega) (by decide))
      | (with_reducible exact zn_inc (by omega) (by decide))
      | ((conv => whnf); first | (with_reducible refine And.intro ?_ ?_) | ((with_reducible intro h9); first | exact absurd h9 (by decide) | ((rw [e1, nI_ltI (by omega) (by omega)] at h9; exact absurd h9 (by omega))) | skip) | (with_reducible refine hK _ _ _ _ (sm_un ?_)))
    exact hQ G eqx_rfl hX hY
  | succ n ihn =>
    intro h f X Y G CT Q hC hD hL hn hf hX hY hQ
    have e1 := hD.1
    refine sm_meth hC [some (.ref 17), some (.int (nI h)), some (.int (nI (zp (S 0 1) f))), none, none, none, none] rfl rfl rfl ?_
    have lo : ∀ i, i ≤ 4 → ∀ o5 o6 G1, eqx [18, 19] G G1 →
        (∀ j, j < 96 → G1 18 j = nI (X j + sg i (fun q => cond (okq S h f q) (wx S n (h + 1) (tf S f q) j + nt (S 0 1) h (tf S f q) (wk S n (h + 1) (tf S f q)) j) 0))) →
        (∀ j, j < 24 → G1 19 j = nI (Y j + sg i (fun q => cond (okq S h f q) (wy S n (h + 1) (tf S f q) j + gt h q (wk S n (h + 1) (tf S f q)) j) 0))) →
        sm_Wk (n + 4) 28 Q none 18 [some (.ref 17), some (.int (nI h)), some (.int (nI (zp (S 0 1) f))), some (.int (nI (sg i (fun q => cond (okq S h f q) (wk S n (h + 1) (tf S f q)) 0)))), some (.int (nI i)), o5, o6] [] (hp G1 L) := by
      refine up _ (fun i hi ih o5 o6 G1 hx hX1 hY1 => ?_)
      have hD1 := cD_x hx rfl hD
      have hL1 := cL_x hx rfl hL
      refine sm_body [18] 80 sm_k28 (fun CT K hC hK => ?_)
      have ft : ∀ v, v < S 0 1 → i < 4 → tv S v (f v) i < 4 := fun v hv2 hi4 => trn_lt (hf v hv2) hi4
      repeat' first
        | (with_reducible refine And.intro ?_ ?_)
        | ((with_reducible intro h9); first | exact absurd h9 (by decide) | (replace h9 := zle (by omega) (by omega) h9) | (replace h9 := znle (by omega) (by omega) h9) | (replace h9 := sb_f h9) | (replace h9 := sb_t h9) | skip)
        | (with_reducible exact zn_in (by omega) (by decide))
        | (with_reducible exact z01) | (with_reducible exact z11) | (with_reducible exact zb01 _)
        | (with_reducible exact zn_inb (by omega) (by decide))
        | (with_reducible exact zn_ina (by omega) (by decide))
        | (with_reducible exact zn_inc (by omega) (by decide))
        | ((conv => whnf); first | (with_reducible refine And.intro ?_ ?_) | ((with_reducible intro h9); first | exact absurd h9 (by decide) | (replace h9 := zle (by omega) (by omega) h9) | (replace h9 := znle (by omega) (by omega) h9) | (replace h9 := sb_f h9) | (replace h9 := sb_t h9) | skip) | (with_reducible refine hK _ _ _ _ (sm_un ?_)) | (with_reducible refine s_mayBlow (hC.mono (by omega)) hD1 hR (by omega) ‹_› ?_) | (with_reducible refine s_turnedPose (hC.mono (by omega)) hD1 hR hf ‹_› ?_) | (with_reducible refine s_agrees (hC.mono (by omega)) hD1 hR hL1 (fun v hv => ft v hv ‹_›) (by omega) ?_) | (simp only [nI_add]; refine ihn _ _ _ _ _ _ _ hC hD1 hL1 (by omega) (fun v hv => ft v hv ‹_›) hX1 hY1 (fun G2 hx2 hX2 hY2 => ?_)) | (with_reducible refine s_note (hC.mono (by omega)) (cD_v (cD_x hx2 rfl hD1)) r2 (fun v hv => ft v hv ‹_›) (by omega) (by omega) hX2 hY2 (fun G3 hx3 hX3 hY3 => ?_)))
      · obtain rfl : i = 4 := by omega
        exact hQ G1 hx hX1 hY1
      · have ek : okq S h f i = false := by unfold okq tf; rw [‹may S h i = true›, h9]; rfl
        have e := ih (by omega) (some (.int (nI (zp (S 0 1) (fun v => tv S v (f v) i))))) o6 G1 hx (fun j hj => by rw [hX1 j hj, sg, ek]; rfl) (fun j hj => by rw [hY1 j hj, sg, ek]; rfl)
        rw [sg, ek] at e
        simp only [nI_add]; exact ⟨⟨e⟩⟩
      · have ek : okq S h f i = true := by unfold okq tf; rw [‹may S h i = true›, h9]; rfl
        have e := ih (by omega) (some (.int (nI (zp (S 0 1) (fun v => tv S v (f v) i))))) (some (.int (nI (wk S n (h + 1) (fun v => tv S v (f v) i))))) G3 (eqx_trans (eqx_trans hx hx2) hx3) (fun j hj => by rw [hX3 j hj, sg, ek, Nat.add_assoc, Nat.add_assoc]; rfl) (fun j hj => by rw [hY3 j hj, sg, ek, Nat.add_assoc, Nat.add_assoc]; rfl)
        rw [sg, ek] at e
        simp only [nI_add]; exact ⟨⟨e⟩⟩
      · have ek : okq S h f i = false := by unfold okq; rw [h9]; rfl
        have e := ih (by omega) o5 o6 G1 hx (fun j hj => by rw [hX1 j hj, sg, ek]; rfl) (fun j hj => by rw [hY1 j hj, sg, ek]; rfl)
        rw [sg, ek] at e
        simp only [nI_add]; exact ⟨⟨e⟩⟩
    refine sm_body [18] 60 sm_k28 (fun CT K hC hK => ?_)
    repeat' first
      | (with_reducible refine And.intro ?_ ?_)
      | ((with_reducible intro h9); first | exact absurd h9 (by decide) | (rw [e1, nI_ltI (by omega) (by omega)] at h9; exact absurd (by omega) h9) | skip)
      | (with_reducible exact zn_in (by omega) (by decide))
      | (with_reducible exact z01) | (with_reducible exact z11) | (with_reducible exact zb01 _)
      | (with_reducible exact zn_inb (by omega) (by decide))
      | (with_reducible exact zn_ina (by omega) (by decide))
      | (with_reducible exact zn_inc (by omega) (by decide))
      | ((conv => whnf); first | (with_reducible refine And.intro ?_ ?_) | ((with_reducible intro h9); first | exact absurd h9 (by decide) | (rw [e1, nI_ltI (by omega) (by omega)] at h9; exact absurd (by omega) h9) | skip) | (with_reducible refine hK _ _ _ _ (sm_un ?_)))
    refine ⟨⟨lo 0 (Nat.zero_le _) _ _ G eqx_rfl (fun j hj => ?_) (fun j hj => ?_)⟩⟩
    · exact hX j hj
    · exact hY j hj
/-- the tally as it must be when it isn't stale -/
def tl (S : Nat → Nat → Nat) (G : Nat → Nat → Int32) : Prop := G 17 3 = nI (wk S (S 0 0) 0 (S 3)) ∧ (∀ i, i < 96 → G 18 i = nI (wx S (S 0 0) 0 (S 3) i)) ∧ (∀ i, i < 24 → G 19 i = nI (wy S (S 0 0) 0 (S 3) i))
set_option maxRecDepth 100000 in
set_option maxHeartbeats 4000000 in
theorem s_refresh (hC : sm_C 12 CT) (hD : cD S G) (hR : dR S) (hL : cL S G) (ht : G 17 4 = nI 0 → tl S G) (hQ : ∀ G', eqx [17, 18, 19] G G' → tl S G' → G' 17 4 = nI 0 → Q none (hp G' L)) : CT 27 [.ref 17] (hp G L) Q := by
  have r1 := hR.1
  have hs : ∀ v, v < S 0 1 → S 3 v < 4 := fun v hv => (hR.2.2.2 v hv).2.1
  refine sm_meth hC [some (.ref 17), none] rfl rfl rfl ?_
  have lo2 : ∀ i, i ≤ 24 → ∀ G1, eqx [17, 18, 19] G G1 → (∀ j, j < 96 → G1 18 j = nI 0) → (∀ j, j < i → G1 19 j = nI 0) → sm_Wk 11 27 Q none 34 [some (.ref 17), some (.int (nI i))] [] (hp G1 L) := by
    refine up _ (fun i hi ih G1 hx hX1 hY1 => ?_)
    have hD1 := cD_x hx rfl hD
    have hL1 := cL_x hx rfl hL
    refine sm_body [34] 80 sm_k27 (fun CT K hC hK => ?_)
    have hX0 : ∀ j, j < 96 → G1 18 j = nI ((fun _ => 0) j) := hX1
    repeat' first
      | (with_reducible refine And.intro ?_ ?_)
      | ((with_reducible intro h9); first | exact absurd h9 (by decide) | (replace h9 := zle (a := 24) (by omega) (by omega) h9) | (replace h9 := znle (a := 24) (by omega) (by omega) h9) | skip)
      | (with_reducible exact zn_in (by omega) (by decide))
      | (with_reducible exact z01) | (with_reducible exact z11) | (with_reducible exact zb01 _)
      | (with_reducible exact zn_inb (by omega) (by decide))
      | (with_reducible exact zn_ina (by omega) (by decide))
      | (with_reducible exact zn_inc (by omega) (by decide))
      | ((conv => whnf); first | (with_reducible refine And.intro ?_ ?_) | ((with_reducible intro h9); first | exact absurd h9 (by decide) | (replace h9 := zle (a := 24) (by omega) (by omega) h9) | (replace h9 := znle (a := 24) (by omega) (by omega) h9) | skip) | (with_reducible refine hK _ _ _ _ (sm_un ?_)) | (with_reducible refine s_startPose (hC.mono (by omega)) hD1 hR ?_) | (with_reducible refine s_walk hR _ _ _ (fun _ => 0) (fun _ => 0) _ _ _ (hC.mono (by omega)) hD1 hL1 (Nat.zero_add _) hs hX0 (fun j hj => hY1 j (by omega)) (fun G2 hx2 hX2 hY2 => ?_)))
    all_goals conv => whnf
    · simp only [hp_0, hp_1, hp_2, hp_3, hp_4, hp_5, hp_6, hp_7, hp_8, hp_9, hp_10, hp_11, hp_12, hp_13, hp_14, hp_15, hp_16, hp_17, hp_18, hp_19, hp_20, hp_22, hp_23, hp_24, hp_25, hp_26, hp_27, hp_28, hp_29, hp_30, hp_31, hp_32, hp_33, hp_34, hp_35, hf0_5, hf0_6, hf0_7, hf1_1, hf3_0, hf3_2, hf3_6, hf10_0, hf10_2, hf10_6, hf17_3, hf17_4, hf20_3, hf20_4, upd_su, updL_su]
      refine hQ _ (eqx_su 17 _ rfl (eqx_su 17 _ rfl (eqx_trans hx (eqx_sub rfl hx2)))) ⟨?_, fun j hj => ?_, fun j hj => ?_⟩ rfl
      · rfl
      · rw [su_ne _ _ (by decide), su_ne _ _ (by decide), hX2 j hj, Nat.zero_add]
      · rw [su_ne _ _ (by decide), su_ne _ _ (by decide), hY2 j hj, Nat.zero_add]
    · simp only [hp_0, hp_1, hp_2, hp_3, hp_4, hp_5, hp_6, hp_7, hp_8, hp_9, hp_10, hp_11, hp_12, hp_13, hp_14, hp_15, hp_16, hp_17, hp_18, hp_19, hp_20, hp_22, hp_23, hp_24, hp_25, hp_26, hp_27, hp_28, hp_29, hp_30, hp_31, hp_32, hp_33, hp_34, hp_35, hf0_5, hf0_6, hf0_7, hf1_1, hf3_0, hf3_2, hf3_6, hf10_0, hf10_2, hf10_6, hf17_3, hf17_4, hf20_3, hf20_4, upd_su, updL_su, nI_add, zn_clI (show i < 2 ^ 31 by omega)]
      refine ⟨⟨ih (by omega) _ (eqx_su 19 _ rfl hx) (fun j hj => ?_) (fun j hj => ?_)⟩⟩
      · rw [su_ne _ _ (by decide)]; exact hX1 j hj
      · rw [su_eq, su_if]
        split
        · rfl
        · exact hY1 j (by omega)
  have lo : ∀ i, i ≤ 96 → ∀ G1, eqx [17, 18, 19] G G1 → (∀ j, j < i → G1 18 j = nI 0) → sm_Wk 11 27 Q none 10 [some (.ref 17), some (.int (nI i))] [] (hp G1 L) := by
    refine up _ (fun i hi ih G1 hx hX1 => ?_)
    refine sm_body [10, 34] 80 sm_k27 (fun CT K hC hK => ?_)
    repeat' first
      | (with_reducible refine And.intro ?_ ?_)
      | ((with_reducible intro h9); first | exact absurd h9 (by decide) | (replace h9 := zle (a := 96) (by omega) (by omega) h9) | (replace h9 := znle (a := 96) (by omega) (by omega) h9) | skip)
      | (with_reducible exact zn_in (by omega) (by decide))
      | (with_reducible exact z01) | (with_reducible exact z11) | (with_reducible exact zb01 _)
      | (with_reducible exact zn_inb (by omega) (by decide))
      | (with_reducible exact zn_ina (by omega) (by decide))
      | (with_reducible exact zn_inc (by omega) (by decide))
      | ((conv => whnf); first | (with_reducible refine And.intro ?_ ?_) | ((with_reducible intro h9); first | exact absurd h9 (by decide) | (replace h9 := zle (a := 96) (by omega) (by omega) h9) | (replace h9 := znle (a := 96) (by omega) (by omega) h9) | skip) | (with_reducible refine hK _ _ _ _ (sm_un ?_)))
    · exact ⟨⟨lo2 0 (Nat.zero_le _) G1 hx (fun j hj => hX1 j (by omega)) (fun j hj => absurd hj (Nat.not_lt_zero _))⟩⟩
    · simp only [hp_0, hp_1, hp_2, hp_3, hp_4, hp_5, hp_6, hp_7, hp_8, hp_9, hp_10, hp_11, hp_12, hp_13, hp_14, hp_15, hp_16, hp_17, hp_18, hp_19, hp_20, hp_22, hp_23, hp_24, hp_25, hp_26, hp_27, hp_28, hp_29, hp_30, hp_31, hp_32, hp_33, hp_34, hp_35, hf0_5, hf0_6, hf0_7, hf1_1, hf3_0, hf3_2, hf3_6, hf10_0, hf10_2, hf10_6, hf17_3, hf17_4, hf20_3, hf20_4, upd_su, updL_su, nI_add, zn_clI (show i < 2 ^ 31 by omega)]
      refine ⟨⟨ih (by omega) _ (eqx_su 18 _ rfl hx) (fun j hj => ?_)⟩⟩
      rw [su_eq, su_if]
      split
      · rfl
      · exact hX1 j (by omega)
  refine sm_body [10] 60 sm_k27 (fun CT K hC hK => ?_)
  repeat' first
    | (with_reducible refine And.intro ?_ ?_)
    | ((with_reducible intro h9); first | exact absurd h9 (by decide) | skip)
    | (with_reducible exact zn_in (by omega) (by decide))
    | (with_reducible exact z01) | (with_reducible exact z11) | (with_reducible exact zb01 _)
    | (with_reducible exact zn_inb (by omega) (by decide))
    | (with_reducible exact zn_ina (by omega) (by decide))
    | (with_reducible exact zn_inc (by omega) (by decide))
    | ((conv => whnf); first | (with_reducible refine And.intro ?_ ?_) | ((with_reducible intro h9); first | exact absurd h9 (by decide) | skip) | (with_reducible refine hK _ _ _ _ (sm_un ?_)))
  · exact ⟨⟨lo 0 (Nat.zero_le _) G eqx_rfl (fun j hj => absurd hj (Nat.not_lt_zero _))⟩⟩
  · exact hQ G eqx_rfl (ht h9) h9
set_option maxRecDepth 100000 in
set_option maxHeartbeats 4000000 in
theorem s_bitsOf (hC : sm_C 1 CT) {p : Nat} {c : Nat → Nat} {n : Nat} (hp2 : (p = 18 ∧ n = 96) ∨ (p = 19 ∧ n = 24)) {k : Nat} (hk : k + 4 ≤ n) (hc : ∀ q, q < 4 → c q < 2 ^ 31) (hG : ∀ q, q < 4 → G p (k + q) = nI (c q)) (hQ : Q (some (.int (nI (bq 4 c)))) (hp G L)) : CT 32 [.ref p, .int (nI k)] (hp G L) Q := by
  refine sm_meth hC [some (.ref p), some (.int (nI k)), none, none] rfl rfl rfl ?_
  have lo : ∀ i, i ≤ 4 → sm_Wk 0 32 Q none 4 [some (.ref p), some (.int (nI k)), some (.int (nI (bq i c))), some (.int (nI i))] [] (hp G L) := by
    refine up _ (fun i hi ih => ?_)
    have e0 : (nI k + nI i).toNatClampNeg = k + i := by rw [nI_add]; exact nI_clamp (by omega)
    have eg : i < 4 → (G p (k + i) ≤ nI 0 ↔ ¬ 0 < c i) := fun hi4 => by rw [hG i hi4, nI_leI (hc i hi4) (by decide)]; omega
    have eo : bq i c ||| 1 * 2 ^ i = bq i c + 2 ^ i := by rw [Nat.one_mul]; exact bq_or i
    refine sm_body [4] 80 sm_k32 (fun CT K hC hK => ?_)
    rcases hp2 with ⟨rfl, rfl⟩ | ⟨rfl, rfl⟩
    all_goals
      repeat' first
        | (with_reducible refine And.intro ?_ ?_)
        | ((with_reducible intro h9); first | exact absurd h9 (by decide) | (replace h9 := zle (by omega) (by omega) h9) | (replace h9 := znle (by omega) (by omega) h9) | ((rw [e0, eg ‹_›] at h9)) | skip)
        | (with_reducible exact zn_in (by omega) (by decide))
        | (with_reducible exact z01) | (with_reducible exact z11) | (with_reducible exact zb01 _)
        | (with_reducible exact zn_inb (by omega) (by decide))
        | (with_reducible exact zn_ina (by omega) (by decide))
        | (with_reducible exact zn_inc (by omega) (by decide))
        | ((conv => whnf); first | (with_reducible refine And.intro ?_ ?_) | ((with_reducible intro h9); first | exact absurd h9 (by decide) | (replace h9 := zle (by omega) (by omega) h9) | (replace h9 := znle (by omega) (by omega) h9) | ((rw [e0, eg ‹_›] at h9)) | skip) | (with_reducible refine hK _ _ _ _ (sm_un ?_)))
      · obtain rfl : i = 4 := by omega
        exact hQ
      · have e := ih (by omega)
        rw [bq, if_neg h9] at e
        simp only [nI_add]; exact ⟨⟨e⟩⟩
      · have e := ih (by omega)
        rw [bq, if_pos (Decidable.not_not.mp h9)] at e
        simp only [nI_add, zn_shl (show i < 32 by omega), zn_or, eo]
        exact ⟨⟨e⟩⟩
  refine sm_body [4] 80 sm_k32 (fun CT K hC hK => ?_)
  repeat' first
    | (with_reducible refine And.intro ?_ ?_)
    | ((with_reducible intro h9); first | exact absurd h9 (by decide) | skip)
    | (with_reducible exact zn_in (by omega) (by decide))
    | (with_reducible exact z01) | (with_reducible exact z11) | (with_reducible exact zb01 _)
    | (with_reducible exact zn_inb (by omega) (by decide))
    | (with_reducible exact zn_ina (by omega) (by decide))
    | (with_reducible exact zn_inc (by omega) (by decide))
    | ((conv => whnf); first | (with_reducible refine And.intro ?_ ?_) | ((with_reducible intro h9); first | exact absurd h9 (by decide) | skip) | (with_reducible refine hK _ _ _ _ (sm_un ?_)))
  exact ⟨⟨lo 0 (Nat.zero_le _)⟩⟩
/-- the largest -/
def mq : Nat → (Nat → Nat) → Nat
  | 0, _ => 0
  | n + 1, c => max (mq n c) (c n)
theorem mq_lt {c : Nat → Nat} {M : Nat} (hM : 0 < M) : ∀ n, (∀ q, q < n → c q < M) → mq n c < M
  | 0, _ => hM
  | n + 1, h => by
    have h1 := mq_lt hM n (fun q hq => h q (by omega))
    have h2 := h n (by omega)
    show max (mq n c) (c n) < M
    omega
set_option maxRecDepth 100000 in
set_option maxHeartbeats 4000000 in
theorem s_pointed (hC : sm_C 2 CT) {v h : Nat} (hv : v < 4) (hh : h < 6) {c : Nat → Nat} (hc : ∀ q, q < 4 → c q < 2 ^ 31) (hG : ∀ q, q < 4 → G 18 ((v * 6 + h) * 4 + q) = nI (c q)) (hQ : Q (some (.int (nI (bq 4 c)))) (hp G L)) : CT 30 [.ref 17, .int (nI v), .int (nI h)] (hp G L) Q := by
  refine sm_meth hC [some (.ref 17), some (.int (nI v)), some (.int (nI h))] rfl rfl rfl ?_
  refine sm_body [] 80 sm_k30 (fun CT K hC hK => ?_)
  repeat' first
    | (with_reducible refine And.intro ?_ ?_)
    | ((with_reducible intro h9); first | exact absurd h9 (by decide) | skip)
    | (with_reducible exact zn_in (by omega) (by decide))
    | (with_reducible exact z01) | (with_reducible exact z11) | (with_reducible exact zb01 _)
    | (with_reducible exact zn_inb (by omega) (by decide))
    | (with_reducible exact zn_ina (by omega) (by decide))
    | (with_reducible exact zn_inc (by omega) (by decide))
    | ((conv => whnf); first | (with_reducible refine And.intro ?_ ?_) | ((with_reducible intro h9); first | exact absurd h9 (by decide) | skip) | (with_reducible refine hK _ _ _ _ (sm_un ?_)) | (simp only [pk_mul, nI_add]; refine s_bitsOf (hC.mono (by omega)) (Or.inl ⟨rfl, rfl⟩) (by omega) hc hG ?_))
  exact hQ
set_option maxRecDepth 100000 in
set_option maxHeartbeats 4000000 in
theorem s_blown (hC : sm_C 2 CT) {h : Nat} (hh : h < 6) {c : Nat → Nat} (hc : ∀ q, q < 4 → c q < 2 ^ 31) (hG : ∀ q, q < 4 → G 19 (h * 4 + q) = nI (c q)) (hQ : Q (some (.int (nI (bq 4 c)))) (hp G L)) : CT 31 [.ref 17, .int (nI h)] (hp G L) Q := by
  refine sm_meth hC [some (.ref 17), some (.int (nI h))] rfl rfl rfl ?_
  refine sm_body [] 80 sm_k31 (fun CT K hC hK => ?_)
  repeat' first
    | (with_reducible refine And.intro ?_ ?_)
    | ((with_reducible intro h9); first | exact absurd h9 (by decide) | skip)
    | (with_reducible exact zn_in (by omega) (by decide))
    | (with_reducible exact z01) | (with_reducible exact z11) | (with_reducible exact zb01 _)
    | (with_reducible exact zn_inb (by omega) (by decide))
    | (with_reducible exact zn_ina (by omega) (by decide))
    | (with_reducible exact zn_inc (by omega) (by decide))
    | ((conv => whnf); first | (with_reducible refine And.intro ?_ ?_) | ((with_reducible intro h9); first | exact absurd h9 (by decide) | skip) | (with_reducible refine hK _ _ _ _ (sm_un ?_)) | (simp only [pk_mul, nI_add]; refine s_bitsOf (hC.mono (by omega)) (Or.inr ⟨rfl, rfl⟩) (by omega) hc hG ?_))
  exact hQ
end TALLY
