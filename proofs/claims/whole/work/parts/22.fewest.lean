section OIL
variable {CT : sm_CT} {G : Nat → Nat → Int32} {L : Nat → Nat → Int64} {Q : sm_Q} {S : Nat → Nat → Nat} {h : sm_H}
theorem ct_ext {P : Nat → Bool} {n m : Nat} (h : n ≤ m) (hP : ∀ v, n ≤ v → v < m → P v = false) : ct P m = ct P n := by
  induction m with
  | zero => rw [show n = 0 by omega]
  | succ m ih =>
    by_cases e : n = m + 1
    · rw [e]
    · rw [ct, hP m (by omega) (by omega)]
      exact ih (by omega) (fun v h1 h2 => hP v h1 (by omega))
def th (a o s : Nat) : Nat := (a &&& (15 - s)) ||| (o &&& s)
theorem inS_tb (x v : Nat) : inS x v = x.testBit v := by
  rw [Nat.testBit_eq_decide_div_mod_eq, inS]
  by_cases h : x / 2 ^ v % 2 = 1
  · rw [beq_t h, decide_eq_true h]
  · rw [beq_f h, decide_eq_false h]
theorem th_1 : ∀ s, s < 16 → nI s ^^^ -1 = nI (4294967295 - s) := by decide +kernel
theorem th_2 : ∀ s, s < 16 → ∀ a, a < 16 → a &&& (4294967295 - s) = a &&& (15 - s) := by decide +kernel
theorem th_3 : ∀ s, s < 16 → ∀ v, v < 4 → (15 - s).testBit v = !s.testBit v := by decide +kernel
theorem th_i (a : Nat) (ha : a < 16) (o : Nat) (ho : o < 16) (s : Nat) (hs : s < 16) : (nI a &&& (nI s ^^^ -1)) ||| (nI o &&& nI s) = nI (th a o s) ∧ pc (th a o s) = ct (fun v => cond (inS s v) (inS o v) (inS a v)) 4 ∧ th a o s < 16 := by
  have hl : th a o s < 16 := by
    have h1 : a &&& (15 - s) < 2 ^ 4 := Nat.and_lt_two_pow _ (by omega)
    have h2 : o &&& s < 2 ^ 4 := Nat.and_lt_two_pow _ (by omega)
    exact Nat.or_lt_two_pow h1 h2
  refine ⟨?_, ?_, hl⟩
  · rw [th_1 s hs, zn_and, zn_and, zn_or, th_2 s hs a ha]
    rfl
  · rw [pc_16 _ hl]
    apply ct_congr
    intro v hv
    simp only [inS_tb, th, Nat.testBit_or, Nat.testBit_and, th_3 s hs v hv]
    cases s.testBit v <;> cases o.testBit v <;> cases a.testBit v <;> rfl
theorem bq_or2 {c : Nat → Nat} (n : Nat) (b : Bool) : (bq n c + bn b * 2 ^ n) ||| 2 ^ n = bq n c + 2 ^ n := by
  cases b with
  | false => rw [bn_f rfl, Nat.zero_mul, Nat.add_zero]; exact bq_or n
  | true => rw [bn_t rfl, Nat.one_mul, ← bq_or, Nat.or_assoc, Nat.or_self]
theorem bq_bn {f : Nat → Bool} {n : Nat} : bq (n + 1) (fun v => bn (f v)) = bq n (fun v => bn (f v)) + bn (f n) * 2 ^ n := by
  rw [bq]
  cases h : f n <;> simp [bn]
theorem inS_bq {f : Nat → Bool} {n v : Nat} : inS (bq n (fun v => bn (f v))) v = (decide (v < n) && f v) := by
  unfold inS
  rw [bq_bit]
  by_cases h : v < n
  · rw [decide_eq_true h]
    cases f v <;> rfl
  · rw [decide_eq_false h]
    rfl
set_option maxRecDepth 100000 in
set_option maxHeartbeats 4000000 in
theorem s_fewestToOil (hC : sm_C 5 CT) (hD : cD S G) (hR : dR S) {x q : Nat} (hx : x < S 0 0) (hq : q < 4) (hk : ∀ i, i < x + 1 → S 1 i < 4) (hQ : Q (some (.int (bI16 (fw (PO S x q) (2 ^ S 0 1))))) (hp G L)) : CT 70 [.ref 0, .int (nI x), .int (nI q)] (hp G L) Q := by
  obtain ⟨e1, e2, e3, e4⟩ := id hD
  obtain ⟨r1, r2, r3, r4⟩ := id hR
  have hp2 := pow_vn r2
  have es : sm_shl (nI 1) (nI (S 0 1)) = nI (2 ^ S 0 1) := by rw [zn_shl (by omega), Nat.one_mul]
  have ha := bq_lt (c := fun v => bn (p0 S x q v)) (S 0 1)
  have ho := bq_lt (c := fun v => bn (cb S x q v 4)) (S 0 1)
  refine sm_meth hC [some (.ref 0), some (.int (nI x)), some (.int (nI q)), none, none, none, none, none] rfl rfl rfl ?_
  have lo3 : ∀ i, i ≤ 2 ^ S 0 1 → ∀ o7, sm_Wk 4 70 Q none 100 [some (.ref 0), some (.int (nI x)), some (.int (nI q)), some (.int (nI (bq (S 0 1) (fun v => bn (p0 S x q v))))), some (.int (nI (bq (S 0 1) (fun v => bn (cb S x q v 4))))), some (.int (bI16 (fw (PO S x q) i))), some (.int (nI i)), o7] [] (hp G L) := by
    refine up _ (fun i hi ih o7 => ?_)
    have hfw := fw_lt (P := PO S x q) i
    have hb16 : fw (PO S x q) i ≤ 16 := by omega
    have hth := fun hl : i < 16 => th_i _ (Nat.lt_of_lt_of_le ha hp2) _ (Nat.lt_of_lt_of_le ho hp2) i hl
    have hcp : i < 16 → ct (fun v => cond (inS i v) (inS (bq (S 0 1) (fun v => bn (cb S x q v 4))) v) (inS (bq (S 0 1) (fun v => bn (p0 S x q v))) v)) 4 = ct (pO S x q i) (S 0 1) := by
      intro hl
      rw [ct_ext (n := S 0 1) (m := 4) r2 (fun v h1 h2 => by rw [inS_bq, inS_bq, decide_eq_false (by omega)]; cases inS i v <;> rfl)]
      exact ct_congr (fun v hv => by rw [inS_bq, inS_bq, decide_eq_true hv]; rfl)
    refine sm_body [100] 80 sm_k70 (fun CT K hC hK => ?_)
    have hpc : i < 16 → pc (th (bq (S 0 1) (fun v => bn (p0 S x q v))) (bq (S 0 1) (fun v => bn (cb S x q v 4))) i) < 100 := fun hl => by have := pc_le _ (hth hl).2.2; omega
    repeat' first
      | (with_reducible refine And.intro ?_ ?_)
      | ((with_reducible intro h9); first | exact absurd h9 (by decide) | ((rw [e2, es] at h9; replace h9 := zle (by omega) (by omega) h9)) | ((rw [e2, es] at h9; replace h9 := znle (by omega) (by omega) h9)) | (replace h9 := sb_f h9) | (replace h9 := sb_t h9) | skip)
      | (with_reducible exact zn_in (by omega) (by decide))
      | (with_reducible exact z01) | (with_reducible exact z11) | (with_reducible exact zb01 _)
      | (with_reducible exact zn_inb (by omega) (by decide))
      | (with_reducible exact zn_ina (by omega) (by decide))
      | (with_reducible exact zn_inc (by omega) (by decide))
      | ((conv => whnf); first | (with_reducible refine And.intro ?_ ?_) | ((with_reducible intro h9); first | exact absurd h9 (by decide) | ((rw [e2, es] at h9; replace h9 := zle (by omega) (by omega) h9)) | ((rw [e2, es] at h9; replace h9 := znle (by omega) (by omega) h9)) | (replace h9 := sb_f h9) | (replace h9 := sb_t h9) | skip) | (with_reducible refine hK _ _ _ _ (sm_un ?_)) | (with_reducible refine s_isFewer (hC.mono (by omega)) (by omega) hb16 ?_) | (rw [(hth (by omega)).1]; refine s_bitCount (hC.mono (by omega)) (by have := (hth (by omega)).2.2; omega) ?_) | (with_reducible refine s_isMoreThanHalf (hC.mono (by omega)) e2 r2 (hpc (by omega)) ?_))
    · obtain rfl : i = 2 ^ S 0 1 := by omega
      exact hQ
    · have hz := of_decide_eq_false h9
      have e := ih ‹_› (some (.int (nI (th (bq (S 0 1) (fun v => bn (p0 S x q v))) (bq (S 0 1) (fun v => bn (cb S x q v 4))) i))))
      rw [fw_A (fun z => hz z.1)] at e
      simp only [nI_add, (hth (show i < 16 by omega)).1]
      exact ⟨⟨e⟩⟩
    · have e := ih ‹_› (some (.int (nI (th (bq (S 0 1) (fun v => bn (p0 S x q v))) (bq (S 0 1) (fun v => bn (cb S x q v 4))) i))))
      rw [(hth (by omega)).2.1, hcp (by omega)] at h9
      rw [fw_A (fun z => by have hP : PO S x q i = false := h9; rw [hP] at z; exact absurd z.2 (by decide))] at e
      simp only [nI_add]; exact ⟨⟨e⟩⟩
    · have e := ih ‹_› (some (.int (nI (th (bq (S 0 1) (fun v => bn (p0 S x q v))) (bq (S 0 1) (fun v => bn (cb S x q v 4))) i))))
      rw [(hth (by omega)).2.1, hcp (by omega)] at h9
      have hP : PO S x q i = true := h9
      rw [fw_B ⟨of_decide_eq_true ‹decide (fw (PO S x q) i = 16 ∨ pc i < pc (fw (PO S x q) i)) = true›, hP⟩, bI16_n (by omega)] at e
      simp only [nI_add]; exact ⟨⟨e⟩⟩
  have lo : ∀ v, v ≤ S 0 1 → ∀ o6, sm_Wk 4 70 Q none 8 [some (.ref 0), some (.int (nI x)), some (.int (nI q)), some (.int (nI (bq v (fun v => bn (p0 S x q v))))), some (.int (nI (bq v (fun v => bn (cb S x q v 4))))), some (.int (nI v)), o6, none] [] (hp G L) := by
    refine up _ (fun v hv ih o6 => ?_)
    have inner : v < S 0 1 → ∀ t, t ≤ 4 → sm_Wk 4 70 Q none 23 [some (.ref 0), some (.int (nI x)), some (.int (nI q)), some (.int (nI (bq v (fun v => bn (p0 S x q v)) + bn (decide (S 4 v < t) && p0 S x q v) * 2 ^ v))), some (.int (nI (bq v (fun v => bn (cb S x q v 4)) + bn (cb S x q v t) * 2 ^ v))), some (.int (nI v)), some (.int (nI t)), none] [] (hp G L) := by
      intro hl
      refine up _ (fun t ht iht => ?_)
      have hp4 : pb S v t (x + 1) < 4 := pb_lt (r4 v hl).2.1 (x + 1) hk
      have h4 := r4 v hl
      refine sm_body [8, 23] 80 sm_k70 (fun CT K hC hK => ?_)
      repeat' first
        | (with_reducible refine And.intro ?_ ?_)
        | ((with_reducible intro h9); first | exact absurd h9 (by decide) | (replace h9 := zle (by omega) (by omega) h9) | (replace h9 := znle (by omega) (by omega) h9) | ((rw [zn_clI (show v < 2 ^ 31 by omega), (e4 v hl).2.2] at h9; replace h9 := zneq h9)) | ((rw [zn_clI (show v < 2 ^ 31 by omega), (e4 v hl).2.2] at h9; replace h9 := zeq (by omega) (by omega) h9)) | (replace h9 := zneq h9) | (replace h9 := zeq (by omega) (by omega) h9) | skip)
        | (with_reducible exact zn_in (by omega) (by decide))
        | (with_reducible exact z01) | (with_reducible exact z11) | (with_reducible exact zb01 _)
        | (with_reducible exact zn_inb (by omega) (by decide))
        | (with_reducible exact zn_ina (by omega) (by decide))
        | (with_reducible exact zn_inc (by omega) (by decide))
        | ((conv => whnf); first | (with_reducible refine And.intro ?_ ?_) | ((with_reducible intro h9); first | exact absurd h9 (by decide) | (replace h9 := zle (by omega) (by omega) h9) | (replace h9 := znle (by omega) (by omega) h9) | ((rw [zn_clI (show v < 2 ^ 31 by omega), (e4 v hl).2.2] at h9; replace h9 := zneq h9)) | ((rw [zn_clI (show v < 2 ^ 31 by omega), (e4 v hl).2.2] at h9; replace h9 := zeq (by omega) (by omega) h9)) | (replace h9 := zneq h9) | (replace h9 := zeq (by omega) (by omega) h9) | skip) | (with_reducible refine hK _ _ _ _ (sm_un ?_)) | (with_reducible refine s_pointWith (hC.mono (by omega)) hD hR hl ‹_› hx hk ?_))
      · obtain rfl : t = 4 := by omega
        have e := ih hl (some (.int (nI 4)))
        rw [bq_bn, bq_bn] at e
        have e4 : (decide (S 4 v < 4) && p0 S x q v) = p0 S x q v := by rw [decide_eq_true (by omega)]; rfl
        simp only [e4, nI_add]
        exact ⟨⟨e⟩⟩
      · have e := iht ‹_›
        have ec : cb S x q v (t + 1) = true := by rw [cb, beq_f ‹t ≠ S 4 v›, beq_t ‹pb S v t (x + 1) = q›, Bool.or_eq_true]; exact Or.inr rfl
        have ed : decide (S 4 v < t + 1) = decide (S 4 v < t) := by congr 1; apply propext; omega
        rw [ec, ed] at e
        have eo : (bq v (fun v => bn (cb S x q v 4)) + bn (cb S x q v t) * 2 ^ v) ||| 1 * 2 ^ v = bq v (fun v => bn (cb S x q v 4)) + bn true * 2 ^ v := by rw [Nat.one_mul, bq_or2, bn_t rfl, Nat.one_mul]
        simp only [nI_add, zn_shl (show v < 32 by omega), zn_or, eo]
        exact ⟨⟨e⟩⟩
      · have e := iht ‹_›
        have ec : cb S x q v (t + 1) = cb S x q v t := by rw [cb, beq_t ‹t = S 4 v›]; simp
        have ep : p0 S x q v = true := by unfold p0; rw [← ‹t = S 4 v›]; exact beq_t ‹_›
        have ed : (decide (S 4 v < t + 1) && p0 S x q v) = true := by rw [decide_eq_true (by omega), ep]; rfl
        rw [ec, ed] at e
        have eo : (bq v (fun v => bn (p0 S x q v)) + bn (decide (S 4 v < t) && p0 S x q v) * 2 ^ v) ||| 1 * 2 ^ v = bq v (fun v => bn (p0 S x q v)) + bn true * 2 ^ v := by rw [Nat.one_mul, bq_or2, bn_t rfl, Nat.one_mul]
        simp only [nI_add, zn_shl (show v < 32 by omega), zn_or, eo]
        exact ⟨⟨e⟩⟩
      · have e := iht ‹_›
        have ec : cb S x q v (t + 1) = cb S x q v t := by rw [cb, beq_f ‹pb S v t (x + 1) ≠ q›]; simp
        have ed : (decide (S 4 v < t + 1) && p0 S x q v) = (decide (S 4 v < t) && p0 S x q v) := by
          by_cases ht4 : t = S 4 v
          · have ep : p0 S x q v = false := by unfold p0; rw [← ht4]; exact beq_f ‹_›
            rw [ep, Bool.and_false, Bool.and_false]
          · congr 2
            apply propext
            omega
        rw [ec, ed] at e
        simp only [nI_add]; exact ⟨⟨e⟩⟩
    refine sm_body [8, 23, 100] 80 sm_k70 (fun CT K hC hK => ?_)
    repeat' first
      | (with_reducible refine And.intro ?_ ?_)
      | ((with_reducible intro h9); first | exact absurd h9 (by decide) | (replace h9 := nle e2 (by omega) (by omega) h9) | (replace h9 := yle e2 (by omega) (by omega) h9) | skip)
      | (with_reducible exact zn_in (by omega) (by decide))
      | (with_reducible exact z01) | (with_reducible exact z11) | (with_reducible exact zb01 _)
      | (with_reducible exact zn_inb (by omega) (by decide))
      | (with_reducible exact zn_ina (by omega) (by decide))
      | (with_reducible exact zn_inc (by omega) (by decide))
      | ((conv => whnf); first | (with_reducible refine And.intro ?_ ?_) | ((with_reducible intro h9); first | exact absurd h9 (by decide) | (replace h9 := nle e2 (by omega) (by omega) h9) | (replace h9 := yle e2 (by omega) (by omega) h9) | skip) | (with_reducible refine hK _ _ _ _ (sm_un ?_)))
    · obtain rfl : v = S 0 1 := by omega
      exact ⟨⟨lo3 0 (Nat.zero_le _) none⟩⟩
    · have e := inner h9 0 (Nat.zero_le _)
      rw [show (decide (S 4 v < 0) && p0 S x q v) = false by rw [decide_eq_false (by omega)]; rfl, show cb S x q v 0 = false from rfl, show bn false * 2 ^ v = 0 by rw [bn_f rfl, Nat.zero_mul], Nat.add_zero, Nat.add_zero] at e
      exact ⟨⟨e⟩⟩
  refine sm_body [8] 40 sm_k70 (fun CT K hC hK => ?_)
  repeat' first
    | (with_reducible refine And.intro ?_ ?_)
    | ((with_reducible intro h9); first | exact absurd h9 (by decide) | skip)
    | (with_reducible exact zn_in (by omega) (by decide))
    | (with_reducible exact z01) | (with_reducible exact z11) | (with_reducible exact zb01 _)
    | (with_reducible exact zn_inb (by omega) (by decide))
    | (with_reducible exact zn_ina (by omega) (by decide))
    | (with_reducible exact zn_inc (by omega) (by decide))
    | ((conv => whnf); first | (with_reducible refine And.intro ?_ ?_) | ((with_reducible intro h9); first | exact absurd h9 (by decide) | skip) | (with_reducible refine hK _ _ _ _ (sm_un ?_)))
  exact ⟨⟨lo 0 (Nat.zero_le _) _⟩⟩
end OIL
