section OIL
variable {CT : sm_CT} {G : Nat → Nat → Int32} {L : Nat → Nat → Int64} {Q : sm_Q} {S : Nat → Nat → Nat} {h : sm_H}
/-- the vane points there as it is -/
def p0 (S : Nat → Nat → Nat) (x q v : Nat) : Bool := Nat.beq (pb S v (S 4 v) (x + 1)) q
def pO (S : Nat → Nat → Nat) (x q s v : Nat) : Bool := cond (inS s v) (cb S x q v 4) (p0 S x q v)
/-- more than half point there, these oiled -/
def PO (S : Nat → Nat → Nat) (x q s : Nat) : Bool := decide (S 0 1 < 2 * ct (pO S x q s) (S 0 1))
def oilR (S : Nat → Nat → Nat) (x q j : Nat) : Int32 := soR (fw (PO S x q) (2 ^ S 0 1)) j
theorem pow_vn {n : Nat} (h : n ≤ 4) : 2 ^ n ≤ 16 := Nat.pow_le_pow_right (n := 2) (by decide) h
theorem bit_in {x i : Nat} (hx : x < 2 ^ 31) (hi : i < 32) : sm_shr (nI x) (nI i) &&& nI 1 = nI (bn (inS x i)) := by rw [zn_bit hx hi, inS, bn_beq1]
theorem bn1 {b : Bool} (h : nI (bn b) = nI 1) : b = true := by
  cases b
  · exact absurd h (by decide)
  · rfl
theorem bn0 {b : Bool} (h : ¬ nI (bn b) = nI 1) : b = false := by
  cases b
  · rfl
  · exact absurd rfl h
set_option maxRecDepth 100000 in
set_option maxHeartbeats 4000000 in
theorem s_oilingNow (hC : sm_C 5 CT) (hD : mD S G) (hR : dR S) {x q j : Nat} (hx : x < S 0 0) (hq : q < 4) (hj : j < 2) (hk : ∀ i, i < x + 1 → S 1 i < 4) (hQ : Q (some (.int (oilR S x q j))) (hp G L)) : CT 128 [.ref 30, .int (nI x), .int (nI q), .int (nI j)] (hp G L) Q := by
  obtain ⟨e1, e2, e3, e4⟩ := id hD
  obtain ⟨r1, r2, r3, r4⟩ := id hR
  have hp2 := pow_vn r2
  have es : sm_shl (nI 1) (nI (S 0 1)) = nI (2 ^ S 0 1) := by rw [zn_shl (by omega), Nat.one_mul]
  refine sm_meth hC [some (.ref 30), some (.int (nI x)), some (.int (nI q)), some (.int (nI j)), none, none, none, none, none, none] rfl rfl rfl ?_
  have lo : ∀ i, i ≤ 2 ^ S 0 1 → ∀ o6 o7 o8 o9, sm_Wk 4 128 Q none 6 [some (.ref 30), some (.int (nI x)), some (.int (nI q)), some (.int (nI j)), some (.int (bI16 (fw (PO S x q) i))), some (.int (nI i)), o6, o7, o8, o9] [] (hp G L) := by
    refine up _ (fun i hi ih o6 o7 o8 o9 => ?_)
    have hfw := fw_lt (P := PO S x q) i
    have hb16 : fw (PO S x q) i ≤ 16 := by omega
    have inner : i < 2 ^ S 0 1 → ∀ v, v ≤ S 0 1 → ∀ o8 o9, sm_Wk 4 128 Q none 23 [some (.ref 30), some (.int (nI x)), some (.int (nI q)), some (.int (nI j)), some (.int (bI16 (fw (PO S x q) i))), some (.int (nI i)), some (.int (nI (ct (pO S x q i) v))), some (.int (nI v)), o8, o9] [] (hp G L) := by
      intro hl
      refine up _ (fun v hv ihv o8 o9 => ?_)
      have hct := ct_le (P := pO S x q i) v
      have lx := pc_le i (by omega)
      have lb : ¬ fw (PO S x q) i = 16 → pc (fw (PO S x q) i) ≤ 4 := fun h => pc_le _ (by omega)
      have hp4 : v < S 0 1 → pb S v (S 4 v) (x + 1) < 4 := fun h => pb_lt (r4 v h).2.1 (x + 1) hk
      refine sm_body [6, 23] 120 sm_k128 (fun CT K hC hK => ?_)
      repeat' first
        | (with_reducible refine And.intro ?_ ?_)
        | ((with_reducible intro h9); first | exact absurd h9 (by decide) | (replace h9 := nle e2 (by omega) (by omega) h9) | (replace h9 := yle e2 (by omega) (by omega) h9) | ((rw [bit_in (by omega) (by omega)] at h9; replace h9 := bn1 h9)) | ((rw [bit_in (by omega) (by omega)] at h9; replace h9 := bn0 h9)) | (rw [bI16_m hb16] at h9) | (replace h9 := sb_f h9) | (replace h9 := sb_t h9) | ((rw [e2, pk_mul] at h9; replace h9 := zle (by omega) (by omega) h9)) | ((rw [e2, pk_mul] at h9; replace h9 := znle (by omega) (by omega) h9)) | (replace h9 := zle (by omega) (by omega) h9) | (replace h9 := znle (by omega) (by omega) h9) | (replace h9 := zneq h9) | (replace h9 := zeq (by have := hp4 ‹_›; omega) (by omega) h9) | skip)
        | (with_reducible exact zn_in (by omega) (by decide))
        | (with_reducible exact z01) | (with_reducible exact z11) | (with_reducible exact zb01 _)
        | (with_reducible exact zn_inb (by omega) (by decide))
        | (with_reducible exact zn_ina (by omega) (by decide))
        | (with_reducible exact zn_inc (by omega) (by decide))
        | ((conv => whnf); first | (with_reducible refine And.intro ?_ ?_) | ((with_reducible intro h9); first | exact absurd h9 (by decide) | (replace h9 := nle e2 (by omega) (by omega) h9) | (replace h9 := yle e2 (by omega) (by omega) h9) | ((rw [bit_in (by omega) (by omega)] at h9; replace h9 := bn1 h9)) | ((rw [bit_in (by omega) (by omega)] at h9; replace h9 := bn0 h9)) | (rw [bI16_m hb16] at h9) | (replace h9 := sb_f h9) | (replace h9 := sb_t h9) | ((rw [e2, pk_mul] at h9; replace h9 := zle (by omega) (by omega) h9)) | ((rw [e2, pk_mul] at h9; replace h9 := znle (by omega) (by omega) h9)) | (replace h9 := zle (by omega) (by omega) h9) | (replace h9 := znle (by omega) (by omega) h9) | (replace h9 := zneq h9) | (replace h9 := zeq (by have := hp4 ‹_›; omega) (by omega) h9) | skip) | (with_reducible refine hK _ _ _ _ (sm_un ?_)) | (with_reducible refine s_canBy (hC.mono (by omega)) hD hR ‹_› hx hq hk ?_) | (rw [zn_clI (show v < 2 ^ 31 by omega), (e4 v ‹_›).2.2]; refine s_pointBy (hC.mono (by omega)) hD hR ‹_› (r4 v ‹_›).2.2 hx hk ?_) | (with_reducible refine s_size (hC.mono (by omega)) (by omega) ?_) | (rw [bI16_n (by omega)]; refine s_size (hC.mono (by omega)) (by omega) ?_))
      · obtain rfl : v = S 0 1 := by omega
        have e := ih hl (some (.int (nI (ct (pO S x q i) (S 0 1))))) (some (.int (nI 1))) o8 o9
        rw [fw_A (fun z => by have hP : PO S x q i = false := decide_eq_false (by omega); rw [hP] at z; exact absurd z.2 (by decide))] at e
        simp only [nI_add]; exact ⟨⟨e⟩⟩
      · obtain rfl : v = S 0 1 := by omega
        have e := ih hl (some (.int (nI (ct (pO S x q i) (S 0 1))))) (some (.int (nI 1))) o8 o9
        rw [fw_B ⟨Or.inl ‹fw (PO S x q) i = 16›, decide_eq_true (by omega)⟩, bI16_n (by omega)] at e
        simp only [nI_add]; exact ⟨⟨e⟩⟩
      · obtain rfl : v = S 0 1 := by omega
        have e := ih hl (some (.int (nI (ct (pO S x q i) (S 0 1))))) (some (.int (nI 0))) o8 o9
        rw [fw_A (fun z => by have := z.1; omega), bI16_n (by omega)] at e
        simp only [nI_add]; exact ⟨⟨e⟩⟩
      · obtain rfl : v = S 0 1 := by omega
        have e := ih hl (some (.int (nI (ct (pO S x q i) (S 0 1))))) (some (.int (nI 1))) o8 o9
        rw [fw_A (fun z => by have hP : PO S x q i = false := decide_eq_false (by omega); rw [hP] at z; exact absurd z.2 (by decide)), bI16_n (by omega)] at e
        simp only [nI_add]; exact ⟨⟨e⟩⟩
      · obtain rfl : v = S 0 1 := by omega
        have e := ih hl (some (.int (nI (ct (pO S x q i) (S 0 1))))) (some (.int (nI 1))) o8 o9
        rw [fw_B ⟨Or.inr ‹pc i < pc (fw (PO S x q) i)›, decide_eq_true (by omega)⟩, bI16_n (by omega)] at e
        simp only [nI_add]; exact ⟨⟨e⟩⟩
      · have eb : pO S x q i v = false := by unfold pO p0; rw [‹inS i v = false›, beq_f ‹pb S v (S 4 v) (x + 1) ≠ q›]; rfl
        have e := ihv ‹_› (some (.int (nI 0))) (some (.int (nI 0)))
        rw [ct, bn_f eb] at e
        simp only [nI_add]; exact ⟨⟨e⟩⟩
      · have eb : pO S x q i v = true := by unfold pO p0; rw [‹inS i v = false›, beq_t ‹pb S v (S 4 v) (x + 1) = q›]; rfl
        have e := ihv ‹_› (some (.int (nI 0))) (some (.int (nI 1)))
        rw [ct, bn_t eb] at e
        simp only [nI_add]; exact ⟨⟨e⟩⟩
      · have eb : pO S x q i v = false := by unfold pO; rw [‹inS i v = true›, h9]; rfl
        have e := ihv ‹_› (some (.int (nI 1))) (some (.int (sm_b (cb S x q v 4))))
        rw [ct, bn_f eb] at e
        simp only [nI_add]; exact ⟨⟨e⟩⟩
      · have eb : pO S x q i v = true := by unfold pO; rw [‹inS i v = true›, h9]; rfl
        have e := ihv ‹_› (some (.int (nI 1))) (some (.int (sm_b (cb S x q v 4))))
        rw [ct, bn_t eb] at e
        simp only [nI_add]; exact ⟨⟨e⟩⟩
    refine sm_body [6, 23] 60 sm_k128 (fun CT K hC hK => ?_)
    repeat' first
      | (with_reducible refine And.intro ?_ ?_)
      | ((with_reducible intro h9); first | exact absurd h9 (by decide) | ((rw [e2, es] at h9; replace h9 := zle (by omega) (by omega) h9)) | ((rw [e2, es] at h9; replace h9 := znle (by omega) (by omega) h9)) | (rw [bI16_m hb16] at h9) | skip)
      | (with_reducible exact zn_in (by omega) (by decide))
      | (with_reducible exact z01) | (with_reducible exact z11) | (with_reducible exact zb01 _)
      | (with_reducible exact zn_inb (by omega) (by decide))
      | (with_reducible exact zn_ina (by omega) (by decide))
      | (with_reducible exact zn_inc (by omega) (by decide))
      | ((conv => whnf); first | (with_reducible refine And.intro ?_ ?_) | ((with_reducible intro h9); first | exact absurd h9 (by decide) | ((rw [e2, es] at h9; replace h9 := zle (by omega) (by omega) h9)) | ((rw [e2, es] at h9; replace h9 := znle (by omega) (by omega) h9)) | (rw [bI16_m hb16] at h9) | skip) | (with_reducible refine hK _ _ _ _ (sm_un ?_)) | (rw [bI16_n (by omega)]; refine s_size (hC.mono (by omega)) (by omega) ?_))
    · obtain rfl : i = 2 ^ S 0 1 := by omega
      unfold oilR soR at hQ
      rw [if_pos h9] at hQ
      refine zq ?_ hQ
      exact (bI16_m hb16).mpr h9
    · obtain rfl : i = 2 ^ S 0 1 := by omega
      unfold oilR soR at hQ
      rw [if_neg ‹¬ fw (PO S x q) _ = 16›, if_neg (zneq ‹¬ nI j = nI 1›)] at hQ
      exact hQ
    · obtain rfl : i = 2 ^ S 0 1 := by omega
      unfold oilR soR at hQ
      rw [if_neg ‹¬ fw (PO S x q) _ = 16›, if_pos (zeq (by omega) (by omega) ‹nI j = nI 1›)] at hQ
      refine zq ?_ hQ
      exact bI16_n (by omega)
    · exact ⟨⟨inner ‹_› 0 (Nat.zero_le _) _ _⟩⟩
  refine sm_body [6] 40 sm_k128 (fun CT K hC hK => ?_)
  repeat' first
    | (with_reducible refine And.intro ?_ ?_)
    | ((with_reducible intro h9); first | exact absurd h9 (by decide) | skip)
    | (with_reducible exact zn_in (by omega) (by decide))
    | (with_reducible exact z01) | (with_reducible exact z11) | (with_reducible exact zb01 _)
    | (with_reducible exact zn_inb (by omega) (by decide))
    | (with_reducible exact zn_ina (by omega) (by decide))
    | (with_reducible exact zn_inc (by omega) (by decide))
    | ((conv => whnf); first | (with_reducible refine And.intro ?_ ?_) | ((with_reducible intro h9); first | exact absurd h9 (by decide) | skip) | (with_reducible refine hK _ _ _ _ (sm_un ?_)))
  exact ⟨⟨lo 0 (Nat.zero_le _) _ _ _ _⟩⟩
end OIL
