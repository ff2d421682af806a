/-! The law's own small methods: quarter, turns, codes. -/
theorem zn_ind {a b c n : Nat} (h : c + a * b < n) (hn : n < 2 ^ 31) : sm_in (nI c + nI a * nI b) n := by
  rw [pk_mul, nI_add]
  exact zn_in h hn
theorem zn_ine {a b n : Nat} (h : a * b < n) (hn : n < 2 ^ 31) : sm_in (nI a * nI b) n := by
  rw [pk_mul]
  exact zn_in h hn
theorem c6 : (nI 6).toNatClampNeg = 6 := rfl
theorem c7 : (nI 7).toNatClampNeg = 7 := rfl
theorem c30 : (nI 30).toNatClampNeg = 30 := rfl
/-- fewer locals known -/
def sm_le : sm_L → sm_L → Prop
  | [], _ => True
  | none :: r', _ :: r => sm_le r' r
  | none :: r', [] => sm_le r' []
  | some v :: r', o :: r => o = some v ∧ sm_le r' r
  | some _ :: _, [] => False
theorem sm_le_get : ∀ (ls' ls : sm_L), sm_le ls' ls → ∀ i v, sm_get ls' i = some v → sm_get ls i = some v
  | [], _, _, i, v, h => by simp [sm_get, sm_nth] at h
  | none :: r', o :: r, hl, 0, v, h => by simp [sm_get, sm_nth] at h
  | none :: r', o :: r, hl, i + 1, v, h => sm_le_get r' r hl i v h
  | none :: r', [], hl, 0, v, h => by simp [sm_get, sm_nth] at h
  | none :: r', [], hl, i + 1, v, h => by
    have := sm_le_get r' [] hl i v h
    simp [sm_get, sm_nth] at this
  | some w :: r', o :: r, hl, 0, v, h => by
    have e : some w = some v := h
    rw [← e]
    exact hl.1
  | some w :: r', o :: r, hl, i + 1, v, h => sm_le_get r' r hl.2 i v h
  | some w :: r', [], hl, i, v, h => False.elim hl
theorem sm_less {k j : Nat} {Q : sm_Q} {sc : Option (Nat × (Nat → Int32))} {pc : Nat} {ls' ls : sm_L} {st : List Value} {h : sm_H} (hw : sm_Wk k j Q sc pc ls' st h) (hl : sm_le ls' ls) : sm_Wk k j Q sc pc ls st h := by
  intro d hd p l e R s m args below meth c A H0 D G ad cells slots Z C H locs lsA hP hD hS hL
  obtain ⟨l0, h1, h2⟩ := hL
  exact hw d hd p l e R s m args below meth c A H0 D G ad cells slots Z C H locs lsA hP hD hS ⟨l0, h1, fun i v hg => h2 i v (sm_le_get _ _ hl i v hg)⟩
theorem wI_ge {n : Nat} (h : n ≤ 4) : nI 0 ≤ wI n ↔ n ≠ 4 := by
  have : n = 0 ∨ n = 1 ∨ n = 2 ∨ n = 3 ∨ n = 4 := by omega
  rcases this with rfl | rfl | rfl | rfl | rfl <;> decide
theorem nud_l : ∀ a, a < 4 → ∀ b, b < 4 → (sm_ir (nI b + nI 4 - nI a) (nI 4) = nI 0 → nI a = nI (nud a b)) ∧ (¬ sm_ir (nI b + nI 4 - nI a) (nI 4) = nI 0 → sm_ir (nI b + nI 4 - nI a) (nI 4) = nI 3 → sm_ir (nI a + nI 3) (nI 4) = nI (nud a b)) ∧ (¬ sm_ir (nI b + nI 4 - nI a) (nI 4) = nI 0 → ¬ sm_ir (nI b + nI 4 - nI a) (nI 4) = nI 3 → sm_ir (nI a + nI 1) (nI 4) = nI (nud a b)) := by decide +kernel
/-- the day and the vanes, as the law has them; what is seen -/
def wD (S : Nat → Nat → Nat) (G : Nat → Nat → Int32) : Prop := G 30 6 = nI (S 0 0) ∧ G 30 7 = nI (S 0 1) ∧ (∀ i, i < S 0 0 → G 30 i = wI (S 1 i)) ∧ (∀ i, i < S 0 1 → G 30 (8 + 3 * i) = nI (S 2 i) ∧ G 30 (9 + 3 * i) = nI (S 3 i) ∧ G 30 (10 + 3 * i) = nI (S 4 i))
def wS (n : Nat) (a b d : Nat → Nat) (G : Nat → Nat → Int32) : Prop := G 31 30 = nI n ∧ (∀ k, k < n → G 31 (3 * k) = nI (a k) ∧ G 31 (3 * k + 1) = nI (b k) ∧ G 31 (3 * k + 2) = nI (d k))
theorem wD_x {ps : List Nat} {S G G' : _} (hx : eqx ps G G') (hm : sm_mem ps 30 = false) (h : wD S G) : wD S G' := by
  unfold wD
  rw [hx 30 hm]
  exact h
theorem wS_x {ps : List Nat} {n a b d G G' : _} (hx : eqx ps G G') (hm : sm_mem ps 31 = false) (h : wS n a b d G) : wS n a b d G' := by
  unfold wS
  rw [hx 31 hm]
  exact h
/-- the winds of a code and where all point by it -/
def ld (S : Nat → Nat → Nat) (c : Nat) (G : Nat → Nat → Int32) : Prop := (∀ h, h < S 0 0 → G 32 h = nI (wd S c h)) ∧ (∀ v, v < S 0 1 → ∀ h, h < S 0 0 → G 33 (6 * v + h) = nI (ps S (wd S c) v (h + 1)))
section LAWA
variable {CT : sm_CT} {G : Nat → Nat → Int32} {L : Nat → Nat → Int64} {Q : sm_Q} {S : Nat → Nat → Nat} {h : sm_H}
set_option maxRecDepth 100000 in
set_option maxHeartbeats 4000000 in
theorem l_quarter (hC : sm_C 1 CT) {a b : Nat} (ha : a < 4) (hb : b < 4) (hQ : Q (some (.int (nI (nud a b)))) h) : CT 82 [.int (nI a), .int (nI b)] h Q := by
  obtain ⟨e1, e2, e3⟩ := nud_l a ha b hb
  refine sm_meth hC [some (.int (nI a)), some (.int (nI b)), none] rfl rfl rfl ?_
  refine sm_body [] 60 sm_k82 (fun CT K hC hK => ?_)
  repeat' first
    | (with_reducible refine And.intro ?_ ?_)
    | ((with_reducible intro h9); first | exact absurd h9 (by decide) | skip)
    | (with_reducible exact zn_in (by omega) (by decide))
    | (with_reducible exact z01) | (with_reducible exact z11) | (with_reducible exact zb01 _)
    | (with_reducible exact zn_inb (by omega) (by decide))
    | (with_reducible exact zn_ina (by omega) (by decide))
    | (with_reducible exact zn_inc (by omega) (by decide))
    | ((conv => whnf); first | (with_reducible refine And.intro ?_ ?_) | ((with_reducible intro h9); first | exact absurd h9 (by decide) | skip) | (with_reducible refine hK _ _ _ _ (sm_un ?_)))
  all_goals first
    | exact zq (e1 ‹_›) hQ
    | exact zq (e2 ‹_› ‹_›) hQ
    | exact zq (e3 ‹_› ‹_›) hQ
set_option maxRecDepth 100000 in
set_option maxHeartbeats 4000000 in
theorem l_turns (hC : sm_C 2 CT) {k t a w : Nat} (hk : k ≤ 4) (ht : t < 4) (ha : a < 4) (hw : w < 4) (hQ : Q (some (.int (nI (trn k t a w)))) h) : CT 83 [.int (nI k), .int (nI t), .int (nI a), .int (nI w)] h Q := by
  have hk : k = 0 ∨ k = 1 ∨ k = 2 ∨ k = 3 ∨ k = 4 := by omega
  have hwt : (w + t) % 4 < 4 := by omega
  have er : sm_ir (nI w + nI t) (nI 4) = nI ((w + t) % 4) := by rw [nI_add, zn_ir (by omega) (by omega) (by omega)]
  refine sm_meth hC [some (.int (nI k)), some (.int (nI t)), some (.int (nI a)), some (.int (nI w)), none] rfl rfl rfl ?_
  refine sm_body [] 60 sm_k83 (fun CT K hC hK => ?_)
  rcases hk with rfl | rfl | rfl | rfl | rfl
  all_goals
    repeat' first
      | (with_reducible refine And.intro ?_ ?_)
      | ((with_reducible intro h9); first | exact absurd h9 (by decide) | skip)
      | (with_reducible exact zn_in (by omega) (by decide))
      | (with_reducible exact z01) | (with_reducible exact z11) | (with_reducible exact zb01 _)
      | (with_reducible exact zn_inb (by omega) (by decide))
      | (with_reducible exact zn_ina (by omega) (by decide))
      | (with_reducible exact zn_inc (by omega) (by decide))
      | ((conv => whnf); first | (with_reducible refine And.intro ?_ ?_) | ((with_reducible intro h9); first | exact absurd h9 (by decide) | skip) | (with_reducible refine hK _ _ _ _ (sm_un ?_)) | (with_reducible refine l_quarter (hC.mono (by decide)) ha hw ?_) | (with_reducible exact zn_ne (by decide) (by decide) (by decide)) | (rw [er]; refine l_quarter (hC.mono (by decide)) ha hwt ?_))
  all_goals first
    | exact hQ
    | exact zq er hQ
    | (refine zq ?_ hQ; exact nI_i (if_neg fun e => ‹¬ nI w = nI t› (nI_i e)).symm)
    | (refine zq ?_ hQ; exact nI_i (if_pos ((nI_eq (by omega) (by omega)).mp ‹nI w = nI t›)).symm)
set_option maxRecDepth 100000 in
set_option maxHeartbeats 4000000 in
theorem l_codes (hC : sm_C 1 CT) (hW : wD S G) (hR : dR S) (hQ : Q (some (.int (nI (nc S)))) (hp G L)) : CT 84 [.ref 30] (hp G L) Q := by
  obtain ⟨e1, e2, e3, e4⟩ := hW
  obtain ⟨r1, r2, r3, r4⟩ := hR
  refine sm_meth hC [some (.ref 30), none, none] rfl rfl rfl ?_
  have e1 : G 30 (nI 6).toNatClampNeg = nI (S 0 0) := e1
  have lo : ∀ i, i ≤ S 0 0 → sm_Wk 0 84 Q none 4 [some (.ref 30), some (.int (nI (4 ^ ct (fun h => Nat.beq (S 1 h) 4) i))), some (.int (nI i))] [] (hp G L) := by
    refine up _ (fun i hi ih => ?_)
    refine sm_body [4] 60 sm_k84 (fun CT K hC hK => ?_)
    have eb : i < S 0 0 → (nI 0 ≤ G 30 (nI i).toNatClampNeg ↔ S 1 i ≠ 4) := by
      intro hl
      rw [zn_clI (by omega), e3 i hl, wI_ge (r3 i hl)]
    repeat' first
      | (with_reducible refine And.intro ?_ ?_)
      | ((with_reducible intro h9); first | exact absurd h9 (by decide) | (replace h9 := nle e1 (by omega) (by omega) h9) | (replace h9 := yle e1 (by omega) (by omega) h9) | (rw [eb ‹_›] at h9) | skip)
      | (with_reducible exact zn_in (by omega) (by decide))
      | (with_reducible exact z01) | (with_reducible exact z11) | (with_reducible exact zb01 _)
      | (with_reducible exact zn_inb (by omega) (by decide))
      | (with_reducible exact zn_ina (by omega) (by decide))
      | (with_reducible exact zn_inc (by omega) (by decide))
      | ((conv => whnf); first | (with_reducible refine And.intro ?_ ?_) | ((with_reducible intro h9); first | exact absurd h9 (by decide) | (replace h9 := nle e1 (by omega) (by omega) h9) | (replace h9 := yle e1 (by omega) (by omega) h9) | (rw [eb ‹_›] at h9) | skip) | (with_reducible refine hK _ _ _ _ (sm_un ?_)))
    all_goals try have eq1 : (fun h => Nat.beq (S 1 h) 4) i = true := beq_t (Decidable.not_not.mp ‹_›)
    all_goals try have eq2 : (fun h => Nat.beq (S 1 h) 4) i = false := beq_f ‹_›
    all_goals first
      | ((obtain rfl : i = S 0 0 := by omega); exact hQ)
      | (have e := ih (by omega); rw [ct, bn_t eq1, Nat.pow_succ] at e; simp only [pk_mul, nI_add]; exact ⟨⟨e⟩⟩)
      | (have e := ih (by omega); rw [ct, bn_f eq2, Nat.add_zero, ← Nat.mul_one (4 ^ _)] at e; simp only [pk_mul, nI_add]; exact ⟨⟨e⟩⟩)
  refine sm_body [4] 40 sm_k84 (fun CT K hC hK => ?_)
  repeat' first
    | (with_reducible refine And.intro ?_ ?_)
    | ((with_reducible intro h9); first | exact absurd h9 (by decide) | skip)
    | (with_reducible exact zn_in (by omega) (by decide))
    | (with_reducible exact z01) | (with_reducible exact z11) | (with_reducible exact zb01 _)
    | (with_reducible exact zn_inb (by omega) (by decide))
    | (with_reducible exact zn_ina (by omega) (by decide))
    | (with_reducible exact zn_inc (by omega) (by decide))
    | ((conv => whnf); first | (with_reducible refine And.intro ?_ ?_) | ((with_reducible intro h9); first | exact absurd h9 (by decide) | skip) | (with_reducible refine hK _ _ _ _ (sm_un ?_)))
  exact ⟨⟨lo 0 (Nat.zero_le _)⟩⟩
end LAWA
