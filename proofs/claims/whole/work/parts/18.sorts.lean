/-! The best place to ask for; sorts, on both sides. -/
theorem sg_0 {g : Nat → Nat} : ∀ {n}, (∀ i, i < n → g i = 0) → sg n g = 0
  | 0, _ => rfl
  | n + 1, h => by
    show sg n g + g n = 0
    rw [sg_0 (n := n) (fun i hi => h i (by omega)), h n (by omega)]
theorem cf_wk {S : Nat → Nat → Nat} : ∀ {n h : Nat} {f : Nat → Nat}, cf S n h f = decide (0 < wk S n h f)
  | 0, h, f => rfl
  | n + 1, h, f => by
    have e : ∀ q, cfq S n h f q = decide (0 < cond (okq S h f q) (wk S n (h + 1) (tf S f q)) 0) := by
      intro q
      unfold cfq okq tf
      rw [cf_wk]
      cases may S h q <;> cases ag S h (fun v => tv S v (f v) q) <;> rfl
    show (cfq S n h f 0 || cfq S n h f 1 || cfq S n h f 2 || cfq S n h f 3) = _
    rw [wk, e, e, e, e]
    simp only [sg, Nat.zero_add]
    generalize cond (okq S h f 0) (wk S n (h + 1) (tf S f 0)) 0 = a
    generalize cond (okq S h f 1) (wk S n (h + 1) (tf S f 1)) 0 = b
    generalize cond (okq S h f 2) (wk S n (h + 1) (tf S f 2)) 0 = c
    generalize cond (okq S h f 3) (wk S n (h + 1) (tf S f 3)) 0 = d
    have : (0 < a + b + c + d) ↔ (((0 < a ∨ 0 < b) ∨ 0 < c) ∨ 0 < d) := by omega
    simp only [this, Bool.decide_or]
theorem cf_all {S : Nat → Nat → Nat} (hN : nR S) : cf S (S 0 0) 0 (S 3) = decide (0 < aAll S) := by
  rw [cf_wk, wk_all hN]
/-- with another sort -/
def sS (S : Nat → Nat → Nat) (v k : Nat) : Nat → Nat → Nat := su (su S 2 (su (S 2) v (k / 4))) 4 (su (S 4) v (k % 4))
def fS (S : Nat → Nat → Nat) (v k : Nat) : Bool := decide (0 < aAll (sS S v k))
theorem sS_0 {S v k} {a b : Nat} (ha : a ≠ 2) (hb : a ≠ 4) : sS S v k a b = S a b := by
  unfold sS
  rw [su_ne _ _ hb, su_ne _ _ ha]
theorem sS_2 {S v k i} : sS S v k 2 i = if i = v then k / 4 else S 2 i := by
  unfold sS
  rw [su_ne _ _ (by decide), su_eq, su_if]
theorem sS_4 {S v k i} : sS S v k 4 i = if i = v then k % 4 else S 4 i := by
  unfold sS
  rw [su_eq, su_if]
theorem sS_dR {S v k} (hk : k < 20) (hR : dR S) : dR (sS S v k) := by
  obtain ⟨r1, r2, r3, r4⟩ := hR
  unfold dR
  simp only [sS_0 (show (0 : Nat) ≠ 2 by decide) (show (0 : Nat) ≠ 4 by decide), sS_0 (show (1 : Nat) ≠ 2 by decide) (show (1 : Nat) ≠ 4 by decide), sS_0 (show (3 : Nat) ≠ 2 by decide) (show (3 : Nat) ≠ 4 by decide), sS_2, sS_4]
  refine ⟨r1, r2, r3, fun i hi => ?_⟩
  have := r4 i hi
  split
  · omega
  · exact this
theorem sS_nR {S v k} (hN : nR S) : nR (sS S v k) := by
  unfold nR
  simp only [sS_0 (show (0 : Nat) ≠ 2 by decide) (show (0 : Nat) ≠ 4 by decide), sS_0 (show (6 : Nat) ≠ 2 by decide) (show (6 : Nat) ≠ 4 by decide), sS_0 (show (7 : Nat) ≠ 2 by decide) (show (7 : Nat) ≠ 4 by decide), sS_0 (show (8 : Nat) ≠ 2 by decide) (show (8 : Nat) ≠ 4 by decide)]
  exact hN
theorem sS_cL {S v k G} (h : cL S G) : cL (sS S v k) G := by
  have e : ∀ v' h', lf (sS S v k) v' h' = lf S v' h' := by
    intro v' h'
    unfold lf ob
    simp only [sS_0 (show (0 : Nat) ≠ 2 by decide) (show (0 : Nat) ≠ 4 by decide), sS_0 (show (6 : Nat) ≠ 2 by decide) (show (6 : Nat) ≠ 4 by decide), sS_0 (show (7 : Nat) ≠ 2 by decide) (show (7 : Nat) ≠ 4 by decide), sS_0 (show (8 : Nat) ≠ 2 by decide) (show (8 : Nat) ≠ 4 by decide)]
  unfold cL
  simp only [e]
  exact h
theorem sS_mS {S v k G} (h : mS S G) : mS (sS S v k) G := by
  unfold mS
  simp only [sS_0 (show (0 : Nat) ≠ 2 by decide) (show (0 : Nat) ≠ 4 by decide), sS_0 (show (6 : Nat) ≠ 2 by decide) (show (6 : Nat) ≠ 4 by decide), sS_0 (show (7 : Nat) ≠ 2 by decide) (show (7 : Nat) ≠ 4 by decide), sS_0 (show (8 : Nat) ≠ 2 by decide) (show (8 : Nat) ≠ 4 by decide)]
  exact h
theorem sS_cD {S : Nat → Nat → Nat} {v k : Nat} {G G' : Nat → Nat → Int32} (hv : v < S 0 1) (h : cD S G) (e3 : G' 3 = G 3) (e4 : G' 4 = G 4) (e6 : G' 6 = G 6) (e5 : ∀ i, G' 5 i = if i = v then nI (k / 4) else G 5 i) (e7 : ∀ i, G' 7 i = if i = v then nI (k % 4) else G 7 i) : cD (sS S v k) G' := by
  obtain ⟨h1, h2, h3, h4⟩ := h
  unfold cD
  simp only [sS_0 (show (0 : Nat) ≠ 2 by decide) (show (0 : Nat) ≠ 4 by decide), sS_0 (show (1 : Nat) ≠ 2 by decide) (show (1 : Nat) ≠ 4 by decide), sS_0 (show (3 : Nat) ≠ 2 by decide) (show (3 : Nat) ≠ 4 by decide), sS_2, sS_4, e3, e4, e6, e5, e7]
  refine ⟨h1, h2, h3, fun i hi => ?_⟩
  split
  · exact ⟨rfl, (h4 i hi).2.1, rfl⟩
  · exact h4 i hi
theorem sS_mD {S : Nat → Nat → Nat} {v k : Nat} {G G' : Nat → Nat → Int32} (hv : v < S 0 1) (h : mD S G) (e3 : G' 30 = G 30) (e4 : G' 31 = G 31) (e6 : G' 33 = G 33) (e5 : ∀ i, G' 32 i = if i = v then nI (k / 4) else G 32 i) (e7 : ∀ i, G' 34 i = if i = v then nI (k % 4) else G 34 i) : mD (sS S v k) G' := by
  obtain ⟨h1, h2, h3, h4⟩ := h
  unfold mD
  simp only [sS_0 (show (0 : Nat) ≠ 2 by decide) (show (0 : Nat) ≠ 4 by decide), sS_0 (show (1 : Nat) ≠ 2 by decide) (show (1 : Nat) ≠ 4 by decide), sS_0 (show (3 : Nat) ≠ 2 by decide) (show (3 : Nat) ≠ 4 by decide), sS_2, sS_4, e3, e4, e6, e5, e7]
  refine ⟨h1, h2, h3, fun i hi => ?_⟩
  split
  · exact ⟨rfl, (h4 i hi).2.1, rfl⟩
  · exact h4 i hi
/-- the least of 20, 20 if there is none: the last d looked at -/
def lsd (f : Nat → Bool) : Nat → Nat
  | 0 => 20
  | d + 1 => if f (19 - d) then 19 - d else lsd f d
theorem lsd_t {f : Nat → Bool} {i : Nat} (hi : i < 20) (h : ∀ k, k < i → f k = false) (hf : f i = true) : ∀ d, 20 - d ≤ i → d ≤ 20 → lsd f d = i
  | 0, h1, _ => by omega
  | d + 1, h1, h2 => by
    rw [lsd]
    by_cases e : 19 - d = i
    · rw [e, if_pos hf]
    · rw [h (19 - d) (by omega)]
      exact lsd_t hi h hf d (by omega) (by omega)
theorem lsd_f {f : Nat → Bool} (h : ∀ k, k < 20 → f k = false) : ∀ d, lsd f d = 20
  | 0 => rfl
  | d + 1 => by
    rw [lsd, h (19 - d) (by omega)]
    exact lsd_f h d
theorem bq_bit {f : Nat → Bool} : ∀ {n i : Nat}, bq n (fun k => bn (f k)) / 2 ^ i % 2 = cond (decide (i < n)) (bn (f i)) 0
  | 0, i => by
    show 0 / 2 ^ i % 2 = 0
    rw [Nat.zero_div]
  | n + 1, i => by
    have e : (if 0 < bn (f n) then 2 ^ n else 0) = bn (f n) * 2 ^ n := by cases f n <;> simp [bn]
    show (bq n (fun k => bn (f k)) + (if 0 < bn (f n) then 2 ^ n else 0)) / 2 ^ i % 2 = _
    rw [e]
    have hl := bq_lt (c := fun k => bn (f k)) n
    by_cases hin : i < n
    · obtain ⟨d, rfl⟩ : ∃ d, n = i + 1 + d := ⟨n - i - 1, by omega⟩
      have e2 : bn (f (i + 1 + d)) * 2 ^ (i + 1 + d) = (2 * (bn (f (i + 1 + d)) * 2 ^ d)) * 2 ^ i := by
        rw [show i + 1 + d = d + 1 + i by omega, Nat.pow_add, Nat.pow_succ]
        simp only [Nat.mul_assoc, Nat.mul_comm, Nat.mul_left_comm]
      rw [e2, Nat.add_mul_div_right _ _ (Nat.pow_pos (by decide)), Nat.add_mul_mod_self_left, bq_bit (n := i + 1 + d) (i := i)]
      simp only [decide_eq_true (show i < i + 1 + d by omega), decide_eq_true (show i < i + 1 + d + 1 by omega)]
    · by_cases hie : i = n
      · subst hie
        rw [Nat.add_mul_div_right _ _ (Nat.pow_pos (by decide)), Nat.div_eq_of_lt hl, Nat.zero_add, decide_eq_true (show i < i + 1 by omega)]
        have := bn_lt (f i)
        show bn (f i) % 2 = bn (f i)
        omega
      · have hb := bn_lt (f n)
        have : bq n (fun k => bn (f k)) + bn (f n) * 2 ^ n < 2 ^ i := by
          have h1 : 2 ^ (n + 1) ≤ 2 ^ i := Nat.pow_le_pow_right (by decide) (by omega)
          rw [Nat.pow_succ] at h1
          have h2 : bn (f n) * 2 ^ n ≤ 1 * 2 ^ n := Nat.mul_le_mul_right _ (by omega)
          omega
        rw [Nat.div_eq_of_lt this, decide_eq_false (show ¬ i < n + 1 by omega)]
        rfl
theorem su2_back {a b : Nat} {G G1 : Nat → Nat → Int32} {x y : Nat → Int32} (hx : eqx [a, b] G G1) (h1 : ∀ j, x j = G a j) (h2 : ∀ j, y j = G b j) : su (su G1 a x) b y = G := by
  funext p
  by_cases hb : p = b
  · subst hb
    rw [su_eq]
    exact funext h2
  · rw [su_ne _ _ hb]
    by_cases ha : p = a
    · subst ha
      rw [su_eq]
      exact funext h1
    · rw [su_ne _ _ ha]
      refine hx p ?_
      simp only [sm_mem, beq_f (Ne.symm ha), beq_f (Ne.symm hb), cond]
section SORTS
variable {CT : sm_CT} {G : Nat → Nat → Int32} {L : Nat → Nat → Int64} {Q : sm_Q} {S : Nat → Nat → Nat} {h : sm_H}
def lI (m : Nat) : Int32 := if m < 20 then nI m else -1
set_option maxRecDepth 100000 in
set_option maxHeartbeats 4000000 in
theorem s_leastOf (hC : sm_C 1 CT) {f : Nat → Bool} (hQ : Q (some (.int (lI (lsd f 20)))) h) : CT 69 [.int (nI (bq 20 (fun k => bn (f k))))] h Q := by
  have hl := bq_lt (c := fun k => bn (f k)) 20
  refine sm_meth hC [some (.int (nI (bq 20 (fun k => bn (f k))))), none] rfl rfl rfl ?_
  have lo : ∀ i, i ≤ 32 → (∀ k, k < i → k < 20 → f k = false) → sm_Wk 0 69 Q none 2 [some (.int (nI (bq 20 (fun k => bn (f k))))), some (.int (nI i))] [] h := by
    refine up _ (fun i hi ih hz => ?_)
    have eb : i < 32 → sm_shr (nI (bq 20 (fun k => bn (f k)))) (nI i) &&& nI 1 = nI (cond (decide (i < 20)) (bn (f i)) 0) := fun hi => by rw [zn_bit (by omega) (by omega), bq_bit]
    refine sm_body [2] 80 sm_k69 (fun CT K hC hK => ?_)
    repeat' first
      | (with_reducible refine And.intro ?_ ?_)
      | ((with_reducible intro h9); first | exact absurd h9 (by decide) | (replace h9 := zle (by omega) (by omega) h9) | (replace h9 := znle (by omega) (by omega) h9) | (rw [eb ‹_›] at h9) | skip)
      | (with_reducible exact zn_in (by omega) (by decide))
      | (with_reducible exact z01) | (with_reducible exact z11) | (with_reducible exact zb01 _)
      | (with_reducible exact zn_inb (by omega) (by decide))
      | (with_reducible exact zn_ina (by omega) (by decide))
      | (with_reducible exact zn_inc (by omega) (by decide))
      | ((conv => whnf); first | (with_reducible refine And.intro ?_ ?_) | ((with_reducible intro h9); first | exact absurd h9 (by decide) | (replace h9 := zle (by omega) (by omega) h9) | (replace h9 := znle (by omega) (by omega) h9) | (rw [eb ‹_›] at h9) | skip) | (with_reducible refine hK _ _ _ _ (sm_un ?_)))
    · refine zq ?_ hQ
      rw [lsd_f (fun k hk => hz k (by omega) hk)]
      rfl
    · have e : i < 20 → f i = false := by
        intro h20
        rw [decide_eq_true h20] at h9
        cases hf : f i with
        | false => rfl
        | true => rw [hf] at h9; exact absurd rfl h9
      simp only [nI_add]; exact ⟨⟨ih ‹_› (fun k hk h20 => if hki : k = i then (by subst hki; exact e h20) else hz k (by omega) h20)⟩⟩
    · have h20 : i < 20 := by
        by_cases h : i < 20
        · exact h
        · rw [decide_eq_false h] at h9
          exact absurd (show nI 0 = nI 1 from h9) (by decide)
      rw [decide_eq_true h20] at h9
      have hf : f i = true := by
        cases hf : f i with
        | true => rfl
        | false => rw [hf] at h9; exact absurd h9 (by decide)
      refine zq ?_ hQ
      rw [lsd_t h20 (fun k hk => hz k hk (by omega)) hf 20 (by omega) (by omega)]
      exact (if_pos h20).symm
  refine sm_body [2] 80 sm_k69 (fun CT K hC hK => ?_)
  repeat' first
    | (with_reducible refine And.intro ?_ ?_)
    | ((with_reducible intro h9); first | exact absurd h9 (by decide) | skip)
    | (with_reducible exact zn_in (by omega) (by decide))
    | (with_reducible exact z01) | (with_reducible exact z11) | (with_reducible exact zb01 _)
    | (with_reducible exact zn_inb (by omega) (by decide))
    | (with_reducible exact zn_ina (by omega) (by decide))
    | (with_reducible exact zn_inc (by omega) (by decide))
    | ((conv => whnf); first | (with_reducible refine And.intro ?_ ?_) | ((with_reducible intro h9); first | exact absurd h9 (by decide) | skip) | (with_reducible refine hK _ _ _ _ (sm_un ?_)))
  exact ⟨⟨lo 0 (Nat.zero_le _) (fun k hk => absurd hk (Nat.not_lt_zero _))⟩⟩
set_option maxRecDepth 100000 in
set_option maxHeartbeats 4000000 in
theorem s_possibleSorts (hC : sm_C 14 CT) (hD : cD S G) (hR : dR S) (hL : cL S G) (hN : nR S) {v : Nat} (hv : v < S 0 1) (hQ : Q (some (.int (nI (bq 20 (fun k => bn (fS S v k)))))) (hp G L)) : CT 68 [.ref 0, .int (nI v)] (hp G L) Q := by
  have hR' := hR
  obtain ⟨r1, r2, r3, r4⟩ := hR'
  have hD' := hD
  obtain ⟨e1, e2, e3, e4⟩ := hD'
  have cv : (nI v).toNatClampNeg = v := nI_clamp (by omega)
  refine sm_meth hC [some (.ref 0), some (.int (nI v)), none, none, none, none] rfl rfl rfl ?_
  have lo : ∀ i, i ≤ 20 → ∀ G1, eqx [5, 7] G G1 → (∀ j, j ≠ v → G1 5 j = G 5 j) → (∀ j, j ≠ v → G1 7 j = G 7 j) → sm_Wk 13 68 Q none 26 [some (.ref 0), some (.int (nI v)), some (.int (nI (S 2 v))), some (.int (nI (S 4 v))), some (.int (nI (bq i (fun k => bn (fS S v k))))), some (.int (nI i))] [] (hp G1 L) := by
    refine up _ (fun i hi ih G1 hx h5 h7 => ?_)
    have eo : bq i (fun k => bn (fS S v k)) ||| 1 * 2 ^ i = bq i (fun k => bn (fS S v k)) + 2 ^ i := by rw [Nat.one_mul]; exact bq_or i
    have ed : nI i / nI 4 = nI (i / 4) := pk_div (by omega) (by decide) (by decide)
    have em : sm_ir (nI i) (nI 4) = nI (i % 4) := zn_ir (by omega) (by decide) (by decide)
    refine sm_body [26] 80 sm_k68 (fun CT K hC hK => ?_)
    repeat' first
      | (with_reducible refine And.intro ?_ ?_)
      | ((with_reducible intro h9); first | exact absurd h9 (by decide) | (replace h9 := zle (by omega) (by omega) h9) | (replace h9 := znle (by omega) (by omega) h9) | (replace h9 := sb_f h9) | (replace h9 := sb_t h9) | skip)
      | (with_reducible exact zn_in (by omega) (by decide))
      | (with_reducible exact z01) | (with_reducible exact z11) | (with_reducible exact zb01 _)
      | (with_reducible exact zn_inb (by omega) (by decide))
      | (with_reducible exact zn_ina (by omega) (by decide))
      | (with_reducible exact zn_inc (by omega) (by decide))
      | ((conv => whnf); first | (with_reducible refine And.intro ?_ ?_) | ((with_reducible intro h9); first | exact absurd h9 (by decide) | (replace h9 := zle (by omega) (by omega) h9) | (replace h9 := znle (by omega) (by omega) h9) | (replace h9 := sb_f h9) | (replace h9 := sb_t h9) | skip) | (with_reducible refine hK _ _ _ _ (sm_un ?_)) | (simp only [hp_0, hp_1, hp_2, hp_3, hp_4, hp_5, hp_6, hp_7, hp_8, hp_9, hp_10, hp_11, hp_12, hp_13, hp_14, hp_15, hp_16, hp_17, hp_18, hp_19, hp_20, hp_22, hp_23, hp_24, hp_25, hp_26, hp_27, hp_28, hp_29, hp_30, hp_31, hp_32, hp_33, hp_34, hp_35, hp_36, hp_37, hp_38, hp_39, hp_40, hp_41, hp_42, hp_43, hp_44, hp_45, hp_46, hp_47, hp_48, hp_49, hf0_5, hf0_6, hf0_7, hf1_1, hf3_0, hf3_2, hf3_6, hf10_0, hf10_2, hf10_6, hf17_3, hf17_4, hf20_3, hf20_4, hf30_0, hf30_1, hf30_3, hf30_7, hf30_11, hf30_12, hf30_20, hf30_22, hf30_23, hf30_24, hf30_25, hf30_21, hf30_31, upd_su, updL_su, cv, ed, em]; refine s_hasFitting (S := sS S v i) (hC.mono (by omega)) (sS_cD hv hD ?_ ?_ ?_ ?_ ?_) (sS_dR ‹_› hR) (sS_cL (cL_x (eqx_su 7 _ rfl (eqx_su 5 _ rfl hx)) rfl hL)) ?_))
    all_goals try simp only [hp_0, hp_1, hp_2, hp_3, hp_4, hp_5, hp_6, hp_7, hp_8, hp_9, hp_10, hp_11, hp_12, hp_13, hp_14, hp_15, hp_16, hp_17, hp_18, hp_19, hp_20, hp_22, hp_23, hp_24, hp_25, hp_26, hp_27, hp_28, hp_29, hp_30, hp_31, hp_32, hp_33, hp_34, hp_35, hp_36, hp_37, hp_38, hp_39, hp_40, hp_41, hp_42, hp_43, hp_44, hp_45, hp_46, hp_47, hp_48, hp_49, hf0_5, hf0_6, hf0_7, hf1_1, hf3_0, hf3_2, hf3_6, hf10_0, hf10_2, hf10_6, hf17_3, hf17_4, hf20_3, hf20_4, hf30_0, hf30_1, hf30_3, hf30_7, hf30_11, hf30_12, hf30_20, hf30_22, hf30_23, hf30_24, hf30_25, hf30_21, hf30_31, upd_su, updL_su, cv]
    · obtain rfl : i = 20 := by omega
      have eG := su2_back (x := su (G1 5) v (nI (S 2 v))) (y := su (G1 7) v (nI (S 4 v))) hx (fun j => by
        rw [su_if]
        by_cases e : j = v
        · subst e; rw [if_pos rfl, (e4 j hv).1]
        · rw [if_neg e, h5 j e]) (fun j => by
        rw [su_if]
        by_cases e : j = v
        · subst e; rw [if_pos rfl, (e4 j hv).2.2]
        · rw [if_neg e, h7 j e])
      conv => whnf
      simp only [hp_0, hp_1, hp_2, hp_3, hp_4, hp_5, hp_6, hp_7, hp_8, hp_9, hp_10, hp_11, hp_12, hp_13, hp_14, hp_15, hp_16, hp_17, hp_18, hp_19, hp_20, hp_22, hp_23, hp_24, hp_25, hp_26, hp_27, hp_28, hp_29, hp_30, hp_31, hp_32, hp_33, hp_34, hp_35, hp_36, hp_37, hp_38, hp_39, hp_40, hp_41, hp_42, hp_43, hp_44, hp_45, hp_46, hp_47, hp_48, hp_49, hf0_5, hf0_6, hf0_7, hf1_1, hf3_0, hf3_2, hf3_6, hf10_0, hf10_2, hf10_6, hf17_3, hf17_4, hf20_3, hf20_4, hf30_0, hf30_1, hf30_3, hf30_7, hf30_11, hf30_12, hf30_20, hf30_22, hf30_23, hf30_24, hf30_25, hf30_21, hf30_31, upd_su, updL_su, cv, eG]
      exact hQ
    · exact hx 3 rfl
    · exact hx 4 rfl
    · exact hx 6 rfl
    · rw [su_ne _ _ (by decide), su_eq, su_if]
      by_cases e : h9 = v
      · rw [if_pos e, if_pos e]
      · rw [if_neg e, if_neg e, h5 _ e]
    · rw [su_eq, su_if]
      by_cases e : h9 = v
      · rw [if_pos e, if_pos e]
      · rw [if_neg e, if_neg e, h7 _ e]
    all_goals
      have hX := eqx_su 7 (su (G1 7) v (nI (i % 4))) (by rfl) (eqx_su 5 (su (G1 5) v (nI (i / 4))) (by rfl) hx)
      have e := ih ‹_› _ hX (fun j hj => by rw [su_ne _ _ (by decide), su_eq, su_ne _ _ hj]; exact h5 j hj) (fun j hj => by rw [su_eq, su_ne _ _ hj]; exact h7 j hj)
      rw [cf_all (sS_nR hN)] at h9
    · rw [bq, show bn (fS S v i) = 0 from bn_f h9] at e
      simp only [nI_add]; exact ⟨⟨e⟩⟩
    · rw [bq, show bn (fS S v i) = 1 from bn_t h9] at e
      simp only [nI_add, zn_shl (show i < 32 by omega), zn_or, eo]
      exact ⟨⟨e⟩⟩
  refine sm_body [26] 80 sm_k68 (fun CT K hC hK => ?_)
  repeat' first
    | (with_reducible refine And.intro ?_ ?_)
    | ((with_reducible intro h9); first | exact absurd h9 (by decide) | skip)
    | (with_reducible exact zn_in (by omega) (by decide))
    | (with_reducible exact z01) | (with_reducible exact z11) | (with_reducible exact zb01 _)
    | (with_reducible exact zn_inb (by omega) (by decide))
    | (with_reducible exact zn_ina (by omega) (by decide))
    | (with_reducible exact zn_inc (by omega) (by decide))
    | ((conv => whnf); first | (with_reducible refine And.intro ?_ ?_) | ((with_reducible intro h9); first | exact absurd h9 (by decide) | skip) | (with_reducible refine hK _ _ _ _ (sm_un ?_)))
  simp only [cv, (e4 v hv).1, (e4 v hv).2.2]
  exact ⟨⟨lo 0 (Nat.zero_le _) G eqx_rfl (fun _ _ => rfl) (fun _ _ => rfl)⟩⟩
theorem lsd_at {f : Nat → Bool} : ∀ {d}, d ≤ 20 → lsd f d = 20 ∨ (20 - d ≤ lsd f d ∧ lsd f d < 20)
  | 0, _ => Or.inl rfl
  | d + 1, h => by
    rw [lsd]
    by_cases e : f (19 - d) = true
    · rw [if_pos e]; omega
    · rw [if_neg e]
      have := lsd_at (f := f) (d := d) (by omega)
      omega
/-- what sorts answers -/
def sortsR (S : Nat → Nat → Nat) (v j : Nat) : Int32 := if j = 0 then nI (ct (fS S v) 20) else lI (lsd (fS S v) 20)
set_option maxRecDepth 100000 in
set_option maxHeartbeats 4000000 in
theorem s_sortsNow (hC : sm_C 8 CT) (hD : mD S G) (hR : dR S) (hS : mS S G) (hN : nR S) {v j : Nat} (hv : v < S 0 1) (hj : j < 2)
    (hQ : ∀ G', eqx [39, 40] G G' → (pA G → pA G') → Q (some (.int (sortsR S v j))) (hp G' L)) : CT 123 [.ref 30, .int (nI v), .int (nI j)] (hp G L) Q := by
  have hR' := hR
  obtain ⟨r1, r2, r3, r4⟩ := hR'
  have hD' := hD
  obtain ⟨e1, e2, e3, e4⟩ := hD'
  have cv : (nI v).toNatClampNeg = v := nI_clamp (by omega)
  refine sm_meth hC [some (.ref 30), some (.int (nI v)), some (.int (nI j)), none, none, none, none, none, none] rfl rfl rfl ?_
  have lo : ∀ d, d ≤ 20 → ∀ G1 o8, eqx [32, 34, 39, 40] G G1 → (∀ j, j ≠ v → G1 32 j = G 32 j) → (∀ j, j ≠ v → G1 34 j = G 34 j) → (pA G → pA G1) → ∀ x, x + ct (fS S v) (20 - d) = ct (fS S v) 20 → sm_Wk 7 123 Q none 25 [some (.ref 30), some (.int (nI v)), some (.int (nI j)), some (.int (nI (S 2 v))), some (.int (nI (S 4 v))), some (.int (nI x)), some (.int (lI (lsd (fS S v) d))), some (.int (nI 19 - nI d)), o8] [] (hp G1 L) := by
    refine up _ (fun d hd ih G1 o8 hx h5 h7 hpa x hx2 => ?_)
    have eI : d < 20 → nI 19 - nI d = nI (19 - d) := fun h => pk_sub (by omega)
    have en : (nI 19 - nI d < nI 0) ↔ d = 20 := by
      by_cases h : d = 20
      · subst h; exact ⟨fun _ => rfl, fun _ => by decide⟩
      · rw [eI (by omega), nI_ltI (by omega) (by omega)]; omega
    have ed : d < 20 → (nI 19 - nI d) / nI 4 = nI ((19 - d) / 4) := fun h => by rw [eI h]; exact pk_div (by omega) (by decide) (by decide)
    have em : d < 20 → sm_ir (nI 19 - nI d) (nI 4) = nI ((19 - d) % 4) := fun h => by rw [eI h]; exact zn_ir (by omega) (by decide) (by decide)
    have back_ : d = 20 → eqx [39, 40] G (su (su G1 32 (su (G1 32) v (nI (S 2 v)))) 34 (su (G1 34) v (nI (S 4 v)))) ∧ (pA G → pA (su (su G1 32 (su (G1 32) v (nI (S 2 v)))) 34 (su (G1 34) v (nI (S 4 v))))) := by
      intro _
      refine ⟨fun p hp => ?_, fun z k hk => by rw [su_ne _ _ (by decide), su_ne _ _ (by decide)]; exact hpa z k hk⟩
      by_cases hb : p = 34
      · subst hb
        rw [su_eq]
        funext j
        rw [su_if]
        by_cases e : j = v
        · subst e; rw [if_pos rfl, (e4 j hv).2.2]
        · rw [if_neg e, h7 j e]
      · rw [su_ne _ _ hb]
        by_cases ha : p = 32
        · subst ha
          rw [su_eq]
          funext j
          rw [su_if]
          by_cases e : j = v
          · subst e; rw [if_pos rfl, (e4 j hv).1]
          · rw [if_neg e, h5 j e]
        · rw [su_ne _ _ ha]
          refine hx p ?_
          simp only [sm_mem, beq_f (Ne.symm ha), beq_f (Ne.symm hb), cond] at hp ⊢
          exact hp
    have en1 : ∀ d, d ≤ 20 → nI 19 - nI d + -1 = nI 19 - nI (d + 1) := by decide
    refine sm_body [25] 80 sm_k123 (fun CT K hC hK => ?_)
    repeat' first
      | (with_reducible refine And.intro ?_ ?_)
      | ((with_reducible intro h9); first | exact absurd h9 (by decide) | (rw [en] at h9) | (replace h9 := sb_f h9) | (replace h9 := sb_t h9) | skip)
      | (with_reducible exact zn_in (by omega) (by decide))
      | (with_reducible exact z01) | (with_reducible exact z11) | (with_reducible exact zb01 _)
      | (with_reducible exact zn_inb (by omega) (by decide))
      | (with_reducible exact zn_ina (by omega) (by decide))
      | (with_reducible exact zn_inc (by omega) (by decide))
      | ((conv => whnf); first | (with_reducible refine And.intro ?_ ?_) | ((with_reducible intro h9); first | exact absurd h9 (by decide) | (rw [en] at h9) | (replace h9 := sb_f h9) | (replace h9 := sb_t h9) | skip) | (with_reducible refine hK _ _ _ _ (sm_un ?_)) | (have hd20 : d < 20 := (by omega); simp only [hp_0, hp_1, hp_2, hp_3, hp_4, hp_5, hp_6, hp_7, hp_8, hp_9, hp_10, hp_11, hp_12, hp_13, hp_14, hp_15, hp_16, hp_17, hp_18, hp_19, hp_20, hp_22, hp_23, hp_24, hp_25, hp_26, hp_27, hp_28, hp_29, hp_30, hp_31, hp_32, hp_33, hp_34, hp_35, hp_36, hp_37, hp_38, hp_39, hp_40, hp_41, hp_42, hp_43, hp_44, hp_45, hp_46, hp_47, hp_48, hp_49, hf0_5, hf0_6, hf0_7, hf1_1, hf3_0, hf3_2, hf3_6, hf10_0, hf10_2, hf10_6, hf17_3, hf17_4, hf20_3, hf20_4, hf30_0, hf30_1, hf30_3, hf30_7, hf30_11, hf30_12, hf30_20, hf30_22, hf30_23, hf30_24, hf30_25, hf30_21, hf30_31, upd_su, updL_su, cv, ed hd20, em hd20]; refine s_anyFits (S := sS S v (19 - d)) (hC.mono (by omega)) (sS_mD hv hD ?_ ?_ ?_ ?_ ?_) (sS_dR (by omega) hR) (sS_mS (mS_x (eqx_su 34 _ rfl (eqx_su 32 _ rfl hx)) rfl hS)) (sS_nR hN) (fun G2 hx3 hpa2 => ?_)))
    all_goals try (exact absurd (‹decide (0 < aAll (sS S v (19 - d))) = false›.symm.trans ‹decide (0 < aAll (sS S v (19 - d))) = true›) (by decide))
    · have e := back_ ‹d = 20›
      conv => whnf
      simp only [hp_0, hp_1, hp_2, hp_3, hp_4, hp_5, hp_6, hp_7, hp_8, hp_9, hp_10, hp_11, hp_12, hp_13, hp_14, hp_15, hp_16, hp_17, hp_18, hp_19, hp_20, hp_22, hp_23, hp_24, hp_25, hp_26, hp_27, hp_28, hp_29, hp_30, hp_31, hp_32, hp_33, hp_34, hp_35, hp_36, hp_37, hp_38, hp_39, hp_40, hp_41, hp_42, hp_43, hp_44, hp_45, hp_46, hp_47, hp_48, hp_49, hf0_5, hf0_6, hf0_7, hf1_1, hf3_0, hf3_2, hf3_6, hf10_0, hf10_2, hf10_6, hf17_3, hf17_4, hf20_3, hf20_4, hf30_0, hf30_1, hf30_3, hf30_7, hf30_11, hf30_12, hf30_20, hf30_22, hf30_23, hf30_24, hf30_25, hf30_21, hf30_31, upd_su, updL_su, cv]
      have e2 := hQ _ e.1 e.2
      unfold sortsR at e2
      rw [if_neg (zneq h9)] at e2
      rw [‹d = 20›]
      exact e2
    · have e := back_ ‹d = 20›
      conv => whnf
      simp only [hp_0, hp_1, hp_2, hp_3, hp_4, hp_5, hp_6, hp_7, hp_8, hp_9, hp_10, hp_11, hp_12, hp_13, hp_14, hp_15, hp_16, hp_17, hp_18, hp_19, hp_20, hp_22, hp_23, hp_24, hp_25, hp_26, hp_27, hp_28, hp_29, hp_30, hp_31, hp_32, hp_33, hp_34, hp_35, hp_36, hp_37, hp_38, hp_39, hp_40, hp_41, hp_42, hp_43, hp_44, hp_45, hp_46, hp_47, hp_48, hp_49, hf0_5, hf0_6, hf0_7, hf1_1, hf3_0, hf3_2, hf3_6, hf10_0, hf10_2, hf10_6, hf17_3, hf17_4, hf20_3, hf20_4, hf30_0, hf30_1, hf30_3, hf30_7, hf30_11, hf30_12, hf30_20, hf30_22, hf30_23, hf30_24, hf30_25, hf30_21, hf30_31, upd_su, updL_su, cv]
      have e2 := hQ _ e.1 e.2
      unfold sortsR at e2
      rw [if_pos (zeq (by omega) (by omega) h9)] at e2
      have e3 : x = ct (fS S v) 20 := by rw [‹d = 20›] at hx2; exact hx2
      rw [e3]
      exact e2
    · exact hx 30 rfl
    · exact hx 31 rfl
    · exact hx 33 rfl
    · rw [su_ne _ _ (by decide), su_eq, su_if]
      by_cases e : h9 = v
      · rw [if_pos e, if_pos e]
      · rw [if_neg e, if_neg e, h5 _ e]
    · rw [su_eq, su_if]
      by_cases e : h9 = v
      · rw [if_pos e, if_pos e]
      · rw [if_neg e, if_neg e, h7 _ e]
    all_goals
      have hX := eqx_trans (eqx_su 34 (su (G1 34) v (nI ((19 - d) % 4))) (by rfl) (eqx_su 32 (su (G1 32) v (nI ((19 - d) / 4))) (by rfl) hx)) (eqx_sub (by rfl) hx3)
      have hd20 : d < 20 := by omega
      have ect : ct (fS S v) (20 - d) = ct (fS S v) (20 - (d + 1)) + bn (fS S v (19 - d)) := by rw [show 20 - d = (20 - (d + 1)) + 1 by omega, ct, show 20 - (d + 1) = 19 - d by omega]
      have e := ih hd20 G2 (some (.int (sm_b (decide (0 < aAll (sS S v (19 - d))))))) hX (fun j hj => by rw [hx3 32 rfl, su_ne _ _ (by decide), su_eq, su_ne _ _ hj]; exact h5 j hj) (fun j hj => by rw [hx3 34 rfl, su_eq, su_ne _ _ hj]; exact h7 j hj) (fun z => hpa2 (fun k hk => by rw [su_ne _ _ (by decide), su_ne _ _ (by decide)]; exact hpa z k hk))
    · have ef : fS S v (19 - d) = false := h9
      have e := e (x + 0) (by rw [ect, ef] at hx2; exact hx2)
      rw [lsd, ef] at e
      simp only [nI_add, en1 d (by omega)]
      exact ⟨⟨e⟩⟩
    · have ef : fS S v (19 - d) = true := h9
      have e := e (x + 1) (by rw [ect, ef, bn_t rfl] at hx2; omega)
      rw [lsd, ef, if_pos rfl, show lI (19 - d) = nI (19 - d) from if_pos (by omega), ← eI hd20] at e
      simp only [nI_add, en1 d (by omega)]
      exact ⟨⟨e⟩⟩
  refine sm_body [25] 80 sm_k123 (fun CT K hC hK => ?_)
  repeat' first
    | (with_reducible refine And.intro ?_ ?_)
    | ((with_reducible intro h9); first | exact absurd h9 (by decide) | skip)
    | (with_reducible exact zn_in (by omega) (by decide))
    | (with_reducible exact z01) | (with_reducible exact z11) | (with_reducible exact zb01 _)
    | (with_reducible exact zn_inb (by omega) (by decide))
    | (with_reducible exact zn_ina (by omega) (by decide))
    | (with_reducible exact zn_inc (by omega) (by decide))
    | ((conv => whnf); first | (with_reducible refine And.intro ?_ ?_) | ((with_reducible intro h9); first | exact absurd h9 (by decide) | skip) | (with_reducible refine hK _ _ _ _ (sm_un ?_)))
  simp only [cv, (e4 v hv).1, (e4 v hv).2.2]
  exact ⟨⟨lo 0 (Nat.zero_le _) G _ eqx_rfl (fun _ _ => rfl) (fun _ _ => rfl) (fun z => z) 0 (Nat.zero_add _)⟩⟩
end SORTS
