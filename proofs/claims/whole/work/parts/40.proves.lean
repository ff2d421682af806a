/-! proof of the other one: the table of signs. -/
def hm (s : Nat) : Nat := ((lN s * lN 2654435761) >>> ((nI 13).toInt64 &&& 63)).toBitVec.toNat % 8192
theorem la_8191 (x : Int64) : x &&& lN 8191 = lN (x.toBitVec.toNat % 8192) := by
  apply Int64.toBitVec_inj.1
  apply BitVec.eq_of_toNat_eq
  show (x.toBitVec &&& BitVec.ofNat 64 8191).toNat = (BitVec.ofNat 64 (x.toBitVec.toNat % 8192)).toNat
  rw [BitVec.toNat_and, BitVec.toNat_ofNat, BitVec.toNat_ofNat]
  have e : x.toBitVec.toNat &&& (8191 % 2 ^ 64) = x.toBitVec.toNat % 8192 := Nat.and_two_pow_sub_one_eq_mod _ 13
  rw [e]
  have : x.toBitVec.toNat % 8192 < 8192 := Nat.mod_lt _ (by decide)
  omega
theorem hm_lt (s : Nat) : hm s < 8192 := Nat.mod_lt _ (by decide)
theorem hm_i (s : Nat) : ((lN s * lN 2654435761) >>> ((nI 13).toInt64 &&& 63) &&& lN 8191).toInt32 = nI (hm s) := by
  rw [la_8191, lN_i]
  rfl
/-- where the j-th look for the sign s falls -/
def at_ (s j : Nat) : Nat := (hm s + j) % 8192
theorem at_lt (s j : Nat) : at_ s j < 8192 := Nat.mod_lt _ (by decide)
theorem at_0 (s : Nat) : at_ s 0 = hm s := by
  have h := hm_lt s
  unfold at_
  omega
theorem at_s (s j : Nat) : (at_ s j + 1) % 8192 = at_ s (j + 1) := by
  unfold at_
  omega
theorem at_ex (s p : Nat) (hp : p < 8192) : ∃ j, j < 8192 ∧ at_ s j = p := by
  have := hm_lt s
  refine ⟨(p + 8192 - hm s) % 8192, Nat.mod_lt _ (by decide), ?_⟩
  unfold at_
  omega
/-- the table: its round's places, their signs and winds -/
def tb (r : Nat) (o : Nat → Bool) (T W : Nat → Nat) (G : Nat → Nat → Int32) (L : Nat → Nat → Int64) : Prop := ∀ p, p < 8192 → (o p = true → G 44 p = nI r ∧ L 42 p = lN (T p) ∧ G 43 p = nI (W p)) ∧ (o p = false → ¬ G 44 p = nI r)
theorem ct_free {o : Nat → Bool} : ∀ n, ct o n < n → ∃ p, p < n ∧ o p = false
  | 0, h => absurd h (Nat.not_lt_zero _)
  | n + 1, h => by
    cases hb : o n with
    | false => exact ⟨n, by omega, hb⟩
    | true =>
      rw [ct, bn_t hb] at h
      obtain ⟨p, hp, e⟩ := ct_free (o := o) n (by omega)
      exact ⟨p, by omega, e⟩
/-- p taken too -/
def oS (o : Nat → Bool) (p : Nat) (i : Nat) : Bool := o i || Nat.beq i p
theorem ct_oS {o : Nat → Bool} {p : Nat} : ∀ n, ct (oS o p) n ≤ ct o n + 1
  | 0 => Nat.le_add_right _ _
  | n + 1 => by
    rw [ct, ct]
    by_cases hp : n = p
    · subst hp
      have e : ct (oS o n) n = ct o n := ct_congr (fun i hi => by unfold oS; rw [beq_f (show i ≠ n by omega), Bool.or_false])
      have h2 := bn_lt (oS o n n)
      rw [e]
      omega
    · have h1 := ct_oS (o := o) (p := p) n
      have e : oS o p n = o n := by unfold oS; rw [beq_f hp, Bool.or_false]
      rw [e]
      omega
/-- what the table knows of the codes below i -/
def kn (S : Nat → Nat → Nat) (x k i : Nat) (o : Nat → Bool) (T W : Nat → Nat) : Prop := ct o 8192 ≤ i ∧ (∀ p, p < 8192 → o p = true → ∃ a, a < i ∧ ft S (wd S a) = true ∧ T p = sgn S x a ∧ W p = wd S a k) ∧ (∀ a, a < i → ft S (wd S a) = true → ∃ j, (∀ j', j' < j → o (at_ (sgn S x a) j') = true ∧ T (at_ (sgn S x a) j') ≠ sgn S x a) ∧ o (at_ (sgn S x a) j) = true ∧ T (at_ (sgn S x a) j) = sgn S x a ∧ W (at_ (sgn S x a) j) = wd S a k)
theorem kn_0 {S : Nat → Nat → Nat} {x k : Nat} {T W : Nat → Nat} : kn S x k 0 (fun _ => false) T W := by
  have e : ∀ n, ct (fun _ => false) n = 0 := by
    intro n
    induction n with
    | zero => rfl
    | succ n ih => rw [ct, ih]; rfl
  exact ⟨by rw [e]; exact Nat.le_refl _, fun p _ h => (Bool.false_ne_true h).elim, fun a ha => absurd ha (Nat.not_lt_zero _)⟩
theorem kn_skip {S : Nat → Nat → Nat} {x k i : Nat} {o : Nat → Bool} {T W : Nat → Nat} (h : kn S x k i o T W) (hf : ft S (wd S i) = false) : kn S x k (i + 1) o T W := by
  obtain ⟨h1, h2, h3⟩ := h
  refine ⟨by omega, fun p hp ho => ?_, fun a ha hfa => ?_⟩
  · obtain ⟨a, ha, e⟩ := h2 p hp ho
    exact ⟨a, by omega, e⟩
  · by_cases e : a = i
    · subst e; rw [hf] at hfa; exact absurd hfa (by decide)
    · exact h3 a (by omega) hfa
theorem kn_same {S : Nat → Nat → Nat} {x k i j : Nat} {o : Nat → Bool} {T W : Nat → Nat} (h : kn S x k i o T W) (hj : ∀ j', j' < j → o (at_ (sgn S x i) j') = true ∧ T (at_ (sgn S x i) j') ≠ sgn S x i) (ho : o (at_ (sgn S x i) j) = true) (hT : T (at_ (sgn S x i) j) = sgn S x i) (hW : W (at_ (sgn S x i) j) = wd S i k) : kn S x k (i + 1) o T W := by
  obtain ⟨h1, h2, h3⟩ := h
  refine ⟨by omega, fun p hp ho => ?_, fun a ha hfa => ?_⟩
  · obtain ⟨a, ha, e⟩ := h2 p hp ho
    exact ⟨a, by omega, e⟩
  · by_cases e : a = i
    · subst e; exact ⟨j, hj, ho, hT, hW⟩
    · exact h3 a (by omega) hfa
theorem kn_new {S : Nat → Nat → Nat} {x k i j : Nat} {o : Nat → Bool} {T W : Nat → Nat} (h : kn S x k i o T W) (hf : ft S (wd S i) = true) (hj : ∀ j', j' < j → o (at_ (sgn S x i) j') = true ∧ T (at_ (sgn S x i) j') ≠ sgn S x i) (ho : o (at_ (sgn S x i) j) = false) : kn S x k (i + 1) (oS o (at_ (sgn S x i) j)) (fun p => if p = at_ (sgn S x i) j then sgn S x i else T p) (fun p => if p = at_ (sgn S x i) j then wd S i k else W p) := by
  obtain ⟨h1, h2, h3⟩ := h
  have hlt := at_lt (sgn S x i) j
  generalize hq : at_ (sgn S x i) j = q at *
  have hn : ∀ p, o p = true → p ≠ q := fun p hp e => by subst e; rw [ho] at hp; exact absurd hp (by decide)
  have hoo : ∀ p, o p = true → oS o q p = true := fun p hp => by unfold oS; rw [hp]; rfl
  have hoq : oS o q q = true := by unfold oS; rw [beq_t rfl, Bool.or_true]
  refine ⟨?_, fun p hp hop => ?_, fun a ha hfa => ?_⟩
  · have h5 := ct_oS (o := o) (p := q) 8192
    omega
  · show ∃ a, a < i + 1 ∧ ft S (wd S a) = true ∧ (if p = q then sgn S x i else T p) = sgn S x a ∧ (if p = q then wd S i k else W p) = wd S a k
    by_cases e : p = q
    · rw [if_t e, if_t e]
      exact ⟨i, by omega, hf, rfl, rfl⟩
    · rw [if_f e, if_f e]
      have : o p = true := by unfold oS at hop; rw [beq_f e, Bool.or_false] at hop; exact hop
      obtain ⟨a, ha, e⟩ := h2 p hp this
      exact ⟨a, by omega, e⟩
  · by_cases e : a = i
    · subst e
      refine ⟨j, fun j' hj' => ?_, ?_, ?_, ?_⟩
      · have := hj j' hj'
        show oS o q _ = true ∧ (if _ then _ else _) ≠ _
        rw [if_f (hn _ this.1)]
        exact ⟨hoo _ this.1, this.2⟩
      · rw [hq]; exact hoq
      · exact if_t hq
      · exact if_t hq
    · obtain ⟨j2, g1, g2, g3, g4⟩ := h3 a (by omega) hfa
      refine ⟨j2, fun j' hj' => ?_, hoo _ g2, ?_, ?_⟩
      · have := g1 j' hj'
        show oS o q _ = true ∧ (if _ then _ else _) ≠ _
        rw [if_f (hn _ this.1)]
        exact ⟨hoo _ this.1, this.2⟩
      · show (if _ then _ else _) = _
        rw [if_f (hn _ g2)]; exact g3
      · show (if _ then _ else _) = _
        rw [if_f (hn _ g2)]; exact g4
theorem kn_end {S : Nat → Nat → Nat} {x k : Nat} {o : Nat → Bool} {T W : Nat → Nat} (hR : dR S) (h : kn S x k (nc S) o T W) : TL S k x = true := by
  obtain ⟨h1, h2, h3⟩ := h
  refine decide_eq_true (fun a ha b hb hfa hfb hal => ?_)
  have es := (sgn_eq hR).mpr hal
  obtain ⟨j1, f1, f2, f3, f4⟩ := h3 a ha hfa
  obtain ⟨j2, g1, g2, g3, g4⟩ := h3 b hb hfb
  rw [es] at f1 f2 f3 f4
  have : j1 = j2 := by
    by_cases h1 : j1 < j2
    · exact absurd f3 (g1 j1 h1).2
    · by_cases h2 : j2 < j1
      · exact absurd g3 (f1 j2 h2).2
      · omega
  subst this
  exact f4.symm.trans g4
theorem kn_no {S : Nat → Nat → Nat} {x k i j : Nat} {o : Nat → Bool} {T W : Nat → Nat} (hR : dR S) (hi : i < nc S) (h : kn S x k i o T W) (hf : ft S (wd S i) = true) (ho : o (at_ (sgn S x i) j) = true) (hT : T (at_ (sgn S x i) j) = sgn S x i) (hW : W (at_ (sgn S x i) j) ≠ wd S i k) : TL S k x = false := by
  obtain ⟨h1, h2, h3⟩ := h
  refine decide_eq_false (fun z => ?_)
  obtain ⟨a, ha, hfa, e1, e2⟩ := h2 _ (at_lt _ _) ho
  have := z a (by omega) i hi hfa hf ((sgn_eq hR).mp (by rw [← e1, hT]))
  exact hW (by rw [e2, this])
section PROVES
variable {CT : sm_CT} {G : Nat → Nat → Int32} {L : Nat → Nat → Int64} {Q : sm_Q} {S : Nat → Nat → Nat} {c : Nat} {h : sm_H}
set_option maxRecDepth 100000 in
set_option maxHeartbeats 4000000 in
theorem s_placeOf (hC : sm_C 1 CT) {r s : Nat} {o : Nat → Bool} {T W : Nat → Nat} (e : G 30 20 = nI r) (ht : tb r o T W G L) (hs : s < 2 ^ 63) (hT : ∀ p, p < 8192 → o p = true → T p < 2 ^ 63) (hfree : ct o 8192 < 8192)
    (h1 : ∀ j, (∀ j', j' < j → o (at_ s j') = true ∧ T (at_ s j') ≠ s) → o (at_ s j) = true → T (at_ s j) = s → Q (some (.int (nI (at_ s j)))) (hp G L))
    (h0 : ∀ j, (∀ j', j' < j → o (at_ s j') = true ∧ T (at_ s j') ≠ s) → o (at_ s j) = false → Q (some (.int (nI (at_ s j)))) (hp G L)) : CT 118 [.ref 30, .long (lN s)] (hp G L) Q := by
  obtain ⟨p, hp8, hpo⟩ := ct_free 8192 hfree
  obtain ⟨J, hJ, rfl⟩ := at_ex s p hp8
  refine sm_meth hC [some (.ref 30), some (.long (lN s)), none, none] rfl rfl rfl ?_
  have lo : ∀ j, j ≤ J → (∀ j', j' < j → o (at_ s j') = true ∧ T (at_ s j') ≠ s) → sm_Wk 0 118 Q none 14 [some (.ref 30), some (.long (lN s)), none, some (.int (nI (at_ s j)))] [] (hp G L) := by
    refine up _ (fun j hj ih hb => ?_)
    have hlt := at_lt s j
    obtain ⟨t1, t0⟩ := ht _ hlt
    refine sm_body [14] 80 sm_k118 (fun CT K hC hK => ?_)
    cases ho : o (at_ s j) with
    | true =>
      obtain ⟨u1, u2, u3⟩ := t1 ho
      have hTl := hT _ hlt ho
      repeat' first
        | (with_reducible refine And.intro ?_ ?_)
        | ((with_reducible intro h9); first | exact absurd h9 (by decide) | ((exfalso; rw [zn_clI (by omega), e] at h9; exact h9 u1)) | ((rw [zn_clI (by omega), u2] at h9; replace h9 := (lN_q (by omega) (by omega)).mp (lc_t h9))) | ((rw [zn_clI (by omega), u2] at h9; replace h9 := fun z => lc_f h9 ((lN_q (by omega) (by omega)).mpr z))) | skip)
        | (with_reducible exact zn_in (by omega) (by decide))
        | (with_reducible exact z01) | (with_reducible exact z11) | (with_reducible exact zb01 _)
        | (with_reducible exact zn_inb (by omega) (by decide))
        | (with_reducible exact zn_ina (by omega) (by decide))
        | (with_reducible exact zn_inc (by omega) (by decide))
        | ((conv => whnf); first | (with_reducible refine And.intro ?_ ?_) | ((with_reducible intro h9); first | exact absurd h9 (by decide) | ((exfalso; rw [zn_clI (by omega), e] at h9; exact h9 u1)) | ((rw [zn_clI (by omega), u2] at h9; replace h9 := (lN_q (by omega) (by omega)).mp (lc_t h9))) | ((rw [zn_clI (by omega), u2] at h9; replace h9 := fun z => lc_f h9 ((lN_q (by omega) (by omega)).mpr z))) | skip) | (with_reducible refine hK _ _ _ _ (sm_un ?_)))
      · exact h1 j hb ho h9
      · have hne : j ≠ J := fun z => by subst z; rw [ho] at hpo; exact absurd hpo (by decide)
        have e := ih (by omega) (fun j' hj' => if z : j' = j then by subst z; exact ⟨ho, h9⟩ else hb j' (by omega))
        rw [← at_s] at e
        simp only [nI_add, zn_ir (show at_ s j + 1 < 2 ^ 31 by omega) (show 0 < 8192 by decide) (show 8192 < 2 ^ 31 by decide)]
        exact ⟨⟨e⟩⟩
    | false =>
      have u := t0 ho
      repeat' first
        | (with_reducible refine And.intro ?_ ?_)
        | ((with_reducible intro h9); first | exact absurd h9 (by decide) | ((exfalso; rw [zn_clI (by omega), e] at h9; exact u h9)) | skip)
        | (with_reducible exact zn_in (by omega) (by decide))
        | (with_reducible exact z01) | (with_reducible exact z11) | (with_reducible exact zb01 _)
        | (with_reducible exact zn_inb (by omega) (by decide))
        | (with_reducible exact zn_ina (by omega) (by decide))
        | (with_reducible exact zn_inc (by omega) (by decide))
        | ((conv => whnf); first | (with_reducible refine And.intro ?_ ?_) | ((with_reducible intro h9); first | exact absurd h9 (by decide) | ((exfalso; rw [zn_clI (by omega), e] at h9; exact u h9)) | skip) | (with_reducible refine hK _ _ _ _ (sm_un ?_)))
      exact h0 j hb ho
  refine sm_body [14] 40 sm_k118 (fun CT K hC hK => ?_)
  repeat' first
    | (with_reducible refine And.intro ?_ ?_)
    | ((with_reducible intro h9); first | exact absurd h9 (by decide) | skip)
    | (with_reducible exact zn_in (by omega) (by decide))
    | (with_reducible exact z01) | (with_reducible exact z11) | (with_reducible exact zb01 _)
    | (with_reducible exact zn_inb (by omega) (by decide))
    | (with_reducible exact zn_ina (by omega) (by decide))
    | (with_reducible exact zn_inc (by omega) (by decide))
    | ((conv => whnf); first | (with_reducible refine And.intro ?_ ?_) | ((with_reducible intro h9); first | exact absurd h9 (by decide) | skip) | (with_reducible refine hK _ _ _ _ (sm_un ?_)))
  conv => whnf
  rw [hm_i, ← at_0]
  exact ⟨⟨lo 0 (Nat.zero_le _) (fun j' hj' => absurd hj' (Nat.not_lt_zero _))⟩⟩
end PROVES
