/-! proof of the other one: the sign of a day by a set of vanes. -/
/-- h hours of vane v set behind the sign s -/
def sgH (S : Nat → Nat → Nat) (x : Nat) (w : Nat → Nat) (v s : Nat) : Nat → Nat
  | 0 => s
  | h + 1 => cond (inS x v) (4 * sgH S x w v s h + ps S w v (h + 1)) (sgH S x w v s h)
def sgV (S : Nat → Nat → Nat) (x : Nat) (w : Nat → Nat) : Nat → Nat
  | 0 => 1
  | v + 1 => sgH S x w v (sgV S x w v) (S 0 0)
theorem sgH_f {S : Nat → Nat → Nat} {x v s : Nat} {w : Nat → Nat} (h : inS x v = false) : ∀ n, sgH S x w v s n = s
  | 0 => rfl
  | n + 1 => by rw [sgH, h]; exact sgH_f h n
theorem sgH_lt {S : Nat → Nat → Nat} {x v s : Nat} {w : Nat → Nat} (h4 : ∀ i, ps S w v i < 4) : ∀ n, sgH S x w v s n < (s + 1) * 4 ^ n
  | 0 => by show s < _; omega
  | n + 1 => by
    have h1 := sgH_lt (x := x) (s := s) h4 n
    have h2 := h4 (n + 1)
    rw [sgH, Nat.pow_succ, ← Nat.mul_assoc]
    cases inS x v with
    | true => show 4 * _ + _ < _; omega
    | false => show sgH S x w v s n < _; omega
theorem sgV_lt {S : Nat → Nat → Nat} {x : Nat} {w : Nat → Nat} (h6 : S 0 0 ≤ 6) : ∀ n, (∀ v, v < n → ∀ i, ps S w v i < 4) → sgV S x w n < 2 * 4096 ^ n
  | 0, _ => by show 1 < _; decide
  | n + 1, h4 => by
    have h1 := sgV_lt (x := x) h6 n (fun v hv => h4 v (by omega))
    have h2 := sgH_lt (x := x) (s := sgV S x w n) (h4 n (by omega)) (S 0 0)
    have h3 : 4 ^ S 0 0 ≤ 4 ^ 6 := Nat.pow_le_pow_right (by decide) h6
    have h5 : (sgV S x w n + 1) * 4 ^ S 0 0 ≤ (2 * 4096 ^ n) * 4096 := Nat.mul_le_mul (by omega) h3
    rw [sgV, Nat.pow_succ]
    omega
theorem sgV_31 {S : Nat → Nat → Nat} {x : Nat} {w : Nat → Nat} (h6 : S 0 0 ≤ 6) (hv : S 0 1 ≤ 4) (h4 : ∀ v, v < S 0 1 → ∀ i, ps S w v i < 4) : sgV S x w (S 0 1) < 2 ^ 50 := by
  have h1 := sgV_lt (x := x) h6 (S 0 1) h4
  have h2 : 4096 ^ S 0 1 ≤ 4096 ^ 4 := Nat.pow_le_pow_right (by decide) hv
  have h3 : 4096 ^ 4 = 2 ^ 48 := by decide
  omega
theorem sgH_inj {S : Nat → Nat → Nat} {x v s s' : Nat} {w w' : Nat → Nat} (hx : inS x v = true) (h4 : ∀ i, ps S w v i < 4) (h4' : ∀ i, ps S w' v i < 4) : ∀ n, sgH S x w v s n = sgH S x w' v s' n → s = s' ∧ ∀ h, h < n → ps S w v (h + 1) = ps S w' v (h + 1)
  | 0, e => ⟨e, fun h hh => absurd hh (Nat.not_lt_zero _)⟩
  | n + 1, e => by
    rw [sgH, sgH, hx] at e
    have e : 4 * sgH S x w v s n + ps S w v (n + 1) = 4 * sgH S x w' v s' n + ps S w' v (n + 1) := e
    have h1 := h4 (n + 1)
    have h2 := h4' (n + 1)
    obtain ⟨i1, i2⟩ := sgH_inj (s := s) (s' := s') hx h4 h4' n (by omega)
    refine ⟨i1, fun h hh => ?_⟩
    by_cases hn : h = n
    · subst hn; omega
    · exact i2 h (by omega)
theorem sgV_inj {S : Nat → Nat → Nat} {x : Nat} {w w' : Nat → Nat} : ∀ n, (∀ v, v < n → ∀ i, ps S w v i < 4) → (∀ v, v < n → ∀ i, ps S w' v i < 4) → sgV S x w n = sgV S x w' n → ∀ v, v < n → inS x v = true → ∀ h, h < S 0 0 → ps S w v (h + 1) = ps S w' v (h + 1)
  | 0, _, _, _ => fun v hv => absurd hv (Nat.not_lt_zero _)
  | n + 1, h4, h4', e => by
    intro v hv hx h hh
    rw [sgV, sgV] at e
    by_cases hi : inS x n = true
    · obtain ⟨i1, i2⟩ := sgH_inj hi (h4 n (by omega)) (h4' n (by omega)) _ e
      by_cases hn : v = n
      · subst hn; exact i2 h hh
      · exact sgV_inj n (fun v hv => h4 v (by omega)) (fun v hv => h4' v (by omega)) i1 v (by omega) hx h hh
    · have hi : inS x n = false := by cases hb : inS x n with | true => exact absurd hb hi | false => rfl
      rw [sgH_f hi, sgH_f hi] at e
      by_cases hn : v = n
      · subst hn; rw [hx] at hi; exact absurd hi (by decide)
      · exact sgV_inj n (fun v hv => h4 v (by omega)) (fun v hv => h4' v (by omega)) e v (by omega) hx h hh
theorem sgH_congr {S : Nat → Nat → Nat} {x v s : Nat} {w w' : Nat → Nat} : ∀ n, (inS x v = true → ∀ h, h < n → ps S w v (h + 1) = ps S w' v (h + 1)) → sgH S x w v s n = sgH S x w' v s n
  | 0, _ => rfl
  | n + 1, h => by
    rw [sgH, sgH, sgH_congr n (fun hx k hk => h hx k (by omega))]
    cases hx : inS x v with
    | true => rw [h hx n (by omega)]
    | false => rfl
theorem sgV_congr {S : Nat → Nat → Nat} {x : Nat} {w w' : Nat → Nat} : ∀ n, (∀ v, v < n → inS x v = true → ∀ h, h < S 0 0 → ps S w v (h + 1) = ps S w' v (h + 1)) → sgV S x w n = sgV S x w' n
  | 0, _ => rfl
  | n + 1, h => by
    rw [sgV, sgV, sgV_congr n (fun v hv => h v (by omega))]
    exact sgH_congr _ (fun hx k hk => h n (by omega) hx k hk)
/-- the sign of code a by the set x -/
def sgn (S : Nat → Nat → Nat) (x a : Nat) : Nat := sgV S x (wd S a) (S 0 1)
theorem ps_wd {S : Nat → Nat → Nat} (hR : dR S) {a v : Nat} (hv : v < S 0 1) (i : Nat) : ps S (wd S a) v i < 4 := ps_lt (hR.2.2.2 v hv).2.1 i (fun j _ => wd_lt hR a j)
theorem sgn_lt {S : Nat → Nat → Nat} (hR : dR S) (x a : Nat) : sgn S x a < 2 ^ 50 := sgV_31 hR.1 hR.2.1 (fun _ hv i => ps_wd hR hv i)
theorem sgn_eq {S : Nat → Nat → Nat} (hR : dR S) {x a b : Nat} : sgn S x a = sgn S x b ↔ alB S x a b = true := by
  unfold alB
  rw [decide_eq_true_iff]
  exact ⟨fun e => sgV_inj _ (fun _ hv i => ps_wd hR hv i) (fun _ hv i => ps_wd hR hv i) e, fun h => sgV_congr _ h⟩
theorem lN_toNat {a : Nat} (h : a < 2 ^ 63) : (lN a).toInt = (a : Int) := by
  exact lg_ofNat_toInt h
theorem lN_q {a b : Nat} (ha : a < 2 ^ 63) (hb : b < 2 ^ 63) : lN a = lN b ↔ a = b := by
  rw [← Int64.toInt_inj, lN_toNat ha, lN_toNat hb]
  omega
theorem lc_t {a b : Int64} (h : lg_cmp a b = nI 0) : a = b := by
  unfold lg_cmp at h
  split at h
  · exact absurd h (by decide)
  · split at h
    · assumption
    · exact absurd h (by decide)
theorem lc_f {a b : Int64} (h : ¬ lg_cmp a b = nI 0) : a ≠ b := by
  intro e
  subst e
  exact h (by simp [lg_cmp]; rfl)
theorem nz_eq1 {b : Bool} (h : nI (bn b) = nI 1) : b = true := by
  cases b
  · exact absurd h (by decide)
  · rfl
theorem nz_ne1 {b : Bool} (h : ¬ nI (bn b) = nI 1) : b = false := by
  cases b
  · rfl
  · exact absurd rfl h
section SIGN
variable {CT : sm_CT} {G : Nat → Nat → Int32} {L : Nat → Nat → Int64} {Q : sm_Q} {S : Nat → Nat → Nat} {c : Nat} {h : sm_H}
set_option maxRecDepth 100000 in
set_option maxHeartbeats 4000000 in
theorem s_signOf (hC : sm_C 1 CT) (hD : mD S G) (hR : dR S) {a x : Nat} (hx : x < 16) (hl : ld S a G) (hQ : Q (some (.long (lN (sgn S x a)))) (hp G L)) : CT 117 [.ref 30, .int (nI x)] (hp G L) Q := by
  obtain ⟨e1, e2, e3, e4⟩ := id hD
  obtain ⟨r1, r2, r3, r4⟩ := id hR
  have hl2 := hl.2
  refine sm_meth hC [some (.ref 30), some (.int (nI x)), none, none, none, none] rfl rfl rfl ?_
  have lo : ∀ v, v ≤ S 0 1 → ∀ o5, sm_Wk 0 117 Q none 5 [some (.ref 30), some (.int (nI x)), some (.long (lN (sgV S x (wd S a) v))), none, some (.int (nI v)), o5] [] (hp G L) := by
    refine up _ (fun v hv ih o5 => ?_)
    have inner : v < S 0 1 → ∀ k, k ≤ S 0 0 → sm_Wk 0 117 Q none 17 [some (.ref 30), some (.int (nI x)), some (.long (lN (sgH S x (wd S a) v (sgV S x (wd S a) v) k))), none, some (.int (nI v)), some (.int (nI k))] [] (hp G L) := by
      intro hvl
      refine up _ (fun k hk ihk => ?_)
      have eb : sm_shr (nI x) (nI v) &&& nI 1 = nI (bn (inS x v)) := by rw [zn_bit (by omega) (by omega), inS, bn_beq1]
      refine sm_body [5, 17] 80 sm_k117 (fun CT K hC hK => ?_)
      repeat' first
        | (with_reducible refine And.intro ?_ ?_)
        | ((with_reducible intro h9); first | exact absurd h9 (by decide) | (replace h9 := nle e1 (by omega) (by omega) h9) | (replace h9 := yle e1 (by omega) (by omega) h9) | ((rw [eb] at h9; replace h9 := nz_ne1 h9)) | ((rw [eb] at h9; replace h9 := nz_eq1 h9)) | skip)
        | (with_reducible exact zn_in (by omega) (by decide))
        | (with_reducible exact z01) | (with_reducible exact z11) | (with_reducible exact zb01 _)
        | (with_reducible exact zn_inb (by omega) (by decide))
        | (with_reducible exact zn_ina (by omega) (by decide))
        | (with_reducible exact zn_inc (by omega) (by decide))
        | ((conv => whnf); first | (with_reducible refine And.intro ?_ ?_) | ((with_reducible intro h9); first | exact absurd h9 (by decide) | (replace h9 := nle e1 (by omega) (by omega) h9) | (replace h9 := yle e1 (by omega) (by omega) h9) | ((rw [eb] at h9; replace h9 := nz_ne1 h9)) | ((rw [eb] at h9; replace h9 := nz_eq1 h9)) | skip) | (with_reducible refine hK _ _ _ _ (sm_un ?_)))
      · obtain rfl : k = S 0 0 := by omega
        simp only [nI_add]; exact ⟨⟨ih hvl _⟩⟩
      · have e := ihk ‹_›
        rw [sgH, h9] at e
        simp only [nI_add]; exact ⟨⟨e⟩⟩
      · have e := ihk ‹_›
        rw [sgH, h9] at e
        have hp4 := ps_wd hR (a := a) hvl (k + 1)
        simp only [pk_mul, nI_add, zn_clI (show 6 * v + k < 2 ^ 31 by omega), hl2 v hvl k ‹_›, nI_l (show ps S (wd S a) v (k + 1) < 2 ^ 31 by omega), lN_mul, lN_add]
        exact ⟨⟨e⟩⟩
    refine sm_body [5, 17] 80 sm_k117 (fun CT K hC hK => ?_)
    repeat' first
      | (with_reducible refine And.intro ?_ ?_)
      | ((with_reducible intro h9); first | exact absurd h9 (by decide) | (replace h9 := nle e2 (by omega) (by omega) h9) | (replace h9 := yle e2 (by omega) (by omega) h9) | skip)
      | (with_reducible exact zn_in (by omega) (by decide))
      | (with_reducible exact z01) | (with_reducible exact z11) | (with_reducible exact zb01 _)
      | (with_reducible exact zn_inb (by omega) (by decide))
      | (with_reducible exact zn_ina (by omega) (by decide))
      | (with_reducible exact zn_inc (by omega) (by decide))
      | ((conv => whnf); first | (with_reducible refine And.intro ?_ ?_) | ((with_reducible intro h9); first | exact absurd h9 (by decide) | (replace h9 := nle e2 (by omega) (by omega) h9) | (replace h9 := yle e2 (by omega) (by omega) h9) | skip) | (with_reducible refine hK _ _ _ _ (sm_un ?_)))
    · obtain rfl : v = S 0 1 := by omega
      exact hQ
    · exact ⟨⟨inner ‹_› 0 (Nat.zero_le _)⟩⟩
  refine sm_body [5] 40 sm_k117 (fun CT K hC hK => ?_)
  repeat' first
    | (with_reducible refine And.intro ?_ ?_)
    | ((with_reducible intro h9); first | exact absurd h9 (by decide) | skip)
    | (with_reducible exact zn_in (by omega) (by decide))
    | (with_reducible exact z01) | (with_reducible exact z11) | (with_reducible exact zb01 _)
    | (with_reducible exact zn_inb (by omega) (by decide))
    | (with_reducible exact zn_ina (by omega) (by decide))
    | (with_reducible exact zn_inc (by omega) (by decide))
    | ((conv => whnf); first | (with_reducible refine And.intro ?_ ?_) | ((with_reducible intro h9); first | exact absurd h9 (by decide) | skip) | (with_reducible refine hK _ _ _ _ (sm_un ?_)))
  exact ⟨⟨lo 0 (Nat.zero_le _) _⟩⟩
end SIGN
