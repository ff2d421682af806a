/-! The state as natural numbers (S), and what is asked of it. S 0: 0 hours 1 vanes 2 seen 3 page's length 4 days 5 asks 6 kept? 7 kept vanes 8 kept seen; S 1 winds (4: not known), 2 kinds, 3 starts, 4 twists, 5 page, 6 7 8 seen (vane, hour, quarter), 9 kept winds, 10 kept twists, 11 12 13 kept seen. -/
def wI (n : Nat) : Int32 := if n < 4 then nI n else -1
theorem up {P : Nat → Prop} (N : Nat) (h : ∀ i, i ≤ N → (i + 1 ≤ N → P (i + 1)) → P i) : ∀ i, i ≤ N → P i := by
  have : ∀ m i, i ≤ N → N - i ≤ m → P i := by
    intro m
    induction m with
    | zero => intro i hi hm; exact h i hi (fun h2 => absurd h2 (by omega))
    | succ m ih => intro i hi hm; exact h i hi (fun h2 => ih (i + 1) h2 (by omega))
  intro i hi
  exact this (N - i) i hi (Nat.le_refl _)
/-- the heaps differ at these places alone -/
def eqx (ps : List Nat) (G G' : Nat → Nat → Int32) : Prop := ∀ p, sm_mem ps p = false → G' p = G p
theorem eqx_rfl {ps : List Nat} {G : Nat → Nat → Int32} : eqx ps G G := fun _ _ => rfl
theorem sm_mem_app {a b : List Nat} {p : Nat} : sm_mem (a ++ b) p = (sm_mem a p || sm_mem b p) := by
  induction a with
  | nil => simp [sm_mem]
  | cons x r ih =>
    simp only [List.cons_append, sm_mem, ih]
    cases Nat.beq x p <;> simp
theorem eqx_su {ps : List Nat} {G G' : Nat → Nat → Int32} (k : Nat) (x : Nat → Int32) (hk : sm_mem ps k = true) (h : eqx ps G G') : eqx ps G (su G' k x) := by
  intro p hp
  rw [su_ne]
  · exact h p hp
  · rintro rfl
    rw [hk] at hp
    cases hp
theorem eqx_sub {ps qs : List Nat} {G G' : Nat → Nat → Int32} (hs : (ps.all (sm_mem qs)) = true) (h : eqx ps G G') : eqx qs G G' := by
  intro p hp
  refine h p ?_
  cases hm : sm_mem ps p with
  | false => rfl
  | true =>
    have : ∀ l : List Nat, (l.all (sm_mem qs)) = true → sm_mem l p = true → sm_mem qs p = true := by
      intro l
      induction l with
      | nil => intro _ h; cases h
      | cons a r ih =>
        intro h1 h2
        simp only [List.all_cons, Bool.and_eq_true] at h1
        simp only [sm_mem] at h2
        cases hb : Nat.beq a p with
        | true => rw [← Nat.eq_of_beq_eq_true hb]; exact h1.1
        | false => rw [hb] at h2; exact ih h1.2 h2
    rw [this ps hs hm] at hp
    cases hp
theorem eqx_trans {ps : List Nat} {G G' G2 : Nat → Nat → Int32} (h : eqx ps G G') (h2 : eqx ps G' G2) : eqx ps G G2 := fun p hp => (h2 p hp).trans (h p hp)
-- the ranges
def dR (S : Nat → Nat → Nat) : Prop := S 0 0 ≤ 6 ∧ S 0 1 ≤ 4 ∧ (∀ i, i < S 0 0 → S 1 i ≤ 4) ∧ (∀ i, i < S 0 1 → S 2 i ≤ 4 ∧ S 3 i < 4 ∧ S 4 i < 4)
def nR (S : Nat → Nat → Nat) : Prop := S 0 2 ≤ 10 ∧ (∀ k, k < S 0 2 → S 6 k < S 0 1 ∧ S 7 k < S 0 0 ∧ S 8 k < 4)
-- the day and the vanes, in the class (hill) and in the other one
def cD (S : Nat → Nat → Nat) (G : Nat → Nat → Int32) : Prop := G 3 0 = nI (S 0 0) ∧ G 3 2 = nI (S 0 1) ∧ (∀ i, i < S 0 0 → G 4 i = wI (S 1 i)) ∧ (∀ i, i < S 0 1 → G 5 i = nI (S 2 i) ∧ G 6 i = nI (S 3 i) ∧ G 7 i = nI (S 4 i))
/-- what is seen leaves of a vane in an hour this quarter -/
def ob (S : Nat → Nat → Nat) (v h q : Nat) : Bool := decide (∀ k, k < S 0 2 → S 6 k = v → S 7 k = h → S 8 k = q)
def bn (b : Bool) : Nat := cond b 1 0
def lf (S : Nat → Nat → Nat) (v h : Nat) : Nat := bn (ob S v h 0) + 2 * bn (ob S v h 1) + 4 * bn (ob S v h 2) + 8 * bn (ob S v h 3)
theorem bn_lt (b : Bool) : bn b < 2 := by cases b <;> decide
theorem lf_lt (S : Nat → Nat → Nat) (v h : Nat) : lf S v h < 16 := by
  have h0 := bn_lt (ob S v h 0)
  have h1 := bn_lt (ob S v h 1)
  have h2 := bn_lt (ob S v h 2)
  have h3 := bn_lt (ob S v h 3)
  unfold lf
  omega
theorem lf_bit (S : Nat → Nat → Nat) (v h q : Nat) (hq : q < 4) : lf S v h / 2 ^ q % 2 = bn (ob S v h q) := by
  have h0 := bn_lt (ob S v h 0)
  have h1 := bn_lt (ob S v h 1)
  have h2 := bn_lt (ob S v h 2)
  have h3 := bn_lt (ob S v h 3)
  unfold lf
  match q, hq with
  | 0, _ => omega
  | 1, _ => omega
  | 2, _ => omega
  | 3, _ => omega
def cL (S : Nat → Nat → Nat) (G : Nat → Nat → Int32) : Prop := ∀ v, v < 4 → ∀ h, h < S 0 0 → G 9 (v * 6 + h) = nI (lf S v h)
/-- a vane, having pointed at a, behind the wind w -/
def tv (S : Nat → Nat → Nat) (v a w : Nat) : Nat := trn (S 2 v) (S 4 v) a w
/-- where a vane points ahead of hour h, by the winds w -/
def ps (S : Nat → Nat → Nat) (w : Nat → Nat) (v : Nat) : Nat → Nat
  | 0 => S 3 v
  | h + 1 => tv S v (ps S w v h) (w h)
theorem ps_lt {S : Nat → Nat → Nat} {w : Nat → Nat} {v : Nat} (h3 : S 3 v < 4) : ∀ h, (∀ i, i < h → w i < 4) → ps S w v h < 4
  | 0, _ => h3
  | h + 1, hw => trn_lt (ps_lt h3 h (fun i hi => hw i (by omega))) (hw h (by omega))
theorem ps_congr {S : Nat → Nat → Nat} {w w' : Nat → Nat} {v : Nat} : ∀ h, (∀ i, i < h → w i = w' i) → ps S w v h = ps S w' v h
  | 0, _ => rfl
  | h + 1, hw => by
    show tv S v _ _ = tv S v _ _
    rw [ps_congr h (fun i hi => hw i (by omega)), hw h (by omega)]
/-- all poses in one number, two bits a vane -/
def zp : Nat → (Nat → Nat) → Nat
  | 0, _ => 0
  | n + 1, f => zp n f + f n * 4 ^ n
theorem zp_lt {f : Nat → Nat} : ∀ {n : Nat}, (∀ i, i < n → f i < 4) → zp n f < 4 ^ n
  | 0, _ => Nat.zero_lt_one
  | n + 1, h => by
    have h1 := zp_lt (n := n) (fun i hi => h i (by omega))
    have h2 : f n ≤ 3 := by have := h n (by omega); omega
    have h3 : f n * 4 ^ n ≤ 3 * 4 ^ n := Nat.mul_le_mul_right _ h2
    rw [Nat.pow_succ]
    show zp n f + f n * 4 ^ n < _
    omega
theorem zp_congr {f g : Nat → Nat} : ∀ {n : Nat}, (∀ i, i < n → f i = g i) → zp n f = zp n g
  | 0, _ => rfl
  | n + 1, h => by
    show zp n f + _ = zp n g + _
    rw [zp_congr (n := n) (fun i hi => h i (by omega)), h n (by omega)]
theorem zp_at {f : Nat → Nat} : ∀ {n v : Nat}, (∀ i, i < n → f i < 4) → v < n → zp n f / 4 ^ v % 4 = f v
  | 0, v, _, hv => absurd hv (Nat.not_lt_zero _)
  | n + 1, v, h, hv => by
    have h1 := zp_lt (n := n) (fun i hi => h i (by omega))
    show (zp n f + f n * 4 ^ n) / 4 ^ v % 4 = f v
    by_cases hn : v = n
    · subst hn
      rw [Nat.add_mul_div_right _ _ (Nat.pow_pos (by decide)), Nat.div_eq_of_lt h1, Nat.zero_add]
      exact Nat.mod_eq_of_lt (h v (by omega))
    · have hv' : v < n := by omega
      obtain ⟨d, rfl⟩ : ∃ d, n = v + 1 + d := ⟨n - v - 1, by omega⟩
      have e : f (v + 1 + d) * 4 ^ (v + 1 + d) = (4 * (f (v + 1 + d) * 4 ^ d)) * 4 ^ v := by
        rw [show v + 1 + d = d + 1 + v by omega, Nat.pow_add, Nat.pow_succ]
        simp only [Nat.mul_assoc, Nat.mul_comm, Nat.mul_left_comm]
      rw [e, Nat.add_mul_div_right _ _ (Nat.pow_pos (by decide)), Nat.add_mul_mod_self_left]
      exact zp_at (n := v + 1 + d) (fun i hi => h i (by omega)) hv'
theorem zp_or {f : Nat → Nat} {n : Nat} (h : ∀ i, i < n → f i < 4) (b : Nat) : zp n f ||| b * 4 ^ n = zp n f + b * 4 ^ n := by
  have h1 := zp_lt h
  rw [Nat.or_comm, Nat.mul_comm b, show (4 : Nat) ^ n = 2 ^ (2 * n) from by rw [Nat.pow_mul]] at *
  rw [← Nat.two_pow_add_eq_or_of_lt h1, Nat.add_comm]
theorem zp_256 {f : Nat → Nat} {n : Nat} (hn : n ≤ 4) (h : ∀ i, i < n → f i < 4) : zp n f < 256 := by
  have h1 := zp_lt h
  have : 4 ^ n ≤ 4 ^ 4 := Nat.pow_le_pow_right (by decide) hn
  omega
/-- nothing that is seen in the hour speaks against it -/
def ag (S : Nat → Nat → Nat) (h : Nat) (f : Nat → Nat) : Bool := decide (∀ v, v < S 0 1 → ob S v h (f v) = true)
def may (S : Nat → Nat → Nat) (h q : Nat) : Bool := Nat.beq (S 1 h) 4 || Nat.beq (S 1 h) q
def s4 (g : Nat → Nat) : Nat := g 0 + g 1 + g 2 + g 3
/-- by how many winds, of n hours from h on, the others being w -/
def cn (S : Nat → Nat → Nat) : Nat → Nat → (Nat → Nat) → ((Nat → Nat) → Bool) → Nat
  | 0, _, w, P => bn (P w)
  | n + 1, h, w, P => s4 (fun q => cond (may S h q) (cn S n (h + 1) (su w h q) P) 0)
/-- all that is seen is so by these winds -/
def ft (S : Nat → Nat → Nat) (w : Nat → Nat) : Bool := decide (∀ k, k < S 0 2 → ps S w (S 6 k) (S 7 k + 1) = S 8 k)
/-- by how many winds of the day -/
def cnt (S : Nat → Nat → Nat) (P : (Nat → Nat) → Bool) : Nat := cn S (S 0 0) 0 (fun _ => 0) (fun w => ft S w && P w)
theorem zn_sh2 {a v : Nat} (hv : v < 8) : sm_shl (nI a) (nI 2 * nI v) = nI (a * 4 ^ v) := by
  rw [pk_mul, zn_shl (by omega), Nat.pow_mul]
theorem zn_at2 {a v : Nat} (ha : a < 2 ^ 31) (hv : v < 8) : sm_shr (nI a) (nI 2 * nI v) &&& nI 3 = nI (a / 4 ^ v % 4) := by
  rw [pk_mul, zn_shr ha (by omega), Nat.pow_mul, zn_a3]
theorem zn_a1 (a : Nat) : nI a &&& nI 1 = nI (a % 2) := by
  rw [zn_and, show (1 : Nat) = 2 ^ 1 - 1 from rfl, Nat.and_two_pow_sub_one_eq_mod]
theorem zn_bit {a q : Nat} (ha : a < 2 ^ 31) (hq : q < 32) : sm_shr (nI a) (nI q) &&& nI 1 = nI (a / 2 ^ q % 2) := by
  rw [zn_shr ha hq, zn_a1]
theorem zn_clI {i : Nat} (h : i < 2 ^ 31) : (nI i).toNatClampNeg = i := nI_clamp h
theorem wI_t {n : Nat} (h : n < 4) : wI n = nI n := if_pos h
theorem wI_4 : wI 4 = -1 := rfl
theorem wI_m {n : Nat} (h : n ≤ 4) : wI n = -1 ↔ n = 4 := by
  by_cases h4 : n = 4
  · subst h4; simp [wI_4]
  · rw [wI_t (by omega)]
    exact ⟨fun e => absurd e (zn_nem (by omega)), fun e => absurd e h4⟩
theorem wI_q {n q : Nat} (h : n ≤ 4) (hq : q < 4) : wI n = nI q ↔ n = q := by
  by_cases h4 : n = 4
  · subst h4
    exact ⟨fun e => absurd e.symm (zn_nem (by omega)), fun e => absurd e (by omega)⟩
  · rw [wI_t (by omega)]
    exact nI_eq (by omega) (by omega)
/-- how many below n -/
def ct (P : Nat → Bool) : Nat → Nat
  | 0 => 0
  | n + 1 => ct P n + bn (P n)
theorem ct_le {P : Nat → Bool} : ∀ n, ct P n ≤ n
  | 0 => Nat.le_refl 0
  | n + 1 => by
    have h1 := ct_le (P := P) n
    have h2 := bn_lt (P n)
    show ct P n + bn (P n) ≤ n + 1
    omega
theorem ct_congr {P P' : Nat → Bool} : ∀ {n}, (∀ i, i < n → P i = P' i) → ct P n = ct P' n
  | 0, _ => rfl
  | n + 1, h => by
    show ct P n + bn (P n) = ct P' n + bn (P' n)
    rw [ct_congr (n := n) (fun i hi => h i (by omega)), h n (by omega)]
/-- where a vane of twist t would point behind hour h - 1, by the winds of the day -/
def pb (S : Nat → Nat → Nat) (v t : Nat) : Nat → Nat
  | 0 => S 3 v
  | h + 1 => trn (S 2 v) t (pb S v t h) (S 1 h)
theorem pb_lt {S : Nat → Nat → Nat} {v t : Nat} (h3 : S 3 v < 4) : ∀ h, (∀ i, i < h → S 1 i < 4) → pb S v t h < 4
  | 0, _ => h3
  | h + 1, hw => trn_lt (pb_lt h3 h (fun i hi => hw i (by omega))) (hw h (by omega))
theorem dc_t {p : Prop} [Decidable p] (h : p) : nI 1 = sm_b (decide p) := by simp [sm_b, h]
theorem dc_f {p : Prop} [Decidable p] (h : ¬ p) : nI 0 = sm_b (decide p) := by simp [sm_b, h]
theorem b_t {b : Bool} (h : b = true) : nI 1 = sm_b b := by subst h; rfl
theorem b_f {b : Bool} (h : b = false) : nI 0 = sm_b b := by subst h; rfl
theorem nle {i n : Nat} {x : Int32} (e : x = nI n) (hi : i < 2 ^ 31) (hn : n < 2 ^ 31) (h : ¬ x ≤ nI i) : i < n := by
  rw [e, nI_leI hn hi] at h
  omega
theorem yle {i n : Nat} {x : Int32} (e : x = nI n) (hi : i < 2 ^ 31) (hn : n < 2 ^ 31) (h : x ≤ nI i) : n ≤ i := by
  rw [e, nI_leI hn hi] at h
  exact h
theorem bn_f {b : Bool} (h : b = false) : bn b = 0 := by subst h; rfl
theorem bn_t {b : Bool} (h : b = true) : bn b = 1 := by subst h; rfl
theorem beq_t {a b : Nat} (h : a = b) : Nat.beq a b = true := by subst h; exact Nat.beq_refl a
theorem beq_f {a b : Nat} (h : a ≠ b) : Nat.beq a b = false := by
  cases hb : Nat.beq a b with
  | false => rfl
  | true => exact absurd (Nat.eq_of_beq_eq_true hb) h
theorem zn_inb {a b c n : Nat} (h : a * b + c < n) (hn : n < 2 ^ 31) : sm_in (nI a * nI b + nI c) n := by
  rw [pk_mul, nI_add]
  exact zn_in h hn
theorem zn_ina {a c n : Nat} (h : a + c < n) (hn : n < 2 ^ 31) : sm_in (nI a + nI c) n := by
  rw [nI_add]
  exact zn_in h hn
theorem zn_inc {a b c n : Nat} (h : a * b + c < n) (hn : n < 2 ^ 31) : sm_in (nI b * nI a + nI c) n := by
  rw [pk_mul, nI_add, Nat.mul_comm]
  exact zn_in h hn
theorem nz_eq {b : Bool} (h : nI (bn b) = nI 0) : b = false := by
  cases b
  · rfl
  · exact absurd h (by decide)
theorem nz_ne {b : Bool} (h : ¬ nI (bn b) = nI 0) : b = true := by
  cases b
  · exact absurd rfl h
  · rfl
theorem zlt {a b : Nat} (ha : a < 2 ^ 31) (hb : b < 2 ^ 31) (h : nI a < nI b) : a < b := (nI_ltI ha hb).mp h
theorem znl {a b : Nat} (ha : a < 2 ^ 31) (hb : b < 2 ^ 31) (h : ¬ nI a < nI b) : b ≤ a := by
  rw [nI_ltI ha hb] at h
  omega
theorem zle {a b : Nat} (ha : a < 2 ^ 31) (hb : b < 2 ^ 31) (h : nI a ≤ nI b) : a ≤ b := (nI_leI ha hb).mp h
theorem znle {a b : Nat} (ha : a < 2 ^ 31) (hb : b < 2 ^ 31) (h : ¬ nI a ≤ nI b) : b < a := by
  rw [nI_leI ha hb] at h
  omega
theorem zeq {a b : Nat} (ha : a < 2 ^ 31) (hb : b < 2 ^ 31) (h : nI a = nI b) : a = b := (nI_eq ha hb).mp h
theorem zneq {a b : Nat} (h : ¬ nI a = nI b) : a ≠ b := fun e => h (nI_i e)
theorem sb_f {b : Bool} (h : sm_b b = nI 0) : b = false := by
  cases b
  · rfl
  · exact absurd h (by decide)
theorem sb_t {b : Bool} (h : ¬ sm_b b = nI 0) : b = true := by
  cases b
  · exact absurd rfl h
  · rfl
/-- some winds of n hours from h on fit, the vanes pointing f ahead of it -/
def cf (S : Nat → Nat → Nat) : Nat → Nat → (Nat → Nat) → Bool
  | 0, _, _ => true
  | n + 1, h, f => (may S h 0 && ag S h (fun v => tv S v (f v) 0) && cf S n (h + 1) (fun v => tv S v (f v) 0)) ||
    (may S h 1 && ag S h (fun v => tv S v (f v) 1) && cf S n (h + 1) (fun v => tv S v (f v) 1)) ||
    (may S h 2 && ag S h (fun v => tv S v (f v) 2) && cf S n (h + 1) (fun v => tv S v (f v) 2)) ||
    (may S h 3 && ag S h (fun v => tv S v (f v) 3) && cf S n (h + 1) (fun v => tv S v (f v) 3))
def cfq (S : Nat → Nat → Nat) (n h : Nat) (f : Nat → Nat) (q : Nat) : Bool := may S h q && ag S h (fun v => tv S v (f v) q) && cf S n (h + 1) (fun v => tv S v (f v) q)
theorem cf_t {S : Nat → Nat → Nat} {n h q : Nat} {f : Nat → Nat} (hq : q < 4) (e : cfq S n h f q = true) : cf S (n + 1) h f = true := by
  unfold cf
  unfold cfq at e
  match q, hq with
  | 0, _ => rw [e]; simp
  | 1, _ => rw [e]; simp
  | 2, _ => rw [e]; simp
  | 3, _ => rw [e]; simp
theorem cf_f {S : Nat → Nat → Nat} {n h : Nat} {f : Nat → Nat} (e : ∀ q, q < 4 → cfq S n h f q = false) : cf S (n + 1) h f = false := by
  unfold cf
  have e0 := e 0 (by decide)
  have e1 := e 1 (by decide)
  have e2 := e 2 (by decide)
  have e3 := e 3 (by decide)
  unfold cfq at e0 e1 e2 e3
  rw [e0, e1, e2, e3]
  rfl
