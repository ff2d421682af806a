/-! Counting winds: by a walk, by codes. -/
def fh (S : Nat → Nat → Nat) : Nat → Nat → (Nat → Nat) → Bool
  | 0, _, _ => true
  | n + 1, h, w => ag S h (fun v => ps S w v (h + 1)) && fh S n (h + 1) w
theorem s4_sg (g : Nat → Nat) : s4 g = sg 4 g := by
  simp [s4, sg]
theorem cn_congr {S : Nat → Nat → Nat} {P P' : (Nat → Nat) → Bool} : ∀ {n h : Nat} {w : Nat → Nat}, (∀ w', (∀ i, i < h → w' i = w i) → P w' = P' w') → cn S n h w P = cn S n h w P'
  | 0, h, w, e => by
    show bn (P w) = bn (P' w)
    rw [e w (fun _ _ => rfl)]
  | n + 1, h, w, e => by
    have : ∀ q, cn S n (h + 1) (su w h q) P = cn S n (h + 1) (su w h q) P' := fun q => cn_congr (fun w' hw => e w' (fun i hi => by rw [hw i (by omega), su_ne _ _ (by omega)]))
    simp only [cn, this]
theorem cn_false {S : Nat → Nat → Nat} : ∀ {n h : Nat} {w : Nat → Nat}, cn S n h w (fun _ => false) = 0
  | 0, h, w => rfl
  | n + 1, h, w => by
    have : ∀ q, cn S n (h + 1) (su w h q) (fun _ => false) = 0 := fun q => cn_false
    simp only [cn, this, s4]
    cases may S h 0 <;> cases may S h 1 <;> cases may S h 2 <;> cases may S h 3 <;> rfl
theorem cn_and {S : Nat → Nat → Nat} {P : (Nat → Nat) → Bool} {A : (Nat → Nat) → Bool} {n h : Nat} {w : Nat → Nat} (hA : ∀ w', (∀ i, i < h → w' i = w i) → A w' = A w) : cn S n h w (fun w' => A w' && P w') = cond (A w) (cn S n h w P) 0 := by
  have e : cn S n h w (fun w' => A w' && P w') = cn S n h w (fun w' => A w && P w') := cn_congr (fun w' hw => by rw [hA w' hw])
  rw [e]
  cases A w with
  | true => simp
  | false => simp [cn_false]
theorem cn_le {S : Nat → Nat → Nat} {P : (Nat → Nat) → Bool} : ∀ {n h : Nat} {w : Nat → Nat}, cn S n h w P ≤ 4 ^ n
  | 0, h, w => by
    have := bn_lt (P w)
    show bn (P w) ≤ 1
    omega
  | n + 1, h, w => by
    have hq : ∀ q, cond (may S h q) (cn S n (h + 1) (su w h q) P) 0 ≤ 4 ^ n := fun q => by
      cases may S h q
      · exact Nat.zero_le _
      · exact cn_le
    have h0 := hq 0
    have h1 := hq 1
    have h2 := hq 2
    have h3 := hq 3
    rw [Nat.pow_succ]
    simp only [cn, s4]
    omega
theorem ag_congr {S : Nat → Nat → Nat} {h : Nat} {f g : Nat → Nat} (e : ∀ v, v < S 0 1 → f v = g v) : ag S h f = ag S h g := by
  unfold ag
  congr 1
  apply propext
  exact ⟨fun a v hv => by rw [← e v hv]; exact a v hv, fun a v hv => by rw [e v hv]; exact a v hv⟩
/-- a step of the count of what fits -/
theorem cn_step {S : Nat → Nat → Nat} {P : (Nat → Nat) → Bool} {n h : Nat} {w : Nat → Nat} : cn S (n + 1) h w (fun w' => fh S (n + 1) h w' && P w') = sg 4 (fun q => cond (okq S h (fun v => ps S w v h) q) (cn S n (h + 1) (su w h q) (fun w' => fh S n (h + 1) w' && P w')) 0) := by
  rw [cn, s4_sg]
  apply sg_congr
  intro q hq
  have e1 : cn S n (h + 1) (su w h q) (fun w' => fh S (n + 1) h w' && P w') = cn S n (h + 1) (su w h q) (fun w' => (fun w' => ag S h (fun v => ps S w' v (h + 1))) w' && (fun w' => fh S n (h + 1) w' && P w') w') := by
    congr 1
    funext w'
    show ((_ && _) && _) = _
    rw [Bool.and_assoc]
  have e2 : ∀ w', (∀ i, i < h + 1 → w' i = su w h q i) → ∀ v, ps S w' v (h + 1) = tf S (fun v => ps S w v h) q v := by
    intro w' hw v
    show tv S v (ps S w' v h) (w' h) = tv S v (ps S w v h) q
    rw [hw h (by omega), su_eq, ps_congr h (fun i hi => by rw [hw i (by omega), su_ne _ _ (by omega)] : ∀ i, i < h → w' i = w i)]
  rw [e1, cn_and (fun w' hw => ag_congr (fun v _ => by rw [e2 w' hw v, e2 _ (fun _ _ => rfl) v]))]
  have e3 : ag S h (fun v => ps S (su w h q) v (h + 1)) = ag S h (tf S (fun v => ps S w v h) q) := ag_congr (fun v _ => e2 _ (fun _ _ => rfl) v)
  rw [e3, okq]
  cases may S h q <;> cases ag S h (tf S (fun v => ps S w v h) q) <;> rfl
theorem ps_su {S : Nat → Nat → Nat} {w : Nat → Nat} {h q : Nat} : (fun v => ps S (su w h q) v (h + 1)) = tf S (fun v => ps S w v h) q := by
  funext v
  show tv S v (ps S (su w h q) v h) (su w h q h) = tv S v (ps S w v h) q
  rw [su_eq, ps_congr h (fun i hi => su_ne _ _ (by omega))]
theorem wk_cn {S : Nat → Nat → Nat} : ∀ {n h : Nat} {w : Nat → Nat}, wk S n h (fun v => ps S w v h) = cn S n h w (fun w' => fh S n h w' && true)
  | 0, h, w => rfl
  | n + 1, h, w => by
    rw [cn_step, wk]
    apply sg_congr
    intro q hq
    rw [← wk_cn, ps_su]
/-- what index i of poses counts -/
def px (S : Nat → Nat → Nat) (a b i : Nat) (w : Nat → Nat) : Bool := decide (i / 24 < S 0 1 ∧ a ≤ i / 4 % 6 ∧ i / 4 % 6 < b ∧ i % 4 = ps S w (i / 24) (i / 4 % 6 + 1))
def py (a b i : Nat) (w : Nat → Nat) : Bool := decide (a ≤ i / 4 ∧ i / 4 < b ∧ i % 4 = w (i / 4))
theorem wx_cn {S : Nat → Nat → Nat} {i : Nat} : ∀ {n h : Nat} {w : Nat → Nat}, wx S n h (fun v => ps S w v h) i = cn S n h w (fun w' => fh S n h w' && px S h (h + n) i w')
  | 0, h, w => by
    have : px S h (h + 0) i w = false := by simp [px]; omega
    show 0 = bn (_ && px S h (h + 0) i w)
    rw [this]
    rfl
  | n + 1, h, w => by
    rw [cn_step, wx]
    apply sg_congr
    intro q hq
    rw [← ps_su, wx_cn, wk_cn]
    congr 1
    by_cases hh : i / 4 % 6 = h
    · have e1 : cn S n (h + 1) (su w h q) (fun w' => fh S n (h + 1) w' && px S (h + 1) (h + 1 + n) i w') = 0 := by
        rw [← cn_false (S := S) (n := n) (h := h + 1) (w := su w h q)]
        apply cn_congr
        intro w' _
        have : px S (h + 1) (h + 1 + n) i w' = false := by simp [px]; omega
        rw [this, Bool.and_false]
      have e2 : cn S n (h + 1) (su w h q) (fun w' => fh S n (h + 1) w' && px S h (h + (n + 1)) i w') = cn S n (h + 1) (su w h q) (fun w' => (fun w' => px S h (h + (n + 1)) i w') w' && (fun w' => fh S n (h + 1) w' && true) w') := by
        congr 1
        funext w'
        simp [Bool.and_comm]
      rw [e1, e2, cn_and (A := fun w' => px S h (h + (n + 1)) i w') (P := fun w' => fh S n (h + 1) w' && true), Nat.zero_add]
      · unfold nt
        by_cases hc : i / 24 < S 0 1 ∧ i / 4 % 6 = h ∧ i % 4 = ps S (su w h q) (i / 24) (h + 1)
        · have : px S h (h + (n + 1)) i (su w h q) = true := by simp only [px, hh, decide_eq_true_eq]; exact ⟨hc.1, Nat.le_refl _, by omega, hc.2.2⟩
          rw [if_pos hc, this]
          rfl
        · have : px S h (h + (n + 1)) i (su w h q) = false := by
            simp only [px, hh, decide_eq_false_iff_not]
            exact fun z => hc ⟨z.1, hh, z.2.2.2⟩
          rw [if_neg hc, this]
          rfl
      · intro w' hw
        simp only [px]
        congr 1
        apply propext
        rw [hh, ps_congr (S := S) (v := i / 24) (h + 1) hw]
    · have e1 : nt (S 0 1) h (fun v => ps S (su w h q) v (h + 1)) (cn S n (h + 1) (su w h q) fun w' => fh S n (h + 1) w' && true) i = 0 := by
        unfold nt
        exact if_neg (fun z => hh z.2.1)
      rw [e1, Nat.add_zero]
      congr 1
      funext w'
      congr 1
      simp only [px]
      congr 1
      apply propext
      constructor
      · exact fun z => ⟨z.1, by omega, by omega, z.2.2.2⟩
      · exact fun z => ⟨z.1, by omega, by omega, z.2.2.2⟩
theorem wy_cn {S : Nat → Nat → Nat} {i : Nat} : ∀ {n h : Nat} {w : Nat → Nat}, wy S n h (fun v => ps S w v h) i = cn S n h w (fun w' => fh S n h w' && py h (h + n) i w')
  | 0, h, w => by
    have : py h (h + 0) i w = false := by simp [py]; omega
    show 0 = bn (_ && py h (h + 0) i w)
    rw [this]
    rfl
  | n + 1, h, w => by
    rw [cn_step, wy]
    apply sg_congr
    intro q hq
    rw [← ps_su, wy_cn, wk_cn]
    congr 1
    by_cases hh : i / 4 = h
    · have e1 : cn S n (h + 1) (su w h q) (fun w' => fh S n (h + 1) w' && py (h + 1) (h + 1 + n) i w') = 0 := by
        rw [← cn_false (S := S) (n := n) (h := h + 1) (w := su w h q)]
        apply cn_congr
        intro w' _
        have : py (h + 1) (h + 1 + n) i w' = false := by simp [py]; omega
        rw [this, Bool.and_false]
      have e2 : cn S n (h + 1) (su w h q) (fun w' => fh S n (h + 1) w' && py h (h + (n + 1)) i w') = cn S n (h + 1) (su w h q) (fun w' => (fun w' => py h (h + (n + 1)) i w') w' && (fun w' => fh S n (h + 1) w' && true) w') := by
        congr 1
        funext w'
        simp [Bool.and_comm]
      rw [e1, e2, cn_and (A := fun w' => py h (h + (n + 1)) i w') (P := fun w' => fh S n (h + 1) w' && true), Nat.zero_add]
      · unfold gt
        by_cases hc : i = h * 4 + q
        · have : py h (h + (n + 1)) i (su w h q) = true := by simp only [py, hh, decide_eq_true_eq, su_eq]; omega
          rw [if_pos hc, this]
          rfl
        · have : py h (h + (n + 1)) i (su w h q) = false := by
            simp only [py, hh, decide_eq_false_iff_not, su_eq]
            omega
          rw [if_neg hc, this]
          rfl
      · intro w' hw
        simp only [py]
        congr 1
        apply propext
        rw [hh, hw h (by omega)]
    · have e1 : gt h q (cn S n (h + 1) (su w h q) fun w' => fh S n (h + 1) w' && true) i = 0 := by
        unfold gt
        exact if_neg (fun z => hh (by omega))
      rw [e1, Nat.add_zero]
      congr 1
      funext w'
      congr 1
      simp only [py]
      congr 1
      apply propext
      constructor
      · exact fun z => ⟨by omega, by omega, z.2.2⟩
      · exact fun z => ⟨by omega, by omega, z.2.2⟩
theorem fh_iff {S : Nat → Nat → Nat} {w : Nat → Nat} : ∀ {n h : Nat}, fh S n h w = true ↔ ∀ h', h ≤ h' → h' < h + n → ag S h' (fun v => ps S w v (h' + 1)) = true
  | 0, h => by simp [fh]; omega
  | n + 1, h => by
    rw [fh, Bool.and_eq_true, fh_iff]
    constructor
    · rintro ⟨h1, h2⟩ h' h3 h4
      by_cases e : h' = h
      · subst e; exact h1
      · exact h2 h' (by omega) (by omega)
    · intro a
      exact ⟨a h (Nat.le_refl _) (by omega), fun h' h3 h4 => a h' (by omega) (by omega)⟩
theorem fh_ft {S : Nat → Nat → Nat} (hN : nR S) (w : Nat → Nat) : fh S (S 0 0) 0 w = ft S w := by
  have : fh S (S 0 0) 0 w = true ↔ ft S w = true := by
    rw [fh_iff]
    unfold ft ag ob
    simp only [decide_eq_true_eq]
    constructor
    · intro a k hk
      obtain ⟨h1, h2, h3⟩ := hN.2 k hk
      exact (a (S 7 k) (Nat.zero_le _) (by omega) (S 6 k) h1 k hk rfl rfl).symm
    · intro a h' _ h4 v hv k hk e1 e2
      subst e1
      subst e2
      exact (a k hk).symm
  cases h1 : fh S (S 0 0) 0 w <;> cases h2 : ft S w <;> simp_all
-- by codes
def uk (S : Nat → Nat → Nat) : Nat → Nat → Nat
  | 0, _ => 0
  | n + 1, h => bn (Nat.beq (S 1 h) 4) + uk S n (h + 1)
theorem uk_ct {S : Nat → Nat → Nat} : ∀ {n h : Nat}, ct (fun h => Nat.beq (S 1 h) 4) h + uk S n h = ct (fun h => Nat.beq (S 1 h) 4) (h + n)
  | 0, h => rfl
  | n + 1, h => by
    rw [uk, show h + (n + 1) = h + 1 + n by omega, ← uk_ct, ct]
    omega
def dec (S : Nat → Nat → Nat) : Nat → Nat → Nat → (Nat → Nat) → (Nat → Nat)
  | 0, _, _, w => w
  | n + 1, h, c, w => cond (Nat.beq (S 1 h) 4) (dec S n (h + 1) (c / 4) (su w h (c % 4))) (dec S n (h + 1) c (su w h (S 1 h)))
theorem sg_4 {g : Nat → Nat} : ∀ {M : Nat}, sg (4 * M) g = sg 4 (fun q => sg M (fun c => g (4 * c + q)))
  | 0 => by simp [sg]
  | M + 1 => by
    rw [show 4 * (M + 1) = 4 * M + 1 + 1 + 1 + 1 by omega]
    simp only [sg] at *
    have := sg_4 (g := g) (M := M)
    simp only [sg] at this
    simp only [Nat.add_zero, Nat.zero_add] at *
    rw [this, show 4 * M + 1 + 1 = 4 * M + 2 by omega, show 4 * M + 2 + 1 = 4 * M + 3 by omega]
    omega
theorem cn_codes {S : Nat → Nat → Nat} {P : (Nat → Nat) → Bool} : ∀ {n h : Nat} {w : Nat → Nat}, (∀ i, h ≤ i → i < h + n → S 1 i ≤ 4) → cn S n h w P = sg (4 ^ uk S n h) (fun c => bn (P (dec S n h c w)))
  | 0, h, w, _ => by
    show bn (P w) = 0 + bn (P w)
    omega
  | n + 1, h, w, hS => by
    have ih := fun w => cn_codes (P := P) (n := n) (h := h + 1) (w := w) (fun i h1 h2 => hS i (by omega) (by omega))
    rw [cn, s4_sg]
    by_cases e : S 1 h = 4
    · have eb : Nat.beq (S 1 h) 4 = true := beq_t e
      rw [uk, eb, show bn true + uk S n (h + 1) = uk S n (h + 1) + 1 by rw [bn_t rfl]; omega, Nat.pow_succ, Nat.mul_comm, sg_4]
      apply sg_congr
      intro q hq
      have em : may S h q = true := by unfold may; rw [eb]; rfl
      rw [em]
      show cn S n (h + 1) (su w h q) P = _
      rw [ih]
      apply sg_congr
      intro c _
      rw [dec, eb, show (4 * c + q) / 4 = c by omega, show (4 * c + q) % 4 = q by omega]
      rfl
    · have eb : Nat.beq (S 1 h) 4 = false := beq_f e
      have h4 : S 1 h < 4 := by have := hS h (Nat.le_refl _) (by omega); omega
      have ed : ∀ c, dec S (n + 1) h c w = dec S n (h + 1) c (su w h (S 1 h)) := fun c => by rw [dec, eb]; rfl
      have eu : uk S (n + 1) h = uk S n (h + 1) := by rw [uk, eb]; exact Nat.zero_add _
      simp only [ed, eu]
      rw [← ih]
      have em : ∀ q, may S h q = Nat.beq (S 1 h) q := fun q => by unfold may; rw [eb]; rfl
      simp only [em, sg]
      match S 1 h, h4 with
      | 0, _ => exact Nat.zero_add _
      | 1, _ => exact Nat.zero_add _
      | 2, _ => exact Nat.zero_add _
      | 3, _ => exact Nat.zero_add _
/-- what is left of a code behind h hours -/
def rm (S : Nat → Nat → Nat) (c : Nat) : Nat → Nat
  | 0 => c
  | h + 1 => cond (Nat.beq (S 1 h) 4) (rm S c h / 4) (rm S c h)
/-- the winds of a code -/
def wd (S : Nat → Nat → Nat) (c h : Nat) : Nat := if h < S 0 0 then cond (Nat.beq (S 1 h) 4) (rm S c h % 4) (S 1 h) else 0
theorem dec_wd {S : Nat → Nat → Nat} {c : Nat} : ∀ {n h : Nat} {w : Nat → Nat}, h + n = S 0 0 → (∀ i, i < h → w i = wd S c i) → (∀ i, S 0 0 ≤ i → w i = 0) → ∀ i, dec S n h (rm S c h) w i = wd S c i
  | 0, h, w, hn, h1, h2, i => by
    show w i = _
    by_cases hi : i < h
    · exact h1 i hi
    · rw [h2 i (by omega)]
      unfold wd
      rw [if_neg (by omega)]
  | n + 1, h, w, hn, h1, h2, i => by
    have hl : h < S 0 0 := by omega
    cases eb : Nat.beq (S 1 h) 4 with
    | true =>
      have e := dec_wd (S := S) (c := c) (n := n) (h := h + 1) (w := su w h (rm S c h % 4)) (by omega) (fun j hj => by
        by_cases e : j = h
        · subst e; rw [su_eq, wd, if_pos hl, eb]; rfl
        · rw [su_ne _ _ e]; exact h1 j (by omega)) (fun j hj => by rw [su_ne _ _ (by omega)]; exact h2 j hj) i
      rw [rm, eb] at e
      rw [dec, eb]
      exact e
    | false =>
      have e := dec_wd (S := S) (c := c) (n := n) (h := h + 1) (w := su w h (S 1 h)) (by omega) (fun j hj => by
        by_cases e : j = h
        · subst e; rw [su_eq, wd, if_pos hl, eb]; rfl
        · rw [su_ne _ _ e]; exact h1 j (by omega)) (fun j hj => by rw [su_ne _ _ (by omega)]; exact h2 j hj) i
      rw [rm, eb] at e
      rw [dec, eb]
      exact e
/-- how many codes -/
def nc (S : Nat → Nat → Nat) : Nat := 4 ^ ct (fun h => Nat.beq (S 1 h) 4) (S 0 0)
theorem cnt_codes {S : Nat → Nat → Nat} (hR : dR S) (P : (Nat → Nat) → Bool) : cnt S P = sg (nc S) (fun c => bn (ft S (wd S c) && P (wd S c))) := by
  unfold cnt nc
  rw [cn_codes (fun i _ hi => hR.2.2.1 i (by omega))]
  have e := uk_ct (S := S) (n := S 0 0) (h := 0)
  rw [show ct (fun h => Nat.beq (S 1 h) 4) 0 = 0 from rfl, Nat.zero_add, Nat.zero_add] at e
  rw [e]
  apply sg_congr
  intro c _
  have : dec S (S 0 0) 0 c (fun _ => 0) = wd S c := funext (fun i => dec_wd (S := S) (c := c) (n := S 0 0) (h := 0) (w := fun _ => 0) (Nat.zero_add _) (fun i hi => absurd hi (Nat.not_lt_zero _)) (fun _ _ => rfl) i)
  rw [this]
-- what is asked, in numbers
def aAll (S : Nat → Nat → Nat) : Nat := cnt S (fun _ => true)
def aPt (S : Nat → Nat → Nat) (v h q : Nat) : Nat := cnt S (fun w => Nat.beq (ps S w v (h + 1)) q)
def aBl (S : Nat → Nat → Nat) (h q : Nat) : Nat := cnt S (fun w => Nat.beq (w h) q)
theorem cnt_le {S : Nat → Nat → Nat} (hR : dR S) (P : (Nat → Nat) → Bool) : cnt S P ≤ 4096 := by
  have h1 : cnt S P ≤ 4 ^ S 0 0 := cn_le
  have h2 : 4 ^ S 0 0 ≤ 4 ^ 6 := Nat.pow_le_pow_right (by decide) hR.1
  omega
theorem wk_all {S : Nat → Nat → Nat} (hN : nR S) : wk S (S 0 0) 0 (S 3) = aAll S := by
  have e := wk_cn (S := S) (n := S 0 0) (h := 0) (w := fun _ => 0)
  unfold aAll cnt
  simp only [fh_ft hN] at e
  exact e
theorem wx_pt {S : Nat → Nat → Nat} (hN : nR S) {v h q : Nat} (hv : v < S 0 1) (hh : h < S 0 0) (h6 : S 0 0 ≤ 6) (hq : q < 4) : wx S (S 0 0) 0 (S 3) ((v * 6 + h) * 4 + q) = aPt S v h q := by
  have e := wx_cn (S := S) (i := (v * 6 + h) * 4 + q) (n := S 0 0) (h := 0) (w := fun _ => 0)
  unfold aPt cnt
  simp only [fh_ft hN] at e
  refine Eq.trans e ?_
  congr 1
  funext w
  congr 1
  unfold px
  rw [show ((v * 6 + h) * 4 + q) / 24 = v by omega, show ((v * 6 + h) * 4 + q) / 4 % 6 = h by omega, show ((v * 6 + h) * 4 + q) % 4 = q by omega]
  show _ = Nat.beq (ps S w v (h + 1)) q
  by_cases hc : ps S w v (h + 1) = q
  · rw [beq_t hc]
    simp only [decide_eq_true_eq]
    exact ⟨hv, Nat.zero_le _, by omega, hc.symm⟩
  · rw [beq_f hc]
    simp only [decide_eq_false_iff_not]
    exact fun z => hc z.2.2.2.symm
theorem wy_bl {S : Nat → Nat → Nat} (hN : nR S) {h q : Nat} (hh : h < S 0 0) (hq : q < 4) : wy S (S 0 0) 0 (S 3) (h * 4 + q) = aBl S h q := by
  have e := wy_cn (S := S) (i := h * 4 + q) (n := S 0 0) (h := 0) (w := fun _ => 0)
  unfold aBl cnt
  simp only [fh_ft hN] at e
  refine Eq.trans e ?_
  congr 1
  funext w
  congr 1
  unfold py
  rw [show (h * 4 + q) / 4 = h by omega, show (h * 4 + q) % 4 = q by omega]
  show _ = Nat.beq (w h) q
  by_cases hc : w h = q
  · rw [beq_t hc]
    simp only [decide_eq_true_eq]
    exact ⟨Nat.zero_le _, by omega, hc.symm⟩
  · rw [beq_f hc]
    simp only [decide_eq_false_iff_not]
    exact fun z => hc z.2.2.symm
