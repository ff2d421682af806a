/-! Numbers: ints as natural numbers. -/
theorem zn_and (a b : Nat) : nI a &&& nI b = nI (a &&& b) := by
  apply Int32.toBitVec_inj.1
  show BitVec.ofNat 32 a &&& BitVec.ofNat 32 b = BitVec.ofNat 32 (a &&& b)
  apply BitVec.eq_of_getLsbD_eq
  intro i hi
  simp [hi]
theorem zn_or (a b : Nat) : nI a ||| nI b = nI (a ||| b) := by
  apply Int32.toBitVec_inj.1
  show BitVec.ofNat 32 a ||| BitVec.ofNat 32 b = BitVec.ofNat 32 (a ||| b)
  apply BitVec.eq_of_getLsbD_eq
  intro i hi
  simp [hi]
theorem zn_lt (a b : Int32) : a < b ↔ a.toInt < b.toInt := Int32.lt_iff_toInt_lt
theorem zn_le (a b : Int32) : a ≤ b ↔ a.toInt ≤ b.toInt := Int32.le_iff_toInt_le
theorem zn_eq (a b : Int32) : a = b ↔ a.toInt = b.toInt := Int32.toInt_inj.symm
theorem zn_m1 : (-1 : Int32).toInt = -1 := rfl
theorem zn_shl {a s : Nat} (hs : s < 32) : sm_shl (nI a) (nI s) = nI (a * 2 ^ s) := by
  unfold sm_shl
  rw [show (31 : Int32) = nI 31 from rfl, zn_and, show s &&& 31 = s from by rw [show (31 : Nat) = 2 ^ 5 - 1 from rfl, Nat.and_two_pow_sub_one_eq_mod]; exact Nat.mod_eq_of_lt hs]
  apply Int32.toBitVec_inj.mp
  apply BitVec.eq_of_toNat_eq
  have h1 : ((nI s).toBitVec.smod 32).toNat = s := by
    have : ∀ s, s < 32 → ((nI s).toBitVec.smod 32).toNat = s := by decide +kernel
    exact this s hs
  rw [pk_shl _ _ s h1]
  show (a % 2 ^ 32) * 2 ^ s % 2 ^ 32 = (a * 2 ^ s) % 2 ^ 32
  rw [Nat.mod_mul_mod]
theorem zn_shr {a s : Nat} (ha : a < 2 ^ 31) (hs : s < 32) : sm_shr (nI a) (nI s) = nI (a / 2 ^ s) := by
  unfold sm_shr
  rw [show (31 : Int32) = nI 31 from rfl, zn_and, show s &&& 31 = s from by rw [show (31 : Nat) = 2 ^ 5 - 1 from rfl, Nat.and_two_pow_sub_one_eq_mod]; exact Nat.mod_eq_of_lt hs]
  have h1 : ((nI s).toBitVec.smod 32).toNat = s := by
    have : ∀ s, s < 32 → ((nI s).toBitVec.smod 32).toNat = s := by decide +kernel
    exact this s hs
  exact pk_shrN ha _ s h1
theorem zn_ir {a d : Nat} (ha : a < 2 ^ 31) (h0 : 0 < d) (hd : d < 2 ^ 31) : sm_ir (nI a) (nI d) = nI (a % d) := pk_rem ha h0 hd
theorem zn_ne {a b : Nat} (h : a ≠ b) (ha : a < 2 ^ 31) (hb : b < 2 ^ 31) : nI a ≠ nI b := fun e => h ((nI_eq ha hb).mp e)
theorem zn_nem {a : Nat} (ha : a < 2 ^ 31) : ¬ nI a = -1 := by
  rw [zn_eq, nI_toInt ha, zn_m1]
  omega
theorem zn_in {i n : Nat} (h : i < n) (hn : n < 2 ^ 31) : sm_in (nI i) n := sm_in_of (vp_in_nI h hn)
theorem sm_un {P : Prop} (h : Nonempty (PLift P)) : P := by
  obtain ⟨⟨h⟩⟩ := h
  exact h
/-- within 0 .. n - 1 -/
def inb (x : Int32) (n : Nat) : Bool := decide (0 ≤ x.toInt) && decide (x.toInt < n)
theorem inb_t {x : Int32} {n : Nat} (h0 : ¬ x < nI 0) (h1 : x < nI n) (hn : n < 2 ^ 31) : ∃ j, j < n ∧ x = nI j := by
  rw [zn_lt, nI_toInt hn] at h1
  rw [zn_lt] at h0
  have h0 : ¬ x.toInt < 0 := h0
  refine ⟨x.toInt.toNat, by omega, ?_⟩
  rw [zn_eq, nI_toInt (by omega)]
  omega
theorem inb_lo {x : Int32} {n : Nat} (h : x < nI 0) : inb x n = false := by
  rw [zn_lt] at h
  have h : x.toInt < 0 := h
  simp [inb]
  omega
theorem inb_hi {x : Int32} {n : Nat} (h : nI n ≤ x) (hn : n < 2 ^ 31) : inb x n = false := by
  rw [zn_le, nI_toInt hn] at h
  simp [inb]
  omega
theorem inb_n {j n : Nat} (h : j < n) (hn : n < 2 ^ 31) : inb (nI j) n = true := by
  simp [inb, nI_toInt (show j < 2 ^ 31 by omega)]
  omega
def sm_b (b : Bool) : Int32 := cond b (nI 1) (nI 0)
theorem zq {Q : sm_Q} {h : sm_H} {a b : Int32} (e : a = b) (hq : Q (some (.int b)) h) : Q (some (.int a)) h := e ▸ hq
theorem z01 : nI 0 = nI 0 ∨ nI 0 = nI 1 := Or.inl rfl
theorem z11 : nI 1 = nI 0 ∨ nI 1 = nI 1 := Or.inr rfl
theorem zb01 (b : Bool) : sm_b b = nI 0 ∨ sm_b b = nI 1 := by cases b <;> simp [sm_b]
theorem zn_a3 (a : Nat) : nI a &&& nI 3 = nI (a % 4) := by
  rw [zn_and, show (3 : Nat) = 2 ^ 2 - 1 from rfl, Nat.and_two_pow_sub_one_eq_mod]
theorem wi_t {x y : Int32} {n : Nat} (hn : n < 2 ^ 30) (hy : y.toInt = (n : Int) - 1) (h0 : nI 0 ≤ x) (h1 : x ≤ y) : ∃ j, j < n ∧ x = nI j := by
  rw [zn_le] at h0 h1
  have h0 : 0 ≤ x.toInt := h0
  refine ⟨x.toInt.toNat, by omega, ?_⟩
  rw [zn_eq, nI_toInt (by omega)]
  omega
theorem wi_f {x y : Int32} {n : Nat} (hy : y.toInt = (n : Int) - 1) (h : ¬ (nI 0 ≤ x ∧ x ≤ y)) : inb x n = false := by
  rw [zn_le, zn_le] at h
  have h : ¬ (0 ≤ x.toInt ∧ x.toInt ≤ y.toInt) := h
  simp [inb]
  omega
/-- a quarter's step at most towards another -/
def nud (a b : Nat) : Nat := if a = b then a else if (b + 4 - a) % 4 = 3 then (a + 3) % 4 else (a + 1) % 4
/-- where a vane of kind k, twist t, that points at a, points behind a wind w -/
def trn (k t a w : Nat) : Nat := match k with
  | 1 => nud a w
  | 2 => if w = t then a else w
  | 3 => (w + t) % 4
  | 4 => nud a ((w + t) % 4)
  | _ => w
theorem nud_lt {a b : Nat} (ha : a < 4) : nud a b < 4 := by
  unfold nud
  split
  · exact ha
  · split <;> omega
theorem trn_lt {k t a w : Nat} (ha : a < 4) (hw : w < 4) : trn k t a w < 4 := by
  unfold trn
  split
  · exact nud_lt ha
  · split <;> assumption
  · omega
  · exact nud_lt ha
  · exact hw
theorem nud_c : ∀ a, a < 4 → ∀ b, b < 4 → (nI b - nI a &&& nI 3 = nI 2 → nI a + nI 1 &&& nI 3 = nI (nud a b)) ∧ (¬ nI b - nI a &&& nI 3 = nI 2 → nI b = nI (nud a b)) := by decide +kernel