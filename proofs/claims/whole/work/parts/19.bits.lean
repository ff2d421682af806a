/-! Bits counted; the fewest of a kind of sets. -/
theorem and16 (p q r s : Nat) (hp : p < 16) (hr : r < 16) : (p + 16 * q) &&& (r + 16 * s) = (p &&& r) + 16 * (q &&& s) := by
  have h1 : ((p + 16 * q) &&& (r + 16 * s)) / 2 ^ 4 = q &&& s := by
    rw [Nat.and_div_two_pow]
    congr 1 <;> omega
  have h2 : ((p + 16 * q) &&& (r + 16 * s)) % 2 ^ 4 = p &&& r := by
    rw [Nat.and_mod_two_pow]
    congr 1 <;> omega
  omega
def n4 (y : Nat) : Nat := y % 2 + y / 2 % 2 + y / 4 % 2 + y / 8 % 2
/-- how many bits, of 20 -/
def pc (x : Nat) : Nat := n4 (x % 16) + n4 (x / 16 % 16) + n4 (x / 16 / 16 % 16) + n4 (x / 16 / 16 / 16 % 16) + n4 (x / 16 / 16 / 16 / 16)
theorem bn_beq1 (x : Nat) : bn (Nat.beq (x % 2) 1) = x % 2 := by
  have : x % 2 = 0 ∨ x % 2 = 1 := by omega
  rcases this with h | h <;> rw [h] <;> rfl
theorem jb_1 : ∀ n, n < 16 → ∀ b, b < 2 → (n / 2 + 8 * b) &&& 5 = (n / 2) &&& 5 := by decide
theorem jb_2 : ∀ n, n < 16 → ∀ b, b < 4 → (n / 4 + 4 * b) &&& 3 = (n / 4) &&& 3 := by decide
theorem jb_3 : ∀ n, n < 16 → (n / 2) &&& 5 ≤ n := by decide
theorem jb_4 : ∀ n, n < 16 → ((n - ((n / 2) &&& 5)) &&& 3) + (((n - ((n / 2) &&& 5)) / 4) &&& 3) = n4 n := by decide
theorem jb_5 : ∀ n, n < 16 → (n / 2) &&& 21845 = (n / 2) &&& 5 := by decide
theorem jb_6 : ∀ n, n < 16 → n &&& 13107 = n &&& 3 ∧ (n / 4) &&& 13107 = (n / 4) &&& 3 := by decide
theorem jb_a (n0 n1 n2 n3 m4 : Nat) (h0 : n0 < 16) (h1 : n1 < 16) (h2 : n2 < 16) (h3 : n3 < 16) (h4 : m4 < 16) : (n0 + 16 * (n1 + 16 * (n2 + 16 * (n3 + 16 * m4)))) / 2 &&& 1431655765 = ((n0 / 2) &&& 5) + 16 * (((n1 / 2) &&& 5) + 16 * (((n2 / 2) &&& 5) + 16 * (((n3 / 2) &&& 5) + 16 * ((m4 / 2) &&& 5)))) := by
  have e : (n0 + 16 * (n1 + 16 * (n2 + 16 * (n3 + 16 * m4)))) / 2 = (n0 / 2 + 8 * (n1 % 2)) + 16 * ((n1 / 2 + 8 * (n2 % 2)) + 16 * ((n2 / 2 + 8 * (n3 % 2)) + 16 * ((n3 / 2 + 8 * (m4 % 2)) + 16 * (m4 / 2)))) := by omega
  have em : (1431655765 : Nat) = 5 + 16 * (5 + 16 * (5 + 16 * (5 + 16 * 21845))) := by decide
  rw [e, em, and16 _ _ _ _ (by omega) (by omega), and16 _ _ _ _ (by omega) (by omega), and16 _ _ _ _ (by omega) (by omega), and16 _ _ _ _ (by omega) (by omega)]
  rw [jb_1 n0 h0 _ (by omega), jb_1 n1 h1 _ (by omega), jb_1 n2 h2 _ (by omega), jb_1 n3 h3 _ (by omega), jb_5 m4 h4]
theorem jb_b (a0 a1 a2 a3 a4 : Nat) (h0 : a0 < 16) (h1 : a1 < 16) (h2 : a2 < 16) (h3 : a3 < 16) (h4 : a4 < 16) : (a0 + 16 * (a1 + 16 * (a2 + 16 * (a3 + 16 * a4)))) &&& 858993459 = (a0 &&& 3) + 16 * ((a1 &&& 3) + 16 * ((a2 &&& 3) + 16 * ((a3 &&& 3) + 16 * (a4 &&& 3)))) := by
  have em : (858993459 : Nat) = 3 + 16 * (3 + 16 * (3 + 16 * (3 + 16 * 13107))) := by decide
  rw [em, and16 _ _ _ _ (by omega) (by omega), and16 _ _ _ _ (by omega) (by omega), and16 _ _ _ _ (by omega) (by omega), and16 _ _ _ _ (by omega) (by omega), (jb_6 a4 h4).1]
theorem jb_c (a0 a1 a2 a3 a4 : Nat) (h0 : a0 < 16) (h1 : a1 < 16) (h2 : a2 < 16) (h3 : a3 < 16) (h4 : a4 < 16) : ((a0 + 16 * (a1 + 16 * (a2 + 16 * (a3 + 16 * a4)))) / 4) &&& 858993459 = ((a0 / 4) &&& 3) + 16 * (((a1 / 4) &&& 3) + 16 * (((a2 / 4) &&& 3) + 16 * (((a3 / 4) &&& 3) + 16 * ((a4 / 4) &&& 3)))) := by
  have e : (a0 + 16 * (a1 + 16 * (a2 + 16 * (a3 + 16 * a4)))) / 4 = (a0 / 4 + 4 * (a1 % 4)) + 16 * ((a1 / 4 + 4 * (a2 % 4)) + 16 * ((a2 / 4 + 4 * (a3 % 4)) + 16 * ((a3 / 4 + 4 * (a4 % 4)) + 16 * (a4 / 4)))) := by omega
  have em : (858993459 : Nat) = 3 + 16 * (3 + 16 * (3 + 16 * (3 + 16 * 13107))) := by decide
  rw [e, em, and16 _ _ _ _ (by omega) (by omega), and16 _ _ _ _ (by omega) (by omega), and16 _ _ _ _ (by omega) (by omega), and16 _ _ _ _ (by omega) (by omega), (jb_6 a4 h4).2]
  rw [jb_2 a0 h0 _ (by omega), jb_2 a1 h1 _ (by omega), jb_2 a2 h2 _ (by omega), jb_2 a3 h3 _ (by omega)]
theorem jb_d (q0 q1 q2 q3 q4 : Nat) (h0 : q0 ≤ 4) (h1 : q1 ≤ 4) (h2 : q2 ≤ 4) (h3 : q3 ≤ 4) (h4 : q4 ≤ 4) : (q0 + 16 * (q1 + 16 * (q2 + 16 * (q3 + 16 * q4))) + (q0 + 16 * (q1 + 16 * (q2 + 16 * (q3 + 16 * q4)))) / 16) &&& 252645135 = (q0 + q1) + 256 * ((q2 + q3) + 256 * q4) := by
  have e : q0 + 16 * (q1 + 16 * (q2 + 16 * (q3 + 16 * q4))) + (q0 + 16 * (q1 + 16 * (q2 + 16 * (q3 + 16 * q4)))) / 16 = (q0 + q1) + 16 * ((q1 + q2) + 16 * ((q2 + q3) + 16 * ((q3 + q4) + 16 * q4))) := by omega
  have em : (252645135 : Nat) = 15 + 16 * (0 + 16 * (15 + 16 * (0 + 16 * 3855))) := by decide
  have k1 : ∀ n, n < 16 → n &&& 15 = n := by decide
  have k2 : ∀ n, n < 16 → n &&& 0 = 0 := by decide
  have k3 : ∀ n, n < 16 → n &&& 3855 = n := by decide
  rw [e, em, and16 _ _ _ _ (by omega) (by omega), and16 _ _ _ _ (by omega) (by omega), and16 _ _ _ _ (by omega) (by omega), and16 _ _ _ _ (by omega) (by omega)]
  rw [k1 _ (by omega), k1 _ (by omega), k2 _ (by omega), k2 _ (by omega), k3 _ (by omega)]
  omega
theorem jb_e (q0 q1 q2 q3 q4 c : Nat) (h0 : q0 ≤ 4) (h1 : q1 ≤ 4) (h2 : q2 ≤ 4) (h3 : q3 ≤ 4) (h4 : q4 ≤ 4) (hc : c = (q0 + q1) + 256 * ((q2 + q3) + 256 * q4)) : ((c + c / 256) + (c + c / 256) / 65536) &&& 63 = q0 + q1 + q2 + q3 + q4 := by
  rw [show (63 : Nat) = 2 ^ 6 - 1 by decide, Nat.and_two_pow_sub_one_eq_mod]
  have e1 : c / 256 = (q2 + q3) + 256 * q4 := by omega
  rw [e1]
  have e2 : (c + ((q2 + q3) + 256 * q4)) / 65536 = q4 := by omega
  rw [e2]
  omega
def jb1 (x : Nat) : Nat := x - ((x / 2) &&& 1431655765)
def jb2 (a : Nat) : Nat := (a &&& 858993459) + ((a / 4) &&& 858993459)
def jb3 (b : Nat) : Nat := (b + b / 16) &&& 252645135
def jb4 (c : Nat) : Nat := ((c + c / 256) + (c + c / 256) / 65536) &&& 63
theorem jb_n (n0 n1 n2 n3 m4 : Nat) (h0 : n0 < 16) (h1 : n1 < 16) (h2 : n2 < 16) (h3 : n3 < 16) (h4 : m4 < 16) :
    jb4 (jb3 (jb2 (jb1 (n0 + 16 * (n1 + 16 * (n2 + 16 * (n3 + 16 * m4))))))) = n4 n0 + n4 n1 + n4 n2 + n4 n3 + n4 m4 := by
  have e1 : jb1 (n0 + 16 * (n1 + 16 * (n2 + 16 * (n3 + 16 * m4)))) = (n0 - ((n0 / 2) &&& 5)) + 16 * ((n1 - ((n1 / 2) &&& 5)) + 16 * ((n2 - ((n2 / 2) &&& 5)) + 16 * ((n3 - ((n3 / 2) &&& 5)) + 16 * (m4 - ((m4 / 2) &&& 5))))) := by
    have l0 := jb_3 n0 h0
    have l1 := jb_3 n1 h1
    have l2 := jb_3 n2 h2
    have l3 := jb_3 n3 h3
    have l4 := jb_3 m4 h4
    rw [jb1, jb_a n0 n1 n2 n3 m4 h0 h1 h2 h3 h4]
    omega
  have e2 : ∀ a0 a1 a2 a3 a4, a0 < 16 → a1 < 16 → a2 < 16 → a3 < 16 → a4 < 16 → jb2 (a0 + 16 * (a1 + 16 * (a2 + 16 * (a3 + 16 * a4)))) = ((a0 &&& 3) + ((a0 / 4) &&& 3)) + 16 * (((a1 &&& 3) + ((a1 / 4) &&& 3)) + 16 * (((a2 &&& 3) + ((a2 / 4) &&& 3)) + 16 * (((a3 &&& 3) + ((a3 / 4) &&& 3)) + 16 * ((a4 &&& 3) + ((a4 / 4) &&& 3))))) := by
    intro a0 a1 a2 a3 a4 k0 k1 k2 k3 k4
    rw [jb2, jb_b a0 a1 a2 a3 a4 k0 k1 k2 k3 k4, jb_c a0 a1 a2 a3 a4 k0 k1 k2 k3 k4]
    omega
  rw [e1, e2 _ _ _ _ _ (by omega) (by omega) (by omega) (by omega) (by omega), jb_4 n0 h0, jb_4 n1 h1, jb_4 n2 h2, jb_4 n3 h3, jb_4 m4 h4]
  have e3 : ∀ q0 q1 q2 q3 q4, q0 ≤ 4 → q1 ≤ 4 → q2 ≤ 4 → q3 ≤ 4 → q4 ≤ 4 → jb4 (jb3 (q0 + 16 * (q1 + 16 * (q2 + 16 * (q3 + 16 * q4))))) = q0 + q1 + q2 + q3 + q4 := by
    intro q0 q1 q2 q3 q4 k0 k1 k2 k3 k4
    exact jb_e q0 q1 q2 q3 q4 _ k0 k1 k2 k3 k4 (jb_d q0 q1 q2 q3 q4 k0 k1 k2 k3 k4)
  have l4 : ∀ y, n4 y ≤ 4 := fun y => by unfold n4; omega
  exact e3 _ _ _ _ _ (l4 _) (l4 _) (l4 _) (l4 _) (l4 _)
theorem jb_pc {x : Nat} (hx : x < 1048576) : jb4 (jb3 (jb2 (jb1 x))) = pc x := by
  have h0 := Nat.mod_add_div x 16
  have h1 := Nat.mod_add_div (x / 16) 16
  have h2 := Nat.mod_add_div (x / 16 / 16) 16
  have h3 := Nat.mod_add_div (x / 16 / 16 / 16) 16
  have h4 : x / 16 / 16 / 16 / 16 < 16 := by
    have e : x / 16 / 16 / 16 / 16 = x / 65536 := by simp only [Nat.div_div_eq_div_mul, Nat.reduceMul]
    rw [e]
    omega
  have hm : ∀ y : Nat, y % 16 < 16 := fun y => Nat.mod_lt _ (by decide)
  have e := jb_n (x % 16) (x / 16 % 16) (x / 16 / 16 % 16) (x / 16 / 16 / 16 % 16) (x / 16 / 16 / 16 / 16) (hm _) (hm _) (hm _) (hm _) h4
  rw [h3, h2, h1, h0] at e
  exact e
theorem zn_ushr {a s : Nat} (ha : a < 2 ^ 32) (hs : s < 32) : sm_ushr (nI a) (nI s) = nI (a / 2 ^ s) := by
  have h1 : (((nI s).toUInt32 &&& Int32.toUInt32 31).toBitVec % 32).toNat = s := by
    have : ∀ s, s < 32 → (((nI s).toUInt32 &&& Int32.toUInt32 31).toBitVec % 32).toNat = s := by decide +kernel
    exact this s hs
  exact pk_ushrN ha _ s h1
theorem jI_1 {x : Nat} (hx : x < 1048576) : nI x - (sm_ushr (nI x) (nI 1) &&& nI 1431655765) = nI (jb1 x) := by
  have a1 := Nat.and_le_left (n := x / 2) (m := 1431655765)
  have a2 : x / 2 ^ 1 = x / 2 := rfl
  rw [zn_ushr (by omega) (by omega), zn_and, a2, pk_sub (by omega)]
  rfl
theorem jI_2 {a : Nat} (ha : a < 1048576) : (nI a &&& nI 858993459) + (sm_ushr (nI a) (nI 2) &&& nI 858993459) = nI (jb2 a) := by
  have a2 : a / 2 ^ 2 = a / 4 := rfl
  rw [zn_ushr (by omega) (by omega), zn_and, zn_and, a2, nI_add]
  rfl
theorem jI_3 {b : Nat} (hb : b < 2097152) : (nI b + sm_ushr (nI b) (nI 4)) &&& nI 252645135 = nI (jb3 b) := by
  have a2 : b / 2 ^ 4 = b / 16 := rfl
  rw [zn_ushr (by omega) (by omega), nI_add, zn_and, a2]
  rfl
theorem jI_4 {c : Nat} (hc : c < 4194304) : nI c + sm_ushr (nI c) (nI 8) = nI (c + c / 256) := by
  have a2 : c / 2 ^ 8 = c / 256 := rfl
  rw [zn_ushr (by omega) (by omega), nI_add, a2]
theorem jI_5 {d : Nat} (hd : d < 8388608) : nI d + sm_ushr (nI d) (nI 16) = nI (d + d / 65536) := by
  have a2 : d / 2 ^ 16 = d / 65536 := rfl
  rw [zn_ushr (by omega) (by omega), nI_add, a2]
theorem jb1_le (x : Nat) : jb1 x ≤ x := Nat.sub_le _ _
theorem jb2_le (x : Nat) : jb2 x ≤ 2 * x := by
  have h1 := Nat.and_le_left (n := x) (m := 858993459)
  have h2 := Nat.and_le_left (n := x / 4) (m := 858993459)
  unfold jb2
  omega
theorem jb3_le (x : Nat) : jb3 x ≤ 2 * x := by
  have h1 := Nat.and_le_left (n := x + x / 16) (m := 252645135)
  unfold jb3
  omega
section BITS
variable {CT : sm_CT} {G : Nat → Nat → Int32} {L : Nat → Nat → Int64} {Q : sm_Q} {S : Nat → Nat → Nat} {h : sm_H}
set_option maxRecDepth 100000 in
set_option maxHeartbeats 4000000 in
theorem s_bitCount (hC : sm_C 1 CT) {x : Nat} (hx : x < 1048576) (hQ : Q (some (.int (nI (pc x)))) h) : CT 141 [.int (nI x)] h Q := by
  rw [← jb_pc hx] at hQ
  have l1 := jb1_le x
  have l2 := jb2_le (jb1 x)
  have l3 := jb3_le (jb2 (jb1 x))
  refine sm_meth hC [some (.int (nI x))] rfl rfl rfl ?_
  have w5 : sm_Wk 0 141 Q none 41 [some (.int (nI (jb3 (jb2 (jb1 x)) + jb3 (jb2 (jb1 x)) / 256)))] [] h := by
    refine sm_body [48] 40 sm_k141 (fun CT K hC hK => ?_)
    repeat' first
      | (with_reducible refine And.intro ?_ ?_)
      | ((with_reducible intro h9); first | exact absurd h9 (by decide) | skip)
      | (with_reducible exact zn_in (by omega) (by decide))
      | (with_reducible exact z01) | (with_reducible exact z11) | (with_reducible exact zb01 _)
      | (with_reducible exact zn_inb (by omega) (by decide))
      | (with_reducible exact zn_ina (by omega) (by decide))
      | (with_reducible exact zn_inc (by omega) (by decide))
      | ((conv => whnf); first | (with_reducible refine And.intro ?_ ?_) | ((with_reducible intro h9); first | exact absurd h9 (by decide) | skip) | (with_reducible refine hK _ _ _ _ (sm_un ?_)))
    rw [jI_5 (by omega)]
    refine ⟨⟨?_⟩⟩
    refine sm_body [] 40 sm_k141 (fun CT K hC hK => ?_)
    repeat' first
      | (with_reducible refine And.intro ?_ ?_)
      | ((with_reducible intro h9); first | exact absurd h9 (by decide) | skip)
      | (with_reducible exact zn_in (by omega) (by decide))
      | (with_reducible exact z01) | (with_reducible exact z11) | (with_reducible exact zb01 _)
      | (with_reducible exact zn_inb (by omega) (by decide))
      | (with_reducible exact zn_ina (by omega) (by decide))
      | (with_reducible exact zn_inc (by omega) (by decide))
      | ((conv => whnf); first | (with_reducible refine And.intro ?_ ?_) | ((with_reducible intro h9); first | exact absurd h9 (by decide) | skip) | (with_reducible refine hK _ _ _ _ (sm_un ?_)))
    refine zq ?_ hQ
    rw [zn_and]
    rfl
  have w4 : sm_Wk 0 141 Q none 34 [some (.int (nI (jb3 (jb2 (jb1 x)))))] [] h := by
    refine sm_body [41] 40 sm_k141 (fun CT K hC hK => ?_)
    repeat' first
      | (with_reducible refine And.intro ?_ ?_)
      | ((with_reducible intro h9); first | exact absurd h9 (by decide) | skip)
      | (with_reducible exact zn_in (by omega) (by decide))
      | (with_reducible exact z01) | (with_reducible exact z11) | (with_reducible exact zb01 _)
      | (with_reducible exact zn_inb (by omega) (by decide))
      | (with_reducible exact zn_ina (by omega) (by decide))
      | (with_reducible exact zn_inc (by omega) (by decide))
      | ((conv => whnf); first | (with_reducible refine And.intro ?_ ?_) | ((with_reducible intro h9); first | exact absurd h9 (by decide) | skip) | (with_reducible refine hK _ _ _ _ (sm_un ?_)))
    rw [jI_4 (by omega)]
    exact ⟨⟨w5⟩⟩
  have w3 : sm_Wk 0 141 Q none 24 [some (.int (nI (jb2 (jb1 x))))] [] h := by
    refine sm_body [34] 40 sm_k141 (fun CT K hC hK => ?_)
    repeat' first
      | (with_reducible refine And.intro ?_ ?_)
      | ((with_reducible intro h9); first | exact absurd h9 (by decide) | skip)
      | (with_reducible exact zn_in (by omega) (by decide))
      | (with_reducible exact z01) | (with_reducible exact z11) | (with_reducible exact zb01 _)
      | (with_reducible exact zn_inb (by omega) (by decide))
      | (with_reducible exact zn_ina (by omega) (by decide))
      | (with_reducible exact zn_inc (by omega) (by decide))
      | ((conv => whnf); first | (with_reducible refine And.intro ?_ ?_) | ((with_reducible intro h9); first | exact absurd h9 (by decide) | skip) | (with_reducible refine hK _ _ _ _ (sm_un ?_)))
    rw [jI_3 (by omega)]
    exact ⟨⟨w4⟩⟩
  have w2 : sm_Wk 0 141 Q none 10 [some (.int (nI (jb1 x)))] [] h := by
    refine sm_body [24] 40 sm_k141 (fun CT K hC hK => ?_)
    repeat' first
      | (with_reducible refine And.intro ?_ ?_)
      | ((with_reducible intro h9); first | exact absurd h9 (by decide) | skip)
      | (with_reducible exact zn_in (by omega) (by decide))
      | (with_reducible exact z01) | (with_reducible exact z11) | (with_reducible exact zb01 _)
      | (with_reducible exact zn_inb (by omega) (by decide))
      | (with_reducible exact zn_ina (by omega) (by decide))
      | (with_reducible exact zn_inc (by omega) (by decide))
      | ((conv => whnf); first | (with_reducible refine And.intro ?_ ?_) | ((with_reducible intro h9); first | exact absurd h9 (by decide) | skip) | (with_reducible refine hK _ _ _ _ (sm_un ?_)))
    rw [jI_2 (by omega)]
    exact ⟨⟨w3⟩⟩
  refine sm_body [10] 40 sm_k141 (fun CT K hC hK => ?_)
  repeat' first
    | (with_reducible refine And.intro ?_ ?_)
    | ((with_reducible intro h9); first | exact absurd h9 (by decide) | skip)
    | (with_reducible exact zn_in (by omega) (by decide))
    | (with_reducible exact z01) | (with_reducible exact z11) | (with_reducible exact zb01 _)
    | (with_reducible exact zn_inb (by omega) (by decide))
    | (with_reducible exact zn_ina (by omega) (by decide))
    | (with_reducible exact zn_inc (by omega) (by decide))
    | ((conv => whnf); first | (with_reducible refine And.intro ?_ ?_) | ((with_reducible intro h9); first | exact absurd h9 (by decide) | skip) | (with_reducible refine hK _ _ _ _ (sm_un ?_)))
  rw [jI_1 (by omega)]
  exact ⟨⟨w2⟩⟩
end BITS
