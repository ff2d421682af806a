/-! The other one's methods: all days by their codes. -/
section MODEL
variable {CT : sm_CT} {G : Nat → Nat → Int32} {L : Nat → Nat → Int64} {Q : sm_Q} {S : Nat → Nat → Nat} {h : sm_H}
theorem pred_toInt {n : Nat} (hn : n < 2 ^ 30) : (nI n - nI 1).toInt = (n : Int) - 1 := pk_sub_toInt hn (by decide)
theorem nc_le {S : Nat → Nat → Nat} (hR : dR S) : nc S ≤ 4096 := by
  have hu := ct_le (P := fun h => Nat.beq (S 1 h) 4) (S 0 0)
  have r1 := hR.1
  have : nc S ≤ 4 ^ 6 := Nat.pow_le_pow_right (by decide) (by omega)
  omega
theorem wd_lt {S : Nat → Nat → Nat} (hR : dR S) (c i : Nat) : wd S c i < 4 := by
  unfold wd
  split
  · rename_i hi
    have := hR.2.2.1 i hi
    cases hb : Nat.beq (S 1 i) 4 with
    | true => show _ % 4 < 4; omega
    | false => have := Nat.ne_of_beq_eq_false hb; show S 1 i < 4; omega
  · decide
theorem rm_le {S : Nat → Nat → Nat} {c : Nat} : ∀ h, rm S c h ≤ c
  | 0 => Nat.le_refl _
  | h + 1 => by
    have := rm_le (S := S) (c := c) h
    rw [rm]
    cases Nat.beq (S 1 h) 4
    · exact this
    · show rm S c h / 4 ≤ c; omega
theorem bq_step {c : Nat → Nat} {p : Nat} (hp : p < 4) : bq 4 c ||| 2 ^ p = bq 4 (fun q => c q + bn (Nat.beq p q)) := by
  have key : ∀ b0 b1 b2 b3 : Bool, ∀ p, p < 4 → (cond b0 1 0 + cond b1 2 0 + cond b2 4 0 + cond b3 8 0) ||| 2 ^ p = (cond (b0 || Nat.beq p 0) 1 0 + cond (b1 || Nat.beq p 1) 2 0 + cond (b2 || Nat.beq p 2) 4 0 + cond (b3 || Nat.beq p 3) 8 0) := by decide
  have e1 : ∀ c : Nat → Nat, bq 4 c = cond (decide (0 < c 0)) 1 0 + cond (decide (0 < c 1)) 2 0 + cond (decide (0 < c 2)) 4 0 + cond (decide (0 < c 3)) 8 0 := by
    intro c
    simp only [bq, Nat.zero_add]
    by_cases h0 : 0 < c 0 <;> by_cases h1 : 0 < c 1 <;> by_cases h2 : 0 < c 2 <;> by_cases h3 : 0 < c 3 <;> simp [h0, h1, h2, h3]
  have e2 : ∀ q, decide (0 < c q + bn (Nat.beq p q)) = (decide (0 < c q) || Nat.beq p q) := by
    intro q
    cases Nat.beq p q with
    | true => rw [bn_t rfl]; simp
    | false => rw [bn_f rfl]; simp
  rw [e1, e1, key _ _ _ _ p hp]
  simp only [e2]
theorem aAll_codes {S : Nat → Nat → Nat} (hR : dR S) : aAll S = sg (nc S) (fun c => bn (ft S (wd S c))) := by
  unfold aAll
  rw [cnt_codes hR]
  apply sg_congr
  intro c _
  rw [Bool.and_true]
end MODEL
