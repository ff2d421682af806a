/-! The other one's points, blows, parts, ask. -/
def cpt (S : Nat → Nat → Nat) (v h q i : Nat) : Nat := sg i (fun c => bn (ft S (wd S c) && Nat.beq (ps S (wd S c) v (h + 1)) q))
def cbl (S : Nat → Nat → Nat) (h q i : Nat) : Nat := sg i (fun c => bn (ft S (wd S c) && Nat.beq (wd S c h) q))
theorem aPt_codes {S : Nat → Nat → Nat} (hR : dR S) {v h q : Nat} : aPt S v h q = cpt S v h q (nc S) := cnt_codes hR _
theorem aBl_codes {S : Nat → Nat → Nat} (hR : dR S) {h q : Nat} : aBl S h q = cbl S h q (nc S) := cnt_codes hR _
theorem cpt_t {S : Nat → Nat → Nat} {v h q i : Nat} (e : ft S (wd S i) = true) : cpt S v h q (i + 1) = cpt S v h q i + bn (Nat.beq (ps S (wd S i) v (h + 1)) q) := by
  show _ + bn (_ && _) = _
  rw [e]
  rfl
theorem cpt_f {S : Nat → Nat → Nat} {v h q i : Nat} (e : ft S (wd S i) = false) : cpt S v h q (i + 1) = cpt S v h q i := by
  show _ + bn (_ && _) = _
  rw [e]
  rfl
theorem cbl_t {S : Nat → Nat → Nat} {h q i : Nat} (e : ft S (wd S i) = true) : cbl S h q (i + 1) = cbl S h q i + bn (Nat.beq (wd S i h) q) := by
  show _ + bn (_ && _) = _
  rw [e]
  rfl
theorem cbl_f {S : Nat → Nat → Nat} {h q i : Nat} (e : ft S (wd S i) = false) : cbl S h q (i + 1) = cbl S h q i := by
  show _ + bn (_ && _) = _
  rw [e]
  rfl
theorem ps_lt4 {S : Nat → Nat → Nat} (hR : dR S) {v : Nat} (hv : v < S 0 1) (c i : Nat) : ps S (wd S c) v i < 4 := ps_lt (hR.2.2.2 v hv).2.1 i (fun j _ => wd_lt hR c j)
