/-! Sets of vanes; oiling on both sides; the best place to ask for. -/
theorem d1_n4 (y : Nat) : n4 (y % 16) = y % 2 + y / 2 % 2 + y / 4 % 2 + y / 8 % 2 := by
  unfold n4
  omega
theorem pc_ct {f : Nat → Bool} : pc (bq 20 (fun k => bn (f k))) = ct f 20 := by
  have hx := bq_lt (c := fun k => bn (f k)) 20
  have hb : ∀ i, i < 20 → bq 20 (fun k => bn (f k)) / 2 ^ i % 2 = bn (f i) := fun i hi => by rw [bq_bit, decide_eq_true hi]; rfl
  generalize bq 20 (fun k => bn (f k)) = x at *
  have st : ∀ n, n + 4 ≤ 20 → ∀ y, y = x / 2 ^ n → ct f n + n4 (y % 16) = ct f (n + 4) := by
    intro n hn y hy
    rw [d1_n4]
    have c0 : y % 2 = bn (f n) := by rw [hy, hb n (by omega)]
    have c1 : y / 2 % 2 = bn (f (n + 1)) := by rw [hy, Nat.div_div_eq_div_mul, ← Nat.pow_succ, hb (n + 1) (by omega)]
    have c2 : y / 4 % 2 = bn (f (n + 2)) := by rw [hy, Nat.div_div_eq_div_mul, show (4 : Nat) = 2 ^ 2 from rfl, ← Nat.pow_add, hb (n + 2) (by omega)]
    have c3 : y / 8 % 2 = bn (f (n + 3)) := by rw [hy, Nat.div_div_eq_div_mul, show (8 : Nat) = 2 ^ 3 from rfl, ← Nat.pow_add, hb (n + 3) (by omega)]
    rw [c0, c1, c2, c3]
    show _ = ct f n + bn (f n) + bn (f (n + 1)) + bn (f (n + 2)) + bn (f (n + 3))
    omega
  have s0 : ct f 0 + n4 (x % 16) = ct f 4 := st 0 (by decide) x (by rw [Nat.pow_zero, Nat.div_one])
  have s1 : ct f 4 + n4 (x / 16 % 16) = ct f 8 := st 4 (by decide) (x / 16) rfl
  have s2 : ct f 8 + n4 (x / 16 / 16 % 16) = ct f 12 := st 8 (by decide) (x / 16 / 16) (by rw [Nat.div_div_eq_div_mul])
  have s3 : ct f 12 + n4 (x / 16 / 16 / 16 % 16) = ct f 16 := st 12 (by decide) (x / 16 / 16 / 16) (by simp only [Nat.div_div_eq_div_mul, Nat.reduceMul, Nat.reducePow])
  have s4 : ct f 16 + n4 (x / 16 / 16 / 16 / 16 % 16) = ct f 20 := st 16 (by decide) (x / 16 / 16 / 16 / 16) (by simp only [Nat.div_div_eq_div_mul, Nat.reduceMul, Nat.reducePow])
  have h4 : x / 16 / 16 / 16 / 16 % 16 = x / 16 / 16 / 16 / 16 := by
    have e : x / 16 / 16 / 16 / 16 = x / 65536 := by simp only [Nat.div_div_eq_div_mul, Nat.reduceMul]
    rw [e]
    omega
  rw [h4] at s4
  have z : ct f 0 = 0 := rfl
  unfold pc
  omega
/-- is a vane in the set -/
def inS (x v : Nat) : Bool := Nat.beq (x / 2 ^ v % 2) 1
theorem pc_16 : ∀ x, x < 16 → pc x = ct (inS x) 4 := by decide +kernel
/-- the fewest (of like ones the least) of the sets below n; 16: none -/
def fw (P : Nat → Bool) : Nat → Nat
  | 0 => 16
  | n + 1 => if (fw P n = 16 ∨ pc n < pc (fw P n)) ∧ P n = true then n else fw P n
theorem fw_lt {P : Nat → Bool} : ∀ n, fw P n < n ∨ fw P n = 16
  | 0 => Or.inr rfl
  | n + 1 => by
    have := fw_lt (P := P) n
    rw [fw]
    split
    · exact Or.inl (Nat.lt_succ_self n)
    · omega
theorem fw_A {P : Nat → Bool} {n : Nat} (h : ¬ ((fw P n = 16 ∨ pc n < pc (fw P n)) ∧ P n = true)) : fw P (n + 1) = fw P n := by
  rw [fw]
  split
  · rename_i h2
    exact absurd h2 h
  · rfl
theorem fw_B {P : Nat → Bool} {n : Nat} (h : (fw P n = 16 ∨ pc n < pc (fw P n)) ∧ P n = true) : fw P (n + 1) = n := by
  rw [fw]
  split
  · rfl
  · rename_i h2
    exact absurd h h2
theorem fw_congr {P P' : Nat → Bool} : ∀ {n}, (∀ x, x < n → P x = P' x) → fw P n = fw P' n
  | 0, _ => rfl
  | n + 1, h => by
    rw [fw, fw, fw_congr (n := n) (fun x hx => h x (by omega)), h n (by omega)]
def bI16 (b : Nat) : Int32 := if b < 16 then nI b else -1
/-- size or set, as asked -/
def soR (b j : Nat) : Int32 := if b = 16 then -1 else if j = 1 then nI b else nI (pc b)
theorem bI16_m {b : Nat} (hb : b ≤ 16) : bI16 b = -1 ↔ b = 16 := by
  unfold bI16
  by_cases h : b < 16
  · rw [if_pos h]; exact ⟨fun e => absurd e (zn_nem (by omega)), fun e => by omega⟩
  · rw [if_neg h]; exact ⟨fun _ => by omega, fun _ => rfl⟩
theorem bI16_n {b : Nat} (hb : b < 16) : bI16 b = nI b := if_pos hb
theorem pc_le : ∀ x, x < 16 → pc x ≤ 4 := by decide +kernel
section OIL
variable {CT : sm_CT} {G : Nat → Nat → Int32} {L : Nat → Nat → Int64} {Q : sm_Q} {S : Nat → Nat → Nat} {h : sm_H}
set_option maxRecDepth 100000 in
set_option maxHeartbeats 4000000 in
theorem s_size (hC : sm_C 1 CT) {x : Nat} (hx : x < 16) (hQ : Q (some (.int (nI (pc x)))) h) : CT 81 [.int (nI x)] h Q := by
  rw [pc_16 x hx] at hQ
  refine sm_meth hC [some (.int (nI x)), none, none] rfl rfl rfl ?_
  have lo : ∀ i, i ≤ 4 → sm_Wk 0 81 Q none 4 [some (.int (nI x)), some (.int (nI (ct (inS x) i))), some (.int (nI i))] [] h := by
    refine up _ (fun i hi ih => ?_)
    have eb : i < 4 → sm_shr (nI x) (nI i) &&& nI 1 = nI (bn (inS x i)) := fun hi => by rw [zn_bit (by omega) (by omega), inS, bn_beq1]
    refine sm_body [4] 40 sm_k81 (fun CT K hC hK => ?_)
    repeat' first
      | (with_reducible refine And.intro ?_ ?_)
      | ((with_reducible intro h9); first | exact absurd h9 (by decide) | (replace h9 := zle (by omega) (by omega) h9) | (replace h9 := znle (by omega) (by omega) h9) | skip)
      | (with_reducible exact zn_in (by omega) (by decide))
      | (with_reducible exact z01) | (with_reducible exact z11) | (with_reducible exact zb01 _)
      | (with_reducible exact zn_inb (by omega) (by decide))
      | (with_reducible exact zn_ina (by omega) (by decide))
      | (with_reducible exact zn_inc (by omega) (by decide))
      | ((conv => whnf); first | (with_reducible refine And.intro ?_ ?_) | ((with_reducible intro h9); first | exact absurd h9 (by decide) | (replace h9 := zle (by omega) (by omega) h9) | (replace h9 := znle (by omega) (by omega) h9) | skip) | (with_reducible refine hK _ _ _ _ (sm_un ?_)))
    · obtain rfl : i = 4 := by omega
      exact hQ
    · simp only [eb ‹_›, nI_add]
      exact ⟨⟨ih ‹_›⟩⟩
  refine sm_body [4] 40 sm_k81 (fun CT K hC hK => ?_)
  repeat' first
    | (with_reducible refine And.intro ?_ ?_)
    | ((with_reducible intro h9); first | exact absurd h9 (by decide) | skip)
    | (with_reducible exact zn_in (by omega) (by decide))
    | (with_reducible exact z01) | (with_reducible exact z11) | (with_reducible exact zb01 _)
    | (with_reducible exact zn_inb (by omega) (by decide))
    | (with_reducible exact zn_ina (by omega) (by decide))
    | (with_reducible exact zn_inc (by omega) (by decide))
    | ((conv => whnf); first | (with_reducible refine And.intro ?_ ?_) | ((with_reducible intro h9); first | exact absurd h9 (by decide) | skip) | (with_reducible refine hK _ _ _ _ (sm_un ?_)))
  exact ⟨⟨lo 0 (Nat.zero_le _)⟩⟩
set_option maxRecDepth 100000 in
set_option maxHeartbeats 4000000 in
theorem s_isFewer (hC : sm_C 2 CT) {x b : Nat} (hx : x < 16) (hb : b ≤ 16) (hQ : Q (some (.int (sm_b (decide (b = 16 ∨ pc x < pc b))))) h) : CT 71 [.int (nI x), .int (bI16 b)] h Q := by
  refine sm_meth hC [some (.int (nI x)), some (.int (bI16 b))] rfl rfl rfl ?_
  refine sm_body [] 40 sm_k71 (fun CT K hC hK => ?_)
  have lx := pc_le x hx
  have lb : ¬ b = 16 → pc b ≤ 4 := fun h => pc_le b (by omega)
  repeat' first
    | (with_reducible refine And.intro ?_ ?_)
    | ((with_reducible intro h9); first | exact absurd h9 (by decide) | (rw [bI16_m hb] at h9) | (replace h9 := zle (by omega) (by omega) h9) | (replace h9 := znle (by omega) (by omega) h9) | skip)
    | (with_reducible exact zn_in (by omega) (by decide))
    | (with_reducible exact z01) | (with_reducible exact z11) | (with_reducible exact zb01 _)
    | (with_reducible exact zn_inb (by omega) (by decide))
    | (with_reducible exact zn_ina (by omega) (by decide))
    | (with_reducible exact zn_inc (by omega) (by decide))
    | ((conv => whnf); first | (with_reducible refine And.intro ?_ ?_) | ((with_reducible intro h9); first | exact absurd h9 (by decide) | (rw [bI16_m hb] at h9) | (replace h9 := zle (by omega) (by omega) h9) | (replace h9 := znle (by omega) (by omega) h9) | skip) | (with_reducible refine hK _ _ _ _ (sm_un ?_)) | (with_reducible refine s_bitCount (hC.mono (by omega)) (by omega) ?_) | (rw [bI16_n (by omega)]; refine s_bitCount (hC.mono (by omega)) (by omega) ?_))
  all_goals have lb := lb
  all_goals first
    | (exact zq (dc_t (Or.inl h9)) hQ)
    | (exact zq (dc_f (fun z => by rcases z with z | z <;> omega)) hQ)
    | (exact zq (dc_t (Or.inr h9)) hQ)
set_option maxRecDepth 100000 in
set_option maxHeartbeats 4000000 in
theorem s_sizeOrSet (hC : sm_C 2 CT) {b j : Nat} (hb : b ≤ 16) (hj : j < 2) (hQ : Q (some (.int (soR b j))) h) : CT 72 [.int (bI16 b), .int (nI j)] h Q := by
  refine sm_meth hC [some (.int (bI16 b)), some (.int (nI j))] rfl rfl rfl ?_
  refine sm_body [] 40 sm_k72 (fun CT K hC hK => ?_)
  unfold soR at hQ
  repeat' first
    | (with_reducible refine And.intro ?_ ?_)
    | ((with_reducible intro h9); first | exact absurd h9 (by decide) | (rw [bI16_m hb] at h9) | skip)
    | (with_reducible exact zn_in (by omega) (by decide))
    | (with_reducible exact z01) | (with_reducible exact z11) | (with_reducible exact zb01 _)
    | (with_reducible exact zn_inb (by omega) (by decide))
    | (with_reducible exact zn_ina (by omega) (by decide))
    | (with_reducible exact zn_inc (by omega) (by decide))
    | ((conv => whnf); first | (with_reducible refine And.intro ?_ ?_) | ((with_reducible intro h9); first | exact absurd h9 (by decide) | (rw [bI16_m hb] at h9) | skip) | (with_reducible refine hK _ _ _ _ (sm_un ?_)) | (rw [bI16_n (by omega)]; refine s_bitCount (hC.mono (by omega)) (by omega) ?_))
  · rw [if_pos ‹b = 16›] at hQ
    refine zq ?_ hQ
    exact (bI16_m hb).mpr ‹b = 16›
  · rw [if_neg ‹¬ b = 16›, if_neg (zneq h9)] at hQ
    exact hQ
  · rw [if_neg ‹¬ b = 16›, if_pos (zeq (by omega) (by omega) h9)] at hQ
    refine zq ?_ hQ
    exact bI16_n (by omega)
set_option maxRecDepth 100000 in
set_option maxHeartbeats 4000000 in
theorem s_pointBy (hC : sm_C 3 CT) (hD : mD S G) (hR : dR S) {v t x : Nat} (hv : v < S 0 1) (ht : t < 4) (hx : x < S 0 0) (hk : ∀ i, i < x + 1 → S 1 i < 4) (hQ : Q (some (.int (nI (pb S v t (x + 1))))) (hp G L)) : CT 126 [.ref 30, .int (nI v), .int (nI t), .int (nI x)] (hp G L) Q := by
  obtain ⟨e1, e2, e3, e4⟩ := hD
  obtain ⟨r1, r2, r3, r4⟩ := hR
  have cv : (nI v).toNatClampNeg = v := nI_clamp (by omega)
  refine sm_meth hC [some (.ref 30), some (.int (nI v)), some (.int (nI t)), some (.int (nI x)), none, none] rfl rfl rfl ?_
  have lo : ∀ i, i ≤ x + 1 → sm_Wk 2 126 Q none 11 [some (.ref 30), some (.int (nI v)), some (.int (nI t)), some (.int (nI x)), some (.int (nI (pb S v t i))), some (.int (nI i))] [] (hp G L) := by
    refine up _ (fun i hi ih => ?_)
    refine sm_body [11] 60 sm_k126 (fun CT K hC hK => ?_)
    repeat' first
      | (with_reducible refine And.intro ?_ ?_)
      | ((with_reducible intro h9); first | exact absurd h9 (by decide) | (replace h9 := zlt (by omega) (by omega) h9) | (replace h9 := znl (by omega) (by omega) h9) | skip)
      | (with_reducible exact zn_in (by omega) (by decide))
      | (with_reducible exact z01) | (with_reducible exact z11) | (with_reducible exact zb01 _)
      | (with_reducible exact zn_inb (by omega) (by decide))
      | (with_reducible exact zn_ina (by omega) (by decide))
      | (with_reducible exact zn_inc (by omega) (by decide))
      | ((conv => whnf); first | (with_reducible refine And.intro ?_ ?_) | ((with_reducible intro h9); first | exact absurd h9 (by decide) | (replace h9 := zlt (by omega) (by omega) h9) | (replace h9 := znl (by omega) (by omega) h9) | skip) | (with_reducible refine hK _ _ _ _ (sm_un ?_)) | (simp only [cv, zn_clI (show i < 2 ^ 31 by omega), (e4 v hv).1, e3 i (show i < S 0 0 by omega), wI_t (hk i (by omega))]; refine s_turnedM (hC.mono (by decide)) (r4 v hv).1 ht (pb_lt (r4 v hv).2.1 i (fun j hj => hk j (by omega))) (hk i (by omega)) ?_))
    all_goals first
      | ((obtain rfl : i = x + 1 := by omega); exact hQ)
      | (simp only [nI_add]; exact ⟨⟨ih (by omega)⟩⟩)
  refine sm_body [11] 40 sm_k126 (fun CT K hC hK => ?_)
  repeat' first
    | (with_reducible refine And.intro ?_ ?_)
    | ((with_reducible intro h9); first | exact absurd h9 (by decide) | skip)
    | (with_reducible exact zn_in (by omega) (by decide))
    | (with_reducible exact z01) | (with_reducible exact z11) | (with_reducible exact zb01 _)
    | (with_reducible exact zn_inb (by omega) (by decide))
    | (with_reducible exact zn_ina (by omega) (by decide))
    | (with_reducible exact zn_inc (by omega) (by decide))
    | ((conv => whnf); first | (with_reducible refine And.intro ?_ ?_) | ((with_reducible intro h9); first | exact absurd h9 (by decide) | skip) | (with_reducible refine hK _ _ _ _ (sm_un ?_)))
  simp only [cv, (e4 v hv).2.1]
  exact ⟨⟨lo 0 (Nat.zero_le _)⟩⟩
set_option maxRecDepth 100000 in
set_option maxHeartbeats 4000000 in
theorem s_isKnownTill (hC : sm_C 1 CT) (hD : mD S G) (hR : dR S) {x : Nat} (hx : x < S 0 0) (hQ : Q (some (.int (sm_b (decide (∀ i, i < x + 1 → S 1 i < 4))))) (hp G L)) : CT 125 [.ref 30, .int (nI x)] (hp G L) Q := by
  obtain ⟨e1, e2, e3, e4⟩ := hD
  obtain ⟨r1, r2, r3, r4⟩ := hR
  refine sm_meth hC [some (.ref 30), some (.int (nI x)), none, none] rfl rfl rfl ?_
  have lo : ∀ i, i ≤ x + 1 → ∀ b, b = decide (∀ j, j < i → S 1 j < 4) → sm_Wk 0 125 Q none 4 [some (.ref 30), some (.int (nI x)), some (.int (sm_b b)), some (.int (nI i))] [] (hp G L) := by
    refine up _ (fun i hi ih b hb => ?_)
    refine sm_body [4] 60 sm_k125 (fun CT K hC hK => ?_)
    have eb : i ≤ x → (G 31 (nI i).toNatClampNeg = -1 ↔ S 1 i = 4) := by
      intro hl
      rw [zn_clI (by omega), e3 i (by omega), wI_m (r3 i (by omega))]
    repeat' first
      | (with_reducible refine And.intro ?_ ?_)
      | ((with_reducible intro h9); first | exact absurd h9 (by decide) | (rw [eb ‹_›] at h9) | (replace h9 := zlt (by omega) (by omega) h9) | (replace h9 := znl (by omega) (by omega) h9) | (replace h9 := sb_f h9) | (replace h9 := sb_t h9) | skip)
      | (with_reducible exact zn_in (by omega) (by decide))
      | (with_reducible exact z01) | (with_reducible exact z11) | (with_reducible exact zb01 _)
      | (with_reducible exact zn_inb (by omega) (by decide))
      | (with_reducible exact zn_ina (by omega) (by decide))
      | (with_reducible exact zn_inc (by omega) (by decide))
      | ((conv => whnf); first | (with_reducible refine And.intro ?_ ?_) | ((with_reducible intro h9); first | exact absurd h9 (by decide) | (rw [eb ‹_›] at h9) | (replace h9 := zlt (by omega) (by omega) h9) | (replace h9 := znl (by omega) (by omega) h9) | (replace h9 := sb_f h9) | (replace h9 := sb_t h9) | skip) | (with_reducible refine hK _ _ _ _ (sm_un ?_)))
    · obtain rfl : i = x + 1 := by omega
      subst hb
      exact hQ
    · simp only [nI_add]; exact ⟨⟨ih (by omega) false (by rw [h9] at hb; refine (decide_eq_false (fun z => ?_)).symm; exact absurd hb.symm (by rw [decide_eq_true (fun k hk => z k (by omega))]; decide))⟩⟩
    · simp only [nI_add]; exact ⟨⟨ih (by omega) false (decide_eq_false (fun z => by have := z i (by omega); omega)).symm⟩⟩
    · have hb' : b = true := ‹b = true›
      rw [hb'] at hb
      have hz := of_decide_eq_true hb.symm
      have hi4 := r3 i (by omega)
      simp only [nI_add]; exact ⟨⟨ih (by omega) true (decide_eq_true (fun k hk => if e : k = i then (by subst e; omega) else hz k (by omega))).symm⟩⟩
  refine sm_body [4] 40 sm_k125 (fun CT K hC hK => ?_)
  repeat' first
    | (with_reducible refine And.intro ?_ ?_)
    | ((with_reducible intro h9); first | exact absurd h9 (by decide) | skip)
    | (with_reducible exact zn_in (by omega) (by decide))
    | (with_reducible exact z01) | (with_reducible exact z11) | (with_reducible exact zb01 _)
    | (with_reducible exact zn_inb (by omega) (by decide))
    | (with_reducible exact zn_ina (by omega) (by decide))
    | (with_reducible exact zn_inc (by omega) (by decide))
    | ((conv => whnf); first | (with_reducible refine And.intro ?_ ?_) | ((with_reducible intro h9); first | exact absurd h9 (by decide) | skip) | (with_reducible refine hK _ _ _ _ (sm_un ?_)))
  exact ⟨⟨lo 0 (Nat.zero_le _) true (decide_eq_true (fun k hk => absurd hk (Nat.not_lt_zero _))).symm⟩⟩
/-- the vane points there, oiled another way -/
def cb (S : Nat → Nat → Nat) (x q v : Nat) : Nat → Bool
  | 0 => false
  | t + 1 => cb S x q v t || (!Nat.beq t (S 4 v) && Nat.beq (pb S v t (x + 1)) q)
set_option maxRecDepth 100000 in
set_option maxHeartbeats 4000000 in
theorem s_canBy (hC : sm_C 4 CT) (hD : mD S G) (hR : dR S) {v x q : Nat} (hv : v < S 0 1) (hx : x < S 0 0) (hq : q < 4) (hk : ∀ i, i < x + 1 → S 1 i < 4) (hQ : Q (some (.int (sm_b (cb S x q v 4)))) (hp G L)) : CT 127 [.ref 30, .int (nI v), .int (nI x), .int (nI q)] (hp G L) Q := by
  obtain ⟨e1, e2, e3, e4⟩ := id hD
  obtain ⟨r1, r2, r3, r4⟩ := id hR
  have cv : (nI v).toNatClampNeg = v := nI_clamp (by omega)
  have h4 := r4 v hv
  refine sm_meth hC [some (.ref 30), some (.int (nI v)), some (.int (nI x)), some (.int (nI q)), none, none] rfl rfl rfl ?_
  have lo : ∀ i, i ≤ 4 → sm_Wk 3 127 Q none 6 [some (.ref 30), some (.int (nI v)), some (.int (nI x)), some (.int (nI q)), some (.int (sm_b (cb S x q v i))), some (.int (nI i))] [] (hp G L) := by
    refine up _ (fun i hi ih => ?_)
    have hp4 := pb_lt (S := S) (v := v) (t := i) h4.2.1 (x + 1) hk
    refine sm_body [6] 60 sm_k127 (fun CT K hC hK => ?_)
    repeat' first
      | (with_reducible refine And.intro ?_ ?_)
      | ((with_reducible intro h9); first | exact absurd h9 (by decide) | (replace h9 := zle (by omega) (by omega) h9) | (replace h9 := znle (by omega) (by omega) h9) | (replace h9 := sb_f h9) | (replace h9 := sb_t h9) | ((rw [cv, (e4 v hv).2.2] at h9; replace h9 := zneq h9)) | ((rw [cv, (e4 v hv).2.2] at h9; replace h9 := zeq (by omega) (by omega) h9)) | (replace h9 := zneq h9) | (replace h9 := zeq (by omega) (by omega) h9) | skip)
      | (with_reducible exact zn_in (by omega) (by decide))
      | (with_reducible exact z01) | (with_reducible exact z11) | (with_reducible exact zb01 _)
      | (with_reducible exact zn_inb (by omega) (by decide))
      | (with_reducible exact zn_ina (by omega) (by decide))
      | (with_reducible exact zn_inc (by omega) (by decide))
      | ((conv => whnf); first | (with_reducible refine And.intro ?_ ?_) | ((with_reducible intro h9); first | exact absurd h9 (by decide) | (replace h9 := zle (by omega) (by omega) h9) | (replace h9 := znle (by omega) (by omega) h9) | (replace h9 := sb_f h9) | (replace h9 := sb_t h9) | ((rw [cv, (e4 v hv).2.2] at h9; replace h9 := zneq h9)) | ((rw [cv, (e4 v hv).2.2] at h9; replace h9 := zeq (by omega) (by omega) h9)) | (replace h9 := zneq h9) | (replace h9 := zeq (by omega) (by omega) h9) | skip) | (with_reducible refine hK _ _ _ _ (sm_un ?_)) | (with_reducible refine s_pointBy (hC.mono (by omega)) hD hR hv ‹_› hx hk ?_))
    · obtain rfl : i = 4 := by omega
      exact hQ
    · have e := ih ‹_›
      rw [cb, h9, Bool.true_or] at e
      simp only [nI_add]; exact ⟨⟨e⟩⟩
    · have e := ih ‹_›
      rw [cb, ‹cb S x q v i = false›, beq_t h9] at e
      simp only [nI_add]; exact ⟨⟨e⟩⟩
    · have e := ih ‹_›
      rw [cb, ‹cb S x q v i = false›, beq_f ‹i ≠ S 4 v›, beq_f h9] at e
      simp only [nI_add]; exact ⟨⟨e⟩⟩
    · have e := ih ‹_›
      rw [cb, ‹cb S x q v i = false›, beq_f ‹i ≠ S 4 v›, beq_t h9] at e
      simp only [nI_add]; exact ⟨⟨e⟩⟩
  refine sm_body [6] 40 sm_k127 (fun CT K hC hK => ?_)
  repeat' first
    | (with_reducible refine And.intro ?_ ?_)
    | ((with_reducible intro h9); first | exact absurd h9 (by decide) | skip)
    | (with_reducible exact zn_in (by omega) (by decide))
    | (with_reducible exact z01) | (with_reducible exact z11) | (with_reducible exact zb01 _)
    | (with_reducible exact zn_inb (by omega) (by decide))
    | (with_reducible exact zn_ina (by omega) (by decide))
    | (with_reducible exact zn_inc (by omega) (by decide))
    | ((conv => whnf); first | (with_reducible refine And.intro ?_ ?_) | ((with_reducible intro h9); first | exact absurd h9 (by decide) | skip) | (with_reducible refine hK _ _ _ _ (sm_un ?_)))
  exact ⟨⟨lo 0 (Nat.zero_le _)⟩⟩
end OIL
