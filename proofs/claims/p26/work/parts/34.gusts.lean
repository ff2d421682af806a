/-! gusts: both sides. -/
theorem zl_and (a b : Nat) : lN a &&& lN b = lN (a &&& b) := by
  apply Int64.toBitVec_inj.1
  show BitVec.ofNat 64 a &&& BitVec.ofNat 64 b = BitVec.ofNat 64 (a &&& b)
  apply BitVec.eq_of_getLsbD_eq
  intro i hi
  simp [hi]
def ns (s : Nat) : Nat := (1103515245 * s + 12345) % 2147483648
theorem ns_lt (s : Nat) : ns s < 2147483648 := Nat.mod_lt _ (by decide)
theorem and31 (x : Nat) : x &&& 2147483647 = x % 2147483648 := Nat.and_two_pow_sub_one_eq_mod x 31
theorem ns_i (s : Nat) : nI 1103515245 * nI s + nI 12345 &&& nI 2147483647 = nI (ns s) := by
  rw [pk_mul, nI_add, zn_and, and31]
  rfl
theorem ns_l (s : Nat) : lN 1103515245 * lN s + lN 12345 &&& lN 2147483647 = lN (ns s) := by
  rw [lN_mul, lN_add, zl_and, and31]
  rfl
/-- the seed behind h hours -/
def sd (S : Nat → Nat → Nat) (s : Nat) : Nat → Nat
  | 0 => s
  | h + 1 => cond (Nat.beq (S 1 h) 4) (ns (sd S s h)) (sd S s h)
def gw (S : Nat → Nat → Nat) (s h : Nat) : Nat := cond (Nat.beq (S 1 h) 4) (ns (sd S s h) / 65536 % 4) (S 1 h)
def hitq (S : Nat → Nat → Nat) (s h : Nat) : Bool := decide (S 0 1 < 2 * ct (fun v => Nat.beq (ps S (gw S s) v (h + 1)) (gw S s h)) (S 0 1))
/-- the seed behind d days -/
def sdd (S : Nat → Nat → Nat) (s : Nat) : Nat → Nat
  | 0 => s
  | d + 1 => sd S (sdd S s d) (S 0 0)
def hits (S : Nat → Nat → Nat) (s : Nat) : Nat → Nat
  | 0 => 0
  | d + 1 => hits S s d + ct (hitq S (sdd S s d)) (S 0 0)
theorem sd_lt {S : Nat → Nat → Nat} {s : Nat} (h : s < 2147483648) : ∀ k, sd S s k < 2147483648
  | 0 => h
  | k + 1 => by
    rw [sd]
    cases Nat.beq (S 1 k) 4
    · exact sd_lt h k
    · exact ns_lt _
theorem sdd_lt {S : Nat → Nat → Nat} {s : Nat} (h : s < 2147483648) : ∀ k, sdd S s k < 2147483648
  | 0 => h
  | k + 1 => sd_lt (sdd_lt h k) _
theorem gw_lt {S : Nat → Nat → Nat} (hR : dR S) {s h : Nat} (hh : h < S 0 0) : gw S s h < 4 := by
  unfold gw
  have := hR.2.2.1 h hh
  cases hb : Nat.beq (S 1 h) 4 with
  | true => show _ % 4 < 4; omega
  | false => have := Nat.ne_of_beq_eq_false hb; show S 1 h < 4; omega
theorem hits_le {S : Nat → Nat → Nat} {s : Nat} (h6 : S 0 0 ≤ 6) : ∀ d, hits S s d ≤ 6 * d
  | 0 => Nat.le_refl 0
  | d + 1 => by
    have h1 := hits_le (s := s) h6 d
    have h2 := ct_le (P := hitq S (sdd S s d)) (S 0 0)
    rw [hits]
    omega
theorem o_in {x : Int32} {n : Nat} (hn : n < 2 ^ 20) (h0 : ¬ x < nI 0) (h1 : x ≤ nI n) : inb x (n + 1) = true := by
  obtain ⟨j, hj, e⟩ := wi_t (x := x) (y := nI n) (n := n + 1) (by omega) (by rw [nI_toInt (by omega)]; omega) (Int32.not_lt.mp h0) h1
  rw [e]
  exact inb_n hj (by omega)
section GUSTS
variable {CT : sm_CT} {G : Nat → Nat → Int32} {L : Nat → Nat → Int64} {Q : sm_Q} {S : Nat → Nat → Nat} {c : Nat} {h : sm_H}
set_option maxRecDepth 100000 in
set_option maxHeartbeats 4000000 in
theorem s_nextSeed (hC : sm_C 1 CT) {s : Nat} (hQ : Q (some (.int (nI (ns s)))) h) : CT 77 [.int (nI s)] h Q := by
  refine sm_meth hC [some (.int (nI s))] rfl rfl rfl ?_
  refine sm_body [] 80 sm_k77 (fun CT K hC hK => ?_)
  rw [← ns_i] at hQ
  repeat' first
    | (with_reducible refine And.intro ?_ ?_)
    | ((with_reducible intro h9); first | exact absurd h9 (by decide) | skip)
    | (with_reducible exact zn_in (by omega) (by decide))
    | (with_reducible exact z01) | (with_reducible exact z11) | (with_reducible exact zb01 _)
    | (with_reducible exact zn_inb (by omega) (by decide))
    | (with_reducible exact zn_ina (by omega) (by decide))
    | (with_reducible exact zn_inc (by omega) (by decide))
    | ((conv => whnf); first | (with_reducible refine And.intro ?_ ?_) | ((with_reducible intro h9); first | exact absurd h9 (by decide) | skip) | (with_reducible refine hK _ _ _ _ (sm_un ?_)))
  exact hQ
def okG (x y z : Int32) : Prop := nI 1 ≤ x ∧ x ≤ nI 40 ∧ nI 0 ≤ y ∧ inb z 2 = true
def A_gusts (S : Nat → Nat → Nat) (x y z : Int32) : Int32 := if nI 1 ≤ x ∧ x ≤ nI 40 ∧ nI 0 ≤ y ∧ inb z 2 = true then (if S 0 0 = 0 then -103 else nI (if z.toNatClampNeg = 0 then hits S y.toNatClampNeg x.toNatClampNeg else sdd S y.toNatClampNeg x.toNatClampNeg)) else -102
set_option maxRecDepth 100000 in
set_option maxHeartbeats 4000000 in
theorem f_gusts (hC : sm_C 5 CT) (hR : RS c S) (hI : Ic S G) {x y z : Int32} (hQ : Q (some (.int (A_gusts S x y z))) (hp G L)) : CT 60 [.ref 0, .int x, .int y, .int z] (hp G L) Q := by
  obtain ⟨hdR, hnR, -⟩ := id hR
  obtain ⟨r1, r2, r3, r4⟩ := id hdR
  obtain ⟨e1, e2, -, e4, -⟩ := id hI.1
  have hD := hH_cD hI.1
  refine sm_meth hC [some (.ref 0), some (.int x), some (.int y), some (.int z), none, none, none, none, none, none] rfl rfl rfl ?_
  unfold A_gusts at hQ
  by_cases hok : nI 1 ≤ x ∧ x ≤ nI 40 ∧ nI 0 ≤ y ∧ inb z 2 = true
  · rw [if_t hok] at hQ
    obtain ⟨o1, o2, o3, o4⟩ := id hok
    obtain ⟨q, hq, rfl⟩ := inb_ex o4
    obtain ⟨dd, hd, ex⟩ := wi_t (x := x) (y := nI 40) (n := 41) (by decide) rfl (Int32.le_trans (by decide) o1) o2
    subst ex
    have hd1 := zle (by decide) (by omega) o1
    obtain ⟨s, hs, ey⟩ := nI_of (x := y) (Int32.not_lt.mpr o3)
    subst ey
    have hs : s < 2147483648 := hs
    simp only [ci hq (show 2 ≤ 100 by decide), zn_clI (show dd < 2 ^ 31 by omega), zn_clI (show s < 2 ^ 31 by omega)] at hQ
    have lo : S 0 0 ≠ 0 → Q (some (.int (nI (if q = 0 then hits S s dd else sdd S s dd)))) (hp G L) → ∀ d, d ≤ dd → ∀ o7 o8 o9, sm_Wk 4 60 Q none 49 [some (.ref 0), some (.int (nI dd)), some (.int (nI s)), some (.int (nI q)), some (.int (nI (sdd S s d))), some (.int (nI (hits S s d))), some (.int (nI d)), o7, o8, o9] [] (hp G L) := by
      intro hn0 hQ
      refine up _ (fun d hdl ih o7 o8 o9 => ?_)
      have hsd := sdd_lt (S := S) hs d
      have inner : d < dd → ∀ k, k ≤ S 0 0 → ∀ o9, sm_Wk 4 60 Q none 67 [some (.ref 0), some (.int (nI dd)), some (.int (nI s)), some (.int (nI q)), some (.int (nI (sd S (sdd S s d) k))), some (.int (nI (hits S s d + ct (hitq S (sdd S s d)) k))), some (.int (nI d)), some (.int (nI (zp (S 0 1) (fun v => ps S (gw S (sdd S s d)) v k)))), some (.int (nI k)), o9] [] (hp G L) := by
        intro hl
        refine up _ (fun k hk ihk o9 => ?_)
        have hpl : ∀ v, v < S 0 1 → ∀ i, i ≤ S 0 0 → ps S (gw S (sdd S s d)) v i < 4 := fun v hv i hi => ps_lt (r4 v hv).2.1 i (fun j hj => gw_lt hdR (by omega))
        have hnl := ns_lt (sd S (sdd S s d) k)
        have hcl := ct_le (P := hitq S (sdd S s d)) k
        have hcv := ct_le (P := fun v => Nat.beq (ps S (gw S (sdd S s d)) v (k + 1)) (gw S (sdd S s d) k)) (S 0 1)
        have tail : k < S 0 0 → sm_Wk 4 60 Q none 113 [some (.ref 0), some (.int (nI dd)), some (.int (nI s)), some (.int (nI q)), some (.int (nI (sd S (sdd S s d) (k + 1)))), some (.int (nI (hits S s d + ct (hitq S (sdd S s d)) k))), some (.int (nI d)), some (.int (nI (zp (S 0 1) (fun v => ps S (gw S (sdd S s d)) v k)))), some (.int (nI k)), some (.int (nI (gw S (sdd S s d) k)))] [] (hp G L) := by
          intro hkl
          have hg := gw_lt hdR (s := sdd S s d) hkl
          refine sm_body [67] 120 sm_k60 (fun CT K hC hK => ?_)
          repeat' first
            | (with_reducible refine And.intro ?_ ?_)
            | ((with_reducible intro h9); first | exact absurd h9 (by decide) | (replace h9 := sb_f h9) | (replace h9 := sb_t h9) | skip)
            | (with_reducible exact zn_in (by omega) (by decide))
            | (with_reducible exact z01) | (with_reducible exact z11) | (with_reducible exact zb01 _)
            | (with_reducible exact zn_inb (by omega) (by decide))
            | (with_reducible exact zn_ina (by omega) (by decide))
            | (with_reducible exact zn_inc (by omega) (by decide))
            | ((conv => whnf); first | (with_reducible refine And.intro ?_ ?_) | ((with_reducible intro h9); first | exact absurd h9 (by decide) | (replace h9 := sb_f h9) | (replace h9 := sb_t h9) | skip) | (with_reducible refine hK _ _ _ _ (sm_un ?_)) | (with_reducible refine s_turnedPose (hC.mono (by omega)) hD hdR (fun v hv => hpl v hv k (by omega)) hg ?_) | (refine s_pointingAt (S := S) (f := fun v => ps S (gw S (sdd S s d)) v (k + 1)) (hC.mono (by omega)) e2 r2 (fun v hv => hpl v hv (k + 1) (by omega)) hg ?_) | (with_reducible refine s_isMoreThanHalf (hC.mono (by omega)) e2 r2 (by omega) ?_))
          · have e := ihk hkl (some (.int (nI (gw S (sdd S s d) k))))
            rw [ct, show hitq S (sdd S s d) k = false from h9] at e
            simp only [nI_add]; exact ⟨⟨e⟩⟩
          · have e := ihk hkl (some (.int (nI (gw S (sdd S s d) k))))
            rw [ct, show hitq S (sdd S s d) k = true from h9] at e
            simp only [nI_add]; exact ⟨⟨e⟩⟩
        refine sm_body [49, 67, 113] 120 sm_k60 (fun CT K hC hK => ?_)
        repeat' first
          | (with_reducible refine And.intro ?_ ?_)
          | ((with_reducible intro h9); first | exact absurd h9 (by decide) | (replace h9 := nle e1 (by omega) (by omega) h9) | (replace h9 := yle e1 (by omega) (by omega) h9) | ((rw [zn_clI (show k < 2 ^ 31 by omega), e4 k ‹_›, wI_m (r3 k ‹_›)] at h9)) | skip)
          | (with_reducible exact zn_in (by omega) (by decide))
          | (with_reducible exact z01) | (with_reducible exact z11) | (with_reducible exact zb01 _)
          | (with_reducible exact zn_inb (by omega) (by decide))
          | (with_reducible exact zn_ina (by omega) (by decide))
          | (with_reducible exact zn_inc (by omega) (by decide))
          | ((conv => whnf); first | (with_reducible refine And.intro ?_ ?_) | ((with_reducible intro h9); first | exact absurd h9 (by decide) | (replace h9 := nle e1 (by omega) (by omega) h9) | (replace h9 := yle e1 (by omega) (by omega) h9) | ((rw [zn_clI (show k < 2 ^ 31 by omega), e4 k ‹_›, wI_m (r3 k ‹_›)] at h9)) | skip) | (with_reducible refine hK _ _ _ _ (sm_un ?_)) | (with_reducible refine s_nextSeed (hC.mono (by omega)) ?_))
        · obtain rfl : k = S 0 0 := by omega
          simp only [nI_add]; exact ⟨⟨ih hl _ _ _⟩⟩
        · have e := tail ‹_›
          rw [sd, gw, beq_f h9] at e
          have h4 := r3 k ‹_›
          simp only [zn_clI (show k < 2 ^ 31 by omega), e4 k ‹_›, wI_t (show S 1 k < 4 by omega)]
          exact ⟨⟨e⟩⟩
        · have e := tail ‹_›
          rw [sd, gw, beq_t h9] at e
          simp only [pk_div (show ns (sd S (sdd S s d) k) < 2 ^ 31 by omega) (show 0 < 65536 by decide) (show 65536 < 2 ^ 31 by decide), zn_ir (show ns (sd S (sdd S s d) k) / 65536 < 2 ^ 31 by omega) (show 0 < 4 by decide) (show 4 < 2 ^ 31 by decide)]
          exact ⟨⟨e⟩⟩
      refine sm_body [49, 67] 120 sm_k60 (fun CT K hC hK => ?_)
      repeat' first
        | (with_reducible refine And.intro ?_ ?_)
        | ((with_reducible intro h9); first | exact absurd h9 (by decide) | (replace h9 := zle (by omega) (by omega) h9) | (replace h9 := znle (by omega) (by omega) h9) | skip)
        | (with_reducible exact zn_in (by omega) (by decide))
        | (with_reducible exact z01) | (with_reducible exact z11) | (with_reducible exact zb01 _)
        | (with_reducible exact zn_inb (by omega) (by decide))
        | (with_reducible exact zn_ina (by omega) (by decide))
        | (with_reducible exact zn_inc (by omega) (by decide))
        | ((conv => whnf); first | (with_reducible refine And.intro ?_ ?_) | ((with_reducible intro h9); first | exact absurd h9 (by decide) | (replace h9 := zle (by omega) (by omega) h9) | (replace h9 := znle (by omega) (by omega) h9) | skip) | (with_reducible refine hK _ _ _ _ (sm_un ?_)) | (with_reducible refine s_startPose (hC.mono (by omega)) hD hdR ?_))
      · obtain rfl : d = dd := by omega
        rw [if_f (zneq ‹¬ nI q = nI 0›)] at hQ
        exact hQ
      · obtain rfl : d = dd := by omega
        rw [if_t (zeq (by omega) (by decide) ‹nI q = nI 0›)] at hQ
        exact hQ
      · exact ⟨⟨inner h9 0 (Nat.zero_le _) o9⟩⟩
    refine sm_body [49] 80 sm_k60 (fun CT K hC hK => ?_)
    repeat' first
      | (with_reducible refine And.intro ?_ ?_)
      | ((with_reducible intro h9); first | exact absurd h9 (by decide) | (exact absurd (Int32.not_lt.mpr o1) (Decidable.not_not.mpr h9)) | (exact absurd o2 (Int32.not_le.mpr h9)) | (exact absurd (Int32.not_lt.mpr o3) (Decidable.not_not.mpr h9)) | (exact absurd (Int32.not_lt.mpr (nI_le (Nat.zero_le q) (by omega))) (Decidable.not_not.mpr h9)) | (exact absurd (nI_le (show q ≤ 1 by omega) (by decide)) h9) | ((rw [e1] at h9; replace h9 := zneq h9)) | ((rw [e1] at h9; replace h9 := zeq (by omega) (by omega) h9)) | skip)
      | (with_reducible exact zn_in (by omega) (by decide))
      | (with_reducible exact z01) | (with_reducible exact z11) | (with_reducible exact zb01 _)
      | (with_reducible exact zn_inb (by omega) (by decide))
      | (with_reducible exact zn_ina (by omega) (by decide))
      | (with_reducible exact zn_inc (by omega) (by decide))
      | ((conv => whnf); first | (with_reducible refine And.intro ?_ ?_) | ((with_reducible intro h9); first | exact absurd h9 (by decide) | (exact absurd (Int32.not_lt.mpr o1) (Decidable.not_not.mpr h9)) | (exact absurd o2 (Int32.not_le.mpr h9)) | (exact absurd (Int32.not_lt.mpr o3) (Decidable.not_not.mpr h9)) | (exact absurd (Int32.not_lt.mpr (nI_le (Nat.zero_le q) (by omega))) (Decidable.not_not.mpr h9)) | (exact absurd (nI_le (show q ≤ 1 by omega) (by decide)) h9) | ((rw [e1] at h9; replace h9 := zneq h9)) | ((rw [e1] at h9; replace h9 := zeq (by omega) (by omega) h9)) | skip) | (with_reducible refine hK _ _ _ _ (sm_un ?_)))
    · rw [if_f h9] at hQ
      exact ⟨⟨lo h9 hQ 0 (Nat.zero_le _) _ _ _⟩⟩
    · rw [if_t h9] at hQ
      exact hQ
  · rw [if_f hok] at hQ
    refine sm_body [49] 80 sm_k60 (fun CT K hC hK => ?_)
    repeat' first
      | (with_reducible refine And.intro ?_ ?_)
      | ((with_reducible intro h9); first | exact absurd h9 (by decide) | ((have h8 : z ≤ nI 1 := h9; exact absurd ⟨Int32.not_lt.mp ‹¬ x < nI 1›, Int32.not_lt.mp ‹¬ nI 40 < x›, Int32.not_lt.mp ‹¬ y < nI 0›, o_in (n := 1) (by decide) ‹¬ z < nI 0› h8⟩ hok)) | skip)
      | (with_reducible exact zn_in (by omega) (by decide))
      | (with_reducible exact z01) | (with_reducible exact z11) | (with_reducible exact zb01 _)
      | (with_reducible exact zn_inb (by omega) (by decide))
      | (with_reducible exact zn_ina (by omega) (by decide))
      | (with_reducible exact zn_inc (by omega) (by decide))
      | ((conv => whnf); first | (with_reducible refine And.intro ?_ ?_) | ((with_reducible intro h9); first | exact absurd h9 (by decide) | ((have h8 : z ≤ nI 1 := h9; exact absurd ⟨Int32.not_lt.mp ‹¬ x < nI 1›, Int32.not_lt.mp ‹¬ nI 40 < x›, Int32.not_lt.mp ‹¬ y < nI 0›, o_in (n := 1) (by decide) ‹¬ z < nI 0› h8⟩ hok)) | skip) | (with_reducible refine hK _ _ _ _ (sm_un ?_)))
    all_goals exact hQ
end GUSTS
