/-! Points, blows, about, as, oiling: both sides. -/
theorem inb_ex {x : Int32} {n : Nat} (h : inb x n = true) : ∃ j, j < n ∧ x = nI j := by
  simp only [inb, Bool.and_eq_true, decide_eq_true_eq] at h
  have hl := Int32.toInt_lt x
  refine ⟨x.toInt.toNat, by omega, ?_⟩
  rw [zn_eq, nI_toInt (by omega)]
  omega
theorem cq_t {α : Type} {b : Bool} {x y z : α} (h : b = true) (e : z = x) : z = cond b x y := by subst h; exact e
theorem cq_f {α : Type} {b : Bool} {x y z : α} (h : b = false) (e : z = y) : z = cond b x y := by subst h; exact e
theorem iq_t {α : Type} {p : Prop} [Decidable p] {x y z : α} (h : p) (e : z = x) : z = if p then x else y := by
  split
  · exact e
  · exact absurd h ‹_›
theorem iq_f {α : Type} {p : Prop} [Decidable p] {x y z : α} (h : ¬ p) (e : z = y) : z = if p then x else y := by
  split
  · exact absurd ‹_› h
  · exact e
theorem cnt31 {S : Nat → Nat → Nat} (hR : dR S) (P : (Nat → Nat) → Bool) : cnt S P < 2 ^ 31 := by
  have := cnt_le hR P
  omega
theorem aPt31 {S : Nat → Nat → Nat} (hR : dR S) (v h q : Nat) : aPt S v h q < 2 ^ 31 := cnt31 hR _
theorem aBl31 {S : Nat → Nat → Nat} (hR : dR S) (h q : Nat) : aBl S h q < 2 ^ 31 := cnt31 hR _
theorem aAll31 {S : Nat → Nat → Nat} (hR : dR S) : aAll S < 2 ^ 31 := cnt31 hR _
section FACE2
variable {CT : sm_CT} {G : Nat → Nat → Int32} {L : Nat → Nat → Int64} {Q : sm_Q} {S : Nat → Nat → Nat} {c : Nat} {h : sm_H}
theorem b_hasHour (hC : sm_C 1 CT) {n : Nat} (e : G 3 0 = nI n) (hn : n ≤ 6) {x : Int32} (hQ : Q (some (.int (sm_b (inb x n)))) (hp G L)) : CT 1 [.ref 3, .int x] (hp G L) Q :=
  s_hasHour hC e hn (fun j hj ex => zq (b_t (by rw [ex]; exact inb_n hj (by omega))) hQ) (fun h0 => zq (b_f h0) hQ)
theorem b_hasVane (hC : sm_C 1 CT) {n : Nat} (e : G 3 2 = nI n) (hn : n ≤ 4) {x : Int32} (hQ : Q (some (.int (sm_b (inb x n)))) (hp G L)) : CT 2 [.ref 3, .int x] (hp G L) Q :=
  s_hasVane hC e hn (fun j hj ex => zq (b_t (by rw [ex]; exact inb_n hj (by omega))) hQ) (fun h0 => zq (b_f h0) hQ)
theorem b_isQuarter (hC : sm_C 1 CT) {x : Int32} (hQ : Q (some (.int (sm_b (inb x 4)))) h) : CT 73 [.int x] h Q :=
  s_isQuarter hC (fun j hj ex => zq (b_t (by rw [ex]; exact inb_n hj (by omega))) hQ) (fun h0 => zq (b_f h0) hQ)
theorem b_isTwist (hC : sm_C 1 CT) {x : Int32} (hQ : Q (some (.int (sm_b (inb x 4)))) h) : CT 74 [.int x] h Q :=
  s_isTwist hC (fun j hj ex => zq (b_t (by rw [ex]; exact inb_n hj (by omega))) hQ) (fun h0 => zq (b_f h0) hQ)
theorem b_isKind (hC : sm_C 1 CT) {x : Int32} (hQ : Q (some (.int (sm_b (inb x 5)))) h) : CT 75 [.int x] h Q :=
  s_isKind hC (fun j hj ex => zq (b_t (by rw [ex]; exact inb_n hj (by omega))) hQ) (fun h0 => zq (b_f h0) hQ)
-- points
def A_points (S : Nat → Nat → Nat) (x y : Int32) : Int32 := cond (inb x (S 0 1)) (cond (inb y (S 0 0)) (nI (bq 4 (aPt S x.toNatClampNeg y.toNatClampNeg))) (-101)) (-101)
set_option maxRecDepth 100000 in
set_option maxHeartbeats 4000000 in
theorem f_points (hC : sm_C 13 CT) (hR : RS c S) (hI : Ic S G) {x y : Int32} (hQ : ∀ G', eqx clsP G G' → Ic S G' → Q (some (.int (A_points S x y))) (hp G' L)) : CT 54 [.ref 0, .int x, .int y] (hp G L) Q := by
  obtain ⟨hdR, hnR, -⟩ := id hR
  obtain ⟨r1, r2, r3, r4⟩ := id hdR
  have e1 := hI.1.1
  have e2 := hI.1.2.1
  refine sm_meth hC [some (.ref 0), some (.int x), some (.int y)] rfl rfl rfl ?_
  refine sm_body [] 60 sm_k54 (fun CT K hC hK => ?_)
  unfold A_points at hQ
  repeat' first
    | (with_reducible refine And.intro ?_ ?_)
    | ((with_reducible intro h9); first | exact absurd h9 (by decide) | (replace h9 := sb_f h9) | (obtain ⟨j, hj, rfl⟩ := inb_ex (x := x) (sb_t h9)) | (obtain ⟨k, hk, rfl⟩ := inb_ex (x := y) (sb_t h9)) | skip)
    | (with_reducible exact zn_in (by omega) (by decide))
    | (with_reducible exact z01) | (with_reducible exact z11) | (with_reducible exact zb01 _)
    | (with_reducible exact zn_inb (by omega) (by decide))
    | (with_reducible exact zn_ina (by omega) (by decide))
    | (with_reducible exact zn_inc (by omega) (by decide))
    | ((conv => whnf); first | (with_reducible refine And.intro ?_ ?_) | ((with_reducible intro h9); first | exact absurd h9 (by decide) | (replace h9 := sb_f h9) | (obtain ⟨j, hj, rfl⟩ := inb_ex (x := x) (sb_t h9)) | (obtain ⟨k, hk, rfl⟩ := inb_ex (x := y) (sb_t h9)) | skip) | (with_reducible refine hK _ _ _ _ (sm_un ?_)) | (with_reducible refine b_hasVane (hC.mono (by omega)) e2 r2 ?_) | (with_reducible refine b_hasHour (hC.mono (by omega)) e1 r1 ?_) | (with_reducible refine f_refresh (hC.mono (by omega)) hR hI (fun G' hx hI' ht => ?_)) | (with_reducible refine s_pointed (c := aPt S j k) (hC.mono (by omega)) (by omega) (by omega) (fun q _ => aPt31 hdR j k q) (fun q hq => tl_pt hnR ht hj r2 hk r1 hq) ?_))
  · exact zq (cq_f ‹inb x _ = false› rfl) (hQ G eqx_rfl hI)
  · exact zq (cq_t (inb_n hj (by omega)) (cq_t (inb_n hk (by omega)) (by rw [zn_clI (by omega), zn_clI (by omega)]))) (hQ G' (eqx_sub rfl hx) hI')
  · exact zq (cq_t (inb_n hj (by omega)) (cq_f ‹inb y _ = false› rfl)) (hQ G eqx_rfl hI)
-- blows
def A_blows (S : Nat → Nat → Nat) (y : Int32) : Int32 := cond (inb y (S 0 0)) (nI (bq 4 (aBl S y.toNatClampNeg))) (-101)
set_option maxRecDepth 100000 in
set_option maxHeartbeats 4000000 in
theorem f_blows (hC : sm_C 13 CT) (hR : RS c S) (hI : Ic S G) {y : Int32} (hQ : ∀ G', eqx clsP G G' → Ic S G' → Q (some (.int (A_blows S y))) (hp G' L)) : CT 55 [.ref 0, .int y] (hp G L) Q := by
  obtain ⟨hdR, hnR, -⟩ := id hR
  obtain ⟨r1, r2, r3, r4⟩ := id hdR
  have e1 := hI.1.1
  refine sm_meth hC [some (.ref 0), some (.int y)] rfl rfl rfl ?_
  refine sm_body [] 60 sm_k55 (fun CT K hC hK => ?_)
  unfold A_blows at hQ
  repeat' first
    | (with_reducible refine And.intro ?_ ?_)
    | ((with_reducible intro h9); first | exact absurd h9 (by decide) | (replace h9 := sb_f h9) | (obtain ⟨k, hk, rfl⟩ := inb_ex (x := y) (sb_t h9)) | skip)
    | (with_reducible exact zn_in (by omega) (by decide))
    | (with_reducible exact z01) | (with_reducible exact z11) | (with_reducible exact zb01 _)
    | (with_reducible exact zn_inb (by omega) (by decide))
    | (with_reducible exact zn_ina (by omega) (by decide))
    | (with_reducible exact zn_inc (by omega) (by decide))
    | ((conv => whnf); first | (with_reducible refine And.intro ?_ ?_) | ((with_reducible intro h9); first | exact absurd h9 (by decide) | (replace h9 := sb_f h9) | (obtain ⟨k, hk, rfl⟩ := inb_ex (x := y) (sb_t h9)) | skip) | (with_reducible refine hK _ _ _ _ (sm_un ?_)) | (with_reducible refine b_hasHour (hC.mono (by omega)) e1 r1 ?_) | (with_reducible refine f_refresh (hC.mono (by omega)) hR hI (fun G' hx hI' ht => ?_)) | (with_reducible refine s_blown (c := aBl S k) (hC.mono (by omega)) (by omega) (fun q _ => aBl31 hdR k q) (fun q hq => tl_bl hnR ht hk r1 hq) ?_))
  · exact zq (cq_t (inb_n hk (by omega)) (by rw [zn_clI (by omega)])) (hQ G' (eqx_sub rfl hx) hI')
  · exact zq (cq_f ‹inb y _ = false› rfl) (hQ G eqx_rfl hI)
-- about
def aboutV (S : Nat → Nat → Nat) (v : Nat) (y : Int32) : Int32 := if y = nI 0 then nI (S 2 v) else if y = nI 1 then nI (S 3 v) else if y = nI 2 then nI (S 4 v) else if y = nI 3 then nI (so S v) else nI (trn (S 2 v) (S 4 v) 0 (y - nI 10).toNatClampNeg)
def aboutB (y : Int32) : Bool := inb y 4 || inb (y - nI 10) 4
def A_about (S : Nat → Nat → Nat) (x y : Int32) : Int32 := cond (inb x (S 0 1)) (cond (aboutB y) (aboutV S x.toNatClampNeg y) (-102)) (-101)
theorem aboutB_4 {j : Nat} (h : j < 4) : aboutB (nI j) = true := by unfold aboutB; rw [inb_n h (by decide)]; rfl
theorem aboutB_10 {y : Int32} (h : inb (y - nI 10) 4 = true) : aboutB y = true := by unfold aboutB; rw [h, Bool.or_true]
set_option maxRecDepth 100000 in
set_option maxHeartbeats 4000000 in
theorem f_about (hC : sm_C 4 CT) (hR : RS c S) (hI : Ic S G) {x y : Int32} (hQ : Q (some (.int (A_about S x y))) (hp G L)) : CT 48 [.ref 0, .int x, .int y] (hp G L) Q := by
  obtain ⟨hdR, hnR, -⟩ := id hR
  obtain ⟨r1, r2, r3, r4⟩ := id hdR
  obtain ⟨e1, e2, e3, e4, e5, e6, e7⟩ := hI.1
  refine sm_meth hC [some (.ref 0), some (.int x), some (.int y)] rfl rfl rfl ?_
  refine sm_body [] 60 sm_k48 (fun CT K hC hK => ?_)
  unfold A_about at hQ
  have ha : ∀ j, j < S 0 1 → x = nI j → aboutB y = true → ∀ z, z = aboutV S j y → Q (some (.int z)) (hp G L) := fun j hj ex hb z ez => zq (cq_t (by rw [ex]; exact inb_n hj (by omega)) (cq_t hb (by rw [ex, zn_clI (by omega)]; exact ez))) hQ
  repeat' first
    | (with_reducible refine And.intro ?_ ?_)
    | ((with_reducible intro h9); first | exact absurd h9 (by decide) | (replace h9 := sb_f h9) | (obtain ⟨j, hj, rfl⟩ := inb_ex (x := x) (sb_t h9)) | (replace h9 := sb_t h9) | skip)
    | (with_reducible exact zn_in (by omega) (by decide))
    | (with_reducible exact z01) | (with_reducible exact z11) | (with_reducible exact zb01 _)
    | (with_reducible exact zn_inb (by omega) (by decide))
    | (with_reducible exact zn_ina (by omega) (by decide))
    | (with_reducible exact zn_inc (by omega) (by decide))
    | ((conv => whnf); first | (with_reducible refine And.intro ?_ ?_) | ((with_reducible intro h9); first | exact absurd h9 (by decide) | (replace h9 := sb_f h9) | (obtain ⟨j, hj, rfl⟩ := inb_ex (x := x) (sb_t h9)) | (replace h9 := sb_t h9) | skip) | (with_reducible refine hK _ _ _ _ (sm_un ?_)) | (with_reducible refine b_hasVane (hC.mono (by omega)) e2 r2 ?_) | (with_reducible refine b_isQuarter (hC.mono (by omega)) ?_) | ((obtain ⟨k, hk, ek⟩ := inb_ex (x := y - nI 10) ‹_›; rw [ek, zn_clI (show j < 2 ^ 31 by omega), (e5 j hj).1, (e5 j hj).2.2]; refine s_turned (hC.mono (by omega)) (r4 j hj).1 (r4 j hj).2.2 (show 0 < 4 by decide) hk ?_)))
  · have e : y = nI 0 := h9
    exact ha j hj rfl (by rw [e]; exact aboutB_4 (by decide)) _ (by rw [zn_clI (by omega), (e5 j hj).1]; unfold aboutV; exact iq_t e rfl)
  · have e : y = nI 1 := h9
    have n0 : ¬ y = nI 0 := ‹¬ y = (nI 0, 44).fst›
    exact ha j hj rfl (by rw [e]; exact aboutB_4 (by decide)) _ (by rw [zn_clI (by omega), (e5 j hj).2.1]; unfold aboutV; exact iq_f n0 (iq_t e rfl))
  · have e : y = nI 2 := h9
    have n0 : ¬ y = nI 0 := ‹¬ y = (nI 0, 44).fst›
    have n1 : ¬ y = nI 1 := ‹¬ y = (nI 1, 54).fst›
    exact ha j hj rfl (by rw [e]; exact aboutB_4 (by decide)) _ (by rw [zn_clI (by omega), (e5 j hj).2.2]; unfold aboutV; exact iq_f n0 (iq_f n1 (iq_t e rfl)))
  · have e : y = nI 3 := h9
    have n0 : ¬ y = nI 0 := ‹¬ y = (nI 0, 44).fst›
    have n1 : ¬ y = nI 1 := ‹¬ y = (nI 1, 54).fst›
    have n2 : ¬ y = nI 2 := ‹¬ y = (nI 2, 64).fst›
    exact ha j hj rfl (by rw [e]; exact aboutB_4 (by decide)) _ (by rw [zn_clI (by omega), e6 j (by omega)]; unfold aboutV; exact iq_f n0 (iq_f n1 (iq_f n2 (iq_t e rfl))))
  · have n0 : ¬ y = nI 0 := ‹¬ y = (nI 0, 44).fst›
    have n1 : ¬ y = nI 1 := ‹¬ y = (nI 1, 54).fst›
    have n2 : ¬ y = nI 2 := ‹¬ y = (nI 2, 64).fst›
    have n3 : ¬ y = nI 3 := ‹¬ y = (nI 3, 74).fst›
    refine zq (cq_t (inb_n hj (by omega)) (cq_f ?_ rfl)) hQ
    unfold aboutB
    rw [h9, Bool.or_false]
    cases hb : inb y 4 with
    | false => rfl
    | true =>
      obtain ⟨i, hi, ei⟩ := inb_ex hb
      have : i = 0 ∨ i = 1 ∨ i = 2 ∨ i = 3 := by omega
      rcases this with rfl | rfl | rfl | rfl <;> contradiction
  · have n0 : ¬ y = nI 0 := ‹¬ y = (nI 0, 44).fst›
    have n1 : ¬ y = nI 1 := ‹¬ y = (nI 1, 54).fst›
    have n2 : ¬ y = nI 2 := ‹¬ y = (nI 2, 64).fst›
    have n3 : ¬ y = nI 3 := ‹¬ y = (nI 3, 74).fst›
    exact ha j hj rfl (aboutB_10 h9) _ (by unfold aboutV; exact iq_f n0 (iq_f n1 (iq_f n2 (iq_f n3 (by rw [‹y - nI 10 = nI _›, zn_clI (by omega)])))))
  · exact zq (cq_f ‹inb x _ = false› rfl) hQ
theorem aboutB_m {y : Int32} : aboutB y = true ↔ ((nI 0 ≤ y ∧ y ≤ nI 3) ∨ (nI 10 ≤ y ∧ y ≤ nI 13)) := by
  unfold aboutB
  rw [Bool.or_eq_true]
  constructor
  · rintro (hb | hb)
    · obtain ⟨i, hi, ei⟩ := inb_ex hb
      rw [ei]
      exact Or.inl ⟨nI_le (by omega) (by omega), nI_le (by omega) (by omega)⟩
    · obtain ⟨i, hi, ei⟩ := inb_ex hb
      have e : y = nI (10 + i) := by
        have : y = (y - nI 10) + nI 10 := (Int32.sub_add_cancel y (nI 10)).symm
        rw [this, ei, nI_add, Nat.add_comm]
      rw [e]
      exact Or.inr ⟨nI_le (by omega) (by omega), nI_le (by omega) (by omega)⟩
  · rintro (⟨h1, h2⟩ | ⟨h1, h2⟩)
    · obtain ⟨j, hj, e⟩ := wi_t (x := y) (y := nI 3) (n := 4) (by decide) rfl h1 h2
      rw [e]
      exact Or.inl (inb_n hj (by decide))
    · obtain ⟨j, hj, e⟩ := wi_t (x := y) (y := nI 13) (n := 14) (by decide) rfl (Int32.le_trans (by decide) h1) h2
      subst e
      have := zle (by decide) (by omega) h1
      refine Or.inr ?_
      rw [pk_sub this]
      exact inb_n (by omega) (by decide)
-- as
def A_as (S : Nat → Nat → Nat) (x y : Int32) : Int32 := cond (inb x (S 0 1)) (cond (inb y 5) (cond (suchB (S 2 x.toNatClampNeg) y.toNatClampNeg) x (-1)) (-102)) (-101)
set_option maxRecDepth 100000 in
set_option maxHeartbeats 4000000 in
theorem f_as (hC : sm_C 2 CT) (hR : RS c S) (hI : Ic S G) {x y : Int32} (hQ : Q (some (.int (A_as S x y))) (hp G L)) : CT 49 [.ref 0, .int x, .int y] (hp G L) Q := by
  obtain ⟨hdR, hnR, -⟩ := id hR
  obtain ⟨r1, r2, r3, r4⟩ := id hdR
  obtain ⟨e1, e2, e3, e4, e5, e6, e7⟩ := hI.1
  refine sm_meth hC [some (.ref 0), some (.int x), some (.int y)] rfl rfl rfl ?_
  refine sm_body [] 60 sm_k49 (fun CT K hC hK => ?_)
  unfold A_as at hQ
  repeat' first
    | (with_reducible refine And.intro ?_ ?_)
    | ((with_reducible intro h9); first | exact absurd h9 (by decide) | (replace h9 := sb_f h9) | (obtain ⟨j, hj, rfl⟩ := inb_ex (x := x) (sb_t h9)) | (obtain ⟨k, hk, rfl⟩ := inb_ex (x := y) (sb_t h9)) | (replace h9 := sb_t h9) | skip)
    | (with_reducible exact zn_in (by omega) (by decide))
    | (with_reducible exact z01) | (with_reducible exact z11) | (with_reducible exact zb01 _)
    | (with_reducible exact zn_inb (by omega) (by decide))
    | (with_reducible exact zn_ina (by omega) (by decide))
    | (with_reducible exact zn_inc (by omega) (by decide))
    | ((conv => whnf); first | (with_reducible refine And.intro ?_ ?_) | ((with_reducible intro h9); first | exact absurd h9 (by decide) | (replace h9 := sb_f h9) | (obtain ⟨j, hj, rfl⟩ := inb_ex (x := x) (sb_t h9)) | (obtain ⟨k, hk, rfl⟩ := inb_ex (x := y) (sb_t h9)) | (replace h9 := sb_t h9) | skip) | (with_reducible refine hK _ _ _ _ (sm_un ?_)) | (with_reducible refine b_hasVane (hC.mono (by omega)) e2 r2 ?_) | (with_reducible refine b_isKind (hC.mono (by omega)) ?_) | ((rw [zn_clI (show j < 2 ^ 31 by omega), (e5 j hj).1]; refine s_isSuch (hC.mono (by omega)) (by have := (r4 j hj).1; omega) hk ?_)))
  · exact zq (cq_t (inb_n hj (by omega)) (cq_t (inb_n hk (by omega)) (cq_f (by rw [zn_clI (by omega), zn_clI (by omega)]; exact h9) rfl))) hQ
  · exact zq (cq_t (inb_n hj (by omega)) (cq_t (inb_n hk (by omega)) (cq_t (by rw [zn_clI (by omega), zn_clI (by omega)]; exact h9) rfl))) hQ
  · exact zq (cq_t (inb_n hj (by omega)) (cq_f ‹inb y _ = false› rfl)) hQ
  · exact zq (cq_f ‹inb x _ = false› rfl) hQ
-- count
def A_count (S : Nat → Nat → Nat) (y : Int32) : Int32 := if y = nI 0 then nI (S 0 0) else if y = nI 1 then nI (ct (fun h => !Nat.beq (S 1 h) 4) (S 0 0)) else if y = nI 2 then nI (S 0 1) else if y = nI 3 then nI (S 0 2) else if y = nI 4 then nI (S 0 3) else if y = nI 5 then nI (S 0 4) else if y = nI 6 then nI (S 0 5) else -102
theorem ct_not {P : Nat → Bool} : ∀ n, ct P n + ct (fun i => !P i) n = n
  | 0 => rfl
  | n + 1 => by
    have h := ct_not (P := P) n
    show ct P n + bn (P n) + (ct (fun i => !P i) n + bn (!P n)) = n + 1
    cases P n <;> simp only [Bool.not_true, Bool.not_false, bn, cond] <;> omega
set_option maxRecDepth 100000 in
set_option maxHeartbeats 4000000 in
theorem f_count (hC : sm_C 2 CT) (hR : RS c S) (hI : Ic S G) {y : Int32} (hQ : Q (some (.int (A_count S y))) (hp G L)) : CT 63 [.ref 0, .int y] (hp G L) Q := by
  obtain ⟨hdR, hnR, -⟩ := id hR
  obtain ⟨i1, i2, i3, i4, i5⟩ := id hI
  obtain ⟨e1, e2, e3, e4, e5, e6, e7⟩ := id i1
  refine sm_meth hC [some (.ref 0), some (.int y)] rfl rfl rfl ?_
  refine sm_body [] 60 sm_k63 (fun CT K hC hK => ?_)
  unfold A_count at hQ
  repeat' first
    | (with_reducible refine And.intro ?_ ?_)
    | ((with_reducible intro h9); first | exact absurd h9 (by decide) | skip)
    | (with_reducible exact zn_in (by omega) (by decide))
    | (with_reducible exact z01) | (with_reducible exact z11) | (with_reducible exact zb01 _)
    | (with_reducible exact zn_inb (by omega) (by decide))
    | (with_reducible exact zn_ina (by omega) (by decide))
    | (with_reducible exact zn_inc (by omega) (by decide))
    | ((conv => whnf); first | (with_reducible refine And.intro ?_ ?_) | ((with_reducible intro h9); first | exact absurd h9 (by decide) | skip) | (with_reducible refine hK _ _ _ _ (sm_un ?_)) | (with_reducible refine s_knownWinds (hC.mono (by omega)) (hH_cD i1) hdR ?_))
  · exact zq (iq_t h9 e1) hQ
  · exact zq (iq_f ‹_› (iq_t h9 rfl)) hQ
  · exact zq (iq_f ‹_› (iq_f ‹_› (iq_t h9 e2))) hQ
  · exact zq (iq_f ‹_› (iq_f ‹_› (iq_f ‹_› (iq_t h9 e3)))) hQ
  · exact zq (iq_f ‹_› (iq_f ‹_› (iq_f ‹_› (iq_f ‹_› (iq_t h9 i2.1))))) hQ
  · exact zq (iq_f ‹_› (iq_f ‹_› (iq_f ‹_› (iq_f ‹_› (iq_f ‹_› (iq_t h9 i3.2.1)))))) hQ
  · exact zq (iq_f ‹_› (iq_f ‹_› (iq_f ‹_› (iq_f ‹_› (iq_f ‹_› (iq_f ‹_› (iq_t h9 i3.2.2))))))) hQ
  · exact zq (iq_f ‹_› (iq_f ‹_› (iq_f ‹_› (iq_f ‹_› (iq_f ‹_› (iq_f ‹_› (iq_f ‹_› rfl))))))) hQ
end FACE2
