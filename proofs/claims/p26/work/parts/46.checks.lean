/-! The law's loop: what the class answers is what was counted. -/
section CHECKS
variable {G : Nat → Nat → Int32} {L : Nat → Nat → Int64} {Q : sm_Q} {S : Nat → Nat → Nat} {n t x : Nat} {f : Nat → Int32}
theorem cnt0 : A_count S (nI 0) = nI (S 0 0) := if_t rfl
theorem cnt1 : A_count S (nI 1) = nI (knO S) := by unfold A_count; rw [if_f (by decide), if_t rfl]; rfl
theorem cnt2 : A_count S (nI 2) = nI (S 0 1) := by unfold A_count; rw [if_f (by decide), if_f (by decide), if_t rfl]
theorem cnt3 : A_count S (nI 3) = nI (S 0 2) := by unfold A_count; rw [if_f (by decide), if_f (by decide), if_f (by decide), if_t rfl]
theorem ab_in {v : Nat} {y : Int32} (hv : v < S 0 1) (h4 : S 0 1 ≤ 4) (hy : aboutB y = true) : A_about S (nI v) y = aboutV S v y := by
  unfold A_about
  rw [inb_n hv (by omega), hy, zn_clI (by omega)]
  rfl
theorem ab0 {v : Nat} (hv : v < S 0 1) (h4 : S 0 1 ≤ 4) : A_about S (nI v) (nI 0) = nI (S 2 v) := (ab_in hv h4 (aboutB_4 (by decide))).trans (if_t rfl)
theorem ab1 {v : Nat} (hv : v < S 0 1) (h4 : S 0 1 ≤ 4) : A_about S (nI v) (nI 1) = nI (S 3 v) := (ab_in hv h4 (aboutB_4 (by decide))).trans ((if_f (by decide)).trans (if_t rfl))
theorem ab2 {v : Nat} (hv : v < S 0 1) (h4 : S 0 1 ≤ 4) : A_about S (nI v) (nI 2) = nI (S 4 v) := (ab_in hv h4 (aboutB_4 (by decide))).trans ((if_f (by decide)).trans ((if_f (by decide)).trans (if_t rfl)))
theorem ab3 {v : Nat} (hv : v < S 0 1) (h4 : S 0 1 ≤ 4) : A_about S (nI v) (nI 3) = nI (so S v) := (ab_in hv h4 (aboutB_4 (by decide))).trans ((if_f (by decide)).trans ((if_f (by decide)).trans ((if_f (by decide)).trans (if_t rfl))))
theorem ab10 {v q : Nat} (hv : v < S 0 1) (h4 : S 0 1 ≤ 4) (hq : q < 4) : A_about S (nI v) (nI (10 + q)) = nI (trn (S 2 v) (S 4 v) 0 q) := by
  have e : nI (10 + q) - nI 10 = nI q := by rw [pk_sub (by omega)]; exact nI_i (by omega)
  rw [ab_in hv h4 (aboutB_10 (by rw [e]; exact inb_n hq (by decide)))]
  unfold aboutV
  rw [if_f (zn_ne (by omega) (by omega) (by decide)), if_f (zn_ne (by omega) (by omega) (by decide)), if_f (zn_ne (by omega) (by omega) (by decide)), if_f (zn_ne (by omega) (by omega) (by decide)), e, zn_clI (by omega)]
theorem as_in {v k : Nat} (hv : v < S 0 1) (h4 : S 0 1 ≤ 4) (hk : k < 5) : A_as S (nI v) (nI k) = cond (suchB (S 2 v) k) (nI v) (-1) := by
  unfold A_as
  rw [inb_n hv (by omega), inb_n hk (by decide), zn_clI (by omega), zn_clI (by omega)]
  rfl
theorem as_t {v k : Nat} (hv : v < S 0 1) (h4 : S 0 1 ≤ 4) (h5 : S 2 v < 5) (hk : k < 5) (h : nI k = nI 0 ∨ nI k = nI (S 2 v) ∨ (nI (S 2 v) = nI 4 ∧ nI k = nI 3)) : A_as S (nI v) (nI k) = nI v := by
  rw [as_in hv h4 hk, (such_i _ h5 k hk).1 h]
  rfl
theorem as_f {v k : Nat} (hv : v < S 0 1) (h4 : S 0 1 ≤ 4) (h5 : S 2 v < 5) (hk : k < 5) (h : ¬ nI k = nI 0 ∧ ¬ nI k = nI (S 2 v) ∧ ¬ (nI (S 2 v) = nI 4 ∧ nI k = nI 3)) : A_as S (nI v) (nI k) = -1 := by
  rw [as_in hv h4 hk, (such_i _ h5 k hk).2 h]
  rfl
theorem pt_in {v h : Nat} (hv : v < S 0 1) (h4 : S 0 1 ≤ 4) (hh : h < S 0 0) (h6 : S 0 0 ≤ 6) : A_points S (nI v) (nI h) = nI (bq 4 (aPt S v h)) := by
  unfold A_points
  rw [inb_n hv (by omega), inb_n hh (by omega), zn_clI (by omega), zn_clI (by omega)]
  rfl
theorem bl_in {h : Nat} (hh : h < S 0 0) (h6 : S 0 0 ≤ 6) : A_blows S (nI h) = nI (bq 4 (aBl S h)) := by
  unfold A_blows
  rw [inb_n hh (by omega), zn_clI (by omega)]
  rfl
set_option maxRecDepth 100000 in
set_option maxHeartbeats 4000000 in
theorem lw_D (hI : LI S G) (hN : ∀ G', eqx clsP G G' → Ic S G' → sm_Wk 20 143 Q (some (n, f)) 383 [some (.ref 9999), some (.ref 0), some (.ref 30), some (.ref 31), some (.ref 32), some (.ref 33), some (.ref 34), some (.ref 35), some (.int (nI (S 0 1))), some (.int (nI t)), some (.int (nI x)), none, none, none, none, none, none, none, none, none, none, none, none, none, none, none, none] [] (hp G' L)) : sm_Wk 20 143 Q (some (n, f)) 328 [some (.ref 9999), some (.ref 0), some (.ref 30), some (.ref 31), some (.ref 32), some (.ref 33), some (.ref 34), some (.ref 35), some (.int (nI (S 0 1))), some (.int (nI t)), some (.int (nI x)), some (.int (nI (knO S))), some (.int (nI (aAll S))), none, none, none, none, none, none, none, none, none, none, none, none, none, none] [] (hp G L) := by
  obtain ⟨hR, hIc, ⟨w1, w2, w3, w4⟩, ⟨s1, s2⟩, hpos⟩ := hI
  have w1' : G 30 (nI 6).toNatClampNeg = nI (S 0 0) := w1
  have s1' : G 31 (nI 30).toNatClampNeg = nI (S 0 2) := s1
  have eF : A_fitting S = nI (aAll S) := if_f (by omega)
  refine sm_body [383] 80 sm_k143 (fun CT K hC hK => ?_)
  repeat' first
    | (with_reducible refine And.intro ?_ ?_)
    | ((with_reducible intro h9); first | exact absurd h9 (by decide) | ((rw [eF] at h9; first | exact absurd rfl h9 | skip)) | ((rw [cnt0, hx1 30 rfl, w1'] at h9; first | exact absurd rfl h9 | skip)) | ((rw [cnt1] at h9; first | exact absurd rfl h9 | skip)) | ((rw [cnt2] at h9; first | exact absurd rfl h9 | skip)) | ((rw [cnt3, hx1 31 rfl, s1'] at h9; first | exact absurd rfl h9 | skip)) | skip)
    | (with_reducible exact zn_in (by omega) (by decide))
    | (with_reducible exact z01) | (with_reducible exact z11) | (with_reducible exact zb01 _)
    | (with_reducible exact zn_inb (by omega) (by decide))
    | (with_reducible exact zn_ina (by omega) (by decide))
    | (with_reducible exact zn_inc (by omega) (by decide))
    | (with_reducible exact zn_ind (by omega) (by decide))
    | (with_reducible exact zn_ine (by omega) (by decide))
    | ((conv => whnf); first | (with_reducible refine And.intro ?_ ?_) | ((with_reducible intro h9); first | exact absurd h9 (by decide) | ((rw [eF] at h9; first | exact absurd rfl h9 | skip)) | ((rw [cnt0, hx1 30 rfl, w1'] at h9; first | exact absurd rfl h9 | skip)) | ((rw [cnt1] at h9; first | exact absurd rfl h9 | skip)) | ((rw [cnt2] at h9; first | exact absurd rfl h9 | skip)) | ((rw [cnt3, hx1 31 rfl, s1'] at h9; first | exact absurd rfl h9 | skip)) | skip) | (with_reducible refine hK _ _ _ _ (sm_un ?_)) | (refine f_fitting (hC.mono (by omega)) hR hIc (fun G1 hx1 hI1 => ?_)) | (refine f_count (hC.mono (by omega)) hR hI1 ?_))
  exact ⟨⟨sm_less (hN _ ‹_› ‹_›) ⟨rfl, rfl, rfl, rfl, rfl, rfl, rfl, rfl, rfl, rfl, rfl, trivial⟩⟩⟩
set_option maxRecDepth 100000 in
set_option maxHeartbeats 4000000 in
theorem lw_E (hI : LI S G) (hb : bA S G) (hN : ∀ G', eqx clsP G G' → Ic S G' → sm_Wk 20 143 Q (some (n, f)) 664 [some (.ref 9999), some (.ref 0), some (.ref 30), some (.ref 31), some (.ref 32), some (.ref 33), some (.ref 34), some (.ref 35), some (.int (nI (S 0 1))), some (.int (nI t)), some (.int (nI x)), none, none, none, none, none, none, none, none, none, none, none, none, none, none, none, none] [] (hp G' L)) : sm_Wk 20 143 Q (some (n, f)) 383 [some (.ref 9999), some (.ref 0), some (.ref 30), some (.ref 31), some (.ref 32), some (.ref 33), some (.ref 34), some (.ref 35), some (.int (nI (S 0 1))), some (.int (nI t)), some (.int (nI x)), none, none, none, none, none, none, none, none, none, none, none, none, none, none, none, none] [] (hp G L) := by
  obtain ⟨hR, hIc, ⟨w1, w2, w3, w4⟩, ⟨s1, s2⟩, hpos⟩ := hI
  obtain ⟨r1, r2, r3, r4⟩ := id hR.1
  obtain ⟨n1, n2⟩ := id hR.2.1
  have lo : ∀ v, v ≤ S 0 1 → ∀ G1, eqx clsP G G1 → Ic S G1 → sm_Wk 20 143 Q (some (n, f)) 386 [some (.ref 9999), some (.ref 0), some (.ref 30), some (.ref 31), some (.ref 32), some (.ref 33), some (.ref 34), some (.ref 35), some (.int (nI (S 0 1))), some (.int (nI t)), some (.int (nI x)), none, none, none, some (.int (nI v)), none, none, none, none, none, none, none, none, none, none, none, none] [] (hp G1 L) := by
    refine up _ (fun v hv ih G1 hx hI1 => ?_)
    have loH : v < S 0 1 → ∀ h, h ≤ S 0 0 → ∀ G2, eqx clsP G G2 → Ic S G2 → sm_Wk 20 143 Q (some (n, f)) 619 [some (.ref 9999), some (.ref 0), some (.ref 30), some (.ref 31), some (.ref 32), some (.ref 33), some (.ref 34), some (.ref 35), some (.int (nI (S 0 1))), some (.int (nI t)), some (.int (nI x)), none, none, none, some (.int (nI v)), none, some (.int (nI (S 2 v))), some (.int (nI h)), none, none, none, none, none, none, none, none, none] [] (hp G2 L) := by
      intro hvl
      refine up _ (fun h hh ihh G2 hx2 hI2 => ?_)
      have w1' : G2 30 (nI 6).toNatClampNeg = nI (S 0 0) := by rw [hx2 30 rfl]; exact w1
      have e34 : h < S 0 0 → G2 34 (nI 6 * nI v + nI h).toNatClampNeg = nI (bq 4 (aPt S v h)) := fun hl => by rw [hx2 34 rfl, pk_mul, nI_add, zn_clI (by omega)]; exact hb.2 v hvl h hl
      refine sm_body [386, 619] 80 sm_k143 (fun CT K hC hK => ?_)
      repeat' first
        | (with_reducible refine And.intro ?_ ?_)
        | ((with_reducible intro h9); first | exact absurd h9 (by decide) | (replace h9 := nle w1' (by omega) (by omega) h9) | (replace h9 := yle w1' (by omega) (by omega) h9) | ((rw [pt_in hvl r2 ‹_› r1, hx3 34 rfl, e34 ‹_›] at h9; first | exact absurd rfl h9 | skip)) | skip)
        | (with_reducible exact zn_in (by omega) (by decide))
        | (with_reducible exact z01) | (with_reducible exact z11) | (with_reducible exact zb01 _)
        | (with_reducible exact zn_inb (by omega) (by decide))
        | (with_reducible exact zn_ina (by omega) (by decide))
        | (with_reducible exact zn_inc (by omega) (by decide))
        | (with_reducible exact zn_ind (by omega) (by decide))
        | (with_reducible exact zn_ine (by omega) (by decide))
        | ((conv => whnf); first | (with_reducible refine And.intro ?_ ?_) | ((with_reducible intro h9); first | exact absurd h9 (by decide) | (replace h9 := nle w1' (by omega) (by omega) h9) | (replace h9 := yle w1' (by omega) (by omega) h9) | ((rw [pt_in hvl r2 ‹_› r1, hx3 34 rfl, e34 ‹_›] at h9; first | exact absurd rfl h9 | skip)) | skip) | (with_reducible refine hK _ _ _ _ (sm_un ?_)) | (refine f_points (hC.mono (by omega)) hR hI2 (fun G3 hx3 hI3 => ?_)))
      · simp only [nI_add]; exact ⟨⟨sm_less (ih hvl G2 hx2 hI2) ⟨rfl, rfl, rfl, rfl, rfl, rfl, rfl, rfl, rfl, rfl, rfl, rfl, trivial⟩⟩⟩
      · simp only [nI_add]; exact ⟨⟨ihh ‹_› G3 (eqx_trans hx2 hx3) hI3⟩⟩
    have loK : v < S 0 1 → ∀ k, k ≤ 5 → sm_Wk 20 143 Q (some (n, f)) 561 [some (.ref 9999), some (.ref 0), some (.ref 30), some (.ref 31), some (.ref 32), some (.ref 33), some (.ref 34), some (.ref 35), some (.int (nI (S 0 1))), some (.int (nI t)), some (.int (nI x)), none, none, none, some (.int (nI v)), none, some (.int (nI (S 2 v))), some (.int (nI k)), none, none, none, none, none, none, none, none, none] [] (hp G1 L) := by
      intro hvl
      refine up _ (fun k hk ihk => ?_)
      refine sm_body [561, 619] 80 sm_k143 (fun CT K hC hK => ?_)
      have h5 : S 2 v < 5 := by have := (r4 v hvl).1; omega
      repeat' first
        | (with_reducible refine And.intro ?_ ?_)
        | ((with_reducible intro h9); first | exact absurd h9 (by decide) | (replace h9 := zle (a := 5) (by omega) (by omega) h9) | (replace h9 := znle (a := 5) (by omega) (by omega) h9) | skip)
        | (with_reducible exact zn_in (by omega) (by decide))
        | (with_reducible exact z01) | (with_reducible exact z11) | (with_reducible exact zb01 _)
        | (with_reducible exact zn_inb (by omega) (by decide))
        | (with_reducible exact zn_ina (by omega) (by decide))
        | (with_reducible exact zn_inc (by omega) (by decide))
        | (with_reducible exact zn_ind (by omega) (by decide))
        | (with_reducible exact zn_ine (by omega) (by decide))
        | ((conv => whnf); first | (with_reducible refine And.intro ?_ ?_) | ((with_reducible intro h9); first | exact absurd h9 (by decide) | (replace h9 := zle (a := 5) (by omega) (by omega) h9) | (replace h9 := znle (a := 5) (by omega) (by omega) h9) | skip) | (with_reducible refine hK _ _ _ _ (sm_un ?_)) | (refine f_as (hC.mono (by omega)) hR hI1 ?_))
      all_goals first
        | exact ⟨⟨loH hvl 0 (Nat.zero_le _) G1 hx hI1⟩⟩
        | (simp only [nI_add]; exact ⟨⟨ihk ‹_›⟩⟩)
        | exact absurd (as_t hvl r2 h5 ‹_› (Or.inl ‹_›)) h9
        | exact absurd (as_t hvl r2 h5 ‹_› (Or.inr (Or.inl ‹_›))) h9
        | exact absurd (as_t hvl r2 h5 ‹_› (Or.inr (Or.inr ⟨‹_›, ‹_›⟩))) h9
        | exact absurd (as_f hvl r2 h5 ‹_› ⟨‹_›, ‹_›, fun z => absurd z.2 ‹_›⟩) h9
        | exact absurd (as_f hvl r2 h5 ‹_› ⟨‹_›, ‹_›, fun z => absurd z.1 ‹_›⟩) h9
    have loQ : v < S 0 1 → ∀ q, q ≤ 4 → sm_Wk 20 143 Q (some (n, f)) 513 [some (.ref 9999), some (.ref 0), some (.ref 30), some (.ref 31), some (.ref 32), some (.ref 33), some (.ref 34), some (.ref 35), some (.int (nI (S 0 1))), some (.int (nI t)), some (.int (nI x)), none, none, none, some (.int (nI v)), none, some (.int (nI (S 2 v))), some (.int (nI q)), none, none, none, none, none, none, none, none, none] [] (hp G1 L) := by
      intro hvl
      refine up _ (fun q hq ihq => ?_)
      have e10 : G1 30 (nI 10 + nI 3 * nI v).toNatClampNeg = nI (S 4 v) := by rw [hx 30 rfl, pk_mul, nI_add, zn_clI (by omega)]; exact (w4 v hvl).2.2
      refine sm_body [513, 561] 80 sm_k143 (fun CT K hC hK => ?_)
      repeat' first
        | (with_reducible refine And.intro ?_ ?_)
        | ((with_reducible intro h9); first | exact absurd h9 (by decide) | (replace h9 := zle (a := 4) (by omega) (by omega) h9) | (replace h9 := znle (a := 4) (by omega) (by omega) h9) | ((rw [ab10 hvl r2 ‹_›] at h9; first | exact absurd rfl h9 | skip)) | skip)
        | (with_reducible exact zn_in (by omega) (by decide))
        | (with_reducible exact z01) | (with_reducible exact z11) | (with_reducible exact zb01 _)
        | (with_reducible exact zn_inb (by omega) (by decide))
        | (with_reducible exact zn_ina (by omega) (by decide))
        | (with_reducible exact zn_inc (by omega) (by decide))
        | (with_reducible exact zn_ind (by omega) (by decide))
        | (with_reducible exact zn_ine (by omega) (by decide))
        | ((conv => whnf); first | (with_reducible refine And.intro ?_ ?_) | ((with_reducible intro h9); first | exact absurd h9 (by decide) | (replace h9 := zle (a := 4) (by omega) (by omega) h9) | (replace h9 := znle (a := 4) (by omega) (by omega) h9) | ((rw [ab10 hvl r2 ‹_›] at h9; first | exact absurd rfl h9 | skip)) | skip) | (with_reducible refine hK _ _ _ _ (sm_un ?_)) | ((rw [nI_add]; refine f_about (hC.mono (by omega)) hR hI1 ?_)) | ((rw [e10]; refine l_turns (hC.mono (by omega)) (r4 v hvl).1 (r4 v hvl).2.2 (by decide) ‹_› ?_)))
      · exact ⟨⟨loK hvl 0 (Nat.zero_le _)⟩⟩
      · simp only [nI_add]; exact ⟨⟨ihq ‹_›⟩⟩
    have kind : v < S 0 1 → sm_Wk 20 143 Q (some (n, f)) 435 [some (.ref 9999), some (.ref 0), some (.ref 30), some (.ref 31), some (.ref 32), some (.ref 33), some (.ref 34), some (.ref 35), some (.int (nI (S 0 1))), some (.int (nI t)), some (.int (nI x)), none, none, none, some (.int (nI v)), some (.int (nI (so S v))), none, none, none, none, none, none, none, none, none, none, none] [] (hp G1 L) := by
      intro hvl
      have e8 : G1 30 (nI 8 + nI 3 * nI v).toNatClampNeg = nI (S 2 v) := by rw [hx 30 rfl, pk_mul, nI_add, zn_clI (by omega)]; exact (w4 v hvl).1
      have e9 : G1 30 (nI 9 + nI 3 * nI v).toNatClampNeg = nI (S 3 v) := by rw [hx 30 rfl, pk_mul, nI_add, zn_clI (by omega)]; exact (w4 v hvl).2.1
      have e10 : G1 30 (nI 10 + nI 3 * nI v).toNatClampNeg = nI (S 4 v) := by rw [hx 30 rfl, pk_mul, nI_add, zn_clI (by omega)]; exact (w4 v hvl).2.2
      refine sm_body [513] 80 sm_k143 (fun CT K hC hK => ?_)
      repeat' first
        | (with_reducible refine And.intro ?_ ?_)
        | ((with_reducible intro h9); first | exact absurd h9 (by decide) | ((rw [ab0 hvl r2, e8] at h9; first | exact absurd rfl h9 | skip)) | ((rw [ab1 hvl r2, e9] at h9; first | exact absurd rfl h9 | skip)) | ((rw [ab2 hvl r2, e10] at h9; first | exact absurd rfl h9 | skip)) | ((rw [ab3 hvl r2] at h9; first | exact absurd rfl h9 | skip)) | skip)
        | (with_reducible exact zn_in (by omega) (by decide))
        | (with_reducible exact z01) | (with_reducible exact z11) | (with_reducible exact zb01 _)
        | (with_reducible exact zn_inb (by omega) (by decide))
        | (with_reducible exact zn_ina (by omega) (by decide))
        | (with_reducible exact zn_inc (by omega) (by decide))
        | (with_reducible exact zn_ind (by omega) (by decide))
        | (with_reducible exact zn_ine (by omega) (by decide))
        | ((conv => whnf); first | (with_reducible refine And.intro ?_ ?_) | ((with_reducible intro h9); first | exact absurd h9 (by decide) | ((rw [ab0 hvl r2, e8] at h9; first | exact absurd rfl h9 | skip)) | ((rw [ab1 hvl r2, e9] at h9; first | exact absurd rfl h9 | skip)) | ((rw [ab2 hvl r2, e10] at h9; first | exact absurd rfl h9 | skip)) | ((rw [ab3 hvl r2] at h9; first | exact absurd rfl h9 | skip)) | skip) | (with_reducible refine hK _ _ _ _ (sm_un ?_)) | (refine f_about (hC.mono (by omega)) hR hI1 ?_))
      simp only [e8]
      exact ⟨⟨sm_less (loQ hvl 0 (Nat.zero_le _)) ⟨rfl, rfl, rfl, rfl, rfl, rfl, rfl, rfl, rfl, rfl, rfl, rfl, rfl, rfl, trivial⟩⟩⟩
    have loO : v < S 0 1 → ∀ i, i ≤ S 0 2 → sm_Wk 20 143 Q (some (n, f)) 399 [some (.ref 9999), some (.ref 0), some (.ref 30), some (.ref 31), some (.ref 32), some (.ref 33), some (.ref 34), some (.ref 35), some (.int (nI (S 0 1))), some (.int (nI t)), some (.int (nI x)), none, none, none, some (.int (nI v)), some (.int (nI (ct (fun k => Nat.beq (S 6 k) v) i))), some (.int (nI i)), none, none, none, none, none, none, none, none, none, none] [] (hp G1 L) := by
      intro hvl
      refine up _ (fun i hi ihi => ?_)
      have s1' : G1 31 (nI 30).toNatClampNeg = nI (S 0 2) := by rw [hx 31 rfl]; exact s1
      have eb : i < S 0 2 → (G1 31 (nI 3 * nI i).toNatClampNeg = nI v ↔ S 6 i = v) := by
        intro hl
        have := (n2 i hl).1
        rw [hx 31 rfl, pk_mul, zn_clI (by omega), (s2 i hl).1, nI_eq (by omega) (by omega)]
      refine sm_body [399, 435] 80 sm_k143 (fun CT K hC hK => ?_)
      repeat' first
        | (with_reducible refine And.intro ?_ ?_)
        | ((with_reducible intro h9); first | exact absurd h9 (by decide) | (replace h9 := nle s1' (by omega) (by omega) h9) | (replace h9 := yle s1' (by omega) (by omega) h9) | (rw [eb ‹_›] at h9) | skip)
        | (with_reducible exact zn_in (by omega) (by decide))
        | (with_reducible exact z01) | (with_reducible exact z11) | (with_reducible exact zb01 _)
        | (with_reducible exact zn_inb (by omega) (by decide))
        | (with_reducible exact zn_ina (by omega) (by decide))
        | (with_reducible exact zn_inc (by omega) (by decide))
        | (with_reducible exact zn_ind (by omega) (by decide))
        | (with_reducible exact zn_ine (by omega) (by decide))
        | ((conv => whnf); first | (with_reducible refine And.intro ?_ ?_) | ((with_reducible intro h9); first | exact absurd h9 (by decide) | (replace h9 := nle s1' (by omega) (by omega) h9) | (replace h9 := yle s1' (by omega) (by omega) h9) | (rw [eb ‹_›] at h9) | skip) | (with_reducible refine hK _ _ _ _ (sm_un ?_)))
      all_goals try have eq1 : (fun k => Nat.beq (S 6 k) v) i = true := beq_t ‹_›
      all_goals try have eq2 : (fun k => Nat.beq (S 6 k) v) i = false := beq_f ‹_›
      all_goals first
        | ((obtain rfl : i = S 0 2 := by omega); exact ⟨⟨sm_less (kind hvl) ⟨rfl, rfl, rfl, rfl, rfl, rfl, rfl, rfl, rfl, rfl, rfl, rfl, rfl, trivial⟩⟩⟩)
        | (have e := ihi (by omega); rw [ct, bn_t eq1] at e; simp only [nI_add]; exact ⟨⟨e⟩⟩)
        | (have e := ihi (by omega); rw [ct, bn_f eq2] at e; simp only [nI_add]; exact ⟨⟨e⟩⟩)
    refine sm_body [399, 664] 80 sm_k143 (fun CT K hC hK => ?_)
    repeat' first
      | (with_reducible refine And.intro ?_ ?_)
      | ((with_reducible intro h9); first | exact absurd h9 (by decide) | (replace h9 := zle (by omega) (by omega) h9) | (replace h9 := znle (by omega) (by omega) h9) | skip)
      | (with_reducible exact zn_in (by omega) (by decide))
      | (with_reducible exact z01) | (with_reducible exact z11) | (with_reducible exact zb01 _)
      | (with_reducible exact zn_inb (by omega) (by decide))
      | (with_reducible exact zn_ina (by omega) (by decide))
      | (with_reducible exact zn_inc (by omega) (by decide))
      | (with_reducible exact zn_ind (by omega) (by decide))
      | (with_reducible exact zn_ine (by omega) (by decide))
      | ((conv => whnf); first | (with_reducible refine And.intro ?_ ?_) | ((with_reducible intro h9); first | exact absurd h9 (by decide) | (replace h9 := zle (by omega) (by omega) h9) | (replace h9 := znle (by omega) (by omega) h9) | skip) | (with_reducible refine hK _ _ _ _ (sm_un ?_)))
    · obtain rfl : v = S 0 1 := by omega
      exact ⟨⟨sm_less (hN G1 hx hI1) ⟨rfl, rfl, rfl, rfl, rfl, rfl, rfl, rfl, rfl, rfl, rfl, trivial⟩⟩⟩
    · exact ⟨⟨loO h9 0 (Nat.zero_le _)⟩⟩
  refine sm_body [386] 80 sm_k143 (fun CT K hC hK => ?_)
  repeat' first
    | (with_reducible refine And.intro ?_ ?_)
    | ((with_reducible intro h9); first | exact absurd h9 (by decide) | skip)
    | (with_reducible exact zn_in (by omega) (by decide))
    | (with_reducible exact z01) | (with_reducible exact z11) | (with_reducible exact zb01 _)
    | (with_reducible exact zn_inb (by omega) (by decide))
    | (with_reducible exact zn_ina (by omega) (by decide))
    | (with_reducible exact zn_inc (by omega) (by decide))
    | (with_reducible exact zn_ind (by omega) (by decide))
    | (with_reducible exact zn_ine (by omega) (by decide))
    | ((conv => whnf); first | (with_reducible refine And.intro ?_ ?_) | ((with_reducible intro h9); first | exact absurd h9 (by decide) | skip) | (with_reducible refine hK _ _ _ _ (sm_un ?_)))
  exact ⟨⟨lo 0 (Nat.zero_le _) G eqx_rfl hIc⟩⟩
set_option maxRecDepth 100000 in
set_option maxHeartbeats 4000000 in
theorem lw_F (hI : LI S G) (hb : bA S G) (hN : ∀ G', eqx clsP G G' → Ic S G' → sm_Wk 20 143 Q (some (n, f)) 698 [some (.ref 9999), some (.ref 0), some (.ref 30), some (.ref 31), some (.ref 32), some (.ref 33), some (.ref 34), some (.ref 35), some (.int (nI (S 0 1))), some (.int (nI t)), some (.int (nI x)), none, none, none, none, none, none, none, none, none, none, none, none, none, none, none, none] [] (hp G' L)) : sm_Wk 20 143 Q (some (n, f)) 664 [some (.ref 9999), some (.ref 0), some (.ref 30), some (.ref 31), some (.ref 32), some (.ref 33), some (.ref 34), some (.ref 35), some (.int (nI (S 0 1))), some (.int (nI t)), some (.int (nI x)), none, none, none, none, none, none, none, none, none, none, none, none, none, none, none, none] [] (hp G L) := by
  obtain ⟨hR, hIc, ⟨w1, w2, w3, w4⟩, ⟨s1, s2⟩, hpos⟩ := hI
  obtain ⟨r1, r2, r3, r4⟩ := id hR.1
  have lo : ∀ h, h ≤ S 0 0 → ∀ G1, eqx clsP G G1 → Ic S G1 → sm_Wk 20 143 Q (some (n, f)) 667 [some (.ref 9999), some (.ref 0), some (.ref 30), some (.ref 31), some (.ref 32), some (.ref 33), some (.ref 34), some (.ref 35), some (.int (nI (S 0 1))), some (.int (nI t)), some (.int (nI x)), none, none, none, some (.int (nI h)), none, none, none, none, none, none, none, none, none, none, none, none] [] (hp G1 L) := by
    refine up _ (fun h hh ih G1 hx hI1 => ?_)
    have w1' : G1 30 (nI 6).toNatClampNeg = nI (S 0 0) := by rw [hx 30 rfl]; exact w1
    have e35 : h < S 0 0 → G1 35 (nI h).toNatClampNeg = nI (bq 4 (aBl S h)) := fun hl => by rw [hx 35 rfl, zn_clI (by omega)]; exact hb.1 h hl
    refine sm_body [667, 698] 80 sm_k143 (fun CT K hC hK => ?_)
    repeat' first
      | (with_reducible refine And.intro ?_ ?_)
      | ((with_reducible intro h9); first | exact absurd h9 (by decide) | (replace h9 := nle w1' (by omega) (by omega) h9) | (replace h9 := yle w1' (by omega) (by omega) h9) | ((rw [bl_in ‹_› r1, hx3 35 rfl, e35 ‹_›] at h9; first | exact absurd rfl h9 | skip)) | skip)
      | (with_reducible exact zn_in (by omega) (by decide))
      | (with_reducible exact z01) | (with_reducible exact z11) | (with_reducible exact zb01 _)
      | (with_reducible exact zn_inb (by omega) (by decide))
      | (with_reducible exact zn_ina (by omega) (by decide))
      | (with_reducible exact zn_inc (by omega) (by decide))
      | (with_reducible exact zn_ind (by omega) (by decide))
      | (with_reducible exact zn_ine (by omega) (by decide))
      | ((conv => whnf); first | (with_reducible refine And.intro ?_ ?_) | ((with_reducible intro h9); first | exact absurd h9 (by decide) | (replace h9 := nle w1' (by omega) (by omega) h9) | (replace h9 := yle w1' (by omega) (by omega) h9) | ((rw [bl_in ‹_› r1, hx3 35 rfl, e35 ‹_›] at h9; first | exact absurd rfl h9 | skip)) | skip) | (with_reducible refine hK _ _ _ _ (sm_un ?_)) | (refine f_blows (hC.mono (by omega)) hR hI1 (fun G3 hx3 hI3 => ?_)))
    · obtain rfl : h = S 0 0 := by omega
      exact ⟨⟨sm_less (hN G1 hx hI1) ⟨rfl, rfl, rfl, rfl, rfl, rfl, rfl, rfl, rfl, rfl, rfl, trivial⟩⟩⟩
    · simp only [nI_add]; exact ⟨⟨ih ‹_› G3 (eqx_trans hx hx3) hI3⟩⟩
  refine sm_body [667] 80 sm_k143 (fun CT K hC hK => ?_)
  repeat' first
    | (with_reducible refine And.intro ?_ ?_)
    | ((with_reducible intro h9); first | exact absurd h9 (by decide) | skip)
    | (with_reducible exact zn_in (by omega) (by decide))
    | (with_reducible exact z01) | (with_reducible exact z11) | (with_reducible exact zb01 _)
    | (with_reducible exact zn_inb (by omega) (by decide))
    | (with_reducible exact zn_ina (by omega) (by decide))
    | (with_reducible exact zn_inc (by omega) (by decide))
    | (with_reducible exact zn_ind (by omega) (by decide))
    | (with_reducible exact zn_ine (by omega) (by decide))
    | ((conv => whnf); first | (with_reducible refine And.intro ?_ ?_) | ((with_reducible intro h9); first | exact absurd h9 (by decide) | skip) | (with_reducible refine hK _ _ _ _ (sm_un ?_)))
  exact ⟨⟨lo 0 (Nat.zero_le _) G eqx_rfl hIc⟩⟩
end CHECKS
