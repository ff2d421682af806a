/-! digest: both sides. -/
def mixI (h : Int64) (x : Int32) : Int64 := lN 31 * h + x.toInt64
def wht (i : Nat) : Nat := if i < 4 then i else i + 6
def fA (S : Nat → Nat → Nat) (v : Nat) (h : Int64) : Nat → Int64
  | 0 => h
  | n + 1 => mixI (fA S v h n) (aboutV S v (nI (wht n)))
def fP (S : Nat → Nat → Nat) (v : Nat) (h : Int64) : Nat → Int64
  | 0 => h
  | n + 1 => mixI (fP S v h n) (nI (bq 4 (aPt S v n)))
def dV (S : Nat → Nat → Nat) (v : Nat) (h : Int64) : Int64 := fP S v (fA S v h 8) (S 0 0)
def dVs (S : Nat → Nat → Nat) : Nat → Int64
  | 0 => lN 823
  | v + 1 => dV S v (dVs S v)
def dB (S : Nat → Nat → Nat) (h : Int64) : Nat → Int64
  | 0 => h
  | n + 1 => mixI (dB S h n) (nI (bq 4 (aBl S n)))
def dF (S : Nat → Nat → Nat) (h : Int64) : Int64 := if S 0 0 = 0 then h else mixI h (nI (aAll S))
def dP (S : Nat → Nat → Nat) (h : Int64) : Nat → Int64
  | 0 => h
  | n + 1 => mixI (dP S h n) (nI (S 5 n))
def dC (S : Nat → Nat → Nat) (h : Int64) : Nat → Int64
  | 0 => h
  | n + 1 => mixI (dC S h n) (A_count S (nI n))
def A_digest (S : Nat → Nat → Nat) : Int64 := dC S (dP S (dF S (dB S (dVs S (S 0 1)) (S 0 0))) (S 0 3)) 7
theorem aboutB_w {i : Nat} (h : i < 8) : aboutB (nI (wht i)) = true := by
  have : i = 0 ∨ i = 1 ∨ i = 2 ∨ i = 3 ∨ i = 4 ∨ i = 5 ∨ i = 6 ∨ i = 7 := by omega
  rcases this with rfl | rfl | rfl | rfl | rfl | rfl | rfl | rfl <;> decide
section DIG
variable {CT : sm_CT} {G : Nat → Nat → Int32} {L : Nat → Nat → Int64} {Q : sm_Q} {S : Nat → Nat → Nat} {c : Nat} {h : sm_H}
theorem about_w {v i : Nat} (hv : v < S 0 1) (h4 : S 0 1 ≤ 4) (h : i < 8) : A_about S (nI v) (nI (wht i)) = aboutV S v (nI (wht i)) := by
  unfold A_about
  rw [i0 hv (by omega), aboutB_w h, ci hv (by omega)]
  rfl
set_option maxRecDepth 100000 in
set_option maxHeartbeats 4000000 in
theorem s_digestOfVane (hC : sm_C 15 CT) (hR : RS c S) (hI : Ic S G) {v : Nat} (hv : v < S 0 1) {a : Int64} (hQ : ∀ G', eqx clsP G G' → Ic S G' → Q (some (.long (dV S v a))) (hp G' L)) : CT 65 [.ref 0, .long a, .int (nI v)] (hp G L) Q := by
  obtain ⟨hdR, hnR, -⟩ := id hR
  obtain ⟨r1, r2, r3, r4⟩ := id hdR
  refine sm_meth hC [some (.ref 0), some (.long a), none, some (.int (nI v)), none, none, none] rfl rfl rfl ?_
  have lo3 : ∀ i, i ≤ S 0 0 → ∀ G1, eqx clsP G G1 → Ic S G1 → sm_Wk 14 65 Q none 72 [some (.ref 0), some (.long a), none, some (.int (nI v)), some (.long (fP S v (fA S v a 8) i)), none, some (.int (nI i))] [] (hp G1 L) := by
    refine up _ (fun i hi ih G1 hx hI1 => ?_)
    have e1 := hI1.1.1
    refine sm_body [72] 80 sm_k65 (fun CT K hC hK => ?_)
    repeat' first
      | (with_reducible refine And.intro ?_ ?_)
      | ((with_reducible intro h9); first | exact absurd h9 (by decide) | (replace h9 := nle e1 (by omega) (by omega) h9) | (replace h9 := yle e1 (by omega) (by omega) h9) | skip)
      | (with_reducible exact zn_in (by omega) (by decide))
      | (with_reducible exact z01) | (with_reducible exact z11) | (with_reducible exact zb01 _)
      | (with_reducible exact zn_inb (by omega) (by decide))
      | (with_reducible exact zn_ina (by omega) (by decide))
      | (with_reducible exact zn_inc (by omega) (by decide))
      | ((conv => whnf); first | (with_reducible refine And.intro ?_ ?_) | ((with_reducible intro h9); first | exact absurd h9 (by decide) | (replace h9 := nle e1 (by omega) (by omega) h9) | (replace h9 := yle e1 (by omega) (by omega) h9) | skip) | (with_reducible refine hK _ _ _ _ (sm_un ?_)) | (with_reducible refine f_points (hC.mono (by omega)) hR hI1 (fun G2 hx2 hI2 => ?_)))
    · obtain rfl : i = S 0 0 := by omega
      exact hQ G1 hx hI1
    · have e := ih ‹_› G2 (eqx_trans hx hx2) hI2
      have ep : A_points S (nI v) (nI i) = nI (bq 4 (aPt S v i)) := by
        unfold A_points
        rw [i0 hv (by omega), i0 ‹i < S 0 0› (by omega), ci hv (by omega), ci ‹i < S 0 0› (by omega)]
        rfl
      rw [fP, mixI, ← ep] at e
      simp only [nI_add]; exact ⟨⟨e⟩⟩
  have lo2 : ∀ i, i ≤ 4 → sm_Wk 14 65 Q none 39 [some (.ref 0), some (.long a), none, some (.int (nI v)), some (.long (fA S v a (4 + i))), none, some (.int (nI (10 + i)))] [] (hp G L) := by
    refine up _ (fun i hi ih => ?_)
    refine sm_body [39, 72] 80 sm_k65 (fun CT K hC hK => ?_)
    repeat' first
      | (with_reducible refine And.intro ?_ ?_)
      | ((with_reducible intro h9); first | exact absurd h9 (by decide) | (replace h9 := zlt (a := 13) (by omega) (by omega) h9) | (replace h9 := znl (a := 13) (by omega) (by omega) h9) | skip)
      | (with_reducible exact zn_in (by omega) (by decide))
      | (with_reducible exact z01) | (with_reducible exact z11) | (with_reducible exact zb01 _)
      | (with_reducible exact zn_inb (by omega) (by decide))
      | (with_reducible exact zn_ina (by omega) (by decide))
      | (with_reducible exact zn_inc (by omega) (by decide))
      | ((conv => whnf); first | (with_reducible refine And.intro ?_ ?_) | ((with_reducible intro h9); first | exact absurd h9 (by decide) | (replace h9 := zlt (a := 13) (by omega) (by omega) h9) | (replace h9 := znl (a := 13) (by omega) (by omega) h9) | skip) | (with_reducible refine hK _ _ _ _ (sm_un ?_)) | (with_reducible refine f_about (hC.mono (by omega)) hR hI ?_))
    · obtain rfl : i = 4 := by omega
      exact ⟨⟨lo3 0 (Nat.zero_le _) G eqx_rfl hI⟩⟩
    · have e := ih (by omega)
      have ea := about_w (S := S) (i := 4 + i) hv r2 (by omega)
      have ew : wht (4 + i) = 10 + i := by unfold wht; rw [if_f (by omega)]; omega
      rw [show 4 + (i + 1) = 4 + i + 1 by omega, fA, mixI, ← ea, ew, show 10 + (i + 1) = 10 + i + 1 by omega] at e
      simp only [nI_add]; exact ⟨⟨e⟩⟩
  have lo : ∀ i, i ≤ 4 → sm_Wk 14 65 Q none 6 [some (.ref 0), some (.long a), none, some (.int (nI v)), some (.long (fA S v a i)), none, some (.int (nI i))] [] (hp G L) := by
    refine up _ (fun i hi ih => ?_)
    refine sm_body [6, 39] 80 sm_k65 (fun CT K hC hK => ?_)
    repeat' first
      | (with_reducible refine And.intro ?_ ?_)
      | ((with_reducible intro h9); first | exact absurd h9 (by decide) | (replace h9 := zlt (a := 3) (by omega) (by omega) h9) | (replace h9 := znl (a := 3) (by omega) (by omega) h9) | skip)
      | (with_reducible exact zn_in (by omega) (by decide))
      | (with_reducible exact z01) | (with_reducible exact z11) | (with_reducible exact zb01 _)
      | (with_reducible exact zn_inb (by omega) (by decide))
      | (with_reducible exact zn_ina (by omega) (by decide))
      | (with_reducible exact zn_inc (by omega) (by decide))
      | ((conv => whnf); first | (with_reducible refine And.intro ?_ ?_) | ((with_reducible intro h9); first | exact absurd h9 (by decide) | (replace h9 := zlt (a := 3) (by omega) (by omega) h9) | (replace h9 := znl (a := 3) (by omega) (by omega) h9) | skip) | (with_reducible refine hK _ _ _ _ (sm_un ?_)) | (with_reducible refine f_about (hC.mono (by omega)) hR hI ?_))
    · obtain rfl : i = 4 := by omega
      exact ⟨⟨lo2 0 (Nat.zero_le _)⟩⟩
    · have e := ih (by omega)
      have ea := about_w (S := S) (i := i) hv r2 (by omega)
      have ew : wht i = i := by unfold wht; rw [if_t (by omega)]
      rw [fA, mixI, ← ea, ew] at e
      simp only [nI_add]; exact ⟨⟨e⟩⟩
  refine sm_body [6] 80 sm_k65 (fun CT K hC hK => ?_)
  repeat' first
    | (with_reducible refine And.intro ?_ ?_)
    | ((with_reducible intro h9); first | exact absurd h9 (by decide) | skip)
    | (with_reducible exact zn_in (by omega) (by decide))
    | (with_reducible exact z01) | (with_reducible exact z11) | (with_reducible exact zb01 _)
    | (with_reducible exact zn_inb (by omega) (by decide))
    | (with_reducible exact zn_ina (by omega) (by decide))
    | (with_reducible exact zn_inc (by omega) (by decide))
    | ((conv => whnf); first | (with_reducible refine And.intro ?_ ?_) | ((with_reducible intro h9); first | exact absurd h9 (by decide) | skip) | (with_reducible refine hK _ _ _ _ (sm_un ?_)))
  exact ⟨⟨lo 0 (Nat.zero_le _)⟩⟩
set_option maxRecDepth 100000 in
set_option maxHeartbeats 4000000 in
theorem f_digest (hC : sm_C 16 CT) (hR : RS c S) (hI : Ic S G) (hQ : ∀ G', eqx clsP G G' → Ic S G' → Q (some (.long (A_digest S))) (hp G' L)) : CT 64 [.ref 0] (hp G L) Q := by
  obtain ⟨hdR, hnR, -⟩ := id hR
  obtain ⟨r1, r2, r3, r4⟩ := id hdR
  have r8 := hR.2.2.1
  refine sm_meth hC [some (.ref 0), none, none, none] rfl rfl rfl ?_
  have lo4 : ∀ i, i ≤ 7 → ∀ G1, eqx clsP G G1 → Ic S G1 → sm_Wk 15 64 Q none 122 [some (.ref 0), some (.long (dC S (dP S (dF S (dB S (dVs S (S 0 1)) (S 0 0))) (S 0 3)) i)), none, some (.int (nI i))] [] (hp G1 L) := by
    refine up _ (fun i hi ih G1 hx hI1 => ?_)
    refine sm_body [122] 80 sm_k64 (fun CT K hC hK => ?_)
    repeat' first
      | (with_reducible refine And.intro ?_ ?_)
      | ((with_reducible intro h9); first | exact absurd h9 (by decide) | (replace h9 := zlt (a := 6) (by omega) (by omega) h9) | (replace h9 := znl (a := 6) (by omega) (by omega) h9) | skip)
      | (with_reducible exact zn_in (by omega) (by decide))
      | (with_reducible exact z01) | (with_reducible exact z11) | (with_reducible exact zb01 _)
      | (with_reducible exact zn_inb (by omega) (by decide))
      | (with_reducible exact zn_ina (by omega) (by decide))
      | (with_reducible exact zn_inc (by omega) (by decide))
      | ((conv => whnf); first | (with_reducible refine And.intro ?_ ?_) | ((with_reducible intro h9); first | exact absurd h9 (by decide) | (replace h9 := zlt (a := 6) (by omega) (by omega) h9) | (replace h9 := znl (a := 6) (by omega) (by omega) h9) | skip) | (with_reducible refine hK _ _ _ _ (sm_un ?_)) | (with_reducible refine f_count (hC.mono (by omega)) hR hI1 ?_))
    · obtain rfl : i = 7 := by omega
      exact hQ G1 hx hI1
    · have e := ih (by omega) G1 hx hI1
      rw [dC, mixI] at e
      simp only [nI_add]; exact ⟨⟨e⟩⟩
  have lo3 : ∀ i, i ≤ S 0 3 → ∀ G1, eqx clsP G G1 → Ic S G1 → sm_Wk 15 64 Q none 86 [some (.ref 0), some (.long (dP S (dF S (dB S (dVs S (S 0 1)) (S 0 0))) i)), none, some (.int (nI i))] [] (hp G1 L) := by
    refine up _ (fun i hi ih G1 hx hI1 => ?_)
    have e1 := hI1.2.1.1
    have e2 := hI1.2.1.2
    refine sm_body [86, 122] 80 sm_k64 (fun CT K hC hK => ?_)
    repeat' first
      | (with_reducible refine And.intro ?_ ?_)
      | ((with_reducible intro h9); first | exact absurd h9 (by decide) | (replace h9 := nle e1 (by omega) (by omega) h9) | (replace h9 := yle e1 (by omega) (by omega) h9) | skip)
      | (with_reducible exact zn_in (by omega) (by decide))
      | (with_reducible exact z01) | (with_reducible exact z11) | (with_reducible exact zb01 _)
      | (with_reducible exact zn_inb (by omega) (by decide))
      | (with_reducible exact zn_ina (by omega) (by decide))
      | (with_reducible exact zn_inc (by omega) (by decide))
      | ((conv => whnf); first | (with_reducible refine And.intro ?_ ?_) | ((with_reducible intro h9); first | exact absurd h9 (by decide) | (replace h9 := nle e1 (by omega) (by omega) h9) | (replace h9 := yle e1 (by omega) (by omega) h9) | skip) | (with_reducible refine hK _ _ _ _ (sm_un ?_)))
    · obtain rfl : i = S 0 3 := by omega
      exact ⟨⟨lo4 0 (Nat.zero_le _) G1 hx hI1⟩⟩
    · have e := ih ‹_› G1 hx hI1
      rw [dP, mixI, ← e2 i ‹_›] at e
      simp only [nI_add, zn_clI (show i < 2 ^ 31 by omega)]
      exact ⟨⟨e⟩⟩
  have mid : ∀ G1, eqx clsP G G1 → Ic S G1 → sm_Wk 15 64 Q none 62 [some (.ref 0), some (.long (dB S (dVs S (S 0 1)) (S 0 0))), none, some (.int (nI (S 0 0)))] [] (hp G1 L) := by
    intro G1 hx hI1
    have e1 := hI1.1.1
    refine sm_body [86] 80 sm_k64 (fun CT K hC hK => ?_)
    repeat' first
      | (with_reducible refine And.intro ?_ ?_)
      | ((with_reducible intro h9); first | exact absurd h9 (by decide) | ((rw [e1] at h9; replace h9 := zle (b := 0) (by omega) (by omega) h9)) | ((rw [e1] at h9; replace h9 := znle (b := 0) (by omega) (by omega) h9)) | skip)
      | (with_reducible exact zn_in (by omega) (by decide))
      | (with_reducible exact z01) | (with_reducible exact z11) | (with_reducible exact zb01 _)
      | (with_reducible exact zn_inb (by omega) (by decide))
      | (with_reducible exact zn_ina (by omega) (by decide))
      | (with_reducible exact zn_inc (by omega) (by decide))
      | ((conv => whnf); first | (with_reducible refine And.intro ?_ ?_) | ((with_reducible intro h9); first | exact absurd h9 (by decide) | ((rw [e1] at h9; replace h9 := zle (b := 0) (by omega) (by omega) h9)) | ((rw [e1] at h9; replace h9 := znle (b := 0) (by omega) (by omega) h9)) | skip) | (with_reducible refine hK _ _ _ _ (sm_un ?_)) | (with_reducible refine f_fitting (hC.mono (by omega)) hR hI1 (fun G2 hx2 hI2 => ?_)))
    · have e := lo3 0 (Nat.zero_le _) G1 hx hI1
      rw [show dP S (dF S (dB S (dVs S (S 0 1)) (S 0 0))) 0 = dF S (dB S (dVs S (S 0 1)) (S 0 0)) from rfl, dF, if_t (show S 0 0 = 0 by omega)] at e
      exact ⟨⟨e⟩⟩
    · have e := lo3 0 (Nat.zero_le _) G2 (eqx_trans hx hx2) hI2
      have ef : A_fitting S = nI (aAll S) := by
        unfold A_fitting
        rw [if_f (show ¬ S 0 0 = 0 by omega)]
      rw [show dP S (dF S (dB S (dVs S (S 0 1)) (S 0 0))) 0 = dF S (dB S (dVs S (S 0 1)) (S 0 0)) from rfl, dF, if_f (show ¬ S 0 0 = 0 by omega), mixI, ← ef] at e
      exact ⟨⟨e⟩⟩
  have lo2 : ∀ i, i ≤ S 0 0 → ∀ G1, eqx clsP G G1 → Ic S G1 → sm_Wk 15 64 Q none 32 [some (.ref 0), some (.long (dB S (dVs S (S 0 1)) i)), none, some (.int (nI i))] [] (hp G1 L) := by
    refine up _ (fun i hi ih G1 hx hI1 => ?_)
    have e1 := hI1.1.1
    refine sm_body [32, 62] 80 sm_k64 (fun CT K hC hK => ?_)
    repeat' first
      | (with_reducible refine And.intro ?_ ?_)
      | ((with_reducible intro h9); first | exact absurd h9 (by decide) | (replace h9 := nle e1 (by omega) (by omega) h9) | (replace h9 := yle e1 (by omega) (by omega) h9) | skip)
      | (with_reducible exact zn_in (by omega) (by decide))
      | (with_reducible exact z01) | (with_reducible exact z11) | (with_reducible exact zb01 _)
      | (with_reducible exact zn_inb (by omega) (by decide))
      | (with_reducible exact zn_ina (by omega) (by decide))
      | (with_reducible exact zn_inc (by omega) (by decide))
      | ((conv => whnf); first | (with_reducible refine And.intro ?_ ?_) | ((with_reducible intro h9); first | exact absurd h9 (by decide) | (replace h9 := nle e1 (by omega) (by omega) h9) | (replace h9 := yle e1 (by omega) (by omega) h9) | skip) | (with_reducible refine hK _ _ _ _ (sm_un ?_)) | (with_reducible refine f_blows (hC.mono (by omega)) hR hI1 (fun G2 hx2 hI2 => ?_)))
    · obtain rfl : i = S 0 0 := by omega
      exact ⟨⟨mid G1 hx hI1⟩⟩
    · have e := ih ‹_› G2 (eqx_trans hx hx2) hI2
      have ep : A_blows S (nI i) = nI (bq 4 (aBl S i)) := by
        unfold A_blows
        rw [i0 ‹i < S 0 0› (by omega), ci ‹i < S 0 0› (by omega)]
        rfl
      rw [dB, mixI, ← ep] at e
      simp only [nI_add]; exact ⟨⟨e⟩⟩
  have lo : ∀ i, i ≤ S 0 1 → ∀ G1, eqx clsP G G1 → Ic S G1 → sm_Wk 15 64 Q none 6 [some (.ref 0), some (.long (dVs S i)), none, some (.int (nI i))] [] (hp G1 L) := by
    refine up _ (fun i hi ih G1 hx hI1 => ?_)
    have e1 := hI1.1.2.1
    refine sm_body [6, 32] 80 sm_k64 (fun CT K hC hK => ?_)
    repeat' first
      | (with_reducible refine And.intro ?_ ?_)
      | ((with_reducible intro h9); first | exact absurd h9 (by decide) | (replace h9 := nle e1 (by omega) (by omega) h9) | (replace h9 := yle e1 (by omega) (by omega) h9) | skip)
      | (with_reducible exact zn_in (by omega) (by decide))
      | (with_reducible exact z01) | (with_reducible exact z11) | (with_reducible exact zb01 _)
      | (with_reducible exact zn_inb (by omega) (by decide))
      | (with_reducible exact zn_ina (by omega) (by decide))
      | (with_reducible exact zn_inc (by omega) (by decide))
      | ((conv => whnf); first | (with_reducible refine And.intro ?_ ?_) | ((with_reducible intro h9); first | exact absurd h9 (by decide) | (replace h9 := nle e1 (by omega) (by omega) h9) | (replace h9 := yle e1 (by omega) (by omega) h9) | skip) | (with_reducible refine hK _ _ _ _ (sm_un ?_)) | (with_reducible refine s_digestOfVane (hC.mono (by omega)) hR hI1 ‹_› (fun G2 hx2 hI2 => ?_)))
    · obtain rfl : i = S 0 1 := by omega
      exact ⟨⟨lo2 0 (Nat.zero_le _) G1 hx hI1⟩⟩
    · simp only [nI_add]; exact ⟨⟨ih ‹_› G2 (eqx_trans hx hx2) hI2⟩⟩
  refine sm_body [6] 80 sm_k64 (fun CT K hC hK => ?_)
  repeat' first
    | (with_reducible refine And.intro ?_ ?_)
    | ((with_reducible intro h9); first | exact absurd h9 (by decide) | skip)
    | (with_reducible exact zn_in (by omega) (by decide))
    | (with_reducible exact z01) | (with_reducible exact z11) | (with_reducible exact zb01 _)
    | (with_reducible exact zn_inb (by omega) (by decide))
    | (with_reducible exact zn_ina (by omega) (by decide))
    | (with_reducible exact zn_inc (by omega) (by decide))
    | ((conv => whnf); first | (with_reducible refine And.intro ?_ ?_) | ((with_reducible intro h9); first | exact absurd h9 (by decide) | skip) | (with_reducible refine hK _ _ _ _ (sm_un ?_)))
  exact ⟨⟨lo 0 (Nat.zero_le _) G eqx_rfl hI⟩⟩
end DIG
