/-! What must hold between two calls. -/
/-- the state that restore() makes -/
def kS (S : Nat → Nat → Nat) : Nat → Nat → Nat := fun p => match p with
  | 0 => su (su (S 0) 1 (S 0 7)) 2 (S 0 8)
  | 1 => S 9
  | 4 => S 10
  | 6 => S 11
  | 7 => S 12
  | 8 => S 13
  | _ => S p
/-- how much is seen of a vane -/
def so (S : Nat → Nat → Nat) (v : Nat) : Nat := ct (fun k => Nat.beq (S 6 k) v) (S 0 2)
/-- a hill's cells -/
def hF (S : Nat → Nat → Nat) (h0 h2 h6 : Int32) (W K A T O L : Nat → Int32) : Prop := h0 = nI (S 0 0) ∧ h2 = nI (S 0 1) ∧ h6 = nI (S 0 2) ∧ (∀ i, i < S 0 0 → W i = wI (S 1 i)) ∧ (∀ i, i < S 0 1 → K i = nI (S 2 i) ∧ A i = nI (S 3 i) ∧ T i = nI (S 4 i)) ∧ (∀ v, v < 4 → O v = nI (so S v)) ∧ (∀ v, v < 4 → ∀ h, h < S 0 0 → L (v * 6 + h) = nI (lf S v h))
def hH (S : Nat → Nat → Nat) (G : Nat → Nat → Int32) : Prop := hF S (G 3 0) (G 3 2) (G 3 6) (G 4) (G 5) (G 6) (G 7) (G 8) (G 9)
def hK (S : Nat → Nat → Nat) (G : Nat → Nat → Int32) : Prop := hF S (G 10 0) (G 10 2) (G 10 6) (G 11) (G 12) (G 13) (G 14) (G 15) (G 16)
theorem hH_cD {S G : _} (h : hH S G) : cD S G := ⟨h.1, h.2.1, h.2.2.2.1, h.2.2.2.2.1⟩
theorem hH_cL {S G : _} (h : hH S G) : cL S G := h.2.2.2.2.2.2
/-- the class: its page, its counts, its tally, its image -/
def cP (S : Nat → Nat → Nat) (G : Nat → Nat → Int32) : Prop := G 1 1 = nI (S 0 3) ∧ ∀ i, i < S 0 3 → G 2 i = nI (S 5 i)
def cQ (S : Nat → Nat → Nat) (G : Nat → Nat → Int32) : Prop := G 0 5 = nI (S 0 6) ∧ G 0 6 = nI (S 0 4) ∧ G 0 7 = nI (S 0 5)
def cT (S : Nat → Nat → Nat) (G : Nat → Nat → Int32) : Prop := (G 17 4 = nI 0 ∧ tl S G) ∨ G 17 4 = nI 1
def Ic (S : Nat → Nat → Nat) (G : Nat → Nat → Int32) : Prop := hH S G ∧ cP S G ∧ cQ S G ∧ cT S G ∧ (S 0 6 = 1 → hK (kS S) G)
def RS (c : Nat) (S : Nat → Nat → Nat) : Prop := dR S ∧ nR S ∧ S 0 3 ≤ 8 ∧ (∀ i, i < S 0 3 → 32 ≤ S 5 i ∧ S 5 i ≤ 126) ∧ S 0 4 ≤ c ∧ S 0 5 ≤ 30 ∧ S 0 6 ≤ 1 ∧ (S 0 0 = 0 → S 0 1 = 0) ∧ (S 0 6 = 1 → S 0 0 ≠ 0 ∧ S 0 7 ≤ S 0 1 ∧ dR (kS S) ∧ nR (kS S))
def clsP : List Nat := [0, 1, 2, 3, 4, 5, 6, 7, 8, 9, 10, 11, 12, 13, 14, 15, 16, 17, 18, 19, 20, 21, 22, 23, 24, 25, 26, 27, 28, 29]
def lawP : List Nat := [30, 31, 32, 33, 34, 35]
theorem Ic_x {S G G' : _} (hx : eqx lawP G G') (h : Ic S G) : Ic S G' := by
  unfold Ic hH hK cP cQ cT tl at *
  simp only [hx 0 rfl, hx 1 rfl, hx 2 rfl, hx 3 rfl, hx 4 rfl, hx 5 rfl, hx 6 rfl, hx 7 rfl, hx 8 rfl, hx 9 rfl, hx 10 rfl, hx 11 rfl, hx 12 rfl, hx 13 rfl, hx 14 rfl, hx 15 rfl, hx 16 rfl, hx 17 rfl, hx 18 rfl, hx 19 rfl]
  exact h
-- the tally, read
theorem tl_pt {S G : _} (hN : nR S) (h : tl S G) {v h' q : Nat} (hv : v < S 0 1) (h4 : S 0 1 ≤ 4) (hh : h' < S 0 0) (h6 : S 0 0 ≤ 6) (hq : q < 4) : G 18 ((v * 6 + h') * 4 + q) = nI (aPt S v h' q) := by
  rw [h.2.1 _ (by omega), wx_pt hN hv hh h6 hq]
theorem tl_bl {S G : _} (hN : nR S) (h : tl S G) {h' q : Nat} (hh : h' < S 0 0) (h6 : S 0 0 ≤ 6) (hq : q < 4) : G 19 (h' * 4 + q) = nI (aBl S h' q) := by
  rw [h.2.2 _ (by omega), wy_bl hN hh hq]
theorem tl_all {S G : _} (hN : nR S) (h : tl S G) : G 17 3 = nI (aAll S) := by
  rw [h.1, wk_all hN]
section FACE1
variable {CT : sm_CT} {G : Nat → Nat → Int32} {L : Nat → Nat → Int64} {Q : sm_Q} {S : Nat → Nat → Nat} {c : Nat}
/-- the tally made anew -/
theorem f_refresh (hC : sm_C 12 CT) (hR : RS c S) (hI : Ic S G) (hQ : ∀ G', eqx [17, 18, 19] G G' → Ic S G' → tl S G' → Q none (hp G' L)) : CT 27 [.ref 17] (hp G L) Q := by
  obtain ⟨i1, i2, i3, i4, i5⟩ := hI
  refine s_refresh hC (hH_cD i1) hR.1 (hH_cL i1) (fun h => ?_) (fun G' hx ht h0 => ?_)
  · rcases i4 with h4 | h4
    · exact h4.2
    · rw [h4] at h; exact absurd h (by decide)
  · refine hQ G' hx ⟨?_, ?_, ?_, Or.inl ⟨h0, ht⟩, ?_⟩ ht
    · unfold hH; rw [hx 3 rfl, hx 4 rfl, hx 5 rfl, hx 6 rfl, hx 7 rfl, hx 8 rfl, hx 9 rfl]; exact i1
    · unfold cP; rw [hx 1 rfl, hx 2 rfl]; exact i2
    · unfold cQ; rw [hx 0 rfl]; exact i3
    · unfold hK; rw [hx 10 rfl, hx 11 rfl, hx 12 rfl, hx 13 rfl, hx 14 rfl, hx 15 rfl, hx 16 rfl]; exact i5
-- fitting
def A_fitting (S : Nat → Nat → Nat) : Int32 := if S 0 0 = 0 then -103 else nI (aAll S)
set_option maxRecDepth 100000 in
set_option maxHeartbeats 4000000 in
theorem f_fitting (hC : sm_C 13 CT) (hR : RS c S) (hI : Ic S G) (hQ : ∀ G', eqx clsP G G' → Ic S G' → Q (some (.int (A_fitting S))) (hp G' L)) : CT 53 [.ref 0] (hp G L) Q := by
  have r6 := hR.1.1
  have e1 := hI.1.1
  refine sm_meth hC [some (.ref 0)] rfl rfl rfl ?_
  refine sm_body [] 60 sm_k53 (fun CT K hC hK => ?_)
  unfold A_fitting at hQ
  repeat' first
    | (with_reducible refine And.intro ?_ ?_)
    | ((with_reducible intro h9); first | exact absurd h9 (by decide) | ((rw [e1] at h9; replace h9 := zneq h9)) | ((rw [e1] at h9; replace h9 := zeq (by omega) (by omega) h9)) | skip)
    | (with_reducible exact zn_in (by omega) (by decide))
    | (with_reducible exact z01) | (with_reducible exact z11) | (with_reducible exact zb01 _)
    | (with_reducible exact zn_inb (by omega) (by decide))
    | (with_reducible exact zn_ina (by omega) (by decide))
    | (with_reducible exact zn_inc (by omega) (by decide))
    | ((conv => whnf); first | (with_reducible refine And.intro ?_ ?_) | ((with_reducible intro h9); first | exact absurd h9 (by decide) | ((rw [e1] at h9; replace h9 := zneq h9)) | ((rw [e1] at h9; replace h9 := zeq (by omega) (by omega) h9)) | skip) | (with_reducible refine hK _ _ _ _ (sm_un ?_)) | (with_reducible refine f_refresh (hC.mono (by omega)) hR hI (fun G' hx hI' ht => ?_)))
  · refine zq ?_ (hQ G' (eqx_sub rfl hx) hI')
    rw [tl_all hR.2.1 ht]
    split
    · exact absurd ‹_› h9
    · rfl
  · refine zq ?_ (hQ G eqx_rfl hI)
    split
    · rfl
    · exact absurd h9 ‹_›
end FACE1
