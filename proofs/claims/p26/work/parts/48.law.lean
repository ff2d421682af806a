/-! The law's end: what is refused; its loops. -/
theorem inb_no {n : Nat} (hn : n < 2 ^ 31) : inb (nI n) n = false := inb_hi (Int32.le_refl _) hn
section LAWE
variable {G : Nat → Nat → Int32} {L : Nat → Nat → Int64} {Q : sm_Q} {S : Nat → Nat → Nat} {n t x : Nat} {f : Nat → Int32}
theorem LI_c {G' : Nat → Nat → Int32} (hx : eqx clsP G G') (hI : Ic S G') (h : LI S G) : LI S G' := ⟨h.1, hI, wD_x hx rfl h.2.2.1, wS_x hx rfl h.2.2.2.1, h.2.2.2.2⟩
theorem bA_x {ps : List Nat} {G' : Nat → Nat → Int32} (hx : eqx ps G G') (h1 : sm_mem ps 34 = false) (h2 : sm_mem ps 35 = false) (h : bA S G) : bA S G' := by
  unfold bA
  rw [hx 34 h1, hx 35 h2]
  exact h
theorem LI_31 {G' : Nat → Nat → Int32} (hx : eqx [31, 32, 33] G G') (e : G' 31 = G 31) (h : LI S G) : LI S G' := by
  obtain ⟨h1, h2, h3, h4, h5⟩ := h
  refine ⟨h1, Ic_x (eqx_sub rfl hx) h2, wD_x hx rfl h3, ?_, h5⟩
  unfold wS at h4 ⊢
  rw [e]
  exact h4
set_option maxRecDepth 100000 in
set_option maxHeartbeats 4000000 in
/-- what is refused at the end -/
theorem lw_end (hI : LI S G) (hm : 0 < S 0 1) (hQ : ∀ G', Q (some (.int (nI 1))) (hp G' L)) : sm_Wk 20 143 Q (some (n, f)) 984 [some (.ref 9999), some (.ref 0), some (.ref 30), some (.ref 31), some (.ref 32), some (.ref 33), some (.ref 34), some (.ref 35), some (.int (nI (S 0 1))), some (.int (nI t)), none, none, none, none, none, none, none, none, none, none, none, none, none, none, none, none, none] [] (hp G L) := by
  obtain ⟨hR, hIc, ⟨w1, w2, w3, w4⟩, ⟨s1, s2⟩, hpos⟩ := hI
  obtain ⟨r1, r2, r3, r4⟩ := id hR.1
  have i0 : inb (nI 0) (S 0 0) = true := inb_n hpos (by omega)
  have v0 : inb (nI 0) (S 0 1) = true := inb_n hm (by omega)
  have iN : inb (nI (S 0 0)) (S 0 0) = false := inb_no (by omega)
  have vN : inb (nI (S 0 1)) (S 0 1) = false := inb_no (by omega)
  have h0 : ¬ S 0 0 = 0 := by omega
  have wi1 : A_wind S (nI (S 0 0)) (nI 0) = -101 := by unfold A_wind; rw [iN]; rfl
  have wn1 : N_wind S (nI (S 0 0)) (nI 0) = S := by unfold N_wind; rw [iN]; rfl
  have wi2 : A_wind S (nI 0) (nI 4) = -102 := by unfold A_wind; rw [i0]; rfl
  have wn2 : N_wind S (nI 0) (nI 4) = S := by unfold N_wind; rw [i0]; rfl
  have wi3 : A_wind S (nI 0) (-2) = -102 := by unfold A_wind; rw [i0]; rfl
  have wn3 : N_wind S (nI 0) (-2) = S := by unfold N_wind; rw [i0]; rfl
  have va1 : A_vane S (nI 5) (nI 0) (nI 0) = -102 := rfl
  have vn1 : N_vane S (nI 5) (nI 0) (nI 0) = S := rfl
  have va2 : A_vane S (nI 0) (nI 4) (nI 0) = -102 := rfl
  have vn2 : N_vane S (nI 0) (nI 4) (nI 0) = S := rfl
  have va3 : A_vane S (nI 0) (nI 0) (-1) = -102 := rfl
  have vn3 : N_vane S (nI 0) (nI 0) (-1) = S := rfl
  have va4 : S 0 1 = 4 → A_vane S (nI 0) (nI 0) (nI 0) = -104 := fun e => by
    unfold A_vane
    rw [show okVane (nI 0) (nI 0) (nI 0) = true from rfl, if_f h0, if_t e]
    rfl
  have vn4 : S 0 1 = 4 → N_vane S (nI 0) (nI 0) (nI 0) = S := fun e => by
    unfold N_vane
    rw [show okVane (nI 0) (nI 0) (nI 0) = true from rfl, if_f h0, if_t e]
    rfl
  have ab1 : A_about S (nI (S 0 1)) (nI 0) = -101 := by unfold A_about; rw [vN]; rfl
  have ab2 : A_about S (nI 0) (nI 4) = -102 := by unfold A_about; rw [v0]; rfl
  have ab3 : A_about S (nI 0) (nI 14) = -102 := by unfold A_about; rw [v0]; rfl
  have as1 : A_as S (nI (S 0 1)) (nI 0) = -101 := by unfold A_as; rw [vN]; rfl
  have as2 : A_as S (nI 0) (nI 5) = -102 := by unfold A_as; rw [v0]; rfl
  have oi1 : A_oil S (nI (S 0 1)) (nI 0) = -101 := by unfold A_oil; rw [vN]; rfl
  have on1 : N_oil S (nI (S 0 1)) (nI 0) = S := by unfold N_oil; rw [vN]; rfl
  have oi2 : A_oil S (nI 0) (nI 4) = -102 := by unfold A_oil; rw [v0]; rfl
  have on2 : N_oil S (nI 0) (nI 4) = S := by unfold N_oil; rw [v0]; rfl
  have se1 : A_see S (nI (S 0 1)) (nI 0) (nI 0) = -101 := by unfold A_see okSee; rw [vN]; rfl
  have sn1 : N_see S (nI (S 0 1)) (nI 0) (nI 0) = S := by unfold N_see okSee; rw [vN]; rfl
  have se2 : A_see S (nI 0) (nI (S 0 0)) (nI 0) = -101 := by unfold A_see okSee; rw [v0, iN]; rfl
  have sn2 : N_see S (nI 0) (nI (S 0 0)) (nI 0) = S := by unfold N_see okSee; rw [v0, iN]; rfl
  have se3 : A_see S (nI 0) (nI 0) (nI 4) = -102 := by unfold A_see okSee; rw [v0, i0]; rfl
  have sn3 : N_see S (nI 0) (nI 0) (nI 4) = S := by unfold N_see okSee; rw [v0, i0]; rfl
  have po1 : A_points S (nI (S 0 1)) (nI 0) = -101 := by unfold A_points; rw [vN]; rfl
  have po2 : A_points S (nI 0) (-1) = -101 := by
    unfold A_points
    rw [v0, show inb (-1) (S 0 0) = false from inb_lo (by decide)]
    rfl
  have bl1 : A_blows S (nI (S 0 0)) = -101 := by unfold A_blows; rw [iN]; rfl
  have gu1 : A_gusts S (nI 0) (nI 1) (nI 0) = -102 := if_f (by decide)
  have gu2 : A_gusts S (nI 41) (nI 1) (nI 0) = -102 := if_f (by decide)
  have gu3 : A_gusts S (nI 1) (-1) (nI 0) = -102 := if_f (by decide)
  have gu4 : A_gusts S (nI 1) (nI 1) (nI 2) = -102 := if_f (by decide)
  have p_1281 : ∀ G1, eqx clsP G G1 → Ic S G1 → sm_Wk 20 143 Q (some (n, f)) 1281 [some (.ref 9999), some (.ref 0), some (.ref 30), some (.ref 31), some (.ref 32), some (.ref 33), some (.ref 34), some (.ref 35), some (.int (nI (S 0 1))), some (.int (nI t)), none, none, none, none, none, none, none, none, none, none, none, none, none, none, none, none, none] [] (hp G1 L) := by
    intro G1 hx hI1
    have hQ := hQ G1
    refine sm_body [] 60 sm_k143 (fun CT K hC hK => ?_)
    repeat' first
      | (with_reducible refine And.intro ?_ ?_)
      | ((with_reducible intro h9); first | exact absurd h9 (by decide) | skip)
      | (with_reducible exact zn_in (by omega) (by decide))
      | (with_reducible exact z01) | (with_reducible exact z11) | (with_reducible exact zb01 _)
      | (with_reducible exact zn_inb (by omega) (by decide))
      | (with_reducible exact zn_ina (by omega) (by decide))
      | (with_reducible exact zn_inc (by omega) (by decide))
      | (with_reducible exact zn_ind (by omega) (by decide))
      | (with_reducible exact zn_ine (by omega) (by decide))
      | ((conv => whnf); first | (with_reducible refine And.intro ?_ ?_) | ((with_reducible intro h9); first | exact absurd h9 (by decide) | skip) | (with_reducible refine hK _ _ _ _ (sm_un ?_)))
    exact hQ
  have p_1269 : ∀ G1, eqx clsP G G1 → Ic S G1 → sm_Wk 20 143 Q (some (n, f)) 1269 [some (.ref 9999), some (.ref 0), some (.ref 30), some (.ref 31), some (.ref 32), some (.ref 33), some (.ref 34), some (.ref 35), some (.int (nI (S 0 1))), some (.int (nI t)), none, none, none, none, none, none, none, none, none, none, none, none, none, none, none, none, none] [] (hp G1 L) := by
    intro G1 hx hI1
    refine sm_body [1281] 60 sm_k143 (fun CT K hC hK => ?_)
    repeat' first
      | (with_reducible refine And.intro ?_ ?_)
      | ((with_reducible intro h9); first | exact absurd h9 (by decide) | ((rw [gu4] at h9; first | exact absurd rfl h9 | skip)) | skip)
      | (with_reducible exact zn_in (by omega) (by decide))
      | (with_reducible exact z01) | (with_reducible exact z11) | (with_reducible exact zb01 _)
      | (with_reducible exact zn_inb (by omega) (by decide))
      | (with_reducible exact zn_ina (by omega) (by decide))
      | (with_reducible exact zn_inc (by omega) (by decide))
      | (with_reducible exact zn_ind (by omega) (by decide))
      | (with_reducible exact zn_ine (by omega) (by decide))
      | ((conv => whnf); first | (with_reducible refine And.intro ?_ ?_) | ((with_reducible intro h9); first | exact absurd h9 (by decide) | ((rw [gu4] at h9; first | exact absurd rfl h9 | skip)) | skip) | (with_reducible refine hK _ _ _ _ (sm_un ?_)) | ((refine f_gusts (hC.mono (by omega)) hR hI1 ?_)))
    exact ⟨⟨p_1281 G1 hx hI1⟩⟩
  have p_1257 : ∀ G1, eqx clsP G G1 → Ic S G1 → sm_Wk 20 143 Q (some (n, f)) 1257 [some (.ref 9999), some (.ref 0), some (.ref 30), some (.ref 31), some (.ref 32), some (.ref 33), some (.ref 34), some (.ref 35), some (.int (nI (S 0 1))), some (.int (nI t)), none, none, none, none, none, none, none, none, none, none, none, none, none, none, none, none, none] [] (hp G1 L) := by
    intro G1 hx hI1
    refine sm_body [1269] 60 sm_k143 (fun CT K hC hK => ?_)
    repeat' first
      | (with_reducible refine And.intro ?_ ?_)
      | ((with_reducible intro h9); first | exact absurd h9 (by decide) | ((rw [gu3] at h9; first | exact absurd rfl h9 | skip)) | skip)
      | (with_reducible exact zn_in (by omega) (by decide))
      | (with_reducible exact z01) | (with_reducible exact z11) | (with_reducible exact zb01 _)
      | (with_reducible exact zn_inb (by omega) (by decide))
      | (with_reducible exact zn_ina (by omega) (by decide))
      | (with_reducible exact zn_inc (by omega) (by decide))
      | (with_reducible exact zn_ind (by omega) (by decide))
      | (with_reducible exact zn_ine (by omega) (by decide))
      | ((conv => whnf); first | (with_reducible refine And.intro ?_ ?_) | ((with_reducible intro h9); first | exact absurd h9 (by decide) | ((rw [gu3] at h9; first | exact absurd rfl h9 | skip)) | skip) | (with_reducible refine hK _ _ _ _ (sm_un ?_)) | ((refine f_gusts (hC.mono (by omega)) hR hI1 ?_)))
    exact ⟨⟨p_1269 G1 hx hI1⟩⟩
  have p_1244 : ∀ G1, eqx clsP G G1 → Ic S G1 → sm_Wk 20 143 Q (some (n, f)) 1244 [some (.ref 9999), some (.ref 0), some (.ref 30), some (.ref 31), some (.ref 32), some (.ref 33), some (.ref 34), some (.ref 35), some (.int (nI (S 0 1))), some (.int (nI t)), none, none, none, none, none, none, none, none, none, none, none, none, none, none, none, none, none] [] (hp G1 L) := by
    intro G1 hx hI1
    refine sm_body [1257] 60 sm_k143 (fun CT K hC hK => ?_)
    repeat' first
      | (with_reducible refine And.intro ?_ ?_)
      | ((with_reducible intro h9); first | exact absurd h9 (by decide) | ((rw [gu2] at h9; first | exact absurd rfl h9 | skip)) | skip)
      | (with_reducible exact zn_in (by omega) (by decide))
      | (with_reducible exact z01) | (with_reducible exact z11) | (with_reducible exact zb01 _)
      | (with_reducible exact zn_inb (by omega) (by decide))
      | (with_reducible exact zn_ina (by omega) (by decide))
      | (with_reducible exact zn_inc (by omega) (by decide))
      | (with_reducible exact zn_ind (by omega) (by decide))
      | (with_reducible exact zn_ine (by omega) (by decide))
      | ((conv => whnf); first | (with_reducible refine And.intro ?_ ?_) | ((with_reducible intro h9); first | exact absurd h9 (by decide) | ((rw [gu2] at h9; first | exact absurd rfl h9 | skip)) | skip) | (with_reducible refine hK _ _ _ _ (sm_un ?_)) | ((refine f_gusts (hC.mono (by omega)) hR hI1 ?_)))
    exact ⟨⟨p_1257 G1 hx hI1⟩⟩
  have p_1232 : ∀ G1, eqx clsP G G1 → Ic S G1 → sm_Wk 20 143 Q (some (n, f)) 1232 [some (.ref 9999), some (.ref 0), some (.ref 30), some (.ref 31), some (.ref 32), some (.ref 33), some (.ref 34), some (.ref 35), some (.int (nI (S 0 1))), some (.int (nI t)), none, none, none, none, none, none, none, none, none, none, none, none, none, none, none, none, none] [] (hp G1 L) := by
    intro G1 hx hI1
    refine sm_body [1244] 60 sm_k143 (fun CT K hC hK => ?_)
    repeat' first
      | (with_reducible refine And.intro ?_ ?_)
      | ((with_reducible intro h9); first | exact absurd h9 (by decide) | ((rw [gu1] at h9; first | exact absurd rfl h9 | skip)) | skip)
      | (with_reducible exact zn_in (by omega) (by decide))
      | (with_reducible exact z01) | (with_reducible exact z11) | (with_reducible exact zb01 _)
      | (with_reducible exact zn_inb (by omega) (by decide))
      | (with_reducible exact zn_ina (by omega) (by decide))
      | (with_reducible exact zn_inc (by omega) (by decide))
      | (with_reducible exact zn_ind (by omega) (by decide))
      | (with_reducible exact zn_ine (by omega) (by decide))
      | ((conv => whnf); first | (with_reducible refine And.intro ?_ ?_) | ((with_reducible intro h9); first | exact absurd h9 (by decide) | ((rw [gu1] at h9; first | exact absurd rfl h9 | skip)) | skip) | (with_reducible refine hK _ _ _ _ (sm_un ?_)) | ((refine f_gusts (hC.mono (by omega)) hR hI1 ?_)))
    exact ⟨⟨p_1244 G1 hx hI1⟩⟩
  have p_1219 : ∀ G1, eqx clsP G G1 → Ic S G1 → sm_Wk 20 143 Q (some (n, f)) 1219 [some (.ref 9999), some (.ref 0), some (.ref 30), some (.ref 31), some (.ref 32), some (.ref 33), some (.ref 34), some (.ref 35), some (.int (nI (S 0 1))), some (.int (nI t)), none, none, none, none, none, none, none, none, none, none, none, none, none, none, none, none, none] [] (hp G1 L) := by
    intro G1 hx hI1
    have w1' : G1 30 (nI 6).toNatClampNeg = nI (S 0 0) := by rw [hx 30 rfl]; exact w1
    refine sm_body [1232] 60 sm_k143 (fun CT K hC hK => ?_)
    repeat' first
      | (with_reducible refine And.intro ?_ ?_)
      | ((with_reducible intro h9); first | exact absurd h9 (by decide) | ((rw [bl1] at h9; first | exact absurd rfl h9 | skip)) | skip)
      | (with_reducible exact zn_in (by omega) (by decide))
      | (with_reducible exact z01) | (with_reducible exact z11) | (with_reducible exact zb01 _)
      | (with_reducible exact zn_inb (by omega) (by decide))
      | (with_reducible exact zn_ina (by omega) (by decide))
      | (with_reducible exact zn_inc (by omega) (by decide))
      | (with_reducible exact zn_ind (by omega) (by decide))
      | (with_reducible exact zn_ine (by omega) (by decide))
      | ((conv => whnf); first | (with_reducible refine And.intro ?_ ?_) | ((with_reducible intro h9); first | exact absurd h9 (by decide) | ((rw [bl1] at h9; first | exact absurd rfl h9 | skip)) | skip) | (with_reducible refine hK _ _ _ _ (sm_un ?_)) | ((rw [w1']; refine f_blows (hC.mono (by omega)) hR hI1 (fun G2 hx2 hI2 => ?_))))
    exact ⟨⟨p_1232 G2 (eqx_trans hx hx2) hI2⟩⟩
  have p_1208 : ∀ G1, eqx clsP G G1 → Ic S G1 → sm_Wk 20 143 Q (some (n, f)) 1208 [some (.ref 9999), some (.ref 0), some (.ref 30), some (.ref 31), some (.ref 32), some (.ref 33), some (.ref 34), some (.ref 35), some (.int (nI (S 0 1))), some (.int (nI t)), none, none, none, none, none, none, none, none, none, none, none, none, none, none, none, none, none] [] (hp G1 L) := by
    intro G1 hx hI1
    refine sm_body [1219] 60 sm_k143 (fun CT K hC hK => ?_)
    repeat' first
      | (with_reducible refine And.intro ?_ ?_)
      | ((with_reducible intro h9); first | exact absurd h9 (by decide) | ((rw [po2] at h9; first | exact absurd rfl h9 | skip)) | skip)
      | (with_reducible exact zn_in (by omega) (by decide))
      | (with_reducible exact z01) | (with_reducible exact z11) | (with_reducible exact zb01 _)
      | (with_reducible exact zn_inb (by omega) (by decide))
      | (with_reducible exact zn_ina (by omega) (by decide))
      | (with_reducible exact zn_inc (by omega) (by decide))
      | (with_reducible exact zn_ind (by omega) (by decide))
      | (with_reducible exact zn_ine (by omega) (by decide))
      | ((conv => whnf); first | (with_reducible refine And.intro ?_ ?_) | ((with_reducible intro h9); first | exact absurd h9 (by decide) | ((rw [po2] at h9; first | exact absurd rfl h9 | skip)) | skip) | (with_reducible refine hK _ _ _ _ (sm_un ?_)) | ((refine f_points (hC.mono (by omega)) hR hI1 (fun G2 hx2 hI2 => ?_))))
    exact ⟨⟨p_1219 G2 (eqx_trans hx hx2) hI2⟩⟩
  have p_1196 : ∀ G1, eqx clsP G G1 → Ic S G1 → sm_Wk 20 143 Q (some (n, f)) 1196 [some (.ref 9999), some (.ref 0), some (.ref 30), some (.ref 31), some (.ref 32), some (.ref 33), some (.ref 34), some (.ref 35), some (.int (nI (S 0 1))), some (.int (nI t)), none, none, none, none, none, none, none, none, none, none, none, none, none, none, none, none, none] [] (hp G1 L) := by
    intro G1 hx hI1
    refine sm_body [1208] 60 sm_k143 (fun CT K hC hK => ?_)
    repeat' first
      | (with_reducible refine And.intro ?_ ?_)
      | ((with_reducible intro h9); first | exact absurd h9 (by decide) | ((rw [po1] at h9; first | exact absurd rfl h9 | skip)) | skip)
      | (with_reducible exact zn_in (by omega) (by decide))
      | (with_reducible exact z01) | (with_reducible exact z11) | (with_reducible exact zb01 _)
      | (with_reducible exact zn_inb (by omega) (by decide))
      | (with_reducible exact zn_ina (by omega) (by decide))
      | (with_reducible exact zn_inc (by omega) (by decide))
      | (with_reducible exact zn_ind (by omega) (by decide))
      | (with_reducible exact zn_ine (by omega) (by decide))
      | ((conv => whnf); first | (with_reducible refine And.intro ?_ ?_) | ((with_reducible intro h9); first | exact absurd h9 (by decide) | ((rw [po1] at h9; first | exact absurd rfl h9 | skip)) | skip) | (with_reducible refine hK _ _ _ _ (sm_un ?_)) | ((refine f_points (hC.mono (by omega)) hR hI1 (fun G2 hx2 hI2 => ?_))))
    exact ⟨⟨p_1208 G2 (eqx_trans hx hx2) hI2⟩⟩
  have p_1184 : ∀ G1, eqx clsP G G1 → Ic S G1 → sm_Wk 20 143 Q (some (n, f)) 1184 [some (.ref 9999), some (.ref 0), some (.ref 30), some (.ref 31), some (.ref 32), some (.ref 33), some (.ref 34), some (.ref 35), some (.int (nI (S 0 1))), some (.int (nI t)), none, none, none, none, none, none, none, none, none, none, none, none, none, none, none, none, none] [] (hp G1 L) := by
    intro G1 hx hI1
    refine sm_body [1196] 60 sm_k143 (fun CT K hC hK => ?_)
    repeat' first
      | (with_reducible refine And.intro ?_ ?_)
      | ((with_reducible intro h9); first | exact absurd h9 (by decide) | ((rw [se3] at h9; first | exact absurd rfl h9 | skip)) | skip)
      | (with_reducible exact zn_in (by omega) (by decide))
      | (with_reducible exact z01) | (with_reducible exact z11) | (with_reducible exact zb01 _)
      | (with_reducible exact zn_inb (by omega) (by decide))
      | (with_reducible exact zn_ina (by omega) (by decide))
      | (with_reducible exact zn_inc (by omega) (by decide))
      | (with_reducible exact zn_ind (by omega) (by decide))
      | (with_reducible exact zn_ine (by omega) (by decide))
      | ((conv => whnf); first | (with_reducible refine And.intro ?_ ?_) | ((with_reducible intro h9); first | exact absurd h9 (by decide) | ((rw [se3] at h9; first | exact absurd rfl h9 | skip)) | skip) | (with_reducible refine hK _ _ _ _ (sm_un ?_)) | ((refine f_see (hC.mono (by omega)) hR hI1 (fun G2 hx2 hI2 => ?_))))
    rw [sn3] at hI2
    exact ⟨⟨p_1196 G2 (eqx_trans hx hx2) hI2⟩⟩
  have p_1169 : ∀ G1, eqx clsP G G1 → Ic S G1 → sm_Wk 20 143 Q (some (n, f)) 1169 [some (.ref 9999), some (.ref 0), some (.ref 30), some (.ref 31), some (.ref 32), some (.ref 33), some (.ref 34), some (.ref 35), some (.int (nI (S 0 1))), some (.int (nI t)), none, none, none, none, none, none, none, none, none, none, none, none, none, none, none, none, none] [] (hp G1 L) := by
    intro G1 hx hI1
    have w1' : G1 30 (nI 6).toNatClampNeg = nI (S 0 0) := by rw [hx 30 rfl]; exact w1
    refine sm_body [1184] 60 sm_k143 (fun CT K hC hK => ?_)
    repeat' first
      | (with_reducible refine And.intro ?_ ?_)
      | ((with_reducible intro h9); first | exact absurd h9 (by decide) | ((rw [se2] at h9; first | exact absurd rfl h9 | skip)) | skip)
      | (with_reducible exact zn_in (by omega) (by decide))
      | (with_reducible exact z01) | (with_reducible exact z11) | (with_reducible exact zb01 _)
      | (with_reducible exact zn_inb (by omega) (by decide))
      | (with_reducible exact zn_ina (by omega) (by decide))
      | (with_reducible exact zn_inc (by omega) (by decide))
      | (with_reducible exact zn_ind (by omega) (by decide))
      | (with_reducible exact zn_ine (by omega) (by decide))
      | ((conv => whnf); first | (with_reducible refine And.intro ?_ ?_) | ((with_reducible intro h9); first | exact absurd h9 (by decide) | ((rw [se2] at h9; first | exact absurd rfl h9 | skip)) | skip) | (with_reducible refine hK _ _ _ _ (sm_un ?_)) | ((rw [w1']; refine f_see (hC.mono (by omega)) hR hI1 (fun G2 hx2 hI2 => ?_))))
    rw [sn2] at hI2
    exact ⟨⟨p_1184 G2 (eqx_trans hx hx2) hI2⟩⟩
  have p_1156 : ∀ G1, eqx clsP G G1 → Ic S G1 → sm_Wk 20 143 Q (some (n, f)) 1156 [some (.ref 9999), some (.ref 0), some (.ref 30), some (.ref 31), some (.ref 32), some (.ref 33), some (.ref 34), some (.ref 35), some (.int (nI (S 0 1))), some (.int (nI t)), none, none, none, none, none, none, none, none, none, none, none, none, none, none, none, none, none] [] (hp G1 L) := by
    intro G1 hx hI1
    refine sm_body [1169] 60 sm_k143 (fun CT K hC hK => ?_)
    repeat' first
      | (with_reducible refine And.intro ?_ ?_)
      | ((with_reducible intro h9); first | exact absurd h9 (by decide) | ((rw [se1] at h9; first | exact absurd rfl h9 | skip)) | skip)
      | (with_reducible exact zn_in (by omega) (by decide))
      | (with_reducible exact z01) | (with_reducible exact z11) | (with_reducible exact zb01 _)
      | (with_reducible exact zn_inb (by omega) (by decide))
      | (with_reducible exact zn_ina (by omega) (by decide))
      | (with_reducible exact zn_inc (by omega) (by decide))
      | (with_reducible exact zn_ind (by omega) (by decide))
      | (with_reducible exact zn_ine (by omega) (by decide))
      | ((conv => whnf); first | (with_reducible refine And.intro ?_ ?_) | ((with_reducible intro h9); first | exact absurd h9 (by decide) | ((rw [se1] at h9; first | exact absurd rfl h9 | skip)) | skip) | (with_reducible refine hK _ _ _ _ (sm_un ?_)) | ((refine f_see (hC.mono (by omega)) hR hI1 (fun G2 hx2 hI2 => ?_))))
    rw [sn1] at hI2
    exact ⟨⟨p_1169 G2 (eqx_trans hx hx2) hI2⟩⟩
  have p_1145 : ∀ G1, eqx clsP G G1 → Ic S G1 → sm_Wk 20 143 Q (some (n, f)) 1145 [some (.ref 9999), some (.ref 0), some (.ref 30), some (.ref 31), some (.ref 32), some (.ref 33), some (.ref 34), some (.ref 35), some (.int (nI (S 0 1))), some (.int (nI t)), none, none, none, none, none, none, none, none, none, none, none, none, none, none, none, none, none] [] (hp G1 L) := by
    intro G1 hx hI1
    refine sm_body [1156] 60 sm_k143 (fun CT K hC hK => ?_)
    repeat' first
      | (with_reducible refine And.intro ?_ ?_)
      | ((with_reducible intro h9); first | exact absurd h9 (by decide) | ((rw [oi2] at h9; first | exact absurd rfl h9 | skip)) | skip)
      | (with_reducible exact zn_in (by omega) (by decide))
      | (with_reducible exact z01) | (with_reducible exact z11) | (with_reducible exact zb01 _)
      | (with_reducible exact zn_inb (by omega) (by decide))
      | (with_reducible exact zn_ina (by omega) (by decide))
      | (with_reducible exact zn_inc (by omega) (by decide))
      | (with_reducible exact zn_ind (by omega) (by decide))
      | (with_reducible exact zn_ine (by omega) (by decide))
      | ((conv => whnf); first | (with_reducible refine And.intro ?_ ?_) | ((with_reducible intro h9); first | exact absurd h9 (by decide) | ((rw [oi2] at h9; first | exact absurd rfl h9 | skip)) | skip) | (with_reducible refine hK _ _ _ _ (sm_un ?_)) | ((refine f_oil (hC.mono (by omega)) hR hI1 (fun G2 hx2 hI2 => ?_))))
    rw [on2] at hI2
    exact ⟨⟨p_1156 G2 (eqx_trans hx hx2) hI2⟩⟩
  have p_1133 : ∀ G1, eqx clsP G G1 → Ic S G1 → sm_Wk 20 143 Q (some (n, f)) 1133 [some (.ref 9999), some (.ref 0), some (.ref 30), some (.ref 31), some (.ref 32), some (.ref 33), some (.ref 34), some (.ref 35), some (.int (nI (S 0 1))), some (.int (nI t)), none, none, none, none, none, none, none, none, none, none, none, none, none, none, none, none, none] [] (hp G1 L) := by
    intro G1 hx hI1
    refine sm_body [1145] 60 sm_k143 (fun CT K hC hK => ?_)
    repeat' first
      | (with_reducible refine And.intro ?_ ?_)
      | ((with_reducible intro h9); first | exact absurd h9 (by decide) | ((rw [oi1] at h9; first | exact absurd rfl h9 | skip)) | skip)
      | (with_reducible exact zn_in (by omega) (by decide))
      | (with_reducible exact z01) | (with_reducible exact z11) | (with_reducible exact zb01 _)
      | (with_reducible exact zn_inb (by omega) (by decide))
      | (with_reducible exact zn_ina (by omega) (by decide))
      | (with_reducible exact zn_inc (by omega) (by decide))
      | (with_reducible exact zn_ind (by omega) (by decide))
      | (with_reducible exact zn_ine (by omega) (by decide))
      | ((conv => whnf); first | (with_reducible refine And.intro ?_ ?_) | ((with_reducible intro h9); first | exact absurd h9 (by decide) | ((rw [oi1] at h9; first | exact absurd rfl h9 | skip)) | skip) | (with_reducible refine hK _ _ _ _ (sm_un ?_)) | ((refine f_oil (hC.mono (by omega)) hR hI1 (fun G2 hx2 hI2 => ?_))))
    rw [on1] at hI2
    exact ⟨⟨p_1145 G2 (eqx_trans hx hx2) hI2⟩⟩
  have p_1122 : ∀ G1, eqx clsP G G1 → Ic S G1 → sm_Wk 20 143 Q (some (n, f)) 1122 [some (.ref 9999), some (.ref 0), some (.ref 30), some (.ref 31), some (.ref 32), some (.ref 33), some (.ref 34), some (.ref 35), some (.int (nI (S 0 1))), some (.int (nI t)), none, none, none, none, none, none, none, none, none, none, none, none, none, none, none, none, none] [] (hp G1 L) := by
    intro G1 hx hI1
    refine sm_body [1133] 60 sm_k143 (fun CT K hC hK => ?_)
    repeat' first
      | (with_reducible refine And.intro ?_ ?_)
      | ((with_reducible intro h9); first | exact absurd h9 (by decide) | ((rw [as2] at h9; first | exact absurd rfl h9 | skip)) | skip)
      | (with_reducible exact zn_in (by omega) (by decide))
      | (with_reducible exact z01) | (with_reducible exact z11) | (with_reducible exact zb01 _)
      | (with_reducible exact zn_inb (by omega) (by decide))
      | (with_reducible exact zn_ina (by omega) (by decide))
      | (with_reducible exact zn_inc (by omega) (by decide))
      | (with_reducible exact zn_ind (by omega) (by decide))
      | (with_reducible exact zn_ine (by omega) (by decide))
      | ((conv => whnf); first | (with_reducible refine And.intro ?_ ?_) | ((with_reducible intro h9); first | exact absurd h9 (by decide) | ((rw [as2] at h9; first | exact absurd rfl h9 | skip)) | skip) | (with_reducible refine hK _ _ _ _ (sm_un ?_)) | ((refine f_as (hC.mono (by omega)) hR hI1 ?_)))
    exact ⟨⟨p_1133 G1 hx hI1⟩⟩
  have p_1110 : ∀ G1, eqx clsP G G1 → Ic S G1 → sm_Wk 20 143 Q (some (n, f)) 1110 [some (.ref 9999), some (.ref 0), some (.ref 30), some (.ref 31), some (.ref 32), some (.ref 33), some (.ref 34), some (.ref 35), some (.int (nI (S 0 1))), some (.int (nI t)), none, none, none, none, none, none, none, none, none, none, none, none, none, none, none, none, none] [] (hp G1 L) := by
    intro G1 hx hI1
    refine sm_body [1122] 60 sm_k143 (fun CT K hC hK => ?_)
    repeat' first
      | (with_reducible refine And.intro ?_ ?_)
      | ((with_reducible intro h9); first | exact absurd h9 (by decide) | ((rw [as1] at h9; first | exact absurd rfl h9 | skip)) | skip)
      | (with_reducible exact zn_in (by omega) (by decide))
      | (with_reducible exact z01) | (with_reducible exact z11) | (with_reducible exact zb01 _)
      | (with_reducible exact zn_inb (by omega) (by decide))
      | (with_reducible exact zn_ina (by omega) (by decide))
      | (with_reducible exact zn_inc (by omega) (by decide))
      | (with_reducible exact zn_ind (by omega) (by decide))
      | (with_reducible exact zn_ine (by omega) (by decide))
      | ((conv => whnf); first | (with_reducible refine And.intro ?_ ?_) | ((with_reducible intro h9); first | exact absurd h9 (by decide) | ((rw [as1] at h9; first | exact absurd rfl h9 | skip)) | skip) | (with_reducible refine hK _ _ _ _ (sm_un ?_)) | ((refine f_as (hC.mono (by omega)) hR hI1 ?_)))
    exact ⟨⟨p_1122 G1 hx hI1⟩⟩
  have p_1098 : ∀ G1, eqx clsP G G1 → Ic S G1 → sm_Wk 20 143 Q (some (n, f)) 1098 [some (.ref 9999), some (.ref 0), some (.ref 30), some (.ref 31), some (.ref 32), some (.ref 33), some (.ref 34), some (.ref 35), some (.int (nI (S 0 1))), some (.int (nI t)), none, none, none, none, none, none, none, none, none, none, none, none, none, none, none, none, none] [] (hp G1 L) := by
    intro G1 hx hI1
    refine sm_body [1110] 60 sm_k143 (fun CT K hC hK => ?_)
    repeat' first
      | (with_reducible refine And.intro ?_ ?_)
      | ((with_reducible intro h9); first | exact absurd h9 (by decide) | ((rw [ab3] at h9; first | exact absurd rfl h9 | skip)) | skip)
      | (with_reducible exact zn_in (by omega) (by decide))
      | (with_reducible exact z01) | (with_reducible exact z11) | (with_reducible exact zb01 _)
      | (with_reducible exact zn_inb (by omega) (by decide))
      | (with_reducible exact zn_ina (by omega) (by decide))
      | (with_reducible exact zn_inc (by omega) (by decide))
      | (with_reducible exact zn_ind (by omega) (by decide))
      | (with_reducible exact zn_ine (by omega) (by decide))
      | ((conv => whnf); first | (with_reducible refine And.intro ?_ ?_) | ((with_reducible intro h9); first | exact absurd h9 (by decide) | ((rw [ab3] at h9; first | exact absurd rfl h9 | skip)) | skip) | (with_reducible refine hK _ _ _ _ (sm_un ?_)) | ((refine f_about (hC.mono (by omega)) hR hI1 ?_)))
    exact ⟨⟨p_1110 G1 hx hI1⟩⟩
  have p_1087 : ∀ G1, eqx clsP G G1 → Ic S G1 → sm_Wk 20 143 Q (some (n, f)) 1087 [some (.ref 9999), some (.ref 0), some (.ref 30), some (.ref 31), some (.ref 32), some (.ref 33), some (.ref 34), some (.ref 35), some (.int (nI (S 0 1))), some (.int (nI t)), none, none, none, none, none, none, none, none, none, none, none, none, none, none, none, none, none] [] (hp G1 L) := by
    intro G1 hx hI1
    refine sm_body [1098] 60 sm_k143 (fun CT K hC hK => ?_)
    repeat' first
      | (with_reducible refine And.intro ?_ ?_)
      | ((with_reducible intro h9); first | exact absurd h9 (by decide) | ((rw [ab2] at h9; first | exact absurd rfl h9 | skip)) | skip)
      | (with_reducible exact zn_in (by omega) (by decide))
      | (with_reducible exact z01) | (with_reducible exact z11) | (with_reducible exact zb01 _)
      | (with_reducible exact zn_inb (by omega) (by decide))
      | (with_reducible exact zn_ina (by omega) (by decide))
      | (with_reducible exact zn_inc (by omega) (by decide))
      | (with_reducible exact zn_ind (by omega) (by decide))
      | (with_reducible exact zn_ine (by omega) (by decide))
      | ((conv => whnf); first | (with_reducible refine And.intro ?_ ?_) | ((with_reducible intro h9); first | exact absurd h9 (by decide) | ((rw [ab2] at h9; first | exact absurd rfl h9 | skip)) | skip) | (with_reducible refine hK _ _ _ _ (sm_un ?_)) | ((refine f_about (hC.mono (by omega)) hR hI1 ?_)))
    exact ⟨⟨p_1098 G1 hx hI1⟩⟩
  have p_1075 : ∀ G1, eqx clsP G G1 → Ic S G1 → sm_Wk 20 143 Q (some (n, f)) 1075 [some (.ref 9999), some (.ref 0), some (.ref 30), some (.ref 31), some (.ref 32), some (.ref 33), some (.ref 34), some (.ref 35), some (.int (nI (S 0 1))), some (.int (nI t)), none, none, none, none, none, none, none, none, none, none, none, none, none, none, none, none, none] [] (hp G1 L) := by
    intro G1 hx hI1
    refine sm_body [1087] 60 sm_k143 (fun CT K hC hK => ?_)
    repeat' first
      | (with_reducible refine And.intro ?_ ?_)
      | ((with_reducible intro h9); first | exact absurd h9 (by decide) | ((rw [ab1] at h9; first | exact absurd rfl h9 | skip)) | skip)
      | (with_reducible exact zn_in (by omega) (by decide))
      | (with_reducible exact z01) | (with_reducible exact z11) | (with_reducible exact zb01 _)
      | (with_reducible exact zn_inb (by omega) (by decide))
      | (with_reducible exact zn_ina (by omega) (by decide))
      | (with_reducible exact zn_inc (by omega) (by decide))
      | (with_reducible exact zn_ind (by omega) (by decide))
      | (with_reducible exact zn_ine (by omega) (by decide))
      | ((conv => whnf); first | (with_reducible refine And.intro ?_ ?_) | ((with_reducible intro h9); first | exact absurd h9 (by decide) | ((rw [ab1] at h9; first | exact absurd rfl h9 | skip)) | skip) | (with_reducible refine hK _ _ _ _ (sm_un ?_)) | ((refine f_about (hC.mono (by omega)) hR hI1 ?_)))
    exact ⟨⟨p_1087 G1 hx hI1⟩⟩
  have p_1057 : ∀ G1, eqx clsP G G1 → Ic S G1 → sm_Wk 20 143 Q (some (n, f)) 1057 [some (.ref 9999), some (.ref 0), some (.ref 30), some (.ref 31), some (.ref 32), some (.ref 33), some (.ref 34), some (.ref 35), some (.int (nI (S 0 1))), some (.int (nI t)), none, none, none, none, none, none, none, none, none, none, none, none, none, none, none, none, none] [] (hp G1 L) := by
    intro G1 hx hI1
    refine sm_body [1075] 60 sm_k143 (fun CT K hC hK => ?_)
    repeat' first
      | (with_reducible refine And.intro ?_ ?_)
      | ((with_reducible intro h9); first | exact absurd h9 (by decide) | ((rw [va4 (by omega)] at h9; first | exact absurd rfl h9 | skip)) | ((replace h9 := zlt (b := 4) (by omega) (by omega) h9)) | ((replace h9 := znl (b := 4) (by omega) (by omega) h9)) | skip)
      | (with_reducible exact zn_in (by omega) (by decide))
      | (with_reducible exact z01) | (with_reducible exact z11) | (with_reducible exact zb01 _)
      | (with_reducible exact zn_inb (by omega) (by decide))
      | (with_reducible exact zn_ina (by omega) (by decide))
      | (with_reducible exact zn_inc (by omega) (by decide))
      | (with_reducible exact zn_ind (by omega) (by decide))
      | (with_reducible exact zn_ine (by omega) (by decide))
      | ((conv => whnf); first | (with_reducible refine And.intro ?_ ?_) | ((with_reducible intro h9); first | exact absurd h9 (by decide) | ((rw [va4 (by omega)] at h9; first | exact absurd rfl h9 | skip)) | ((replace h9 := zlt (b := 4) (by omega) (by omega) h9)) | ((replace h9 := znl (b := 4) (by omega) (by omega) h9)) | skip) | (with_reducible refine hK _ _ _ _ (sm_un ?_)) | ((refine f_vane (hC.mono (by omega)) hR hI1 (fun G2 hx2 hI2 => ?_))))
    · exact ⟨⟨p_1075 G1 hx hI1⟩⟩
    · rw [vn4 (by omega)] at hI2
      exact ⟨⟨p_1075 G2 (eqx_trans hx hx2) hI2⟩⟩
  have p_1045 : ∀ G1, eqx clsP G G1 → Ic S G1 → sm_Wk 20 143 Q (some (n, f)) 1045 [some (.ref 9999), some (.ref 0), some (.ref 30), some (.ref 31), some (.ref 32), some (.ref 33), some (.ref 34), some (.ref 35), some (.int (nI (S 0 1))), some (.int (nI t)), none, none, none, none, none, none, none, none, none, none, none, none, none, none, none, none, none] [] (hp G1 L) := by
    intro G1 hx hI1
    refine sm_body [1057] 60 sm_k143 (fun CT K hC hK => ?_)
    repeat' first
      | (with_reducible refine And.intro ?_ ?_)
      | ((with_reducible intro h9); first | exact absurd h9 (by decide) | ((rw [va3] at h9; first | exact absurd rfl h9 | skip)) | skip)
      | (with_reducible exact zn_in (by omega) (by decide))
      | (with_reducible exact z01) | (with_reducible exact z11) | (with_reducible exact zb01 _)
      | (with_reducible exact zn_inb (by omega) (by decide))
      | (with_reducible exact zn_ina (by omega) (by decide))
      | (with_reducible exact zn_inc (by omega) (by decide))
      | (with_reducible exact zn_ind (by omega) (by decide))
      | (with_reducible exact zn_ine (by omega) (by decide))
      | ((conv => whnf); first | (with_reducible refine And.intro ?_ ?_) | ((with_reducible intro h9); first | exact absurd h9 (by decide) | ((rw [va3] at h9; first | exact absurd rfl h9 | skip)) | skip) | (with_reducible refine hK _ _ _ _ (sm_un ?_)) | ((refine f_vane (hC.mono (by omega)) hR hI1 (fun G2 hx2 hI2 => ?_))))
    rw [vn3] at hI2
    exact ⟨⟨p_1057 G2 (eqx_trans hx hx2) hI2⟩⟩
  have p_1033 : ∀ G1, eqx clsP G G1 → Ic S G1 → sm_Wk 20 143 Q (some (n, f)) 1033 [some (.ref 9999), some (.ref 0), some (.ref 30), some (.ref 31), some (.ref 32), some (.ref 33), some (.ref 34), some (.ref 35), some (.int (nI (S 0 1))), some (.int (nI t)), none, none, none, none, none, none, none, none, none, none, none, none, none, none, none, none, none] [] (hp G1 L) := by
    intro G1 hx hI1
    refine sm_body [1045] 60 sm_k143 (fun CT K hC hK => ?_)
    repeat' first
      | (with_reducible refine And.intro ?_ ?_)
      | ((with_reducible intro h9); first | exact absurd h9 (by decide) | ((rw [va2] at h9; first | exact absurd rfl h9 | skip)) | skip)
      | (with_reducible exact zn_in (by omega) (by decide))
      | (with_reducible exact z01) | (with_reducible exact z11) | (with_reducible exact zb01 _)
      | (with_reducible exact zn_inb (by omega) (by decide))
      | (with_reducible exact zn_ina (by omega) (by decide))
      | (with_reducible exact zn_inc (by omega) (by decide))
      | (with_reducible exact zn_ind (by omega) (by decide))
      | (with_reducible exact zn_ine (by omega) (by decide))
      | ((conv => whnf); first | (with_reducible refine And.intro ?_ ?_) | ((with_reducible intro h9); first | exact absurd h9 (by decide) | ((rw [va2] at h9; first | exact absurd rfl h9 | skip)) | skip) | (with_reducible refine hK _ _ _ _ (sm_un ?_)) | ((refine f_vane (hC.mono (by omega)) hR hI1 (fun G2 hx2 hI2 => ?_))))
    rw [vn2] at hI2
    exact ⟨⟨p_1045 G2 (eqx_trans hx hx2) hI2⟩⟩
  have p_1021 : ∀ G1, eqx clsP G G1 → Ic S G1 → sm_Wk 20 143 Q (some (n, f)) 1021 [some (.ref 9999), some (.ref 0), some (.ref 30), some (.ref 31), some (.ref 32), some (.ref 33), some (.ref 34), some (.ref 35), some (.int (nI (S 0 1))), some (.int (nI t)), none, none, none, none, none, none, none, none, none, none, none, none, none, none, none, none, none] [] (hp G1 L) := by
    intro G1 hx hI1
    refine sm_body [1033] 60 sm_k143 (fun CT K hC hK => ?_)
    repeat' first
      | (with_reducible refine And.intro ?_ ?_)
      | ((with_reducible intro h9); first | exact absurd h9 (by decide) | ((rw [va1] at h9; first | exact absurd rfl h9 | skip)) | skip)
      | (with_reducible exact zn_in (by omega) (by decide))
      | (with_reducible exact z01) | (with_reducible exact z11) | (with_reducible exact zb01 _)
      | (with_reducible exact zn_inb (by omega) (by decide))
      | (with_reducible exact zn_ina (by omega) (by decide))
      | (with_reducible exact zn_inc (by omega) (by decide))
      | (with_reducible exact zn_ind (by omega) (by decide))
      | (with_reducible exact zn_ine (by omega) (by decide))
      | ((conv => whnf); first | (with_reducible refine And.intro ?_ ?_) | ((with_reducible intro h9); first | exact absurd h9 (by decide) | ((rw [va1] at h9; first | exact absurd rfl h9 | skip)) | skip) | (with_reducible refine hK _ _ _ _ (sm_un ?_)) | ((refine f_vane (hC.mono (by omega)) hR hI1 (fun G2 hx2 hI2 => ?_))))
    rw [vn1] at hI2
    exact ⟨⟨p_1033 G2 (eqx_trans hx hx2) hI2⟩⟩
  have p_1009 : ∀ G1, eqx clsP G G1 → Ic S G1 → sm_Wk 20 143 Q (some (n, f)) 1009 [some (.ref 9999), some (.ref 0), some (.ref 30), some (.ref 31), some (.ref 32), some (.ref 33), some (.ref 34), some (.ref 35), some (.int (nI (S 0 1))), some (.int (nI t)), none, none, none, none, none, none, none, none, none, none, none, none, none, none, none, none, none] [] (hp G1 L) := by
    intro G1 hx hI1
    refine sm_body [1021] 60 sm_k143 (fun CT K hC hK => ?_)
    repeat' first
      | (with_reducible refine And.intro ?_ ?_)
      | ((with_reducible intro h9); first | exact absurd h9 (by decide) | ((rw [wi3] at h9; first | exact absurd rfl h9 | skip)) | skip)
      | (with_reducible exact zn_in (by omega) (by decide))
      | (with_reducible exact z01) | (with_reducible exact z11) | (with_reducible exact zb01 _)
      | (with_reducible exact zn_inb (by omega) (by decide))
      | (with_reducible exact zn_ina (by omega) (by decide))
      | (with_reducible exact zn_inc (by omega) (by decide))
      | (with_reducible exact zn_ind (by omega) (by decide))
      | (with_reducible exact zn_ine (by omega) (by decide))
      | ((conv => whnf); first | (with_reducible refine And.intro ?_ ?_) | ((with_reducible intro h9); first | exact absurd h9 (by decide) | ((rw [wi3] at h9; first | exact absurd rfl h9 | skip)) | skip) | (with_reducible refine hK _ _ _ _ (sm_un ?_)) | ((refine f_wind (hC.mono (by omega)) hR hI1 (fun G2 hx2 hI2 => ?_))))
    rw [wn3] at hI2
    exact ⟨⟨p_1021 G2 (eqx_trans hx hx2) hI2⟩⟩
  have p_998 : ∀ G1, eqx clsP G G1 → Ic S G1 → sm_Wk 20 143 Q (some (n, f)) 998 [some (.ref 9999), some (.ref 0), some (.ref 30), some (.ref 31), some (.ref 32), some (.ref 33), some (.ref 34), some (.ref 35), some (.int (nI (S 0 1))), some (.int (nI t)), none, none, none, none, none, none, none, none, none, none, none, none, none, none, none, none, none] [] (hp G1 L) := by
    intro G1 hx hI1
    refine sm_body [1009] 60 sm_k143 (fun CT K hC hK => ?_)
    repeat' first
      | (with_reducible refine And.intro ?_ ?_)
      | ((with_reducible intro h9); first | exact absurd h9 (by decide) | ((rw [wi2] at h9; first | exact absurd rfl h9 | skip)) | skip)
      | (with_reducible exact zn_in (by omega) (by decide))
      | (with_reducible exact z01) | (with_reducible exact z11) | (with_reducible exact zb01 _)
      | (with_reducible exact zn_inb (by omega) (by decide))
      | (with_reducible exact zn_ina (by omega) (by decide))
      | (with_reducible exact zn_inc (by omega) (by decide))
      | (with_reducible exact zn_ind (by omega) (by decide))
      | (with_reducible exact zn_ine (by omega) (by decide))
      | ((conv => whnf); first | (with_reducible refine And.intro ?_ ?_) | ((with_reducible intro h9); first | exact absurd h9 (by decide) | ((rw [wi2] at h9; first | exact absurd rfl h9 | skip)) | skip) | (with_reducible refine hK _ _ _ _ (sm_un ?_)) | ((refine f_wind (hC.mono (by omega)) hR hI1 (fun G2 hx2 hI2 => ?_))))
    rw [wn2] at hI2
    exact ⟨⟨p_1009 G2 (eqx_trans hx hx2) hI2⟩⟩
  have p_984 : ∀ G1, eqx clsP G G1 → Ic S G1 → sm_Wk 20 143 Q (some (n, f)) 984 [some (.ref 9999), some (.ref 0), some (.ref 30), some (.ref 31), some (.ref 32), some (.ref 33), some (.ref 34), some (.ref 35), some (.int (nI (S 0 1))), some (.int (nI t)), none, none, none, none, none, none, none, none, none, none, none, none, none, none, none, none, none] [] (hp G1 L) := by
    intro G1 hx hI1
    have w1' : G1 30 (nI 6).toNatClampNeg = nI (S 0 0) := by rw [hx 30 rfl]; exact w1
    refine sm_body [998] 60 sm_k143 (fun CT K hC hK => ?_)
    repeat' first
      | (with_reducible refine And.intro ?_ ?_)
      | ((with_reducible intro h9); first | exact absurd h9 (by decide) | ((rw [wi1] at h9; first | exact absurd rfl h9 | skip)) | skip)
      | (with_reducible exact zn_in (by omega) (by decide))
      | (with_reducible exact z01) | (with_reducible exact z11) | (with_reducible exact zb01 _)
      | (with_reducible exact zn_inb (by omega) (by decide))
      | (with_reducible exact zn_ina (by omega) (by decide))
      | (with_reducible exact zn_inc (by omega) (by decide))
      | (with_reducible exact zn_ind (by omega) (by decide))
      | (with_reducible exact zn_ine (by omega) (by decide))
      | ((conv => whnf); first | (with_reducible refine And.intro ?_ ?_) | ((with_reducible intro h9); first | exact absurd h9 (by decide) | ((rw [wi1] at h9; first | exact absurd rfl h9 | skip)) | skip) | (with_reducible refine hK _ _ _ _ (sm_un ?_)) | ((rw [w1']; refine f_wind (hC.mono (by omega)) hR hI1 (fun G2 hx2 hI2 => ?_))))
    rw [wn1] at hI2
    exact ⟨⟨p_998 G2 (eqx_trans hx hx2) hI2⟩⟩
  exact p_984 G eqx_rfl hIc
theorem lw_all (hI : LI S G) (ht : t < 24) (hx31 : x < 2 ^ 31) (hn : n ≤ 260) (hN : ∀ G', LI S G' → sm_Wk 20 143 Q (some (n, f)) 978 [some (.ref 9999), some (.ref 0), some (.ref 30), some (.ref 31), some (.ref 32), some (.ref 33), some (.ref 34), some (.ref 35), some (.int (nI (S 0 1))), some (.int (nI t)), some (.int (nI x)), none, none, none, none, none, none, none, none, none, none, none, none, none, none, none, none] [] (hp G' L)) : sm_Wk 20 143 Q (some (n, f)) 144 [some (.ref 9999), some (.ref 0), some (.ref 30), some (.ref 31), some (.ref 32), some (.ref 33), some (.ref 34), some (.ref 35), some (.int (nI (S 0 1))), some (.int (nI t)), some (.int (nI x)), none, none, none, none, none, none, none, none, none, none, none, none, none, none, none, none] [] (hp G L) := by
  refine lw_A hI (fun G1 x1 h35 => ?_)
  have hI1 := LI_x x1 rfl hI
  refine lw_B (fun G2 x2 h34 => ?_)
  have hI2 := LI_x x2 rfl hI1
  refine lw_C hI2 (bP_0 (fun h hh => by rw [x2 35 rfl]; exact h35 h hh) h34 hI.1.1) (fun G3 x3 hb => ?_)
  have hI3 := LI_x x3 rfl hI2
  refine lw_D hI3 (fun G4 x4 i4 => ?_)
  have hI4 := LI_c x4 i4 hI3
  have hb4 := bA_x x4 rfl rfl hb
  refine lw_E hI4 hb4 (fun G5 x5 i5 => ?_)
  have hI5 := LI_c x5 i5 hI4
  have hb5 := bA_x x5 rfl rfl hb4
  refine lw_F hI5 hb5 (fun G6 x6 i6 => ?_)
  have hI6 := LI_c x6 i6 hI5
  exact lw_G hI6 ht hx31 hn (fun G7 x7 e31 => hN G7 (LI_31 x7 e31 hI6))
set_option maxRecDepth 100000 in
set_option maxHeartbeats 4000000 in
theorem lw_T {m : Nat} (hm : 0 < m) (hn : n ≤ 260) (hQ : ∀ G', Q (some (.int (nI 1))) (hp G' L)) : ∀ t, t ≤ 24 → ∀ G1 S1, LI S1 G1 → S1 0 1 = m → sm_Wk 20 143 Q (some (n, f)) 108 [some (.ref 9999), some (.ref 0), some (.ref 30), some (.ref 31), some (.ref 32), some (.ref 33), some (.ref 34), some (.ref 35), some (.int (nI m)), some (.int (nI t)), none, none, none, none, none, none, none, none, none, none, none, none, none, none, none, none, none] [] (hp G1 L) := by
  refine up _ (fun t ht ih G1 S1 hI hS => ?_)
  have rest : t < 24 → ∀ x, x < 2 ^ 31 → sm_Wk 20 143 Q (some (n, f)) 124 [some (.ref 9999), some (.ref 0), some (.ref 30), some (.ref 31), some (.ref 32), some (.ref 33), some (.ref 34), some (.ref 35), some (.int (nI m)), some (.int (nI t)), none, none, none, none, none, none, none, none, none, none, none, none, none, none, none, none, none] [.int (nI x)] (hp G1 L) := by
    intro hl x hx31
    have hv : 0 < S1 0 1 := by omega
    refine sm_body [144] 60 sm_k143 (fun CT K hC hK => ?_)
    repeat' first
      | (with_reducible refine And.intro ?_ ?_)
      | ((with_reducible intro h9); first | exact absurd h9 (by decide) | skip)
      | (with_reducible exact zn_in (by omega) (by decide))
      | (with_reducible exact z01) | (with_reducible exact z11) | (with_reducible exact zb01 _)
      | (with_reducible exact zn_inb (by omega) (by decide))
      | (with_reducible exact zn_ina (by omega) (by decide))
      | (with_reducible exact zn_inc (by omega) (by decide))
      | (with_reducible exact zn_ind (by omega) (by decide))
      | (with_reducible exact zn_ine (by omega) (by decide))
      | ((conv => whnf); first | (with_reducible refine And.intro ?_ ?_) | ((with_reducible intro h9); first | exact absurd h9 (by decide) | skip) | (with_reducible refine hK _ _ _ _ (sm_un ?_)) | ((refine l_act (hC.mono (by omega)) hx31 hI hv (fun G2 S2 hx2 hI2 e1 e2 => ?_))))
    have em : S2 0 1 = m := e2.trans hS
    have e := lw_all (L := L) (Q := Q) (f := f) (x := x) hI2 hl hx31 hn (fun G' hI' => by
      rw [em]
      refine sm_body [108] 60 sm_k143 (fun CT K hC hK => ?_)
      repeat' first
        | (with_reducible refine And.intro ?_ ?_)
        | ((with_reducible intro h9); first | exact absurd h9 (by decide) | skip)
        | (with_reducible exact zn_in (by omega) (by decide))
        | (with_reducible exact z01) | (with_reducible exact z11) | (with_reducible exact zb01 _)
        | (with_reducible exact zn_inb (by omega) (by decide))
        | (with_reducible exact zn_ina (by omega) (by decide))
        | (with_reducible exact zn_inc (by omega) (by decide))
        | (with_reducible exact zn_ind (by omega) (by decide))
        | (with_reducible exact zn_ine (by omega) (by decide))
        | ((conv => whnf); first | (with_reducible refine And.intro ?_ ?_) | ((with_reducible intro h9); first | exact absurd h9 (by decide) | skip) | (with_reducible refine hK _ _ _ _ (sm_un ?_)))
      simp only [nI_add]; exact ⟨⟨sm_less (ih hl G' S2 hI' em) ⟨rfl, rfl, rfl, rfl, rfl, rfl, rfl, rfl, rfl, rfl, trivial⟩⟩⟩)
    rw [em] at e
    exact ⟨⟨e⟩⟩
  refine sm_body [121, 984] 60 sm_k143 (fun CT K hC hK => ?_)
  repeat' first
    | (with_reducible refine And.intro ?_ ?_)
    | ((with_reducible intro h9); first | exact absurd h9 (by decide) | ((replace h9 := zle (a := 24) (by omega) (by omega) h9)) | ((replace h9 := znle (a := 24) (by omega) (by omega) h9)) | skip)
    | (with_reducible exact zn_in (by omega) (by decide))
    | (with_reducible exact z01) | (with_reducible exact z11) | (with_reducible exact zb01 _)
    | (with_reducible exact zn_inb (by omega) (by decide))
    | (with_reducible exact zn_ina (by omega) (by decide))
    | (with_reducible exact zn_inc (by omega) (by decide))
    | (with_reducible exact zn_ind (by omega) (by decide))
    | (with_reducible exact zn_ine (by omega) (by decide))
    | ((conv => whnf); first | (with_reducible refine And.intro ?_ ?_) | ((with_reducible intro h9); first | exact absurd h9 (by decide) | ((replace h9 := zle (a := 24) (by omega) (by omega) h9)) | ((replace h9 := znle (a := 24) (by omega) (by omega) h9)) | skip) | (with_reducible refine hK _ _ _ _ (sm_un ?_)))
  · have e := lw_end (L := L) (Q := Q) (f := f) (n := n) (t := t) hI (by omega) hQ
    rw [hS] at e
    exact ⟨⟨e⟩⟩
  · simp only [nI_add]
    exact ⟨⟨sm_cellk (k := 6 + t) (idx := 64) (z := 283) (by decide) hn (by omega) (by decide +kernel) rfl (rest h9)⟩⟩
set_option maxRecDepth 100000 in
set_option maxHeartbeats 4000000 in
theorem lw_V (hn : n ≤ 260) (hQ : ∀ G', Q (some (.int (nI 1))) (hp G' L)) : ∀ k, k ≤ 4 → ∀ G1 S1, LI S1 G1 → S1 0 1 = k → S1 0 2 = 0 → sm_Wk 20 143 Q (some (n, f)) 61 [some (.ref 9999), some (.ref 0), some (.ref 30), some (.ref 31), some (.ref 32), some (.ref 33), some (.ref 34), some (.ref 35), some (.int (nI k)), none, none, none, none, none, none, none, none, none, none, none, none, none, none, none, none, none, none] [] (hp G1 L) := by
  refine up _ (fun k hk ih G1 S1 hI hS h2 => ?_)
  have w2' : G1 30 (nI 7).toNatClampNeg = nI k := by
    have := hI.2.2.1.2.1
    rw [hS] at this
    exact this
  have restB : k < 4 → ∀ y, y < 2 ^ 31 → sm_Wk 20 143 Q (some (n, f)) 84 [some (.ref 9999), some (.ref 0), some (.ref 30), some (.ref 31), some (.ref 32), some (.ref 33), some (.ref 34), some (.ref 35), some (.int (nI k)), none, none, none, none, none, none, none, none, none, none, none, none, none, none, none, none, none, none] [.int (nI y), .ref 0] (hp G1 L) := by
    intro hl y hy
    refine sm_body [61] 60 sm_k143 (fun CT K hC hK => ?_)
    repeat' first
      | (with_reducible refine And.intro ?_ ?_)
      | ((with_reducible intro h9); first | exact absurd h9 (by decide) | skip)
      | (with_reducible exact zn_in (by omega) (by decide))
      | (with_reducible exact z01) | (with_reducible exact z11) | (with_reducible exact zb01 _)
      | (with_reducible exact zn_inb (by omega) (by decide))
      | (with_reducible exact zn_ina (by omega) (by decide))
      | (with_reducible exact zn_inc (by omega) (by decide))
      | (with_reducible exact zn_ind (by omega) (by decide))
      | (with_reducible exact zn_ine (by omega) (by decide))
      | ((conv => whnf); first | (with_reducible refine And.intro ?_ ?_) | ((with_reducible intro h9); first | exact absurd h9 (by decide) | skip) | (with_reducible refine hK _ _ _ _ (sm_un ?_)) | ((refine l_vane (hC.mono (by omega)) hy hI (by omega) h2 (fun G2 S2 hx2 hI2 e1 e2 e3 => ?_))))
    simp only [nI_add]; exact ⟨⟨ih (by omega) G2 S2 hI2 (by omega) e3⟩⟩
  have rest : ∀ x, x < 2 ^ 31 → sm_Wk 20 143 Q (some (n, f)) 69 [some (.ref 9999), some (.ref 0), some (.ref 30), some (.ref 31), some (.ref 32), some (.ref 33), some (.ref 34), some (.ref 35), some (.int (nI k)), none, none, none, none, none, none, none, none, none, none, none, none, none, none, none, none, none, none] [.int (nI x), .int (nI 1), .int (nI k)] (hp G1 L) := by
    intro x hx
    have e1 : nI 1 + sm_ir (nI x) (nI 4) = nI (1 + x % 4) := by rw [zn_ir (by omega) (by decide) (by decide), nI_add]
    refine sm_body [81, 108] 60 sm_k143 (fun CT K hC hK => ?_)
    repeat' first
      | (with_reducible refine And.intro ?_ ?_)
      | ((with_reducible intro h9); first | exact absurd h9 (by decide) | ((rw [e1] at h9; replace h9 := zle (by omega) (by omega) h9)) | ((rw [e1] at h9; replace h9 := znle (by omega) (by omega) h9)) | skip)
      | (with_reducible exact zn_in (by omega) (by decide))
      | (with_reducible exact z01) | (with_reducible exact z11) | (with_reducible exact zb01 _)
      | (with_reducible exact zn_inb (by omega) (by decide))
      | (with_reducible exact zn_ina (by omega) (by decide))
      | (with_reducible exact zn_inc (by omega) (by decide))
      | (with_reducible exact zn_ind (by omega) (by decide))
      | (with_reducible exact zn_ine (by omega) (by decide))
      | ((conv => whnf); first | (with_reducible refine And.intro ?_ ?_) | ((with_reducible intro h9); first | exact absurd h9 (by decide) | ((rw [e1] at h9; replace h9 := zle (by omega) (by omega) h9)) | ((rw [e1] at h9; replace h9 := znle (by omega) (by omega) h9)) | skip) | (with_reducible refine hK _ _ _ _ (sm_un ?_)))
    · simp only [w2']
      exact ⟨⟨sm_less (lw_T (m := k) (by omega) hn hQ 0 (by omega) G1 S1 hI hS) ⟨rfl, rfl, rfl, rfl, rfl, rfl, rfl, rfl, rfl, rfl, trivial⟩⟩⟩
    · simp only [nI_add]
      exact ⟨⟨sm_cellk (k := 2 + k) (idx := 64) (z := 283) (by decide) hn (by omega) (by decide +kernel) rfl (restB (by omega))⟩⟩
  refine sm_body [66] 60 sm_k143 (fun CT K hC hK => ?_)
  repeat' first
    | (with_reducible refine And.intro ?_ ?_)
    | ((with_reducible intro h9); first | exact absurd h9 (by decide) | skip)
    | (with_reducible exact zn_in (by omega) (by decide))
    | (with_reducible exact z01) | (with_reducible exact z11) | (with_reducible exact zb01 _)
    | (with_reducible exact zn_inb (by omega) (by decide))
    | (with_reducible exact zn_ina (by omega) (by decide))
    | (with_reducible exact zn_inc (by omega) (by decide))
    | (with_reducible exact zn_ind (by omega) (by decide))
    | (with_reducible exact zn_ine (by omega) (by decide))
    | ((conv => whnf); first | (with_reducible refine And.intro ?_ ?_) | ((with_reducible intro h9); first | exact absurd h9 (by decide) | skip) | (with_reducible refine hK _ _ _ _ (sm_un ?_)))
  exact ⟨⟨sm_cellk (k := 1) (idx := 64) (z := 283) (by decide) hn (by omega) (by decide +kernel) rfl rest⟩⟩
set_option maxRecDepth 100000 in
set_option maxHeartbeats 4000000 in
theorem lw_go (hn : n ≤ 260) (hQ : ∀ G', Q (some (.int (nI 1))) (hp G' L)) (hR : RS 0 S) (hI : Ic S G) (h3 : S 0 3 = 0) (h31 : G 31 30 = nI 0) : sm_Wk 20 143 Q (some (n, f)) 42 [some (.ref 9999), some (.ref 0), some (.ref 30), some (.ref 31), some (.ref 32), some (.ref 33), some (.ref 34), some (.ref 35), none, none, none, none, none, none, none, none, none, none, none, none, none, none, none, none, none, none, none] [] (hp G L) := by
  have rest : ∀ x, x < 2 ^ 31 → sm_Wk 20 143 Q (some (n, f)) 48 [some (.ref 9999), some (.ref 0), some (.ref 30), some (.ref 31), some (.ref 32), some (.ref 33), some (.ref 34), some (.ref 35), none, none, none, none, none, none, none, none, none, none, none, none, none, none, none, none, none, none, none] [.int (nI x), .ref 0] (hp G L) := by
    intro x hx31
    refine sm_body [61] 60 sm_k143 (fun CT K hC hK => ?_)
    repeat' first
      | (with_reducible refine And.intro ?_ ?_)
      | ((with_reducible intro h9); first | exact absurd h9 (by decide) | skip)
      | (with_reducible exact zn_in (by omega) (by decide))
      | (with_reducible exact z01) | (with_reducible exact z11) | (with_reducible exact zb01 _)
      | (with_reducible exact zn_inb (by omega) (by decide))
      | (with_reducible exact zn_ina (by omega) (by decide))
      | (with_reducible exact zn_inc (by omega) (by decide))
      | (with_reducible exact zn_ind (by omega) (by decide))
      | (with_reducible exact zn_ine (by omega) (by decide))
      | ((conv => whnf); first | (with_reducible refine And.intro ?_ ?_) | ((with_reducible intro h9); first | exact absurd h9 (by decide) | skip) | (with_reducible refine hK _ _ _ _ (sm_un ?_)) | ((refine l_day (hC.mono (by omega)) hx31 hR hI h3 h31 (fun G2 S2 hx2 hI2 e1 e2 => ?_))))
    exact ⟨⟨lw_V hn hQ 0 (by omega) G2 S2 hI2 e1 e2⟩⟩
  refine sm_body [45] 60 sm_k143 (fun CT K hC hK => ?_)
  repeat' first
    | (with_reducible refine And.intro ?_ ?_)
    | ((with_reducible intro h9); first | exact absurd h9 (by decide) | skip)
    | (with_reducible exact zn_in (by omega) (by decide))
    | (with_reducible exact z01) | (with_reducible exact z11) | (with_reducible exact zb01 _)
    | (with_reducible exact zn_inb (by omega) (by decide))
    | (with_reducible exact zn_ina (by omega) (by decide))
    | (with_reducible exact zn_inc (by omega) (by decide))
    | (with_reducible exact zn_ind (by omega) (by decide))
    | (with_reducible exact zn_ine (by omega) (by decide))
    | ((conv => whnf); first | (with_reducible refine And.intro ?_ ?_) | ((with_reducible intro h9); first | exact absurd h9 (by decide) | skip) | (with_reducible refine hK _ _ _ _ (sm_un ?_)))
  exact ⟨⟨sm_cellk (k := 0) (idx := 64) (z := 283) (by decide) hn (by omega) (by decide +kernel) rfl rest⟩⟩
end LAWE
