/-! The law's loop. -/
section LAW
variable {CT : sm_CT} {G : Nat → Nat → Int32} {L : Nat → Nat → Int64} {Q : sm_Q} {S : Nat → Nat → Nat} {n t : Nat} {xs : Nat → Int32}
theorem lg_0 (a : Int64) : lg_cmp a a = nI 0 := by
  simp [lg_cmp]
  rfl
def lwN (Q : sm_Q) (n t : Nat) (xs : Nat → Int32) : Prop := ∀ G' L' S', RS (16 * t + 16) S' → Ic S' G' → Im (16 * t + 16) S' G' → sm_Wk 20 143 Q (some (n, xs)) 18 [some (.ref 9999), some (.ref 0), some (.ref 30), some (.int (nI (4 * t + 4)))] [] (hp G' L')
set_option maxRecDepth 100000 in
set_option maxHeartbeats 4000000 in
theorem lw_c0 (hN : lwN Q n t xs) (ht : 4 * t + 4 ≤ n) (hn : n ≤ 2048) (hR : RS (16 * t) S) (hI : Ic S G) (hJ : Im (16 * t) S G) : sm_Wk 20 143 Q (some (n, xs)) 140 [some (.ref 9999), some (.ref 0), some (.ref 30), some (.int (nI (4 * t)))] [] (hp G L) := by
  refine sm_body [18] 80 sm_k143 (fun CT K hC hK => ?_)
  repeat' first
    | (with_reducible refine And.intro ?_ ?_)
    | ((with_reducible intro h9); first | exact absurd h9 (by decide) | (exact absurd rfl h9) | skip)
    | (with_reducible exact zn_in (by omega) (by decide))
    | (with_reducible exact z01) | (with_reducible exact z11) | (with_reducible exact zb01 _)
    | (with_reducible exact zn_inb (by omega) (by decide))
    | (with_reducible exact zn_ina (by omega) (by decide))
    | (with_reducible exact zn_inc (by omega) (by decide))
    | ((conv => whnf); first | (with_reducible refine And.intro ?_ ?_) | ((with_reducible intro h9); first | exact absurd h9 (by decide) | (exact absurd rfl h9) | skip) | (with_reducible refine hK _ _ _ _ (sm_un ?_)) | (refine f_letter (hC.mono (by omega)) hR hI (fun G1 hx1 hI1 => ?_)) | (refine g_letter (hC.mono (by omega)) hR (Im_x hx1 hJ) (fun G2 hx2 hJ2 => ?_)))
  all_goals first
    | exact zn_ina (n := n) (by omega) (by omega)
    | (simp only [nI_add]; exact ⟨⟨hN G2 _ _ (R_mono (c := 16 * t) (by omega) (R_letter hR _)) (Ic_x hx2 hI1) (I_mono (c := 16 * t) (by omega) hJ2)⟩⟩)
set_option maxRecDepth 100000 in
set_option maxHeartbeats 4000000 in
theorem lw_c1 (hN : lwN Q n t xs) (ht : 4 * t + 4 ≤ n) (hn : n ≤ 2048) (hR : RS (16 * t) S) (hI : Ic S G) (hJ : Im (16 * t) S G) : sm_Wk 20 143 Q (some (n, xs)) 163 [some (.ref 9999), some (.ref 0), some (.ref 30), some (.int (nI (4 * t)))] [] (hp G L) := by
  refine sm_body [18] 80 sm_k143 (fun CT K hC hK => ?_)
  repeat' first
    | (with_reducible refine And.intro ?_ ?_)
    | ((with_reducible intro h9); first | exact absurd h9 (by decide) | (exact absurd rfl h9) | skip)
    | (with_reducible exact zn_in (by omega) (by decide))
    | (with_reducible exact z01) | (with_reducible exact z11) | (with_reducible exact zb01 _)
    | (with_reducible exact zn_inb (by omega) (by decide))
    | (with_reducible exact zn_ina (by omega) (by decide))
    | (with_reducible exact zn_inc (by omega) (by decide))
    | ((conv => whnf); first | (with_reducible refine And.intro ?_ ?_) | ((with_reducible intro h9); first | exact absurd h9 (by decide) | (exact absurd rfl h9) | skip) | (with_reducible refine hK _ _ _ _ (sm_un ?_)) | (refine f_blank (hC.mono (by omega)) hR hI (fun G1 hx1 hI1 => ?_)) | (refine g_blank (hC.mono (by omega)) hR (Im_x hx1 hJ) (fun G2 hx2 hJ2 => ?_)))
  all_goals first
    | exact zn_ina (n := n) (by omega) (by omega)
    | (simp only [nI_add]; exact ⟨⟨hN G2 _ _ (R_mono (c := 16 * t) (by omega) (R_blank hR)) (Ic_x hx2 hI1) (I_mono (c := 16 * t) (by omega) hJ2)⟩⟩)
set_option maxRecDepth 100000 in
set_option maxHeartbeats 4000000 in
theorem lw_c2 (hN : lwN Q n t xs) (ht : 4 * t + 4 ≤ n) (hn : n ≤ 2048) (hR : RS (16 * t) S) (hI : Ic S G) (hJ : Im (16 * t) S G) : sm_Wk 20 143 Q (some (n, xs)) 176 [some (.ref 9999), some (.ref 0), some (.ref 30), some (.int (nI (4 * t)))] [] (hp G L) := by
  refine sm_body [18] 80 sm_k143 (fun CT K hC hK => ?_)
  repeat' first
    | (with_reducible refine And.intro ?_ ?_)
    | ((with_reducible intro h9); first | exact absurd h9 (by decide) | (exact absurd rfl h9) | skip)
    | (with_reducible exact zn_in (by omega) (by decide))
    | (with_reducible exact z01) | (with_reducible exact z11) | (with_reducible exact zb01 _)
    | (with_reducible exact zn_inb (by omega) (by decide))
    | (with_reducible exact zn_ina (by omega) (by decide))
    | (with_reducible exact zn_inc (by omega) (by decide))
    | ((conv => whnf); first | (with_reducible refine And.intro ?_ ?_) | ((with_reducible intro h9); first | exact absurd h9 (by decide) | (exact absurd rfl h9) | skip) | (with_reducible refine hK _ _ _ _ (sm_un ?_)) | (refine f_fault (hC.mono (by omega)) hR hI ?_) | (refine g_fault (hC.mono (by omega)) hR hJ ?_))
  all_goals first
    | exact zn_ina (n := n) (by omega) (by omega)
    | (simp only [nI_add]; exact ⟨⟨hN G L S (R_mono (c := 16 * t) (by omega) hR) hI (I_mono (c := 16 * t) (by omega) hJ)⟩⟩)
set_option maxRecDepth 100000 in
set_option maxHeartbeats 4000000 in
theorem lw_c3 (hN : lwN Q n t xs) (ht : 4 * t + 4 ≤ n) (hn : n ≤ 2048) (hR : RS (16 * t) S) (hI : Ic S G) (hJ : Im (16 * t) S G) : sm_Wk 20 143 Q (some (n, xs)) 189 [some (.ref 9999), some (.ref 0), some (.ref 30), some (.int (nI (4 * t)))] [] (hp G L) := by
  refine sm_body [18] 80 sm_k143 (fun CT K hC hK => ?_)
  repeat' first
    | (with_reducible refine And.intro ?_ ?_)
    | ((with_reducible intro h9); first | exact absurd h9 (by decide) | (exact absurd rfl h9) | skip)
    | (with_reducible exact zn_in (by omega) (by decide))
    | (with_reducible exact z01) | (with_reducible exact z11) | (with_reducible exact zb01 _)
    | (with_reducible exact zn_inb (by omega) (by decide))
    | (with_reducible exact zn_ina (by omega) (by decide))
    | (with_reducible exact zn_inc (by omega) (by decide))
    | ((conv => whnf); first | (with_reducible refine And.intro ?_ ?_) | ((with_reducible intro h9); first | exact absurd h9 (by decide) | (exact absurd rfl h9) | skip) | (with_reducible refine hK _ _ _ _ (sm_un ?_)) | (refine f_day (hC.mono (by omega)) hR hI (fun G1 hx1 hI1 => ?_)) | (refine g_day (hC.mono (by omega)) hR (Im_x hx1 hJ) (fun G2 hx2 hJ2 => ?_)))
  all_goals first
    | exact zn_ina (n := n) (by omega) (by omega)
    | (simp only [nI_add]; exact ⟨⟨hN G2 _ _ (R_day hR) (Ic_x hx2 hI1) (I_mono (c := 16 * t) (by omega) hJ2)⟩⟩)
set_option maxRecDepth 100000 in
set_option maxHeartbeats 4000000 in
theorem lw_c4 (hN : lwN Q n t xs) (ht : 4 * t + 4 ≤ n) (hn : n ≤ 2048) (hR : RS (16 * t) S) (hI : Ic S G) (hJ : Im (16 * t) S G) : sm_Wk 20 143 Q (some (n, xs)) 202 [some (.ref 9999), some (.ref 0), some (.ref 30), some (.int (nI (4 * t)))] [] (hp G L) := by
  refine sm_body [18] 80 sm_k143 (fun CT K hC hK => ?_)
  repeat' first
    | (with_reducible refine And.intro ?_ ?_)
    | ((with_reducible intro h9); first | exact absurd h9 (by decide) | (exact absurd rfl h9) | skip)
    | (with_reducible exact zn_in (by omega) (by decide))
    | (with_reducible exact z01) | (with_reducible exact z11) | (with_reducible exact zb01 _)
    | (with_reducible exact zn_inb (by omega) (by decide))
    | (with_reducible exact zn_ina (by omega) (by decide))
    | (with_reducible exact zn_inc (by omega) (by decide))
    | ((conv => whnf); first | (with_reducible refine And.intro ?_ ?_) | ((with_reducible intro h9); first | exact absurd h9 (by decide) | (exact absurd rfl h9) | skip) | (with_reducible refine hK _ _ _ _ (sm_un ?_)) | (refine f_wind (hC.mono (by omega)) hR hI (fun G1 hx1 hI1 => ?_)) | (refine g_wind (hC.mono (by omega)) hR (Im_x hx1 hJ) (fun G2 hx2 hJ2 => ?_)))
  all_goals first
    | exact zn_ina (n := n) (by omega) (by omega)
    | (simp only [nI_add]; exact ⟨⟨hN G2 _ _ (R_mono (c := 16 * t) (by omega) (R_wind hR _ _)) (Ic_x hx2 hI1) (I_mono (c := 16 * t) (by omega) hJ2)⟩⟩)
set_option maxRecDepth 100000 in
set_option maxHeartbeats 4000000 in
theorem lw_c5 (hN : lwN Q n t xs) (ht : 4 * t + 4 ≤ n) (hn : n ≤ 2048) (hR : RS (16 * t) S) (hI : Ic S G) (hJ : Im (16 * t) S G) : sm_Wk 20 143 Q (some (n, xs)) 235 [some (.ref 9999), some (.ref 0), some (.ref 30), some (.int (nI (4 * t)))] [] (hp G L) := by
  refine sm_body [18] 80 sm_k143 (fun CT K hC hK => ?_)
  repeat' first
    | (with_reducible refine And.intro ?_ ?_)
    | ((with_reducible intro h9); first | exact absurd h9 (by decide) | (exact absurd rfl h9) | skip)
    | (with_reducible exact zn_in (by omega) (by decide))
    | (with_reducible exact z01) | (with_reducible exact z11) | (with_reducible exact zb01 _)
    | (with_reducible exact zn_inb (by omega) (by decide))
    | (with_reducible exact zn_ina (by omega) (by decide))
    | (with_reducible exact zn_inc (by omega) (by decide))
    | ((conv => whnf); first | (with_reducible refine And.intro ?_ ?_) | ((with_reducible intro h9); first | exact absurd h9 (by decide) | (exact absurd rfl h9) | skip) | (with_reducible refine hK _ _ _ _ (sm_un ?_)) | (refine f_vane (hC.mono (by omega)) hR hI (fun G1 hx1 hI1 => ?_)) | (refine g_vane (hC.mono (by omega)) hR (Im_x hx1 hJ) (fun G2 hx2 hJ2 => ?_)))
  all_goals first
    | exact zn_ina (n := n) (by omega) (by omega)
    | (simp only [nI_add]; exact ⟨⟨hN G2 _ _ (R_mono (c := 16 * t) (by omega) (R_vane hR _ _ _)) (Ic_x hx2 hI1) (I_mono (c := 16 * t) (by omega) hJ2)⟩⟩)
set_option maxRecDepth 100000 in
set_option maxHeartbeats 4000000 in
theorem lw_c6 (hN : lwN Q n t xs) (ht : 4 * t + 4 ≤ n) (hn : n ≤ 2048) (hR : RS (16 * t) S) (hI : Ic S G) (hJ : Im (16 * t) S G) : sm_Wk 20 143 Q (some (n, xs)) 278 [some (.ref 9999), some (.ref 0), some (.ref 30), some (.int (nI (4 * t)))] [] (hp G L) := by
  refine sm_body [18] 80 sm_k143 (fun CT K hC hK => ?_)
  repeat' first
    | (with_reducible refine And.intro ?_ ?_)
    | ((with_reducible intro h9); first | exact absurd h9 (by decide) | (exact absurd rfl h9) | skip)
    | (with_reducible exact zn_in (by omega) (by decide))
    | (with_reducible exact z01) | (with_reducible exact z11) | (with_reducible exact zb01 _)
    | (with_reducible exact zn_inb (by omega) (by decide))
    | (with_reducible exact zn_ina (by omega) (by decide))
    | (with_reducible exact zn_inc (by omega) (by decide))
    | ((conv => whnf); first | (with_reducible refine And.intro ?_ ?_) | ((with_reducible intro h9); first | exact absurd h9 (by decide) | (exact absurd rfl h9) | skip) | (with_reducible refine hK _ _ _ _ (sm_un ?_)) | (refine f_about (hC.mono (by omega)) hR hI ?_) | (refine g_about (hC.mono (by omega)) hR hJ ?_))
  all_goals first
    | exact zn_ina (n := n) (by omega) (by omega)
    | (simp only [nI_add]; exact ⟨⟨hN G L S (R_mono (c := 16 * t) (by omega) hR) hI (I_mono (c := 16 * t) (by omega) hJ)⟩⟩)
set_option maxRecDepth 100000 in
set_option maxHeartbeats 4000000 in
theorem lw_c7 (hN : lwN Q n t xs) (ht : 4 * t + 4 ≤ n) (hn : n ≤ 2048) (hR : RS (16 * t) S) (hI : Ic S G) (hJ : Im (16 * t) S G) : sm_Wk 20 143 Q (some (n, xs)) 311 [some (.ref 9999), some (.ref 0), some (.ref 30), some (.int (nI (4 * t)))] [] (hp G L) := by
  refine sm_body [18] 80 sm_k143 (fun CT K hC hK => ?_)
  repeat' first
    | (with_reducible refine And.intro ?_ ?_)
    | ((with_reducible intro h9); first | exact absurd h9 (by decide) | (exact absurd rfl h9) | skip)
    | (with_reducible exact zn_in (by omega) (by decide))
    | (with_reducible exact z01) | (with_reducible exact z11) | (with_reducible exact zb01 _)
    | (with_reducible exact zn_inb (by omega) (by decide))
    | (with_reducible exact zn_ina (by omega) (by decide))
    | (with_reducible exact zn_inc (by omega) (by decide))
    | ((conv => whnf); first | (with_reducible refine And.intro ?_ ?_) | ((with_reducible intro h9); first | exact absurd h9 (by decide) | (exact absurd rfl h9) | skip) | (with_reducible refine hK _ _ _ _ (sm_un ?_)) | (refine f_as (hC.mono (by omega)) hR hI ?_) | (refine g_as (hC.mono (by omega)) hR hJ ?_))
  all_goals first
    | exact zn_ina (n := n) (by omega) (by omega)
    | (simp only [nI_add]; exact ⟨⟨hN G L S (R_mono (c := 16 * t) (by omega) hR) hI (I_mono (c := 16 * t) (by omega) hJ)⟩⟩)
set_option maxRecDepth 100000 in
set_option maxHeartbeats 4000000 in
theorem lw_c8 (hN : lwN Q n t xs) (ht : 4 * t + 4 ≤ n) (hn : n ≤ 2048) (hR : RS (16 * t) S) (hI : Ic S G) (hJ : Im (16 * t) S G) : sm_Wk 20 143 Q (some (n, xs)) 344 [some (.ref 9999), some (.ref 0), some (.ref 30), some (.int (nI (4 * t)))] [] (hp G L) := by
  refine sm_body [18] 80 sm_k143 (fun CT K hC hK => ?_)
  repeat' first
    | (with_reducible refine And.intro ?_ ?_)
    | ((with_reducible intro h9); first | exact absurd h9 (by decide) | (exact absurd rfl h9) | skip)
    | (with_reducible exact zn_in (by omega) (by decide))
    | (with_reducible exact z01) | (with_reducible exact z11) | (with_reducible exact zb01 _)
    | (with_reducible exact zn_inb (by omega) (by decide))
    | (with_reducible exact zn_ina (by omega) (by decide))
    | (with_reducible exact zn_inc (by omega) (by decide))
    | ((conv => whnf); first | (with_reducible refine And.intro ?_ ?_) | ((with_reducible intro h9); first | exact absurd h9 (by decide) | (exact absurd rfl h9) | skip) | (with_reducible refine hK _ _ _ _ (sm_un ?_)) | (refine f_oil (hC.mono (by omega)) hR hI (fun G1 hx1 hI1 => ?_)) | (refine g_oil (hC.mono (by omega)) hR (Im_x hx1 hJ) (fun G2 hx2 hJ2 => ?_)))
  all_goals first
    | exact zn_ina (n := n) (by omega) (by omega)
    | (simp only [nI_add]; exact ⟨⟨hN G2 _ _ (R_mono (c := 16 * t) (by omega) (R_oil hR _ _)) (Ic_x hx2 hI1) (I_mono (c := 16 * t) (by omega) hJ2)⟩⟩)
set_option maxRecDepth 100000 in
set_option maxHeartbeats 4000000 in
theorem lw_c9 (hN : lwN Q n t xs) (ht : 4 * t + 4 ≤ n) (hn : n ≤ 2048) (hR : RS (16 * t) S) (hI : Ic S G) (hJ : Im (16 * t) S G) : sm_Wk 20 143 Q (some (n, xs)) 377 [some (.ref 9999), some (.ref 0), some (.ref 30), some (.int (nI (4 * t)))] [] (hp G L) := by
  refine sm_body [18] 80 sm_k143 (fun CT K hC hK => ?_)
  repeat' first
    | (with_reducible refine And.intro ?_ ?_)
    | ((with_reducible intro h9); first | exact absurd h9 (by decide) | (exact absurd rfl h9) | skip)
    | (with_reducible exact zn_in (by omega) (by decide))
    | (with_reducible exact z01) | (with_reducible exact z11) | (with_reducible exact zb01 _)
    | (with_reducible exact zn_inb (by omega) (by decide))
    | (with_reducible exact zn_ina (by omega) (by decide))
    | (with_reducible exact zn_inc (by omega) (by decide))
    | ((conv => whnf); first | (with_reducible refine And.intro ?_ ?_) | ((with_reducible intro h9); first | exact absurd h9 (by decide) | (exact absurd rfl h9) | skip) | (with_reducible refine hK _ _ _ _ (sm_un ?_)) | (refine f_see (hC.mono (by omega)) hR hI (fun G1 hx1 hI1 => ?_)) | (refine g_see (hC.mono (by omega)) hR (Im_x hx1 hJ) (fun G2 hx2 hJ2 => ?_)))
  all_goals first
    | exact zn_ina (n := n) (by omega) (by omega)
    | (simp only [nI_add]; exact ⟨⟨hN G2 _ _ (R_mono (c := 16 * t) (by omega) (R_see hR _ _ _)) (Ic_x hx2 hI1) (I_mono (c := 16 * t) (by omega) hJ2)⟩⟩)
set_option maxRecDepth 100000 in
set_option maxHeartbeats 4000000 in
theorem lw_c10 (hN : lwN Q n t xs) (ht : 4 * t + 4 ≤ n) (hn : n ≤ 2048) (hR : RS (16 * t) S) (hI : Ic S G) (hJ : Im (16 * t) S G) : sm_Wk 20 143 Q (some (n, xs)) 420 [some (.ref 9999), some (.ref 0), some (.ref 30), some (.int (nI (4 * t)))] [] (hp G L) := by
  refine sm_body [18] 80 sm_k143 (fun CT K hC hK => ?_)
  repeat' first
    | (with_reducible refine And.intro ?_ ?_)
    | ((with_reducible intro h9); first | exact absurd h9 (by decide) | (exact absurd rfl h9) | skip)
    | (with_reducible exact zn_in (by omega) (by decide))
    | (with_reducible exact z01) | (with_reducible exact z11) | (with_reducible exact zb01 _)
    | (with_reducible exact zn_inb (by omega) (by decide))
    | (with_reducible exact zn_ina (by omega) (by decide))
    | (with_reducible exact zn_inc (by omega) (by decide))
    | ((conv => whnf); first | (with_reducible refine And.intro ?_ ?_) | ((with_reducible intro h9); first | exact absurd h9 (by decide) | (exact absurd rfl h9) | skip) | (with_reducible refine hK _ _ _ _ (sm_un ?_)) | (refine f_forget (hC.mono (by omega)) hR hI (fun G1 hx1 hI1 => ?_)) | (refine g_forget (hC.mono (by omega)) hR (Im_x hx1 hJ) (fun G2 hx2 hJ2 => ?_)))
  all_goals first
    | exact zn_ina (n := n) (by omega) (by omega)
    | (simp only [nI_add]; exact ⟨⟨hN G2 _ _ (R_mono (c := 16 * t) (by omega) (R_forget hR)) (Ic_x hx2 hI1) (I_mono (c := 16 * t) (by omega) hJ2)⟩⟩)
set_option maxRecDepth 100000 in
set_option maxHeartbeats 4000000 in
theorem lw_c11 (hN : lwN Q n t xs) (ht : 4 * t + 4 ≤ n) (hn : n ≤ 2048) (hR : RS (16 * t) S) (hI : Ic S G) (hJ : Im (16 * t) S G) : sm_Wk 20 143 Q (some (n, xs)) 433 [some (.ref 9999), some (.ref 0), some (.ref 30), some (.int (nI (4 * t)))] [] (hp G L) := by
  refine sm_body [18] 80 sm_k143 (fun CT K hC hK => ?_)
  repeat' first
    | (with_reducible refine And.intro ?_ ?_)
    | ((with_reducible intro h9); first | exact absurd h9 (by decide) | (exact absurd rfl h9) | skip)
    | (with_reducible exact zn_in (by omega) (by decide))
    | (with_reducible exact z01) | (with_reducible exact z11) | (with_reducible exact zb01 _)
    | (with_reducible exact zn_inb (by omega) (by decide))
    | (with_reducible exact zn_ina (by omega) (by decide))
    | (with_reducible exact zn_inc (by omega) (by decide))
    | ((conv => whnf); first | (with_reducible refine And.intro ?_ ?_) | ((with_reducible intro h9); first | exact absurd h9 (by decide) | (exact absurd rfl h9) | skip) | (with_reducible refine hK _ _ _ _ (sm_un ?_)) | (refine f_fitting (hC.mono (by omega)) hR hI (fun G1 hx1 hI1 => ?_)) | (refine g_fitting (hC.mono (by omega)) hR (Im_x hx1 hJ) (fun G2 hx2 hJ2 => ?_)))
  all_goals first
    | exact zn_ina (n := n) (by omega) (by omega)
    | (simp only [nI_add]; exact ⟨⟨hN G2 _ S (R_mono (c := 16 * t) (by omega) hR) (Ic_x hx2 hI1) (I_mono (c := 16 * t) (by omega) hJ2)⟩⟩)
set_option maxRecDepth 100000 in
set_option maxHeartbeats 4000000 in
theorem lw_c12 (hN : lwN Q n t xs) (ht : 4 * t + 4 ≤ n) (hn : n ≤ 2048) (hR : RS (16 * t) S) (hI : Ic S G) (hJ : Im (16 * t) S G) : sm_Wk 20 143 Q (some (n, xs)) 446 [some (.ref 9999), some (.ref 0), some (.ref 30), some (.int (nI (4 * t)))] [] (hp G L) := by
  refine sm_body [18] 80 sm_k143 (fun CT K hC hK => ?_)
  repeat' first
    | (with_reducible refine And.intro ?_ ?_)
    | ((with_reducible intro h9); first | exact absurd h9 (by decide) | (exact absurd rfl h9) | skip)
    | (with_reducible exact zn_in (by omega) (by decide))
    | (with_reducible exact z01) | (with_reducible exact z11) | (with_reducible exact zb01 _)
    | (with_reducible exact zn_inb (by omega) (by decide))
    | (with_reducible exact zn_ina (by omega) (by decide))
    | (with_reducible exact zn_inc (by omega) (by decide))
    | ((conv => whnf); first | (with_reducible refine And.intro ?_ ?_) | ((with_reducible intro h9); first | exact absurd h9 (by decide) | (exact absurd rfl h9) | skip) | (with_reducible refine hK _ _ _ _ (sm_un ?_)) | (refine f_points (hC.mono (by omega)) hR hI (fun G1 hx1 hI1 => ?_)) | (refine g_points (hC.mono (by omega)) hR (Im_x hx1 hJ) (fun G2 hx2 hJ2 => ?_)))
  all_goals first
    | exact zn_ina (n := n) (by omega) (by omega)
    | (simp only [nI_add]; exact ⟨⟨hN G2 _ S (R_mono (c := 16 * t) (by omega) hR) (Ic_x hx2 hI1) (I_mono (c := 16 * t) (by omega) hJ2)⟩⟩)
set_option maxRecDepth 100000 in
set_option maxHeartbeats 4000000 in
theorem lw_c13 (hN : lwN Q n t xs) (ht : 4 * t + 4 ≤ n) (hn : n ≤ 2048) (hR : RS (16 * t) S) (hI : Ic S G) (hJ : Im (16 * t) S G) : sm_Wk 20 143 Q (some (n, xs)) 479 [some (.ref 9999), some (.ref 0), some (.ref 30), some (.int (nI (4 * t)))] [] (hp G L) := by
  refine sm_body [18] 80 sm_k143 (fun CT K hC hK => ?_)
  repeat' first
    | (with_reducible refine And.intro ?_ ?_)
    | ((with_reducible intro h9); first | exact absurd h9 (by decide) | (exact absurd rfl h9) | skip)
    | (with_reducible exact zn_in (by omega) (by decide))
    | (with_reducible exact z01) | (with_reducible exact z11) | (with_reducible exact zb01 _)
    | (with_reducible exact zn_inb (by omega) (by decide))
    | (with_reducible exact zn_ina (by omega) (by decide))
    | (with_reducible exact zn_inc (by omega) (by decide))
    | ((conv => whnf); first | (with_reducible refine And.intro ?_ ?_) | ((with_reducible intro h9); first | exact absurd h9 (by decide) | (exact absurd rfl h9) | skip) | (with_reducible refine hK _ _ _ _ (sm_un ?_)) | (refine f_blows (hC.mono (by omega)) hR hI (fun G1 hx1 hI1 => ?_)) | (refine g_blows (hC.mono (by omega)) hR (Im_x hx1 hJ) (fun G2 hx2 hJ2 => ?_)))
  all_goals first
    | exact zn_ina (n := n) (by omega) (by omega)
    | (simp only [nI_add]; exact ⟨⟨hN G2 _ S (R_mono (c := 16 * t) (by omega) hR) (Ic_x hx2 hI1) (I_mono (c := 16 * t) (by omega) hJ2)⟩⟩)
set_option maxRecDepth 100000 in
set_option maxHeartbeats 4000000 in
theorem lw_c14 (hN : lwN Q n t xs) (ht : 4 * t + 4 ≤ n) (hn : n ≤ 2048) (hR : RS (16 * t) S) (hI : Ic S G) (hJ : Im (16 * t) S G) : sm_Wk 20 143 Q (some (n, xs)) 502 [some (.ref 9999), some (.ref 0), some (.ref 30), some (.int (nI (4 * t)))] [] (hp G L) := by
  refine sm_body [18] 80 sm_k143 (fun CT K hC hK => ?_)
  repeat' first
    | (with_reducible refine And.intro ?_ ?_)
    | ((with_reducible intro h9); first | exact absurd h9 (by decide) | (exact absurd rfl h9) | skip)
    | (with_reducible exact zn_in (by omega) (by decide))
    | (with_reducible exact z01) | (with_reducible exact z11) | (with_reducible exact zb01 _)
    | (with_reducible exact zn_inb (by omega) (by decide))
    | (with_reducible exact zn_ina (by omega) (by decide))
    | (with_reducible exact zn_inc (by omega) (by decide))
    | ((conv => whnf); first | (with_reducible refine And.intro ?_ ?_) | ((with_reducible intro h9); first | exact absurd h9 (by decide) | (exact absurd rfl h9) | skip) | (with_reducible refine hK _ _ _ _ (sm_un ?_)) | (refine f_ask (hC.mono (by omega)) hR hI (fun G1 hx1 hI1 => ?_)) | (refine g_ask (hC.mono (by omega)) hR (Im_x hx1 hJ) (fun G2 hx2 hJ2 => ?_)))
  all_goals first
    | exact zn_ina (n := n) (by omega) (by omega)
    | (simp only [nI_add]; exact ⟨⟨hN G2 _ _ (R_mono (c := 16 * t) (by omega) (R_ask hR _)) (Ic_x hx2 hI1) (I_mono (c := 16 * t) (by omega) hJ2)⟩⟩)
set_option maxRecDepth 100000 in
set_option maxHeartbeats 4000000 in
theorem lw_c15 (hN : lwN Q n t xs) (ht : 4 * t + 4 ≤ n) (hn : n ≤ 2048) (hR : RS (16 * t) S) (hI : Ic S G) (hJ : Im (16 * t) S G) : sm_Wk 20 143 Q (some (n, xs)) 525 [some (.ref 9999), some (.ref 0), some (.ref 30), some (.int (nI (4 * t)))] [] (hp G L) := by
  refine sm_body [18] 80 sm_k143 (fun CT K hC hK => ?_)
  repeat' first
    | (with_reducible refine And.intro ?_ ?_)
    | ((with_reducible intro h9); first | exact absurd h9 (by decide) | (exact absurd rfl h9) | skip)
    | (with_reducible exact zn_in (by omega) (by decide))
    | (with_reducible exact z01) | (with_reducible exact z11) | (with_reducible exact zb01 _)
    | (with_reducible exact zn_inb (by omega) (by decide))
    | (with_reducible exact zn_ina (by omega) (by decide))
    | (with_reducible exact zn_inc (by omega) (by decide))
    | ((conv => whnf); first | (with_reducible refine And.intro ?_ ?_) | ((with_reducible intro h9); first | exact absurd h9 (by decide) | (exact absurd rfl h9) | skip) | (with_reducible refine hK _ _ _ _ (sm_un ?_)) | (refine f_proof (hC.mono (by omega)) hR hI (fun G1 hx1 hI1 => ?_)) | (refine g_proof (hC.mono (by omega)) hR (Im_x hx1 hJ) (by omega) (fun G2 L1 hx2 hJ2 => ?_)))
  all_goals first
    | exact zn_ina (n := n) (by omega) (by omega)
    | (simp only [nI_add]; exact ⟨⟨hN G2 _ _ (R_mono (c := 16 * t) (by omega) (R_proof hR _ _)) (Ic_x hx2 hI1) hJ2⟩⟩)
set_option maxRecDepth 100000 in
set_option maxHeartbeats 4000000 in
theorem lw_c16 (hN : lwN Q n t xs) (ht : 4 * t + 4 ≤ n) (hn : n ≤ 2048) (hR : RS (16 * t) S) (hI : Ic S G) (hJ : Im (16 * t) S G) : sm_Wk 20 143 Q (some (n, xs)) 558 [some (.ref 9999), some (.ref 0), some (.ref 30), some (.int (nI (4 * t)))] [] (hp G L) := by
  refine sm_body [18] 80 sm_k143 (fun CT K hC hK => ?_)
  repeat' first
    | (with_reducible refine And.intro ?_ ?_)
    | ((with_reducible intro h9); first | exact absurd h9 (by decide) | (exact absurd rfl h9) | skip)
    | (with_reducible exact zn_in (by omega) (by decide))
    | (with_reducible exact z01) | (with_reducible exact z11) | (with_reducible exact zb01 _)
    | (with_reducible exact zn_inb (by omega) (by decide))
    | (with_reducible exact zn_ina (by omega) (by decide))
    | (with_reducible exact zn_inc (by omega) (by decide))
    | ((conv => whnf); first | (with_reducible refine And.intro ?_ ?_) | ((with_reducible intro h9); first | exact absurd h9 (by decide) | (exact absurd rfl h9) | skip) | (with_reducible refine hK _ _ _ _ (sm_un ?_)) | (refine f_sorts (hC.mono (by omega)) hR hI (fun G1 hx1 hI1 => ?_)) | (refine g_sorts (hC.mono (by omega)) hR (Im_x hx1 hJ) (fun G2 hx2 hJ2 => ?_)))
  all_goals first
    | exact zn_ina (n := n) (by omega) (by omega)
    | (simp only [nI_add]; exact ⟨⟨hN G2 _ _ (R_mono (c := 16 * t) (by omega) (R_sorts hR _ _)) (Ic_x hx2 hI1) (I_mono (c := 16 * t) (by omega) hJ2)⟩⟩)
set_option maxRecDepth 100000 in
set_option maxHeartbeats 4000000 in
theorem lw_c17 (hN : lwN Q n t xs) (ht : 4 * t + 4 ≤ n) (hn : n ≤ 2048) (hR : RS (16 * t) S) (hI : Ic S G) (hJ : Im (16 * t) S G) : sm_Wk 20 143 Q (some (n, xs)) 591 [some (.ref 9999), some (.ref 0), some (.ref 30), some (.int (nI (4 * t)))] [] (hp G L) := by
  refine sm_body [18] 80 sm_k143 (fun CT K hC hK => ?_)
  repeat' first
    | (with_reducible refine And.intro ?_ ?_)
    | ((with_reducible intro h9); first | exact absurd h9 (by decide) | (exact absurd rfl h9) | skip)
    | (with_reducible exact zn_in (by omega) (by decide))
    | (with_reducible exact z01) | (with_reducible exact z11) | (with_reducible exact zb01 _)
    | (with_reducible exact zn_inb (by omega) (by decide))
    | (with_reducible exact zn_ina (by omega) (by decide))
    | (with_reducible exact zn_inc (by omega) (by decide))
    | ((conv => whnf); first | (with_reducible refine And.intro ?_ ?_) | ((with_reducible intro h9); first | exact absurd h9 (by decide) | (exact absurd rfl h9) | skip) | (with_reducible refine hK _ _ _ _ (sm_un ?_)) | (refine f_oiling (hC.mono (by omega)) hR hI ?_) | (refine g_oiling (hC.mono (by omega)) hR hJ ?_))
  all_goals first
    | exact zn_ina (n := n) (by omega) (by omega)
    | (simp only [nI_add]; exact ⟨⟨hN G L S (R_mono (c := 16 * t) (by omega) hR) hI (I_mono (c := 16 * t) (by omega) hJ)⟩⟩)
set_option maxRecDepth 100000 in
set_option maxHeartbeats 4000000 in
theorem lw_c18 (hN : lwN Q n t xs) (ht : 4 * t + 4 ≤ n) (hn : n ≤ 2048) (hR : RS (16 * t) S) (hI : Ic S G) (hJ : Im (16 * t) S G) : sm_Wk 20 143 Q (some (n, xs)) 634 [some (.ref 9999), some (.ref 0), some (.ref 30), some (.int (nI (4 * t)))] [] (hp G L) := by
  refine sm_body [18] 80 sm_k143 (fun CT K hC hK => ?_)
  repeat' first
    | (with_reducible refine And.intro ?_ ?_)
    | ((with_reducible intro h9); first | exact absurd h9 (by decide) | (exact absurd rfl h9) | skip)
    | (with_reducible exact zn_in (by omega) (by decide))
    | (with_reducible exact z01) | (with_reducible exact z11) | (with_reducible exact zb01 _)
    | (with_reducible exact zn_inb (by omega) (by decide))
    | (with_reducible exact zn_ina (by omega) (by decide))
    | (with_reducible exact zn_inc (by omega) (by decide))
    | ((conv => whnf); first | (with_reducible refine And.intro ?_ ?_) | ((with_reducible intro h9); first | exact absurd h9 (by decide) | (exact absurd rfl h9) | skip) | (with_reducible refine hK _ _ _ _ (sm_un ?_)) | (refine f_gusts (hC.mono (by omega)) hR hI ?_) | (refine g_gusts (hC.mono (by omega)) hR hJ (fun G2 L1 hx2 hJ2 => ?_)))
  all_goals first
    | exact zn_ina (n := n) (by omega) (by omega)
    | (simp only [nI_add]; exact ⟨⟨hN G2 L1 S (R_mono (c := 16 * t) (by omega) hR) (Ic_x hx2 hI) (I_mono (c := 16 * t) (by omega) hJ2)⟩⟩)
set_option maxRecDepth 100000 in
set_option maxHeartbeats 4000000 in
theorem lw_c19 (hN : lwN Q n t xs) (ht : 4 * t + 4 ≤ n) (hn : n ≤ 2048) (hR : RS (16 * t) S) (hI : Ic S G) (hJ : Im (16 * t) S G) : sm_Wk 20 143 Q (some (n, xs)) 677 [some (.ref 9999), some (.ref 0), some (.ref 30), some (.int (nI (4 * t)))] [] (hp G L) := by
  refine sm_body [18] 80 sm_k143 (fun CT K hC hK => ?_)
  repeat' first
    | (with_reducible refine And.intro ?_ ?_)
    | ((with_reducible intro h9); first | exact absurd h9 (by decide) | (exact absurd rfl h9) | skip)
    | (with_reducible exact zn_in (by omega) (by decide))
    | (with_reducible exact z01) | (with_reducible exact z11) | (with_reducible exact zb01 _)
    | (with_reducible exact zn_inb (by omega) (by decide))
    | (with_reducible exact zn_ina (by omega) (by decide))
    | (with_reducible exact zn_inc (by omega) (by decide))
    | ((conv => whnf); first | (with_reducible refine And.intro ?_ ?_) | ((with_reducible intro h9); first | exact absurd h9 (by decide) | (exact absurd rfl h9) | skip) | (with_reducible refine hK _ _ _ _ (sm_un ?_)) | (refine f_image (hC.mono (by omega)) hR hI (fun G1 hx1 hI1 => ?_)) | (refine g_image (hC.mono (by omega)) hR (Im_x hx1 hJ) (fun G2 hx2 hJ2 => ?_)))
  all_goals first
    | exact zn_ina (n := n) (by omega) (by omega)
    | (simp only [nI_add]; exact ⟨⟨hN G2 _ _ (R_mono (c := 16 * t) (by omega) (R_image hR)) (Ic_x hx2 hI1) (I_mono (c := 16 * t) (by omega) hJ2)⟩⟩)
set_option maxRecDepth 100000 in
set_option maxHeartbeats 4000000 in
theorem lw_c20 (hN : lwN Q n t xs) (ht : 4 * t + 4 ≤ n) (hn : n ≤ 2048) (hR : RS (16 * t) S) (hI : Ic S G) (hJ : Im (16 * t) S G) : sm_Wk 20 143 Q (some (n, xs)) 690 [some (.ref 9999), some (.ref 0), some (.ref 30), some (.int (nI (4 * t)))] [] (hp G L) := by
  refine sm_body [18] 80 sm_k143 (fun CT K hC hK => ?_)
  repeat' first
    | (with_reducible refine And.intro ?_ ?_)
    | ((with_reducible intro h9); first | exact absurd h9 (by decide) | (exact absurd rfl h9) | skip)
    | (with_reducible exact zn_in (by omega) (by decide))
    | (with_reducible exact z01) | (with_reducible exact z11) | (with_reducible exact zb01 _)
    | (with_reducible exact zn_inb (by omega) (by decide))
    | (with_reducible exact zn_ina (by omega) (by decide))
    | (with_reducible exact zn_inc (by omega) (by decide))
    | ((conv => whnf); first | (with_reducible refine And.intro ?_ ?_) | ((with_reducible intro h9); first | exact absurd h9 (by decide) | (exact absurd rfl h9) | skip) | (with_reducible refine hK _ _ _ _ (sm_un ?_)) | (refine f_restore (hC.mono (by omega)) hR hI (fun G1 hx1 hI1 => ?_)) | (refine g_restore (hC.mono (by omega)) hR (Im_x hx1 hJ) (by omega) (fun G2 hx2 hJ2 => ?_)))
  all_goals first
    | exact zn_ina (n := n) (by omega) (by omega)
    | (simp only [nI_add]; exact ⟨⟨hN G2 _ _ (R_mono (c := 16 * t) (by omega) (R_restore hR)) (Ic_x hx2 hI1) (I_mono (c := 16 * t) (by omega) hJ2)⟩⟩)
set_option maxRecDepth 100000 in
set_option maxHeartbeats 4000000 in
theorem lw_c21 (hN : lwN Q n t xs) (ht : 4 * t + 4 ≤ n) (hn : n ≤ 2048) (hR : RS (16 * t) S) (hI : Ic S G) (hJ : Im (16 * t) S G) : sm_Wk 20 143 Q (some (n, xs)) 703 [some (.ref 9999), some (.ref 0), some (.ref 30), some (.int (nI (4 * t)))] [] (hp G L) := by
  refine sm_body [18] 80 sm_k143 (fun CT K hC hK => ?_)
  repeat' first
    | (with_reducible refine And.intro ?_ ?_)
    | ((with_reducible intro h9); first | exact absurd h9 (by decide) | (exact absurd rfl h9) | skip)
    | (with_reducible exact zn_in (by omega) (by decide))
    | (with_reducible exact z01) | (with_reducible exact z11) | (with_reducible exact zb01 _)
    | (with_reducible exact zn_inb (by omega) (by decide))
    | (with_reducible exact zn_ina (by omega) (by decide))
    | (with_reducible exact zn_inc (by omega) (by decide))
    | ((conv => whnf); first | (with_reducible refine And.intro ?_ ?_) | ((with_reducible intro h9); first | exact absurd h9 (by decide) | (exact absurd rfl h9) | skip) | (with_reducible refine hK _ _ _ _ (sm_un ?_)) | (refine f_count (hC.mono (by omega)) hR hI ?_) | (refine g_count (hC.mono (by omega)) hR hJ ?_))
  all_goals first
    | exact zn_ina (n := n) (by omega) (by omega)
    | (simp only [nI_add]; exact ⟨⟨hN G L S (R_mono (c := 16 * t) (by omega) hR) hI (I_mono (c := 16 * t) (by omega) hJ)⟩⟩)
set_option maxRecDepth 100000 in
set_option maxHeartbeats 4000000 in
theorem lw_c22 (hN : lwN Q n t xs) (ht : 4 * t + 4 ≤ n) (hn : n ≤ 2048) (hR : RS (16 * t) S) (hI : Ic S G) (hJ : Im (16 * t) S G) : sm_Wk 20 143 Q (some (n, xs)) 726 [some (.ref 9999), some (.ref 0), some (.ref 30), some (.int (nI (4 * t)))] [] (hp G L) := by
  refine sm_body [18] 80 sm_k143 (fun CT K hC hK => ?_)
  repeat' first
    | (with_reducible refine And.intro ?_ ?_)
    | ((with_reducible intro h9); first | exact absurd h9 (by decide) | (exact absurd (lg_0 _) h9) | skip)
    | (with_reducible exact zn_in (by omega) (by decide))
    | (with_reducible exact z01) | (with_reducible exact z11) | (with_reducible exact zb01 _)
    | (with_reducible exact zn_inb (by omega) (by decide))
    | (with_reducible exact zn_ina (by omega) (by decide))
    | (with_reducible exact zn_inc (by omega) (by decide))
    | ((conv => whnf); first | (with_reducible refine And.intro ?_ ?_) | ((with_reducible intro h9); first | exact absurd h9 (by decide) | (exact absurd (lg_0 _) h9) | skip) | (with_reducible refine hK _ _ _ _ (sm_un ?_)) | (refine f_digest (hC.mono (by omega)) hR hI (fun G1 hx1 hI1 => ?_)) | (refine g_digest (hC.mono (by omega)) hR (Im_x hx1 hJ) (fun G2 L1 hx2 hJ2 => ?_)))
  all_goals first
    | exact zn_ina (n := n) (by omega) (by omega)
    | (simp only [nI_add]; exact ⟨⟨hN G2 _ S (R_mono (c := 16 * t) (by omega) hR) (Ic_x hx2 hI1) (I_mono (c := 16 * t) (by omega) hJ2)⟩⟩)
theorem hd_lt (hn : n ≤ 2048) (ht : 4 * t ≤ n) : (nI n - nI 4 < nI (4 * t)) ↔ ¬ 4 * t + 4 ≤ n := by
  rw [zn_lt, pk_sub_toInt (by omega) (by decide), nI_toInt (by omega)]
  omega
set_option maxRecDepth 100000 in
set_option maxHeartbeats 4000000 in
theorem lw_step (hN : 4 * t + 4 ≤ n → lwN Q n t xs) (hn : n ≤ 2048) (ht0 : 4 * t ≤ n) (hQ : ∀ h, Q (some (.int (nI 1))) h) (hR : RS (16 * t) S) (hI : Ic S G) (hJ : Im (16 * t) S G) : sm_Wk 20 143 Q (some (n, xs)) 18 [some (.ref 9999), some (.ref 0), some (.ref 30), some (.int (nI (4 * t)))] [] (hp G L) := by
  refine sm_body [140, 163, 176, 189, 202, 235, 278, 311, 344, 377, 420, 433, 446, 479, 502, 525, 558, 591, 634, 677, 690, 703, 726, 740, 746] 80 sm_k143 (fun CT K hC hK => ?_)
  repeat' first
    | (with_reducible refine And.intro ?_ ?_)
    | ((with_reducible intro h9); first | exact absurd h9 (by decide) | ((have ht : 4 * t + 4 ≤ n := Decidable.not_not.mp (fun z => h9 ((hd_lt hn ht0).mpr z)))) | skip)
    | (with_reducible exact zn_in (by omega) (by decide))
    | (with_reducible exact z01) | (with_reducible exact z11) | (with_reducible exact zb01 _)
    | (with_reducible exact zn_inb (by omega) (by decide))
    | (with_reducible exact zn_ina (by omega) (by decide))
    | (with_reducible exact zn_inc (by omega) (by decide))
    | ((conv => whnf); first | (with_reducible refine And.intro ?_ ?_) | ((with_reducible intro h9); first | exact absurd h9 (by decide) | ((have ht : 4 * t + 4 ≤ n := Decidable.not_not.mp (fun z => h9 ((hd_lt hn ht0).mpr z)))) | skip) | (with_reducible refine hK _ _ _ _ (sm_un ?_)) | (exact zn_in (n := n) (by omega) (by omega)))
  · refine ⟨⟨?_⟩⟩
    refine sm_body [] 80 sm_k143 (fun CT K hC hK => ?_)
    repeat' first
      | (with_reducible refine And.intro ?_ ?_)
      | ((with_reducible intro h9); first | exact absurd h9 (by decide) | skip)
      | (with_reducible exact zn_in (by omega) (by decide))
      | (with_reducible exact z01) | (with_reducible exact z11) | (with_reducible exact zb01 _)
      | (with_reducible exact zn_inb (by omega) (by decide))
      | (with_reducible exact zn_ina (by omega) (by decide))
      | (with_reducible exact zn_inc (by omega) (by decide))
      | ((conv => whnf); first | (with_reducible refine And.intro ?_ ?_) | ((with_reducible intro h9); first | exact absurd h9 (by decide) | skip) | (with_reducible refine hK _ _ _ _ (sm_un ?_)))
    exact hQ _
  · exact ⟨⟨lw_c0 (hN ht) ht hn hR hI hJ⟩⟩
  · exact ⟨⟨lw_c1 (hN ht) ht hn hR hI hJ⟩⟩
  · exact ⟨⟨lw_c2 (hN ht) ht hn hR hI hJ⟩⟩
  · exact ⟨⟨lw_c3 (hN ht) ht hn hR hI hJ⟩⟩
  · exact ⟨⟨lw_c4 (hN ht) ht hn hR hI hJ⟩⟩
  · exact ⟨⟨lw_c5 (hN ht) ht hn hR hI hJ⟩⟩
  · exact ⟨⟨lw_c6 (hN ht) ht hn hR hI hJ⟩⟩
  · exact ⟨⟨lw_c7 (hN ht) ht hn hR hI hJ⟩⟩
  · exact ⟨⟨lw_c8 (hN ht) ht hn hR hI hJ⟩⟩
  · exact ⟨⟨lw_c9 (hN ht) ht hn hR hI hJ⟩⟩
  · exact ⟨⟨lw_c10 (hN ht) ht hn hR hI hJ⟩⟩
  · exact ⟨⟨lw_c11 (hN ht) ht hn hR hI hJ⟩⟩
  · exact ⟨⟨lw_c12 (hN ht) ht hn hR hI hJ⟩⟩
  · exact ⟨⟨lw_c13 (hN ht) ht hn hR hI hJ⟩⟩
  · exact ⟨⟨lw_c14 (hN ht) ht hn hR hI hJ⟩⟩
  · exact ⟨⟨lw_c15 (hN ht) ht hn hR hI hJ⟩⟩
  · exact ⟨⟨lw_c16 (hN ht) ht hn hR hI hJ⟩⟩
  · exact ⟨⟨lw_c17 (hN ht) ht hn hR hI hJ⟩⟩
  · exact ⟨⟨lw_c18 (hN ht) ht hn hR hI hJ⟩⟩
  · exact ⟨⟨lw_c19 (hN ht) ht hn hR hI hJ⟩⟩
  · exact ⟨⟨lw_c20 (hN ht) ht hn hR hI hJ⟩⟩
  · exact ⟨⟨lw_c21 (hN ht) ht hn hR hI hJ⟩⟩
  · exact ⟨⟨lw_c22 (hN ht) ht hn hR hI hJ⟩⟩
  · refine ⟨⟨?_⟩⟩
    refine sm_body [18] 80 sm_k143 (fun CT K hC hK => ?_)
    repeat' first
      | (with_reducible refine And.intro ?_ ?_)
      | ((with_reducible intro h9); first | exact absurd h9 (by decide) | skip)
      | (with_reducible exact zn_in (by omega) (by decide))
      | (with_reducible exact z01) | (with_reducible exact z11) | (with_reducible exact zb01 _)
      | (with_reducible exact zn_inb (by omega) (by decide))
      | (with_reducible exact zn_ina (by omega) (by decide))
      | (with_reducible exact zn_inc (by omega) (by decide))
      | ((conv => whnf); first | (with_reducible refine And.intro ?_ ?_) | ((with_reducible intro h9); first | exact absurd h9 (by decide) | skip) | (with_reducible refine hK _ _ _ _ (sm_un ?_)))
    simp only [nI_add]
    exact ⟨⟨hN ht G L S (R_mono (c := 16 * t) (by omega) hR) hI (I_mono (c := 16 * t) (by omega) hJ)⟩⟩
theorem lw_loop (hn : n ≤ 2048) (hQ : ∀ h, Q (some (.int (nI 1))) h) : ∀ d t, n ≤ 4 * t + 4 * d → 4 * t ≤ n → ∀ G L S, RS (16 * t) S → Ic S G → Im (16 * t) S G → sm_Wk 20 143 Q (some (n, xs)) 18 [some (.ref 9999), some (.ref 0), some (.ref 30), some (.int (nI (4 * t)))] [] (hp G L) := by
  intro d
  induction d with
  | zero => exact fun t h1 h2 G L S hR hI hJ => lw_step (fun h => by omega) hn h2 hQ hR hI hJ
  | succ d ih =>
    intro t h1 h2 G L S hR hI hJ
    refine lw_step (fun h G' L' S' hR' hI' hJ' => ?_) hn h2 hQ hR hI hJ
    have e := ih (t + 1) (by omega) (by omega) G' L' S' hR' hI' hJ'
    exact e
end LAW
