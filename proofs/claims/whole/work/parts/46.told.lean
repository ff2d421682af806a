/-! proof of the class: whether a group tells. -/
section TOLD
variable {CT : sm_CT} {G : Nat → Nat → Int32} {L : Nat → Nat → Int64} {Q : sm_Q} {S : Nat → Nat → Nat} {c : Nat} {h : sm_H}
set_option maxRecDepth 100000 in
set_option maxHeartbeats 4000000 in
theorem s_one_1 (hC : sm_C 1 CT) {a : Nat} (ha : a < 1) (hR : dR S) {gl : List (Nat → Nat)} (hne : gl ≠ []) (h1 : G 29 1 = nI gl.length) (hl : gl.length ≤ 64) (hg : rwp S a 1 gl (G 23)) (hw : ∀ w, w ∈ gl → ∀ i, i < 1 → w i < 4) (hQ : Q (some (.int (sm_b (one a gl)))) (hp G L)) : CT 38 [.ref 20, .int (nI 1)] (hp G L) Q := by
  obtain ⟨r1, r2, r3, r4⟩ := id hR
  obtain ⟨w0, hw0⟩ : ∃ w, gl[0]? = some w := by
    cases gl with
    | nil => exact absurd rfl hne
    | cons w r => exact ⟨w, rfl⟩
  have hm0 := List.mem_of_getElem? hw0
  have hlt : ∀ w, w ∈ gl → w a < 4 := fun w hm => hw w hm a ha
  have e8 : ∀ i w, gl[i]? = some w → sm_shr (G 23 i) (nI 8) = nI (w a) := fun i w hi => by
    have hm := List.mem_of_getElem? hi
    have h4 := hlt w hm
    rw [hg i w hi]
    unfold en
    rw [if_t ha]
    exact e_sh8 (zp_256 r2 (fun v hv => ps_lt (r4 v hv).2.1 _ (hw w hm))) (by omega)
  have e0 : sm_shr (G 23 (nI 0).toNatClampNeg) (nI 8) = nI (w0 a) := by rw [zn_clI (show 0 < 2 ^ 31 by decide)]; exact e8 0 w0 hw0
  have f1 : G 29 (nI 1).toNatClampNeg = nI gl.length := by rw [zn_clI (show 1 < 2 ^ 31 by decide)]; exact h1
  have b0 := hlt w0 hm0
  refine sm_meth hC [some (.ref 20), some (.int (nI 1)), none, none] rfl rfl rfl ?_
  have lo : ∀ i, i ≤ gl.length → 1 ≤ i → (∀ j, j < i → ∀ w, gl[j]? = some w → w a = w0 a) → sm_Wk 0 38 Q none 9 [some (.ref 20), some (.int (nI 1)), some (.ref 23), some (.int (nI i))] [] (hp G L) := by
    refine up _ (fun i hi ih h1i hv => ?_)
    have ei := zn_clI (show i < 2 ^ 31 by omega)
    by_cases hl2 : i < gl.length
    · obtain ⟨w, hwi⟩ : ∃ w, gl[i]? = some w := ⟨gl[i], List.getElem?_eq_getElem hl2⟩
      have hm := List.mem_of_getElem? hwi
      have b1 := hlt w hm
      have e1 : sm_shr (G 23 (nI i).toNatClampNeg) (nI 8) = nI (w a) := by rw [ei]; exact e8 i w hwi
      refine sm_body [9] 60 sm_k38 (fun CT K hC hK => ?_)
      repeat' first
        | (with_reducible refine And.intro ?_ ?_)
        | ((with_reducible intro h9); first | exact absurd h9 (by decide) | ((rw [f1] at h9; exact absurd (zle (by omega) (by omega) h9) (by omega))) | ((rw [e1, e0] at h9; replace h9 := zneq h9)) | ((rw [e1, e0] at h9; replace h9 := zeq (by omega) (by omega) h9)) | skip)
        | (with_reducible exact zn_in (by omega) (by decide))
        | (with_reducible exact z01) | (with_reducible exact z11) | (with_reducible exact zb01 _)
        | (with_reducible exact zn_inb (by omega) (by decide))
        | (with_reducible exact zn_ina (by omega) (by decide))
        | (with_reducible exact zn_inc (by omega) (by decide))
        | ((conv => whnf); first | (with_reducible refine And.intro ?_ ?_) | ((with_reducible intro h9); first | exact absurd h9 (by decide) | ((rw [f1] at h9; exact absurd (zle (by omega) (by omega) h9) (by omega))) | ((rw [e1, e0] at h9; replace h9 := zneq h9)) | ((rw [e1, e0] at h9; replace h9 := zeq (by omega) (by omega) h9)) | skip) | (with_reducible refine hK _ _ _ _ (sm_un ?_)))
      · have hwa : w a = w0 a := h9
        simp only [nI_add]; exact ⟨⟨ih hl2 (by omega) (fun j hj u hu => if z : j = i then (by subst z; rw [hwi] at hu; cases hu; exact hwa) else hv j (by omega) u hu)⟩⟩
      · refine zq (b_f ?_) hQ
        cases ho : one a gl with
        | false => rfl
        | true => exact absurd (one_iff.mp ho w hm w0 hm0) h9
    · refine sm_body [9] 60 sm_k38 (fun CT K hC hK => ?_)
      repeat' first
        | (with_reducible refine And.intro ?_ ?_)
        | ((with_reducible intro h9); first | exact absurd h9 (by decide) | ((rw [f1] at h9; exact absurd (znle (by omega) (by omega) h9) (by omega))) | skip)
        | (with_reducible exact zn_in (by omega) (by decide))
        | (with_reducible exact z01) | (with_reducible exact z11) | (with_reducible exact zb01 _)
        | (with_reducible exact zn_inb (by omega) (by decide))
        | (with_reducible exact zn_ina (by omega) (by decide))
        | (with_reducible exact zn_inc (by omega) (by decide))
        | ((conv => whnf); first | (with_reducible refine And.intro ?_ ?_) | ((with_reducible intro h9); first | exact absurd h9 (by decide) | ((rw [f1] at h9; exact absurd (znle (by omega) (by omega) h9) (by omega))) | skip) | (with_reducible refine hK _ _ _ _ (sm_un ?_)))
      refine zq (b_t (one_iff.mpr (fun w hw u hu => ?_))) hQ
      obtain ⟨j, hj⟩ := List.mem_iff_getElem?.mp hw
      obtain ⟨k, hk⟩ := List.mem_iff_getElem?.mp hu
      have l1 := (List.getElem?_eq_some_iff.mp hj).1
      have l2 := (List.getElem?_eq_some_iff.mp hk).1
      exact (hv j (by omega) w hj).trans (hv k (by omega) u hk).symm
  refine sm_body [9] 60 sm_k38 (fun CT K hC hK => ?_)
  repeat' first
    | (with_reducible refine And.intro ?_ ?_)
    | ((with_reducible intro h9); first | exact absurd h9 (by decide) | skip)
    | (with_reducible exact zn_in (by omega) (by decide))
    | (with_reducible exact z01) | (with_reducible exact z11) | (with_reducible exact zb01 _)
    | (with_reducible exact zn_inb (by omega) (by decide))
    | (with_reducible exact zn_ina (by omega) (by decide))
    | (with_reducible exact zn_inc (by omega) (by decide))
    | ((conv => whnf); first | (with_reducible refine And.intro ?_ ?_) | ((with_reducible intro h9); first | exact absurd h9 (by decide) | skip) | (with_reducible refine hK _ _ _ _ (sm_un ?_)) | (refine Exists.intro 23 (And.intro rfl ?_)))
  have hl0 : gl.length ≠ 0 := fun z => hne (List.length_eq_zero_iff.mp z)
  exact ⟨⟨lo 1 (by omega) (by omega) (fun j hj w hj0 => by
    obtain rfl : j = 0 := by omega
    rw [hw0] at hj0
    cases hj0
    rfl)⟩⟩
set_option maxRecDepth 100000 in
set_option maxHeartbeats 4000000 in
theorem s_one_2 (hC : sm_C 1 CT) {a : Nat} (ha : a < 2) (hR : dR S) {gl : List (Nat → Nat)} (hne : gl ≠ []) (h1 : G 29 2 = nI gl.length) (hl : gl.length ≤ 64) (hg : rwp S a 2 gl (G 24)) (hw : ∀ w, w ∈ gl → ∀ i, i < 2 → w i < 4) (hQ : Q (some (.int (sm_b (one a gl)))) (hp G L)) : CT 38 [.ref 20, .int (nI 2)] (hp G L) Q := by
  obtain ⟨r1, r2, r3, r4⟩ := id hR
  obtain ⟨w0, hw0⟩ : ∃ w, gl[0]? = some w := by
    cases gl with
    | nil => exact absurd rfl hne
    | cons w r => exact ⟨w, rfl⟩
  have hm0 := List.mem_of_getElem? hw0
  have hlt : ∀ w, w ∈ gl → w a < 4 := fun w hm => hw w hm a ha
  have e8 : ∀ i w, gl[i]? = some w → sm_shr (G 24 i) (nI 8) = nI (w a) := fun i w hi => by
    have hm := List.mem_of_getElem? hi
    have h4 := hlt w hm
    rw [hg i w hi]
    unfold en
    rw [if_t ha]
    exact e_sh8 (zp_256 r2 (fun v hv => ps_lt (r4 v hv).2.1 _ (hw w hm))) (by omega)
  have e0 : sm_shr (G 24 (nI 0).toNatClampNeg) (nI 8) = nI (w0 a) := by rw [zn_clI (show 0 < 2 ^ 31 by decide)]; exact e8 0 w0 hw0
  have f1 : G 29 (nI 2).toNatClampNeg = nI gl.length := by rw [zn_clI (show 2 < 2 ^ 31 by decide)]; exact h1
  have b0 := hlt w0 hm0
  refine sm_meth hC [some (.ref 20), some (.int (nI 2)), none, none] rfl rfl rfl ?_
  have lo : ∀ i, i ≤ gl.length → 1 ≤ i → (∀ j, j < i → ∀ w, gl[j]? = some w → w a = w0 a) → sm_Wk 0 38 Q none 9 [some (.ref 20), some (.int (nI 2)), some (.ref 24), some (.int (nI i))] [] (hp G L) := by
    refine up _ (fun i hi ih h1i hv => ?_)
    have ei := zn_clI (show i < 2 ^ 31 by omega)
    by_cases hl2 : i < gl.length
    · obtain ⟨w, hwi⟩ : ∃ w, gl[i]? = some w := ⟨gl[i], List.getElem?_eq_getElem hl2⟩
      have hm := List.mem_of_getElem? hwi
      have b1 := hlt w hm
      have e1 : sm_shr (G 24 (nI i).toNatClampNeg) (nI 8) = nI (w a) := by rw [ei]; exact e8 i w hwi
      refine sm_body [9] 60 sm_k38 (fun CT K hC hK => ?_)
      repeat' first
        | (with_reducible refine And.intro ?_ ?_)
        | ((with_reducible intro h9); first | exact absurd h9 (by decide) | ((rw [f1] at h9; exact absurd (zle (by omega) (by omega) h9) (by omega))) | ((rw [e1, e0] at h9; replace h9 := zneq h9)) | ((rw [e1, e0] at h9; replace h9 := zeq (by omega) (by omega) h9)) | skip)
        | (with_reducible exact zn_in (by omega) (by decide))
        | (with_reducible exact z01) | (with_reducible exact z11) | (with_reducible exact zb01 _)
        | (with_reducible exact zn_inb (by omega) (by decide))
        | (with_reducible exact zn_ina (by omega) (by decide))
        | (with_reducible exact zn_inc (by omega) (by decide))
        | ((conv => whnf); first | (with_reducible refine And.intro ?_ ?_) | ((with_reducible intro h9); first | exact absurd h9 (by decide) | ((rw [f1] at h9; exact absurd (zle (by omega) (by omega) h9) (by omega))) | ((rw [e1, e0] at h9; replace h9 := zneq h9)) | ((rw [e1, e0] at h9; replace h9 := zeq (by omega) (by omega) h9)) | skip) | (with_reducible refine hK _ _ _ _ (sm_un ?_)))
      · have hwa : w a = w0 a := h9
        simp only [nI_add]; exact ⟨⟨ih hl2 (by omega) (fun j hj u hu => if z : j = i then (by subst z; rw [hwi] at hu; cases hu; exact hwa) else hv j (by omega) u hu)⟩⟩
      · refine zq (b_f ?_) hQ
        cases ho : one a gl with
        | false => rfl
        | true => exact absurd (one_iff.mp ho w hm w0 hm0) h9
    · refine sm_body [9] 60 sm_k38 (fun CT K hC hK => ?_)
      repeat' first
        | (with_reducible refine And.intro ?_ ?_)
        | ((with_reducible intro h9); first | exact absurd h9 (by decide) | ((rw [f1] at h9; exact absurd (znle (by omega) (by omega) h9) (by omega))) | skip)
        | (with_reducible exact zn_in (by omega) (by decide))
        | (with_reducible exact z01) | (with_reducible exact z11) | (with_reducible exact zb01 _)
        | (with_reducible exact zn_inb (by omega) (by decide))
        | (with_reducible exact zn_ina (by omega) (by decide))
        | (with_reducible exact zn_inc (by omega) (by decide))
        | ((conv => whnf); first | (with_reducible refine And.intro ?_ ?_) | ((with_reducible intro h9); first | exact absurd h9 (by decide) | ((rw [f1] at h9; exact absurd (znle (by omega) (by omega) h9) (by omega))) | skip) | (with_reducible refine hK _ _ _ _ (sm_un ?_)))
      refine zq (b_t (one_iff.mpr (fun w hw u hu => ?_))) hQ
      obtain ⟨j, hj⟩ := List.mem_iff_getElem?.mp hw
      obtain ⟨k, hk⟩ := List.mem_iff_getElem?.mp hu
      have l1 := (List.getElem?_eq_some_iff.mp hj).1
      have l2 := (List.getElem?_eq_some_iff.mp hk).1
      exact (hv j (by omega) w hj).trans (hv k (by omega) u hk).symm
  refine sm_body [9] 60 sm_k38 (fun CT K hC hK => ?_)
  repeat' first
    | (with_reducible refine And.intro ?_ ?_)
    | ((with_reducible intro h9); first | exact absurd h9 (by decide) | skip)
    | (with_reducible exact zn_in (by omega) (by decide))
    | (with_reducible exact z01) | (with_reducible exact z11) | (with_reducible exact zb01 _)
    | (with_reducible exact zn_inb (by omega) (by decide))
    | (with_reducible exact zn_ina (by omega) (by decide))
    | (with_reducible exact zn_inc (by omega) (by decide))
    | ((conv => whnf); first | (with_reducible refine And.intro ?_ ?_) | ((with_reducible intro h9); first | exact absurd h9 (by decide) | skip) | (with_reducible refine hK _ _ _ _ (sm_un ?_)) | (refine Exists.intro 24 (And.intro rfl ?_)))
  have hl0 : gl.length ≠ 0 := fun z => hne (List.length_eq_zero_iff.mp z)
  exact ⟨⟨lo 1 (by omega) (by omega) (fun j hj w hj0 => by
    obtain rfl : j = 0 := by omega
    rw [hw0] at hj0
    cases hj0
    rfl)⟩⟩
set_option maxRecDepth 100000 in
set_option maxHeartbeats 4000000 in
theorem s_one_3 (hC : sm_C 1 CT) {a : Nat} (ha : a < 3) (hR : dR S) {gl : List (Nat → Nat)} (hne : gl ≠ []) (h1 : G 29 3 = nI gl.length) (hl : gl.length ≤ 64) (hg : rwp S a 3 gl (G 25)) (hw : ∀ w, w ∈ gl → ∀ i, i < 3 → w i < 4) (hQ : Q (some (.int (sm_b (one a gl)))) (hp G L)) : CT 38 [.ref 20, .int (nI 3)] (hp G L) Q := by
  obtain ⟨r1, r2, r3, r4⟩ := id hR
  obtain ⟨w0, hw0⟩ : ∃ w, gl[0]? = some w := by
    cases gl with
    | nil => exact absurd rfl hne
    | cons w r => exact ⟨w, rfl⟩
  have hm0 := List.mem_of_getElem? hw0
  have hlt : ∀ w, w ∈ gl → w a < 4 := fun w hm => hw w hm a ha
  have e8 : ∀ i w, gl[i]? = some w → sm_shr (G 25 i) (nI 8) = nI (w a) := fun i w hi => by
    have hm := List.mem_of_getElem? hi
    have h4 := hlt w hm
    rw [hg i w hi]
    unfold en
    rw [if_t ha]
    exact e_sh8 (zp_256 r2 (fun v hv => ps_lt (r4 v hv).2.1 _ (hw w hm))) (by omega)
  have e0 : sm_shr (G 25 (nI 0).toNatClampNeg) (nI 8) = nI (w0 a) := by rw [zn_clI (show 0 < 2 ^ 31 by decide)]; exact e8 0 w0 hw0
  have f1 : G 29 (nI 3).toNatClampNeg = nI gl.length := by rw [zn_clI (show 3 < 2 ^ 31 by decide)]; exact h1
  have b0 := hlt w0 hm0
  refine sm_meth hC [some (.ref 20), some (.int (nI 3)), none, none] rfl rfl rfl ?_
  have lo : ∀ i, i ≤ gl.length → 1 ≤ i → (∀ j, j < i → ∀ w, gl[j]? = some w → w a = w0 a) → sm_Wk 0 38 Q none 9 [some (.ref 20), some (.int (nI 3)), some (.ref 25), some (.int (nI i))] [] (hp G L) := by
    refine up _ (fun i hi ih h1i hv => ?_)
    have ei := zn_clI (show i < 2 ^ 31 by omega)
    by_cases hl2 : i < gl.length
    · obtain ⟨w, hwi⟩ : ∃ w, gl[i]? = some w := ⟨gl[i], List.getElem?_eq_getElem hl2⟩
      have hm := List.mem_of_getElem? hwi
      have b1 := hlt w hm
      have e1 : sm_shr (G 25 (nI i).toNatClampNeg) (nI 8) = nI (w a) := by rw [ei]; exact e8 i w hwi
      refine sm_body [9] 60 sm_k38 (fun CT K hC hK => ?_)
      repeat' first
        | (with_reducible refine And.intro ?_ ?_)
        | ((with_reducible intro h9); first | exact absurd h9 (by decide) | ((rw [f1] at h9; exact absurd (zle (by omega) (by omega) h9) (by omega))) | ((rw [e1, e0] at h9; replace h9 := zneq h9)) | ((rw [e1, e0] at h9; replace h9 := zeq (by omega) (by omega) h9)) | skip)
        | (with_reducible exact zn_in (by omega) (by decide))
        | (with_reducible exact z01) | (with_reducible exact z11) | (with_reducible exact zb01 _)
        | (with_reducible exact zn_inb (by omega) (by decide))
        | (with_reducible exact zn_ina (by omega) (by decide))
        | (with_reducible exact zn_inc (by omega) (by decide))
        | ((conv => whnf); first | (with_reducible refine And.intro ?_ ?_) | ((with_reducible intro h9); first | exact absurd h9 (by decide) | ((rw [f1] at h9; exact absurd (zle (by omega) (by omega) h9) (by omega))) | ((rw [e1, e0] at h9; replace h9 := zneq h9)) | ((rw [e1, e0] at h9; replace h9 := zeq (by omega) (by omega) h9)) | skip) | (with_reducible refine hK _ _ _ _ (sm_un ?_)))
      · have hwa : w a = w0 a := h9
        simp only [nI_add]; exact ⟨⟨ih hl2 (by omega) (fun j hj u hu => if z : j = i then (by subst z; rw [hwi] at hu; cases hu; exact hwa) else hv j (by omega) u hu)⟩⟩
      · refine zq (b_f ?_) hQ
        cases ho : one a gl with
        | false => rfl
        | true => exact absurd (one_iff.mp ho w hm w0 hm0) h9
    · refine sm_body [9] 60 sm_k38 (fun CT K hC hK => ?_)
      repeat' first
        | (with_reducible refine And.intro ?_ ?_)
        | ((with_reducible intro h9); first | exact absurd h9 (by decide) | ((rw [f1] at h9; exact absurd (znle (by omega) (by omega) h9) (by omega))) | skip)
        | (with_reducible exact zn_in (by omega) (by decide))
        | (with_reducible exact z01) | (with_reducible exact z11) | (with_reducible exact zb01 _)
        | (with_reducible exact zn_inb (by omega) (by decide))
        | (with_reducible exact zn_ina (by omega) (by decide))
        | (with_reducible exact zn_inc (by omega) (by decide))
        | ((conv => whnf); first | (with_reducible refine And.intro ?_ ?_) | ((with_reducible intro h9); first | exact absurd h9 (by decide) | ((rw [f1] at h9; exact absurd (znle (by omega) (by omega) h9) (by omega))) | skip) | (with_reducible refine hK _ _ _ _ (sm_un ?_)))
      refine zq (b_t (one_iff.mpr (fun w hw u hu => ?_))) hQ
      obtain ⟨j, hj⟩ := List.mem_iff_getElem?.mp hw
      obtain ⟨k, hk⟩ := List.mem_iff_getElem?.mp hu
      have l1 := (List.getElem?_eq_some_iff.mp hj).1
      have l2 := (List.getElem?_eq_some_iff.mp hk).1
      exact (hv j (by omega) w hj).trans (hv k (by omega) u hk).symm
  refine sm_body [9] 60 sm_k38 (fun CT K hC hK => ?_)
  repeat' first
    | (with_reducible refine And.intro ?_ ?_)
    | ((with_reducible intro h9); first | exact absurd h9 (by decide) | skip)
    | (with_reducible exact zn_in (by omega) (by decide))
    | (with_reducible exact z01) | (with_reducible exact z11) | (with_reducible exact zb01 _)
    | (with_reducible exact zn_inb (by omega) (by decide))
    | (with_reducible exact zn_ina (by omega) (by decide))
    | (with_reducible exact zn_inc (by omega) (by decide))
    | ((conv => whnf); first | (with_reducible refine And.intro ?_ ?_) | ((with_reducible intro h9); first | exact absurd h9 (by decide) | skip) | (with_reducible refine hK _ _ _ _ (sm_un ?_)) | (refine Exists.intro 25 (And.intro rfl ?_)))
  have hl0 : gl.length ≠ 0 := fun z => hne (List.length_eq_zero_iff.mp z)
  exact ⟨⟨lo 1 (by omega) (by omega) (fun j hj w hj0 => by
    obtain rfl : j = 0 := by omega
    rw [hw0] at hj0
    cases hj0
    rfl)⟩⟩
set_option maxRecDepth 100000 in
set_option maxHeartbeats 4000000 in
theorem s_one_4 (hC : sm_C 1 CT) {a : Nat} (ha : a < 4) (hR : dR S) {gl : List (Nat → Nat)} (hne : gl ≠ []) (h1 : G 29 4 = nI gl.length) (hl : gl.length ≤ 64) (hg : rwp S a 4 gl (G 26)) (hw : ∀ w, w ∈ gl → ∀ i, i < 4 → w i < 4) (hQ : Q (some (.int (sm_b (one a gl)))) (hp G L)) : CT 38 [.ref 20, .int (nI 4)] (hp G L) Q := by
  obtain ⟨r1, r2, r3, r4⟩ := id hR
  obtain ⟨w0, hw0⟩ : ∃ w, gl[0]? = some w := by
    cases gl with
    | nil => exact absurd rfl hne
    | cons w r => exact ⟨w, rfl⟩
  have hm0 := List.mem_of_getElem? hw0
  have hlt : ∀ w, w ∈ gl → w a < 4 := fun w hm => hw w hm a ha
  have e8 : ∀ i w, gl[i]? = some w → sm_shr (G 26 i) (nI 8) = nI (w a) := fun i w hi => by
    have hm := List.mem_of_getElem? hi
    have h4 := hlt w hm
    rw [hg i w hi]
    unfold en
    rw [if_t ha]
    exact e_sh8 (zp_256 r2 (fun v hv => ps_lt (r4 v hv).2.1 _ (hw w hm))) (by omega)
  have e0 : sm_shr (G 26 (nI 0).toNatClampNeg) (nI 8) = nI (w0 a) := by rw [zn_clI (show 0 < 2 ^ 31 by decide)]; exact e8 0 w0 hw0
  have f1 : G 29 (nI 4).toNatClampNeg = nI gl.length := by rw [zn_clI (show 4 < 2 ^ 31 by decide)]; exact h1
  have b0 := hlt w0 hm0
  refine sm_meth hC [some (.ref 20), some (.int (nI 4)), none, none] rfl rfl rfl ?_
  have lo : ∀ i, i ≤ gl.length → 1 ≤ i → (∀ j, j < i → ∀ w, gl[j]? = some w → w a = w0 a) → sm_Wk 0 38 Q none 9 [some (.ref 20), some (.int (nI 4)), some (.ref 26), some (.int (nI i))] [] (hp G L) := by
    refine up _ (fun i hi ih h1i hv => ?_)
    have ei := zn_clI (show i < 2 ^ 31 by omega)
    by_cases hl2 : i < gl.length
    · obtain ⟨w, hwi⟩ : ∃ w, gl[i]? = some w := ⟨gl[i], List.getElem?_eq_getElem hl2⟩
      have hm := List.mem_of_getElem? hwi
      have b1 := hlt w hm
      have e1 : sm_shr (G 26 (nI i).toNatClampNeg) (nI 8) = nI (w a) := by rw [ei]; exact e8 i w hwi
      refine sm_body [9] 60 sm_k38 (fun CT K hC hK => ?_)
      repeat' first
        | (with_reducible refine And.intro ?_ ?_)
        | ((with_reducible intro h9); first | exact absurd h9 (by decide) | ((rw [f1] at h9; exact absurd (zle (by omega) (by omega) h9) (by omega))) | ((rw [e1, e0] at h9; replace h9 := zneq h9)) | ((rw [e1, e0] at h9; replace h9 := zeq (by omega) (by omega) h9)) | skip)
        | (with_reducible exact zn_in (by omega) (by decide))
        | (with_reducible exact z01) | (with_reducible exact z11) | (with_reducible exact zb01 _)
        | (with_reducible exact zn_inb (by omega) (by decide))
        | (with_reducible exact zn_ina (by omega) (by decide))
        | (with_reducible exact zn_inc (by omega) (by decide))
        | ((conv => whnf); first | (with_reducible refine And.intro ?_ ?_) | ((with_reducible intro h9); first | exact absurd h9 (by decide) | ((rw [f1] at h9; exact absurd (zle (by omega) (by omega) h9) (by omega))) | ((rw [e1, e0] at h9; replace h9 := zneq h9)) | ((rw [e1, e0] at h9; replace h9 := zeq (by omega) (by omega) h9)) | skip) | (with_reducible refine hK _ _ _ _ (sm_un ?_)))
      · have hwa : w a = w0 a := h9
        simp only [nI_add]; exact ⟨⟨ih hl2 (by omega) (fun j hj u hu => if z : j = i then (by subst z; rw [hwi] at hu; cases hu; exact hwa) else hv j (by omega) u hu)⟩⟩
      · refine zq (b_f ?_) hQ
        cases ho : one a gl with
        | false => rfl
        | true => exact absurd (one_iff.mp ho w hm w0 hm0) h9
    · refine sm_body [9] 60 sm_k38 (fun CT K hC hK => ?_)
      repeat' first
        | (with_reducible refine And.intro ?_ ?_)
        | ((with_reducible intro h9); first | exact absurd h9 (by decide) | ((rw [f1] at h9; exact absurd (znle (by omega) (by omega) h9) (by omega))) | skip)
        | (with_reducible exact zn_in (by omega) (by decide))
        | (with_reducible exact z01) | (with_reducible exact z11) | (with_reducible exact zb01 _)
        | (with_reducible exact zn_inb (by omega) (by decide))
        | (with_reducible exact zn_ina (by omega) (by decide))
        | (with_reducible exact zn_inc (by omega) (by decide))
        | ((conv => whnf); first | (with_reducible refine And.intro ?_ ?_) | ((with_reducible intro h9); first | exact absurd h9 (by decide) | ((rw [f1] at h9; exact absurd (znle (by omega) (by omega) h9) (by omega))) | skip) | (with_reducible refine hK _ _ _ _ (sm_un ?_)))
      refine zq (b_t (one_iff.mpr (fun w hw u hu => ?_))) hQ
      obtain ⟨j, hj⟩ := List.mem_iff_getElem?.mp hw
      obtain ⟨k, hk⟩ := List.mem_iff_getElem?.mp hu
      have l1 := (List.getElem?_eq_some_iff.mp hj).1
      have l2 := (List.getElem?_eq_some_iff.mp hk).1
      exact (hv j (by omega) w hj).trans (hv k (by omega) u hk).symm
  refine sm_body [9] 60 sm_k38 (fun CT K hC hK => ?_)
  repeat' first
    | (with_reducible refine And.intro ?_ ?_)
    | ((with_reducible intro h9); first | exact absurd h9 (by decide) | skip)
    | (with_reducible exact zn_in (by omega) (by decide))
    | (with_reducible exact z01) | (with_reducible exact z11) | (with_reducible exact zb01 _)
    | (with_reducible exact zn_inb (by omega) (by decide))
    | (with_reducible exact zn_ina (by omega) (by decide))
    | (with_reducible exact zn_inc (by omega) (by decide))
    | ((conv => whnf); first | (with_reducible refine And.intro ?_ ?_) | ((with_reducible intro h9); first | exact absurd h9 (by decide) | skip) | (with_reducible refine hK _ _ _ _ (sm_un ?_)) | (refine Exists.intro 26 (And.intro rfl ?_)))
  have hl0 : gl.length ≠ 0 := fun z => hne (List.length_eq_zero_iff.mp z)
  exact ⟨⟨lo 1 (by omega) (by omega) (fun j hj w hj0 => by
    obtain rfl : j = 0 := by omega
    rw [hw0] at hj0
    cases hj0
    rfl)⟩⟩
set_option maxRecDepth 100000 in
set_option maxHeartbeats 4000000 in
theorem s_one_5 (hC : sm_C 1 CT) {a : Nat} (ha : a < 5) (hR : dR S) {gl : List (Nat → Nat)} (hne : gl ≠ []) (h1 : G 29 5 = nI gl.length) (hl : gl.length ≤ 64) (hg : rwp S a 5 gl (G 27)) (hw : ∀ w, w ∈ gl → ∀ i, i < 5 → w i < 4) (hQ : Q (some (.int (sm_b (one a gl)))) (hp G L)) : CT 38 [.ref 20, .int (nI 5)] (hp G L) Q := by
  obtain ⟨r1, r2, r3, r4⟩ := id hR
  obtain ⟨w0, hw0⟩ : ∃ w, gl[0]? = some w := by
    cases gl with
    | nil => exact absurd rfl hne
    | cons w r => exact ⟨w, rfl⟩
  have hm0 := List.mem_of_getElem? hw0
  have hlt : ∀ w, w ∈ gl → w a < 4 := fun w hm => hw w hm a ha
  have e8 : ∀ i w, gl[i]? = some w → sm_shr (G 27 i) (nI 8) = nI (w a) := fun i w hi => by
    have hm := List.mem_of_getElem? hi
    have h4 := hlt w hm
    rw [hg i w hi]
    unfold en
    rw [if_t ha]
    exact e_sh8 (zp_256 r2 (fun v hv => ps_lt (r4 v hv).2.1 _ (hw w hm))) (by omega)
  have e0 : sm_shr (G 27 (nI 0).toNatClampNeg) (nI 8) = nI (w0 a) := by rw [zn_clI (show 0 < 2 ^ 31 by decide)]; exact e8 0 w0 hw0
  have f1 : G 29 (nI 5).toNatClampNeg = nI gl.length := by rw [zn_clI (show 5 < 2 ^ 31 by decide)]; exact h1
  have b0 := hlt w0 hm0
  refine sm_meth hC [some (.ref 20), some (.int (nI 5)), none, none] rfl rfl rfl ?_
  have lo : ∀ i, i ≤ gl.length → 1 ≤ i → (∀ j, j < i → ∀ w, gl[j]? = some w → w a = w0 a) → sm_Wk 0 38 Q none 9 [some (.ref 20), some (.int (nI 5)), some (.ref 27), some (.int (nI i))] [] (hp G L) := by
    refine up _ (fun i hi ih h1i hv => ?_)
    have ei := zn_clI (show i < 2 ^ 31 by omega)
    by_cases hl2 : i < gl.length
    · obtain ⟨w, hwi⟩ : ∃ w, gl[i]? = some w := ⟨gl[i], List.getElem?_eq_getElem hl2⟩
      have hm := List.mem_of_getElem? hwi
      have b1 := hlt w hm
      have e1 : sm_shr (G 27 (nI i).toNatClampNeg) (nI 8) = nI (w a) := by rw [ei]; exact e8 i w hwi
      refine sm_body [9] 60 sm_k38 (fun CT K hC hK => ?_)
      repeat' first
        | (with_reducible refine And.intro ?_ ?_)
        | ((with_reducible intro h9); first | exact absurd h9 (by decide) | ((rw [f1] at h9; exact absurd (zle (by omega) (by omega) h9) (by omega))) | ((rw [e1, e0] at h9; replace h9 := zneq h9)) | ((rw [e1, e0] at h9; replace h9 := zeq (by omega) (by omega) h9)) | skip)
        | (with_reducible exact zn_in (by omega) (by decide))
        | (with_reducible exact z01) | (with_reducible exact z11) | (with_reducible exact zb01 _)
        | (with_reducible exact zn_inb (by omega) (by decide))
        | (with_reducible exact zn_ina (by omega) (by decide))
        | (with_reducible exact zn_inc (by omega) (by decide))
        | ((conv => whnf); first | (with_reducible refine And.intro ?_ ?_) | ((with_reducible intro h9); first | exact absurd h9 (by decide) | ((rw [f1] at h9; exact absurd (zle (by omega) (by omega) h9) (by omega))) | ((rw [e1, e0] at h9; replace h9 := zneq h9)) | ((rw [e1, e0] at h9; replace h9 := zeq (by omega) (by omega) h9)) | skip) | (with_reducible refine hK _ _ _ _ (sm_un ?_)))
      · have hwa : w a = w0 a := h9
        simp only [nI_add]; exact ⟨⟨ih hl2 (by omega) (fun j hj u hu => if z : j = i then (by subst z; rw [hwi] at hu; cases hu; exact hwa) else hv j (by omega) u hu)⟩⟩
      · refine zq (b_f ?_) hQ
        cases ho : one a gl with
        | false => rfl
        | true => exact absurd (one_iff.mp ho w hm w0 hm0) h9
    · refine sm_body [9] 60 sm_k38 (fun CT K hC hK => ?_)
      repeat' first
        | (with_reducible refine And.intro ?_ ?_)
        | ((with_reducible intro h9); first | exact absurd h9 (by decide) | ((rw [f1] at h9; exact absurd (znle (by omega) (by omega) h9) (by omega))) | skip)
        | (with_reducible exact zn_in (by omega) (by decide))
        | (with_reducible exact z01) | (with_reducible exact z11) | (with_reducible exact zb01 _)
        | (with_reducible exact zn_inb (by omega) (by decide))
        | (with_reducible exact zn_ina (by omega) (by decide))
        | (with_reducible exact zn_inc (by omega) (by decide))
        | ((conv => whnf); first | (with_reducible refine And.intro ?_ ?_) | ((with_reducible intro h9); first | exact absurd h9 (by decide) | ((rw [f1] at h9; exact absurd (znle (by omega) (by omega) h9) (by omega))) | skip) | (with_reducible refine hK _ _ _ _ (sm_un ?_)))
      refine zq (b_t (one_iff.mpr (fun w hw u hu => ?_))) hQ
      obtain ⟨j, hj⟩ := List.mem_iff_getElem?.mp hw
      obtain ⟨k, hk⟩ := List.mem_iff_getElem?.mp hu
      have l1 := (List.getElem?_eq_some_iff.mp hj).1
      have l2 := (List.getElem?_eq_some_iff.mp hk).1
      exact (hv j (by omega) w hj).trans (hv k (by omega) u hk).symm
  refine sm_body [9] 60 sm_k38 (fun CT K hC hK => ?_)
  repeat' first
    | (with_reducible refine And.intro ?_ ?_)
    | ((with_reducible intro h9); first | exact absurd h9 (by decide) | skip)
    | (with_reducible exact zn_in (by omega) (by decide))
    | (with_reducible exact z01) | (with_reducible exact z11) | (with_reducible exact zb01 _)
    | (with_reducible exact zn_inb (by omega) (by decide))
    | (with_reducible exact zn_ina (by omega) (by decide))
    | (with_reducible exact zn_inc (by omega) (by decide))
    | ((conv => whnf); first | (with_reducible refine And.intro ?_ ?_) | ((with_reducible intro h9); first | exact absurd h9 (by decide) | skip) | (with_reducible refine hK _ _ _ _ (sm_un ?_)) | (refine Exists.intro 27 (And.intro rfl ?_)))
  have hl0 : gl.length ≠ 0 := fun z => hne (List.length_eq_zero_iff.mp z)
  exact ⟨⟨lo 1 (by omega) (by omega) (fun j hj w hj0 => by
    obtain rfl : j = 0 := by omega
    rw [hw0] at hj0
    cases hj0
    rfl)⟩⟩
set_option maxRecDepth 100000 in
set_option maxHeartbeats 4000000 in
theorem s_one_6 (hC : sm_C 1 CT) {a : Nat} (ha : a < 6) (hR : dR S) {gl : List (Nat → Nat)} (hne : gl ≠ []) (h1 : G 29 6 = nI gl.length) (hl : gl.length ≤ 64) (hg : rwp S a 6 gl (G 28)) (hw : ∀ w, w ∈ gl → ∀ i, i < 6 → w i < 4) (hQ : Q (some (.int (sm_b (one a gl)))) (hp G L)) : CT 38 [.ref 20, .int (nI 6)] (hp G L) Q := by
  obtain ⟨r1, r2, r3, r4⟩ := id hR
  obtain ⟨w0, hw0⟩ : ∃ w, gl[0]? = some w := by
    cases gl with
    | nil => exact absurd rfl hne
    | cons w r => exact ⟨w, rfl⟩
  have hm0 := List.mem_of_getElem? hw0
  have hlt : ∀ w, w ∈ gl → w a < 4 := fun w hm => hw w hm a ha
  have e8 : ∀ i w, gl[i]? = some w → sm_shr (G 28 i) (nI 8) = nI (w a) := fun i w hi => by
    have hm := List.mem_of_getElem? hi
    have h4 := hlt w hm
    rw [hg i w hi]
    unfold en
    rw [if_t ha]
    exact e_sh8 (zp_256 r2 (fun v hv => ps_lt (r4 v hv).2.1 _ (hw w hm))) (by omega)
  have e0 : sm_shr (G 28 (nI 0).toNatClampNeg) (nI 8) = nI (w0 a) := by rw [zn_clI (show 0 < 2 ^ 31 by decide)]; exact e8 0 w0 hw0
  have f1 : G 29 (nI 6).toNatClampNeg = nI gl.length := by rw [zn_clI (show 6 < 2 ^ 31 by decide)]; exact h1
  have b0 := hlt w0 hm0
  refine sm_meth hC [some (.ref 20), some (.int (nI 6)), none, none] rfl rfl rfl ?_
  have lo : ∀ i, i ≤ gl.length → 1 ≤ i → (∀ j, j < i → ∀ w, gl[j]? = some w → w a = w0 a) → sm_Wk 0 38 Q none 9 [some (.ref 20), some (.int (nI 6)), some (.ref 28), some (.int (nI i))] [] (hp G L) := by
    refine up _ (fun i hi ih h1i hv => ?_)
    have ei := zn_clI (show i < 2 ^ 31 by omega)
    by_cases hl2 : i < gl.length
    · obtain ⟨w, hwi⟩ : ∃ w, gl[i]? = some w := ⟨gl[i], List.getElem?_eq_getElem hl2⟩
      have hm := List.mem_of_getElem? hwi
      have b1 := hlt w hm
      have e1 : sm_shr (G 28 (nI i).toNatClampNeg) (nI 8) = nI (w a) := by rw [ei]; exact e8 i w hwi
      refine sm_body [9] 60 sm_k38 (fun CT K hC hK => ?_)
      repeat' first
        | (with_reducible refine And.intro ?_ ?_)
        | ((with_reducible intro h9); first | exact absurd h9 (by decide) | ((rw [f1] at h9; exact absurd (zle (by omega) (by omega) h9) (by omega))) | ((rw [e1, e0] at h9; replace h9 := zneq h9)) | ((rw [e1, e0] at h9; replace h9 := zeq (by omega) (by omega) h9)) | skip)
        | (with_reducible exact zn_in (by omega) (by decide))
        | (with_reducible exact z01) | (with_reducible exact z11) | (with_reducible exact zb01 _)
        | (with_reducible exact zn_inb (by omega) (by decide))
        | (with_reducible exact zn_ina (by omega) (by decide))
        | (with_reducible exact zn_inc (by omega) (by decide))
        | ((conv => whnf); first | (with_reducible refine And.intro ?_ ?_) | ((with_reducible intro h9); first | exact absurd h9 (by decide) | ((rw [f1] at h9; exact absurd (zle (by omega) (by omega) h9) (by omega))) | ((rw [e1, e0] at h9; replace h9 := zneq h9)) | ((rw [e1, e0] at h9; replace h9 := zeq (by omega) (by omega) h9)) | skip) | (with_reducible refine hK _ _ _ _ (sm_un ?_)))
      · have hwa : w a = w0 a := h9
        simp only [nI_add]; exact ⟨⟨ih hl2 (by omega) (fun j hj u hu => if z : j = i then (by subst z; rw [hwi] at hu; cases hu; exact hwa) else hv j (by omega) u hu)⟩⟩
      · refine zq (b_f ?_) hQ
        cases ho : one a gl with
        | false => rfl
        | true => exact absurd (one_iff.mp ho w hm w0 hm0) h9
    · refine sm_body [9] 60 sm_k38 (fun CT K hC hK => ?_)
      repeat' first
        | (with_reducible refine And.intro ?_ ?_)
        | ((with_reducible intro h9); first | exact absurd h9 (by decide) | ((rw [f1] at h9; exact absurd (znle (by omega) (by omega) h9) (by omega))) | skip)
        | (with_reducible exact zn_in (by omega) (by decide))
        | (with_reducible exact z01) | (with_reducible exact z11) | (with_reducible exact zb01 _)
        | (with_reducible exact zn_inb (by omega) (by decide))
        | (with_reducible exact zn_ina (by omega) (by decide))
        | (with_reducible exact zn_inc (by omega) (by decide))
        | ((conv => whnf); first | (with_reducible refine And.intro ?_ ?_) | ((with_reducible intro h9); first | exact absurd h9 (by decide) | ((rw [f1] at h9; exact absurd (znle (by omega) (by omega) h9) (by omega))) | skip) | (with_reducible refine hK _ _ _ _ (sm_un ?_)))
      refine zq (b_t (one_iff.mpr (fun w hw u hu => ?_))) hQ
      obtain ⟨j, hj⟩ := List.mem_iff_getElem?.mp hw
      obtain ⟨k, hk⟩ := List.mem_iff_getElem?.mp hu
      have l1 := (List.getElem?_eq_some_iff.mp hj).1
      have l2 := (List.getElem?_eq_some_iff.mp hk).1
      exact (hv j (by omega) w hj).trans (hv k (by omega) u hk).symm
  refine sm_body [9] 60 sm_k38 (fun CT K hC hK => ?_)
  repeat' first
    | (with_reducible refine And.intro ?_ ?_)
    | ((with_reducible intro h9); first | exact absurd h9 (by decide) | skip)
    | (with_reducible exact zn_in (by omega) (by decide))
    | (with_reducible exact z01) | (with_reducible exact z11) | (with_reducible exact zb01 _)
    | (with_reducible exact zn_inb (by omega) (by decide))
    | (with_reducible exact zn_ina (by omega) (by decide))
    | (with_reducible exact zn_inc (by omega) (by decide))
    | ((conv => whnf); first | (with_reducible refine And.intro ?_ ?_) | ((with_reducible intro h9); first | exact absurd h9 (by decide) | skip) | (with_reducible refine hK _ _ _ _ (sm_un ?_)) | (refine Exists.intro 28 (And.intro rfl ?_)))
  have hl0 : gl.length ≠ 0 := fun z => hne (List.length_eq_zero_iff.mp z)
  exact ⟨⟨lo 1 (by omega) (by omega) (fun j hj w hj0 => by
    obtain rfl : j = 0 := by omega
    rw [hw0] at hj0
    cases hj0
    rfl)⟩⟩
set_option maxRecDepth 100000 in
set_option maxHeartbeats 4000000 in
theorem s_told_6 (hC : sm_C 6 CT) (hD : cD S G) (hR : dR S) (hL : cL S G) {n : Nat} (hn : 6 + n = S 0 0) {a x v0 : Nat} (ha : a < S 0 0) (ea : G 20 3 = nI a) (eb : G 20 4 = nI (bz x (S 0 1))) (hv0 : v0 < S 0 1) (hx0 : inS x v0 = true) {gl : List (Nat → Nat)} (h1 : G 29 6 = nI gl.length) (hg : rwp S a 6 gl (G 28)) (hb : gl.length ≤ 2 ^ 6) (hw : ∀ w, w ∈ gl → ∀ i, i < 6 → w i < 4)
    (hQ : ∀ G', eqx [29] G G' → (∀ i, i ≤ 6 → G' 29 i = G 29 i) → Q (some (.int (sm_b (tw S x a n 6 gl)))) (hp G' L)) : CT 37 [.ref 20, .int (nI 6)] (hp G L) Q := by
  obtain ⟨r1, r2, r3, r4⟩ := id hR
  have h2p : (2 : Nat) ^ 6 ≤ 64 := by decide
  have f1 : G 29 (nI 6).toNatClampNeg = nI gl.length := by rw [zn_clI (show 6 < 2 ^ 31 by decide)]; exact h1
  have e3 := hD.1
  have hne : gl.length ≠ 0 → gl ≠ [] := fun z e => z (by rw [e]; rfl)
  have hQ0 : ∀ b, tw S x a n 6 gl = b → Q (some (.int (sm_b b))) (hp G L) := fun b e => by
    have z := hQ G eqx_rfl (fun _ _ => rfl)
    rw [e] at z
    exact z
  refine sm_meth hC [some (.ref 20), some (.int (nI 6)), none, none] rfl rfl rfl ?_
  refine sm_body [44] 80 sm_k37 (fun CT K hC hK => ?_)
  repeat' first
    | (with_reducible refine And.intro ?_ ?_)
    | ((with_reducible intro h9); first | exact absurd h9 (by decide) | ((rw [f1] at h9; replace h9 := zneq h9)) | ((rw [f1] at h9; replace h9 := zeq (b := 0) (by omega) (by omega) h9)) | ((rw [ea] at h9; replace h9 := zle (by omega) (by omega) h9)) | ((rw [ea] at h9; replace h9 := znle (by omega) (by omega) h9)) | ((rw [e3] at h9; replace h9 := zlt (by omega) (by omega) h9; exfalso; omega)) | ((rw [e3] at h9; replace h9 := znl (by omega) (by omega) h9)) | (replace h9 := sb_f h9) | (replace h9 := sb_t h9) | skip)
    | (with_reducible exact zn_in (by omega) (by decide))
    | (with_reducible exact z01) | (with_reducible exact z11) | (with_reducible exact zb01 _)
    | (with_reducible exact zn_inb (by omega) (by decide))
    | (with_reducible exact zn_ina (by omega) (by decide))
    | (with_reducible exact zn_inc (by omega) (by decide))
    | ((conv => whnf); first | (with_reducible refine And.intro ?_ ?_) | ((with_reducible intro h9); first | exact absurd h9 (by decide) | ((rw [f1] at h9; replace h9 := zneq h9)) | ((rw [f1] at h9; replace h9 := zeq (b := 0) (by omega) (by omega) h9)) | ((rw [ea] at h9; replace h9 := zle (by omega) (by omega) h9)) | ((rw [ea] at h9; replace h9 := znle (by omega) (by omega) h9)) | ((rw [e3] at h9; replace h9 := zlt (by omega) (by omega) h9; exfalso; omega)) | ((rw [e3] at h9; replace h9 := znl (by omega) (by omega) h9)) | (replace h9 := sb_f h9) | (replace h9 := sb_t h9) | skip) | (with_reducible refine hK _ _ _ _ (sm_un ?_)) | (refine s_one_6 (gl := gl) (a := a) (hC.mono (by omega)) ‹a < 6› hR (hne ‹gl.length ≠ 0›) h1 (by omega) hg hw ?_))
  · have hz : gl.length = 0 := ‹_›
    exact hQ0 true (by rw [List.length_eq_zero_iff.mp hz]; exact tw_nil _ _)
  · exfalso
    omega
  · obtain rfl : n = 0 := by omega
    exact hQ0 false ‹one a gl = false›
  · exact hQ0 true (tw_one n 6 gl ‹a < 6› ‹one a gl = true›)
set_option maxRecDepth 100000 in
set_option maxHeartbeats 4000000 in
theorem s_told_5 (hC : sm_C 7 CT) (hD : cD S G) (hR : dR S) (hL : cL S G) {n : Nat} (hn : 5 + n = S 0 0) {a x v0 : Nat} (ha : a < S 0 0) (ea : G 20 3 = nI a) (eb : G 20 4 = nI (bz x (S 0 1))) (hv0 : v0 < S 0 1) (hx0 : inS x v0 = true) {gl : List (Nat → Nat)} (h1 : G 29 5 = nI gl.length) (hg : rwp S a 5 gl (G 27)) (hb : gl.length ≤ 2 ^ 5) (hw : ∀ w, w ∈ gl → ∀ i, i < 5 → w i < 4)
    (hQ : ∀ G', eqx [28, 29] G G' → (∀ i, i ≤ 5 → G' 29 i = G 29 i) → Q (some (.int (sm_b (tw S x a n 5 gl)))) (hp G' L)) : CT 37 [.ref 20, .int (nI 5)] (hp G L) Q := by
  obtain ⟨r1, r2, r3, r4⟩ := id hR
  have h2p : (2 : Nat) ^ 5 ≤ 64 := by decide
  have f1 : G 29 (nI 5).toNatClampNeg = nI gl.length := by rw [zn_clI (show 5 < 2 ^ 31 by decide)]; exact h1
  have e3 := hD.1
  have hne : gl.length ≠ 0 → gl ≠ [] := fun z e => z (by rw [e]; rfl)
  have hQ0 : ∀ b, tw S x a n 5 gl = b → Q (some (.int (sm_b b))) (hp G L) := fun b e => by
    have z := hQ G eqx_rfl (fun _ _ => rfl)
    rw [e] at z
    exact z
  refine sm_meth hC [some (.ref 20), some (.int (nI 5)), none, none] rfl rfl rfl ?_
  have lo : ∀ m, n = m + 1 → gl ≠ [] → ∀ i, i ≤ 4 → ∀ G1, eqx [28, 29] G G1 → (∀ j, j ≤ 5 → G1 29 j = G 29 j) → (∀ q, q < i → tw S x a m 6 (nx S x 5 q (hdp S 5 gl) gl 4) = true) → sm_Wk 6 37 Q none 44 [some (.ref 20), some (.int (nI 5)), some (.int (nI (bq 4 (fun p => bn (dn S x (hdp S 5 gl) i p))))), some (.int (nI i))] [] (hp G1 L) := by
    intro m hm hne
    subst hm
    have hf : hdp S 5 gl v0 < 4 := by
      cases gl with
      | nil => exact absurd rfl hne
      | cons w0 gr => exact ps_lt (r4 v0 hv0).2.1 _ (hw w0 List.mem_cons_self)
    refine up _ (fun i hi ih G1 hx1 hs1 ht => ?_)
    have fb : G1 20 4 = nI (bz x (S 0 1)) := by rw [hx1 20 rfl]; exact eb
    have fa : G1 20 3 = nI a := by rw [hx1 20 rfl]; exact ea
    have f11 : G1 29 5 = nI gl.length := by rw [hs1 5 (Nat.le_refl _)]; exact h1
    have fg : rwp S a 5 gl (G1 27) := by rw [hx1 27 rfl]; exact hg
    have hD1 := cD_x hx1 rfl hD
    have hL1 := cL_x hx1 rfl hL
    have hln : i < 4 → (nx S x 5 i (hdp S 5 gl) gl 4).length ≤ 2 ^ 6 := fun h4 => by
      have h5 := nx_len (S := S) (x := x) (h := 5) (q := i) (f := hdp S 5 gl) (gl := gl) 4
      have h6 := Nat.mul_le_mul_right gl.length (al_two hR hv0 hx0 hf h4)
      have h7 : (2 : Nat) ^ 6 = 2 * 2 ^ 5 := by decide
      omega
    have ebit : i < 4 → sm_shr (nI (bq 4 (fun p => bn (dn S x (hdp S 5 gl) i p)))) (nI i) &&& nI 1 = nI (bn (dn S x (hdp S 5 gl) i i)) := fun h4 => by
      have hlt := bq_lt (c := fun p => bn (dn S x (hdp S 5 gl) i p)) 4
      rw [bit_in (by omega) (by omega), inS_bq, decide_eq_true h4, Bool.true_and]
    refine sm_body [44] 120 sm_k37 (fun CT K hC hK => ?_)
    repeat' first
      | (with_reducible refine And.intro ?_ ?_)
      | ((with_reducible intro h9); first | exact absurd h9 (by decide) | (replace h9 := zle (by omega) (by omega) h9) | (replace h9 := znle (by omega) (by omega) h9) | ((rw [ebit ‹i < 4›] at h9; replace h9 := nz_eq h9)) | ((rw [ebit ‹i < 4›] at h9; replace h9 := nz_ne h9)) | (replace h9 := sb_f h9) | (replace h9 := sb_t h9) | skip)
      | (with_reducible exact zn_in (by omega) (by decide))
      | (with_reducible exact z01) | (with_reducible exact z11) | (with_reducible exact zb01 _)
      | (with_reducible exact zn_inb (by omega) (by decide))
      | (with_reducible exact zn_ina (by omega) (by decide))
      | (with_reducible exact zn_inc (by omega) (by decide))
      | ((conv => whnf); first | (with_reducible refine And.intro ?_ ?_) | ((with_reducible intro h9); first | exact absurd h9 (by decide) | (replace h9 := zle (by omega) (by omega) h9) | (replace h9 := znle (by omega) (by omega) h9) | ((rw [ebit ‹i < 4›] at h9; replace h9 := nz_eq h9)) | ((rw [ebit ‹i < 4›] at h9; replace h9 := nz_ne h9)) | (replace h9 := sb_f h9) | (replace h9 := sb_t h9) | skip) | (with_reducible refine hK _ _ _ _ (sm_un ?_)) | (refine s_fill_5 (gl := gl) (x := x) (hC.mono (by omega)) hD1 hR hL1 (by omega) ‹i < 4› fa (by omega) fb hv0 hx0 hne f11 fg hb hw (fun G2 hx2 hs2 hsz2 hrw2 => ?_)) | ((simp only [nI_add]; refine s_told_6 (n := m) (gl := nx S x 5 i (hdp S 5 gl) gl 4) (x := x) (hC.mono (by omega)) (cD_x hx2 rfl hD1) hR (cL_x hx2 rfl hL1) (by omega) ha (by rw [hx2 20 rfl]; exact fa) (by rw [hx2 20 rfl]; exact fb) hv0 hx0 hsz2 hrw2 (hln ‹i < 4›) (nx_lt (by decide) hw) (fun G3 hx3 hs3 => ?_))))
    · obtain rfl : i = 4 := by omega
      have e := hQ G1 hx1 hs1
      rw [tw_s.mpr ht] at e
      exact e
    · have hdn : dn S x (hdp S 5 gl) i i = true := h9
      have e := ih ‹i < 4› G1 hx1 hs1 (fun q hq => by
        by_cases z : q = i
        · subst z
          obtain ⟨q', hq', e'⟩ := dn_ex.mp hdn
          rw [nx_cg e' 4]
          exact ht q' hq'
        · exact ht q (by omega))
      have ed : (fun p => bn (dn S x (hdp S 5 gl) (i + 1) p)) = (fun p => bn (dn S x (hdp S 5 gl) i p)) := funext (fun p => by rw [dn_skip hdn])
      rw [ed] at e
      simp only [nI_add]; exact ⟨⟨e⟩⟩
    · have htw : tw S x a m 6 (nx S x 5 i (hdp S 5 gl) gl 4) = true := h9
      have e := ih ‹i < 4› G3 (eqx_trans hx1 (eqx_trans (eqx_sub rfl hx2) (eqx_sub rfl hx3))) (fun j hj => ((hs3 j (by omega)).trans (hs2 j (by omega))).trans (hs1 j hj)) (fun q hq => by
        by_cases z : q = i
        · subst z; exact htw
        · exact ht q (by omega))
      simp only [nI_add, zn_or, bq_or3]
      exact ⟨⟨e⟩⟩
    · have htw : tw S x a m 6 (nx S x 5 i (hdp S 5 gl) gl 4) = false := h9
      have e := hQ G3 (eqx_trans hx1 (eqx_trans (eqx_sub rfl hx2) (eqx_sub rfl hx3))) (fun j hj => ((hs3 j (by omega)).trans (hs2 j (by omega))).trans (hs1 j hj))
      refine zq (b_f ?_) e
      cases ho : tw S x a (m + 1) 5 gl with
      | false => rfl
      | true =>
        rw [tw_s.mp ho i ‹i < 4›] at htw
        exact htw
  refine sm_body [44] 80 sm_k37 (fun CT K hC hK => ?_)
  repeat' first
    | (with_reducible refine And.intro ?_ ?_)
    | ((with_reducible intro h9); first | exact absurd h9 (by decide) | ((rw [f1] at h9; replace h9 := zneq h9)) | ((rw [f1] at h9; replace h9 := zeq (b := 0) (by omega) (by omega) h9)) | ((rw [ea] at h9; replace h9 := zle (by omega) (by omega) h9)) | ((rw [ea] at h9; replace h9 := znle (by omega) (by omega) h9)) | ((rw [e3] at h9; replace h9 := zlt (by omega) (by omega) h9)) | ((rw [e3] at h9; replace h9 := znl (by omega) (by omega) h9)) | (replace h9 := sb_f h9) | (replace h9 := sb_t h9) | skip)
    | (with_reducible exact zn_in (by omega) (by decide))
    | (with_reducible exact z01) | (with_reducible exact z11) | (with_reducible exact zb01 _)
    | (with_reducible exact zn_inb (by omega) (by decide))
    | (with_reducible exact zn_ina (by omega) (by decide))
    | (with_reducible exact zn_inc (by omega) (by decide))
    | ((conv => whnf); first | (with_reducible refine And.intro ?_ ?_) | ((with_reducible intro h9); first | exact absurd h9 (by decide) | ((rw [f1] at h9; replace h9 := zneq h9)) | ((rw [f1] at h9; replace h9 := zeq (b := 0) (by omega) (by omega) h9)) | ((rw [ea] at h9; replace h9 := zle (by omega) (by omega) h9)) | ((rw [ea] at h9; replace h9 := znle (by omega) (by omega) h9)) | ((rw [e3] at h9; replace h9 := zlt (by omega) (by omega) h9)) | ((rw [e3] at h9; replace h9 := znl (by omega) (by omega) h9)) | (replace h9 := sb_f h9) | (replace h9 := sb_t h9) | skip) | (with_reducible refine hK _ _ _ _ (sm_un ?_)) | (refine s_one_5 (gl := gl) (a := a) (hC.mono (by omega)) ‹a < 5› hR (hne ‹gl.length ≠ 0›) h1 (by omega) hg hw ?_))
  · have hz : gl.length = 0 := ‹_›
    exact hQ0 true (by rw [List.length_eq_zero_iff.mp hz]; exact tw_nil _ _)
  · have hl0 : gl.length ≠ 0 := ‹gl.length ≠ 0›
    obtain ⟨m, hm⟩ : ∃ m, n = m + 1 := ⟨n - 1, by omega⟩
    exact ⟨⟨lo m hm (hne hl0) 0 (Nat.zero_le _) G eqx_rfl (fun _ _ => rfl) (fun q hq => absurd hq (Nat.not_lt_zero _))⟩⟩
  · exfalso
    omega
  · have hl0 : gl.length ≠ 0 := ‹gl.length ≠ 0›
    obtain ⟨m, hm⟩ : ∃ m, n = m + 1 := ⟨n - 1, by omega⟩
    exact ⟨⟨lo m hm (hne hl0) 0 (Nat.zero_le _) G eqx_rfl (fun _ _ => rfl) (fun q hq => absurd hq (Nat.not_lt_zero _))⟩⟩
  · obtain rfl : n = 0 := by omega
    exact hQ0 false ‹one a gl = false›
  · exact hQ0 true (tw_one n 5 gl ‹a < 5› ‹one a gl = true›)
set_option maxRecDepth 100000 in
set_option maxHeartbeats 4000000 in
theorem s_told_4 (hC : sm_C 8 CT) (hD : cD S G) (hR : dR S) (hL : cL S G) {n : Nat} (hn : 4 + n = S 0 0) {a x v0 : Nat} (ha : a < S 0 0) (ea : G 20 3 = nI a) (eb : G 20 4 = nI (bz x (S 0 1))) (hv0 : v0 < S 0 1) (hx0 : inS x v0 = true) {gl : List (Nat → Nat)} (h1 : G 29 4 = nI gl.length) (hg : rwp S a 4 gl (G 26)) (hb : gl.length ≤ 2 ^ 4) (hw : ∀ w, w ∈ gl → ∀ i, i < 4 → w i < 4)
    (hQ : ∀ G', eqx [27, 28, 29] G G' → (∀ i, i ≤ 4 → G' 29 i = G 29 i) → Q (some (.int (sm_b (tw S x a n 4 gl)))) (hp G' L)) : CT 37 [.ref 20, .int (nI 4)] (hp G L) Q := by
  obtain ⟨r1, r2, r3, r4⟩ := id hR
  have h2p : (2 : Nat) ^ 4 ≤ 64 := by decide
  have f1 : G 29 (nI 4).toNatClampNeg = nI gl.length := by rw [zn_clI (show 4 < 2 ^ 31 by decide)]; exact h1
  have e3 := hD.1
  have hne : gl.length ≠ 0 → gl ≠ [] := fun z e => z (by rw [e]; rfl)
  have hQ0 : ∀ b, tw S x a n 4 gl = b → Q (some (.int (sm_b b))) (hp G L) := fun b e => by
    have z := hQ G eqx_rfl (fun _ _ => rfl)
    rw [e] at z
    exact z
  refine sm_meth hC [some (.ref 20), some (.int (nI 4)), none, none] rfl rfl rfl ?_
  have lo : ∀ m, n = m + 1 → gl ≠ [] → ∀ i, i ≤ 4 → ∀ G1, eqx [27, 28, 29] G G1 → (∀ j, j ≤ 4 → G1 29 j = G 29 j) → (∀ q, q < i → tw S x a m 5 (nx S x 4 q (hdp S 4 gl) gl 4) = true) → sm_Wk 7 37 Q none 44 [some (.ref 20), some (.int (nI 4)), some (.int (nI (bq 4 (fun p => bn (dn S x (hdp S 4 gl) i p))))), some (.int (nI i))] [] (hp G1 L) := by
    intro m hm hne
    subst hm
    have hf : hdp S 4 gl v0 < 4 := by
      cases gl with
      | nil => exact absurd rfl hne
      | cons w0 gr => exact ps_lt (r4 v0 hv0).2.1 _ (hw w0 List.mem_cons_self)
    refine up _ (fun i hi ih G1 hx1 hs1 ht => ?_)
    have fb : G1 20 4 = nI (bz x (S 0 1)) := by rw [hx1 20 rfl]; exact eb
    have fa : G1 20 3 = nI a := by rw [hx1 20 rfl]; exact ea
    have f11 : G1 29 4 = nI gl.length := by rw [hs1 4 (Nat.le_refl _)]; exact h1
    have fg : rwp S a 4 gl (G1 26) := by rw [hx1 26 rfl]; exact hg
    have hD1 := cD_x hx1 rfl hD
    have hL1 := cL_x hx1 rfl hL
    have hln : i < 4 → (nx S x 4 i (hdp S 4 gl) gl 4).length ≤ 2 ^ 5 := fun h4 => by
      have h5 := nx_len (S := S) (x := x) (h := 4) (q := i) (f := hdp S 4 gl) (gl := gl) 4
      have h6 := Nat.mul_le_mul_right gl.length (al_two hR hv0 hx0 hf h4)
      have h7 : (2 : Nat) ^ 5 = 2 * 2 ^ 4 := by decide
      omega
    have ebit : i < 4 → sm_shr (nI (bq 4 (fun p => bn (dn S x (hdp S 4 gl) i p)))) (nI i) &&& nI 1 = nI (bn (dn S x (hdp S 4 gl) i i)) := fun h4 => by
      have hlt := bq_lt (c := fun p => bn (dn S x (hdp S 4 gl) i p)) 4
      rw [bit_in (by omega) (by omega), inS_bq, decide_eq_true h4, Bool.true_and]
    refine sm_body [44] 120 sm_k37 (fun CT K hC hK => ?_)
    repeat' first
      | (with_reducible refine And.intro ?_ ?_)
      | ((with_reducible intro h9); first | exact absurd h9 (by decide) | (replace h9 := zle (by omega) (by omega) h9) | (replace h9 := znle (by omega) (by omega) h9) | ((rw [ebit ‹i < 4›] at h9; replace h9 := nz_eq h9)) | ((rw [ebit ‹i < 4›] at h9; replace h9 := nz_ne h9)) | (replace h9 := sb_f h9) | (replace h9 := sb_t h9) | skip)
      | (with_reducible exact zn_in (by omega) (by decide))
      | (with_reducible exact z01) | (with_reducible exact z11) | (with_reducible exact zb01 _)
      | (with_reducible exact zn_inb (by omega) (by decide))
      | (with_reducible exact zn_ina (by omega) (by decide))
      | (with_reducible exact zn_inc (by omega) (by decide))
      | ((conv => whnf); first | (with_reducible refine And.intro ?_ ?_) | ((with_reducible intro h9); first | exact absurd h9 (by decide) | (replace h9 := zle (by omega) (by omega) h9) | (replace h9 := znle (by omega) (by omega) h9) | ((rw [ebit ‹i < 4›] at h9; replace h9 := nz_eq h9)) | ((rw [ebit ‹i < 4›] at h9; replace h9 := nz_ne h9)) | (replace h9 := sb_f h9) | (replace h9 := sb_t h9) | skip) | (with_reducible refine hK _ _ _ _ (sm_un ?_)) | (refine s_fill_4 (gl := gl) (x := x) (hC.mono (by omega)) hD1 hR hL1 (by omega) ‹i < 4› fa (by omega) fb hv0 hx0 hne f11 fg hb hw (fun G2 hx2 hs2 hsz2 hrw2 => ?_)) | ((simp only [nI_add]; refine s_told_5 (n := m) (gl := nx S x 4 i (hdp S 4 gl) gl 4) (x := x) (hC.mono (by omega)) (cD_x hx2 rfl hD1) hR (cL_x hx2 rfl hL1) (by omega) ha (by rw [hx2 20 rfl]; exact fa) (by rw [hx2 20 rfl]; exact fb) hv0 hx0 hsz2 hrw2 (hln ‹i < 4›) (nx_lt (by decide) hw) (fun G3 hx3 hs3 => ?_))))
    · obtain rfl : i = 4 := by omega
      have e := hQ G1 hx1 hs1
      rw [tw_s.mpr ht] at e
      exact e
    · have hdn : dn S x (hdp S 4 gl) i i = true := h9
      have e := ih ‹i < 4› G1 hx1 hs1 (fun q hq => by
        by_cases z : q = i
        · subst z
          obtain ⟨q', hq', e'⟩ := dn_ex.mp hdn
          rw [nx_cg e' 4]
          exact ht q' hq'
        · exact ht q (by omega))
      have ed : (fun p => bn (dn S x (hdp S 4 gl) (i + 1) p)) = (fun p => bn (dn S x (hdp S 4 gl) i p)) := funext (fun p => by rw [dn_skip hdn])
      rw [ed] at e
      simp only [nI_add]; exact ⟨⟨e⟩⟩
    · have htw : tw S x a m 5 (nx S x 4 i (hdp S 4 gl) gl 4) = true := h9
      have e := ih ‹i < 4› G3 (eqx_trans hx1 (eqx_trans (eqx_sub rfl hx2) (eqx_sub rfl hx3))) (fun j hj => ((hs3 j (by omega)).trans (hs2 j (by omega))).trans (hs1 j hj)) (fun q hq => by
        by_cases z : q = i
        · subst z; exact htw
        · exact ht q (by omega))
      simp only [nI_add, zn_or, bq_or3]
      exact ⟨⟨e⟩⟩
    · have htw : tw S x a m 5 (nx S x 4 i (hdp S 4 gl) gl 4) = false := h9
      have e := hQ G3 (eqx_trans hx1 (eqx_trans (eqx_sub rfl hx2) (eqx_sub rfl hx3))) (fun j hj => ((hs3 j (by omega)).trans (hs2 j (by omega))).trans (hs1 j hj))
      refine zq (b_f ?_) e
      cases ho : tw S x a (m + 1) 4 gl with
      | false => rfl
      | true =>
        rw [tw_s.mp ho i ‹i < 4›] at htw
        exact htw
  refine sm_body [44] 80 sm_k37 (fun CT K hC hK => ?_)
  repeat' first
    | (with_reducible refine And.intro ?_ ?_)
    | ((with_reducible intro h9); first | exact absurd h9 (by decide) | ((rw [f1] at h9; replace h9 := zneq h9)) | ((rw [f1] at h9; replace h9 := zeq (b := 0) (by omega) (by omega) h9)) | ((rw [ea] at h9; replace h9 := zle (by omega) (by omega) h9)) | ((rw [ea] at h9; replace h9 := znle (by omega) (by omega) h9)) | ((rw [e3] at h9; replace h9 := zlt (by omega) (by omega) h9)) | ((rw [e3] at h9; replace h9 := znl (by omega) (by omega) h9)) | (replace h9 := sb_f h9) | (replace h9 := sb_t h9) | skip)
    | (with_reducible exact zn_in (by omega) (by decide))
    | (with_reducible exact z01) | (with_reducible exact z11) | (with_reducible exact zb01 _)
    | (with_reducible exact zn_inb (by omega) (by decide))
    | (with_reducible exact zn_ina (by omega) (by decide))
    | (with_reducible exact zn_inc (by omega) (by decide))
    | ((conv => whnf); first | (with_reducible refine And.intro ?_ ?_) | ((with_reducible intro h9); first | exact absurd h9 (by decide) | ((rw [f1] at h9; replace h9 := zneq h9)) | ((rw [f1] at h9; replace h9 := zeq (b := 0) (by omega) (by omega) h9)) | ((rw [ea] at h9; replace h9 := zle (by omega) (by omega) h9)) | ((rw [ea] at h9; replace h9 := znle (by omega) (by omega) h9)) | ((rw [e3] at h9; replace h9 := zlt (by omega) (by omega) h9)) | ((rw [e3] at h9; replace h9 := znl (by omega) (by omega) h9)) | (replace h9 := sb_f h9) | (replace h9 := sb_t h9) | skip) | (with_reducible refine hK _ _ _ _ (sm_un ?_)) | (refine s_one_4 (gl := gl) (a := a) (hC.mono (by omega)) ‹a < 4› hR (hne ‹gl.length ≠ 0›) h1 (by omega) hg hw ?_))
  · have hz : gl.length = 0 := ‹_›
    exact hQ0 true (by rw [List.length_eq_zero_iff.mp hz]; exact tw_nil _ _)
  · have hl0 : gl.length ≠ 0 := ‹gl.length ≠ 0›
    obtain ⟨m, hm⟩ : ∃ m, n = m + 1 := ⟨n - 1, by omega⟩
    exact ⟨⟨lo m hm (hne hl0) 0 (Nat.zero_le _) G eqx_rfl (fun _ _ => rfl) (fun q hq => absurd hq (Nat.not_lt_zero _))⟩⟩
  · exfalso
    omega
  · have hl0 : gl.length ≠ 0 := ‹gl.length ≠ 0›
    obtain ⟨m, hm⟩ : ∃ m, n = m + 1 := ⟨n - 1, by omega⟩
    exact ⟨⟨lo m hm (hne hl0) 0 (Nat.zero_le _) G eqx_rfl (fun _ _ => rfl) (fun q hq => absurd hq (Nat.not_lt_zero _))⟩⟩
  · obtain rfl : n = 0 := by omega
    exact hQ0 false ‹one a gl = false›
  · exact hQ0 true (tw_one n 4 gl ‹a < 4› ‹one a gl = true›)
set_option maxRecDepth 100000 in
set_option maxHeartbeats 4000000 in
theorem s_told_3 (hC : sm_C 9 CT) (hD : cD S G) (hR : dR S) (hL : cL S G) {n : Nat} (hn : 3 + n = S 0 0) {a x v0 : Nat} (ha : a < S 0 0) (ea : G 20 3 = nI a) (eb : G 20 4 = nI (bz x (S 0 1))) (hv0 : v0 < S 0 1) (hx0 : inS x v0 = true) {gl : List (Nat → Nat)} (h1 : G 29 3 = nI gl.length) (hg : rwp S a 3 gl (G 25)) (hb : gl.length ≤ 2 ^ 3) (hw : ∀ w, w ∈ gl → ∀ i, i < 3 → w i < 4)
    (hQ : ∀ G', eqx [26, 27, 28, 29] G G' → (∀ i, i ≤ 3 → G' 29 i = G 29 i) → Q (some (.int (sm_b (tw S x a n 3 gl)))) (hp G' L)) : CT 37 [.ref 20, .int (nI 3)] (hp G L) Q := by
  obtain ⟨r1, r2, r3, r4⟩ := id hR
  have h2p : (2 : Nat) ^ 3 ≤ 64 := by decide
  have f1 : G 29 (nI 3).toNatClampNeg = nI gl.length := by rw [zn_clI (show 3 < 2 ^ 31 by decide)]; exact h1
  have e3 := hD.1
  have hne : gl.length ≠ 0 → gl ≠ [] := fun z e => z (by rw [e]; rfl)
  have hQ0 : ∀ b, tw S x a n 3 gl = b → Q (some (.int (sm_b b))) (hp G L) := fun b e => by
    have z := hQ G eqx_rfl (fun _ _ => rfl)
    rw [e] at z
    exact z
  refine sm_meth hC [some (.ref 20), some (.int (nI 3)), none, none] rfl rfl rfl ?_
  have lo : ∀ m, n = m + 1 → gl ≠ [] → ∀ i, i ≤ 4 → ∀ G1, eqx [26, 27, 28, 29] G G1 → (∀ j, j ≤ 3 → G1 29 j = G 29 j) → (∀ q, q < i → tw S x a m 4 (nx S x 3 q (hdp S 3 gl) gl 4) = true) → sm_Wk 8 37 Q none 44 [some (.ref 20), some (.int (nI 3)), some (.int (nI (bq 4 (fun p => bn (dn S x (hdp S 3 gl) i p))))), some (.int (nI i))] [] (hp G1 L) := by
    intro m hm hne
    subst hm
    have hf : hdp S 3 gl v0 < 4 := by
      cases gl with
      | nil => exact absurd rfl hne
      | cons w0 gr => exact ps_lt (r4 v0 hv0).2.1 _ (hw w0 List.mem_cons_self)
    refine up _ (fun i hi ih G1 hx1 hs1 ht => ?_)
    have fb : G1 20 4 = nI (bz x (S 0 1)) := by rw [hx1 20 rfl]; exact eb
    have fa : G1 20 3 = nI a := by rw [hx1 20 rfl]; exact ea
    have f11 : G1 29 3 = nI gl.length := by rw [hs1 3 (Nat.le_refl _)]; exact h1
    have fg : rwp S a 3 gl (G1 25) := by rw [hx1 25 rfl]; exact hg
    have hD1 := cD_x hx1 rfl hD
    have hL1 := cL_x hx1 rfl hL
    have hln : i < 4 → (nx S x 3 i (hdp S 3 gl) gl 4).length ≤ 2 ^ 4 := fun h4 => by
      have h5 := nx_len (S := S) (x := x) (h := 3) (q := i) (f := hdp S 3 gl) (gl := gl) 4
      have h6 := Nat.mul_le_mul_right gl.length (al_two hR hv0 hx0 hf h4)
      have h7 : (2 : Nat) ^ 4 = 2 * 2 ^ 3 := by decide
      omega
    have ebit : i < 4 → sm_shr (nI (bq 4 (fun p => bn (dn S x (hdp S 3 gl) i p)))) (nI i) &&& nI 1 = nI (bn (dn S x (hdp S 3 gl) i i)) := fun h4 => by
      have hlt := bq_lt (c := fun p => bn (dn S x (hdp S 3 gl) i p)) 4
      rw [bit_in (by omega) (by omega), inS_bq, decide_eq_true h4, Bool.true_and]
    refine sm_body [44] 120 sm_k37 (fun CT K hC hK => ?_)
    repeat' first
      | (with_reducible refine And.intro ?_ ?_)
      | ((with_reducible intro h9); first | exact absurd h9 (by decide) | (replace h9 := zle (by omega) (by omega) h9) | (replace h9 := znle (by omega) (by omega) h9) | ((rw [ebit ‹i < 4›] at h9; replace h9 := nz_eq h9)) | ((rw [ebit ‹i < 4›] at h9; replace h9 := nz_ne h9)) | (replace h9 := sb_f h9) | (replace h9 := sb_t h9) | skip)
      | (with_reducible exact zn_in (by omega) (by decide))
      | (with_reducible exact z01) | (with_reducible exact z11) | (with_reducible exact zb01 _)
      | (with_reducible exact zn_inb (by omega) (by decide))
      | (with_reducible exact zn_ina (by omega) (by decide))
      | (with_reducible exact zn_inc (by omega) (by decide))
      | ((conv => whnf); first | (with_reducible refine And.intro ?_ ?_) | ((with_reducible intro h9); first | exact absurd h9 (by decide) | (replace h9 := zle (by omega) (by omega) h9) | (replace h9 := znle (by omega) (by omega) h9) | ((rw [ebit ‹i < 4›] at h9; replace h9 := nz_eq h9)) | ((rw [ebit ‹i < 4›] at h9; replace h9 := nz_ne h9)) | (replace h9 := sb_f h9) | (replace h9 := sb_t h9) | skip) | (with_reducible refine hK _ _ _ _ (sm_un ?_)) | (refine s_fill_3 (gl := gl) (x := x) (hC.mono (by omega)) hD1 hR hL1 (by omega) ‹i < 4› fa (by omega) fb hv0 hx0 hne f11 fg hb hw (fun G2 hx2 hs2 hsz2 hrw2 => ?_)) | ((simp only [nI_add]; refine s_told_4 (n := m) (gl := nx S x 3 i (hdp S 3 gl) gl 4) (x := x) (hC.mono (by omega)) (cD_x hx2 rfl hD1) hR (cL_x hx2 rfl hL1) (by omega) ha (by rw [hx2 20 rfl]; exact fa) (by rw [hx2 20 rfl]; exact fb) hv0 hx0 hsz2 hrw2 (hln ‹i < 4›) (nx_lt (by decide) hw) (fun G3 hx3 hs3 => ?_))))
    · obtain rfl : i = 4 := by omega
      have e := hQ G1 hx1 hs1
      rw [tw_s.mpr ht] at e
      exact e
    · have hdn : dn S x (hdp S 3 gl) i i = true := h9
      have e := ih ‹i < 4› G1 hx1 hs1 (fun q hq => by
        by_cases z : q = i
        · subst z
          obtain ⟨q', hq', e'⟩ := dn_ex.mp hdn
          rw [nx_cg e' 4]
          exact ht q' hq'
        · exact ht q (by omega))
      have ed : (fun p => bn (dn S x (hdp S 3 gl) (i + 1) p)) = (fun p => bn (dn S x (hdp S 3 gl) i p)) := funext (fun p => by rw [dn_skip hdn])
      rw [ed] at e
      simp only [nI_add]; exact ⟨⟨e⟩⟩
    · have htw : tw S x a m 4 (nx S x 3 i (hdp S 3 gl) gl 4) = true := h9
      have e := ih ‹i < 4› G3 (eqx_trans hx1 (eqx_trans (eqx_sub rfl hx2) (eqx_sub rfl hx3))) (fun j hj => ((hs3 j (by omega)).trans (hs2 j (by omega))).trans (hs1 j hj)) (fun q hq => by
        by_cases z : q = i
        · subst z; exact htw
        · exact ht q (by omega))
      simp only [nI_add, zn_or, bq_or3]
      exact ⟨⟨e⟩⟩
    · have htw : tw S x a m 4 (nx S x 3 i (hdp S 3 gl) gl 4) = false := h9
      have e := hQ G3 (eqx_trans hx1 (eqx_trans (eqx_sub rfl hx2) (eqx_sub rfl hx3))) (fun j hj => ((hs3 j (by omega)).trans (hs2 j (by omega))).trans (hs1 j hj))
      refine zq (b_f ?_) e
      cases ho : tw S x a (m + 1) 3 gl with
      | false => rfl
      | true =>
        rw [tw_s.mp ho i ‹i < 4›] at htw
        exact htw
  refine sm_body [44] 80 sm_k37 (fun CT K hC hK => ?_)
  repeat' first
    | (with_reducible refine And.intro ?_ ?_)
    | ((with_reducible intro h9); first | exact absurd h9 (by decide) | ((rw [f1] at h9; replace h9 := zneq h9)) | ((rw [f1] at h9; replace h9 := zeq (b := 0) (by omega) (by omega) h9)) | ((rw [ea] at h9; replace h9 := zle (by omega) (by omega) h9)) | ((rw [ea] at h9; replace h9 := znle (by omega) (by omega) h9)) | ((rw [e3] at h9; replace h9 := zlt (by omega) (by omega) h9)) | ((rw [e3] at h9; replace h9 := znl (by omega) (by omega) h9)) | (replace h9 := sb_f h9) | (replace h9 := sb_t h9) | skip)
    | (with_reducible exact zn_in (by omega) (by decide))
    | (with_reducible exact z01) | (with_reducible exact z11) | (with_reducible exact zb01 _)
    | (with_reducible exact zn_inb (by omega) (by decide))
    | (with_reducible exact zn_ina (by omega) (by decide))
    | (with_reducible exact zn_inc (by omega) (by decide))
    | ((conv => whnf); first | (with_reducible refine And.intro ?_ ?_) | ((with_reducible intro h9); first | exact absurd h9 (by decide) | ((rw [f1] at h9; replace h9 := zneq h9)) | ((rw [f1] at h9; replace h9 := zeq (b := 0) (by omega) (by omega) h9)) | ((rw [ea] at h9; replace h9 := zle (by omega) (by omega) h9)) | ((rw [ea] at h9; replace h9 := znle (by omega) (by omega) h9)) | ((rw [e3] at h9; replace h9 := zlt (by omega) (by omega) h9)) | ((rw [e3] at h9; replace h9 := znl (by omega) (by omega) h9)) | (replace h9 := sb_f h9) | (replace h9 := sb_t h9) | skip) | (with_reducible refine hK _ _ _ _ (sm_un ?_)) | (refine s_one_3 (gl := gl) (a := a) (hC.mono (by omega)) ‹a < 3› hR (hne ‹gl.length ≠ 0›) h1 (by omega) hg hw ?_))
  · have hz : gl.length = 0 := ‹_›
    exact hQ0 true (by rw [List.length_eq_zero_iff.mp hz]; exact tw_nil _ _)
  · have hl0 : gl.length ≠ 0 := ‹gl.length ≠ 0›
    obtain ⟨m, hm⟩ : ∃ m, n = m + 1 := ⟨n - 1, by omega⟩
    exact ⟨⟨lo m hm (hne hl0) 0 (Nat.zero_le _) G eqx_rfl (fun _ _ => rfl) (fun q hq => absurd hq (Nat.not_lt_zero _))⟩⟩
  · exfalso
    omega
  · have hl0 : gl.length ≠ 0 := ‹gl.length ≠ 0›
    obtain ⟨m, hm⟩ : ∃ m, n = m + 1 := ⟨n - 1, by omega⟩
    exact ⟨⟨lo m hm (hne hl0) 0 (Nat.zero_le _) G eqx_rfl (fun _ _ => rfl) (fun q hq => absurd hq (Nat.not_lt_zero _))⟩⟩
  · obtain rfl : n = 0 := by omega
    exact hQ0 false ‹one a gl = false›
  · exact hQ0 true (tw_one n 3 gl ‹a < 3› ‹one a gl = true›)
set_option maxRecDepth 100000 in
set_option maxHeartbeats 4000000 in
theorem s_told_2 (hC : sm_C 10 CT) (hD : cD S G) (hR : dR S) (hL : cL S G) {n : Nat} (hn : 2 + n = S 0 0) {a x v0 : Nat} (ha : a < S 0 0) (ea : G 20 3 = nI a) (eb : G 20 4 = nI (bz x (S 0 1))) (hv0 : v0 < S 0 1) (hx0 : inS x v0 = true) {gl : List (Nat → Nat)} (h1 : G 29 2 = nI gl.length) (hg : rwp S a 2 gl (G 24)) (hb : gl.length ≤ 2 ^ 2) (hw : ∀ w, w ∈ gl → ∀ i, i < 2 → w i < 4)
    (hQ : ∀ G', eqx [25, 26, 27, 28, 29] G G' → (∀ i, i ≤ 2 → G' 29 i = G 29 i) → Q (some (.int (sm_b (tw S x a n 2 gl)))) (hp G' L)) : CT 37 [.ref 20, .int (nI 2)] (hp G L) Q := by
  obtain ⟨r1, r2, r3, r4⟩ := id hR
  have h2p : (2 : Nat) ^ 2 ≤ 64 := by decide
  have f1 : G 29 (nI 2).toNatClampNeg = nI gl.length := by rw [zn_clI (show 2 < 2 ^ 31 by decide)]; exact h1
  have e3 := hD.1
  have hne : gl.length ≠ 0 → gl ≠ [] := fun z e => z (by rw [e]; rfl)
  have hQ0 : ∀ b, tw S x a n 2 gl = b → Q (some (.int (sm_b b))) (hp G L) := fun b e => by
    have z := hQ G eqx_rfl (fun _ _ => rfl)
    rw [e] at z
    exact z
  refine sm_meth hC [some (.ref 20), some (.int (nI 2)), none, none] rfl rfl rfl ?_
  have lo : ∀ m, n = m + 1 → gl ≠ [] → ∀ i, i ≤ 4 → ∀ G1, eqx [25, 26, 27, 28, 29] G G1 → (∀ j, j ≤ 2 → G1 29 j = G 29 j) → (∀ q, q < i → tw S x a m 3 (nx S x 2 q (hdp S 2 gl) gl 4) = true) → sm_Wk 9 37 Q none 44 [some (.ref 20), some (.int (nI 2)), some (.int (nI (bq 4 (fun p => bn (dn S x (hdp S 2 gl) i p))))), some (.int (nI i))] [] (hp G1 L) := by
    intro m hm hne
    subst hm
    have hf : hdp S 2 gl v0 < 4 := by
      cases gl with
      | nil => exact absurd rfl hne
      | cons w0 gr => exact ps_lt (r4 v0 hv0).2.1 _ (hw w0 List.mem_cons_self)
    refine up _ (fun i hi ih G1 hx1 hs1 ht => ?_)
    have fb : G1 20 4 = nI (bz x (S 0 1)) := by rw [hx1 20 rfl]; exact eb
    have fa : G1 20 3 = nI a := by rw [hx1 20 rfl]; exact ea
    have f11 : G1 29 2 = nI gl.length := by rw [hs1 2 (Nat.le_refl _)]; exact h1
    have fg : rwp S a 2 gl (G1 24) := by rw [hx1 24 rfl]; exact hg
    have hD1 := cD_x hx1 rfl hD
    have hL1 := cL_x hx1 rfl hL
    have hln : i < 4 → (nx S x 2 i (hdp S 2 gl) gl 4).length ≤ 2 ^ 3 := fun h4 => by
      have h5 := nx_len (S := S) (x := x) (h := 2) (q := i) (f := hdp S 2 gl) (gl := gl) 4
      have h6 := Nat.mul_le_mul_right gl.length (al_two hR hv0 hx0 hf h4)
      have h7 : (2 : Nat) ^ 3 = 2 * 2 ^ 2 := by decide
      omega
    have ebit : i < 4 → sm_shr (nI (bq 4 (fun p => bn (dn S x (hdp S 2 gl) i p)))) (nI i) &&& nI 1 = nI (bn (dn S x (hdp S 2 gl) i i)) := fun h4 => by
      have hlt := bq_lt (c := fun p => bn (dn S x (hdp S 2 gl) i p)) 4
      rw [bit_in (by omega) (by omega), inS_bq, decide_eq_true h4, Bool.true_and]
    refine sm_body [44] 120 sm_k37 (fun CT K hC hK => ?_)
    repeat' first
      | (with_reducible refine And.intro ?_ ?_)
      | ((with_reducible intro h9); first | exact absurd h9 (by decide) | (replace h9 := zle (by omega) (by omega) h9) | (replace h9 := znle (by omega) (by omega) h9) | ((rw [ebit ‹i < 4›] at h9; replace h9 := nz_eq h9)) | ((rw [ebit ‹i < 4›] at h9; replace h9 := nz_ne h9)) | (replace h9 := sb_f h9) | (replace h9 := sb_t h9) | skip)
      | (with_reducible exact zn_in (by omega) (by decide))
      | (with_reducible exact z01) | (with_reducible exact z11) | (with_reducible exact zb01 _)
      | (with_reducible exact zn_inb (by omega) (by decide))
      | (with_reducible exact zn_ina (by omega) (by decide))
      | (with_reducible exact zn_inc (by omega) (by decide))
      | ((conv => whnf); first | (with_reducible refine And.intro ?_ ?_) | ((with_reducible intro h9); first | exact absurd h9 (by decide) | (replace h9 := zle (by omega) (by omega) h9) | (replace h9 := znle (by omega) (by omega) h9) | ((rw [ebit ‹i < 4›] at h9; replace h9 := nz_eq h9)) | ((rw [ebit ‹i < 4›] at h9; replace h9 := nz_ne h9)) | (replace h9 := sb_f h9) | (replace h9 := sb_t h9) | skip) | (with_reducible refine hK _ _ _ _ (sm_un ?_)) | (refine s_fill_2 (gl := gl) (x := x) (hC.mono (by omega)) hD1 hR hL1 (by omega) ‹i < 4› fa (by omega) fb hv0 hx0 hne f11 fg hb hw (fun G2 hx2 hs2 hsz2 hrw2 => ?_)) | ((simp only [nI_add]; refine s_told_3 (n := m) (gl := nx S x 2 i (hdp S 2 gl) gl 4) (x := x) (hC.mono (by omega)) (cD_x hx2 rfl hD1) hR (cL_x hx2 rfl hL1) (by omega) ha (by rw [hx2 20 rfl]; exact fa) (by rw [hx2 20 rfl]; exact fb) hv0 hx0 hsz2 hrw2 (hln ‹i < 4›) (nx_lt (by decide) hw) (fun G3 hx3 hs3 => ?_))))
    · obtain rfl : i = 4 := by omega
      have e := hQ G1 hx1 hs1
      rw [tw_s.mpr ht] at e
      exact e
    · have hdn : dn S x (hdp S 2 gl) i i = true := h9
      have e := ih ‹i < 4› G1 hx1 hs1 (fun q hq => by
        by_cases z : q = i
        · subst z
          obtain ⟨q', hq', e'⟩ := dn_ex.mp hdn
          rw [nx_cg e' 4]
          exact ht q' hq'
        · exact ht q (by omega))
      have ed : (fun p => bn (dn S x (hdp S 2 gl) (i + 1) p)) = (fun p => bn (dn S x (hdp S 2 gl) i p)) := funext (fun p => by rw [dn_skip hdn])
      rw [ed] at e
      simp only [nI_add]; exact ⟨⟨e⟩⟩
    · have htw : tw S x a m 3 (nx S x 2 i (hdp S 2 gl) gl 4) = true := h9
      have e := ih ‹i < 4› G3 (eqx_trans hx1 (eqx_trans (eqx_sub rfl hx2) (eqx_sub rfl hx3))) (fun j hj => ((hs3 j (by omega)).trans (hs2 j (by omega))).trans (hs1 j hj)) (fun q hq => by
        by_cases z : q = i
        · subst z; exact htw
        · exact ht q (by omega))
      simp only [nI_add, zn_or, bq_or3]
      exact ⟨⟨e⟩⟩
    · have htw : tw S x a m 3 (nx S x 2 i (hdp S 2 gl) gl 4) = false := h9
      have e := hQ G3 (eqx_trans hx1 (eqx_trans (eqx_sub rfl hx2) (eqx_sub rfl hx3))) (fun j hj => ((hs3 j (by omega)).trans (hs2 j (by omega))).trans (hs1 j hj))
      refine zq (b_f ?_) e
      cases ho : tw S x a (m + 1) 2 gl with
      | false => rfl
      | true =>
        rw [tw_s.mp ho i ‹i < 4›] at htw
        exact htw
  refine sm_body [44] 80 sm_k37 (fun CT K hC hK => ?_)
  repeat' first
    | (with_reducible refine And.intro ?_ ?_)
    | ((with_reducible intro h9); first | exact absurd h9 (by decide) | ((rw [f1] at h9; replace h9 := zneq h9)) | ((rw [f1] at h9; replace h9 := zeq (b := 0) (by omega) (by omega) h9)) | ((rw [ea] at h9; replace h9 := zle (by omega) (by omega) h9)) | ((rw [ea] at h9; replace h9 := znle (by omega) (by omega) h9)) | ((rw [e3] at h9; replace h9 := zlt (by omega) (by omega) h9)) | ((rw [e3] at h9; replace h9 := znl (by omega) (by omega) h9)) | (replace h9 := sb_f h9) | (replace h9 := sb_t h9) | skip)
    | (with_reducible exact zn_in (by omega) (by decide))
    | (with_reducible exact z01) | (with_reducible exact z11) | (with_reducible exact zb01 _)
    | (with_reducible exact zn_inb (by omega) (by decide))
    | (with_reducible exact zn_ina (by omega) (by decide))
    | (with_reducible exact zn_inc (by omega) (by decide))
    | ((conv => whnf); first | (with_reducible refine And.intro ?_ ?_) | ((with_reducible intro h9); first | exact absurd h9 (by decide) | ((rw [f1] at h9; replace h9 := zneq h9)) | ((rw [f1] at h9; replace h9 := zeq (b := 0) (by omega) (by omega) h9)) | ((rw [ea] at h9; replace h9 := zle (by omega) (by omega) h9)) | ((rw [ea] at h9; replace h9 := znle (by omega) (by omega) h9)) | ((rw [e3] at h9; replace h9 := zlt (by omega) (by omega) h9)) | ((rw [e3] at h9; replace h9 := znl (by omega) (by omega) h9)) | (replace h9 := sb_f h9) | (replace h9 := sb_t h9) | skip) | (with_reducible refine hK _ _ _ _ (sm_un ?_)) | (refine s_one_2 (gl := gl) (a := a) (hC.mono (by omega)) ‹a < 2› hR (hne ‹gl.length ≠ 0›) h1 (by omega) hg hw ?_))
  · have hz : gl.length = 0 := ‹_›
    exact hQ0 true (by rw [List.length_eq_zero_iff.mp hz]; exact tw_nil _ _)
  · have hl0 : gl.length ≠ 0 := ‹gl.length ≠ 0›
    obtain ⟨m, hm⟩ : ∃ m, n = m + 1 := ⟨n - 1, by omega⟩
    exact ⟨⟨lo m hm (hne hl0) 0 (Nat.zero_le _) G eqx_rfl (fun _ _ => rfl) (fun q hq => absurd hq (Nat.not_lt_zero _))⟩⟩
  · exfalso
    omega
  · have hl0 : gl.length ≠ 0 := ‹gl.length ≠ 0›
    obtain ⟨m, hm⟩ : ∃ m, n = m + 1 := ⟨n - 1, by omega⟩
    exact ⟨⟨lo m hm (hne hl0) 0 (Nat.zero_le _) G eqx_rfl (fun _ _ => rfl) (fun q hq => absurd hq (Nat.not_lt_zero _))⟩⟩
  · obtain rfl : n = 0 := by omega
    exact hQ0 false ‹one a gl = false›
  · exact hQ0 true (tw_one n 2 gl ‹a < 2› ‹one a gl = true›)
set_option maxRecDepth 100000 in
set_option maxHeartbeats 4000000 in
theorem s_told_1 (hC : sm_C 11 CT) (hD : cD S G) (hR : dR S) (hL : cL S G) {n : Nat} (hn : 1 + n = S 0 0) {a x v0 : Nat} (ha : a < S 0 0) (ea : G 20 3 = nI a) (eb : G 20 4 = nI (bz x (S 0 1))) (hv0 : v0 < S 0 1) (hx0 : inS x v0 = true) {gl : List (Nat → Nat)} (h1 : G 29 1 = nI gl.length) (hg : rwp S a 1 gl (G 23)) (hb : gl.length ≤ 2 ^ 1) (hw : ∀ w, w ∈ gl → ∀ i, i < 1 → w i < 4)
    (hQ : ∀ G', eqx [24, 25, 26, 27, 28, 29] G G' → (∀ i, i ≤ 1 → G' 29 i = G 29 i) → Q (some (.int (sm_b (tw S x a n 1 gl)))) (hp G' L)) : CT 37 [.ref 20, .int (nI 1)] (hp G L) Q := by
  obtain ⟨r1, r2, r3, r4⟩ := id hR
  have h2p : (2 : Nat) ^ 1 ≤ 64 := by decide
  have f1 : G 29 (nI 1).toNatClampNeg = nI gl.length := by rw [zn_clI (show 1 < 2 ^ 31 by decide)]; exact h1
  have e3 := hD.1
  have hne : gl.length ≠ 0 → gl ≠ [] := fun z e => z (by rw [e]; rfl)
  have hQ0 : ∀ b, tw S x a n 1 gl = b → Q (some (.int (sm_b b))) (hp G L) := fun b e => by
    have z := hQ G eqx_rfl (fun _ _ => rfl)
    rw [e] at z
    exact z
  refine sm_meth hC [some (.ref 20), some (.int (nI 1)), none, none] rfl rfl rfl ?_
  have lo : ∀ m, n = m + 1 → gl ≠ [] → ∀ i, i ≤ 4 → ∀ G1, eqx [24, 25, 26, 27, 28, 29] G G1 → (∀ j, j ≤ 1 → G1 29 j = G 29 j) → (∀ q, q < i → tw S x a m 2 (nx S x 1 q (hdp S 1 gl) gl 4) = true) → sm_Wk 10 37 Q none 44 [some (.ref 20), some (.int (nI 1)), some (.int (nI (bq 4 (fun p => bn (dn S x (hdp S 1 gl) i p))))), some (.int (nI i))] [] (hp G1 L) := by
    intro m hm hne
    subst hm
    have hf : hdp S 1 gl v0 < 4 := by
      cases gl with
      | nil => exact absurd rfl hne
      | cons w0 gr => exact ps_lt (r4 v0 hv0).2.1 _ (hw w0 List.mem_cons_self)
    refine up _ (fun i hi ih G1 hx1 hs1 ht => ?_)
    have fb : G1 20 4 = nI (bz x (S 0 1)) := by rw [hx1 20 rfl]; exact eb
    have fa : G1 20 3 = nI a := by rw [hx1 20 rfl]; exact ea
    have f11 : G1 29 1 = nI gl.length := by rw [hs1 1 (Nat.le_refl _)]; exact h1
    have fg : rwp S a 1 gl (G1 23) := by rw [hx1 23 rfl]; exact hg
    have hD1 := cD_x hx1 rfl hD
    have hL1 := cL_x hx1 rfl hL
    have hln : i < 4 → (nx S x 1 i (hdp S 1 gl) gl 4).length ≤ 2 ^ 2 := fun h4 => by
      have h5 := nx_len (S := S) (x := x) (h := 1) (q := i) (f := hdp S 1 gl) (gl := gl) 4
      have h6 := Nat.mul_le_mul_right gl.length (al_two hR hv0 hx0 hf h4)
      have h7 : (2 : Nat) ^ 2 = 2 * 2 ^ 1 := by decide
      omega
    have ebit : i < 4 → sm_shr (nI (bq 4 (fun p => bn (dn S x (hdp S 1 gl) i p)))) (nI i) &&& nI 1 = nI (bn (dn S x (hdp S 1 gl) i i)) := fun h4 => by
      have hlt := bq_lt (c := fun p => bn (dn S x (hdp S 1 gl) i p)) 4
      rw [bit_in (by omega) (by omega), inS_bq, decide_eq_true h4, Bool.true_and]
    refine sm_body [44] 120 sm_k37 (fun CT K hC hK => ?_)
    repeat' first
      | (with_reducible refine And.intro ?_ ?_)
      | ((with_reducible intro h9); first | exact absurd h9 (by decide) | (replace h9 := zle (by omega) (by omega) h9) | (replace h9 := znle (by omega) (by omega) h9) | ((rw [ebit ‹i < 4›] at h9; replace h9 := nz_eq h9)) | ((rw [ebit ‹i < 4›] at h9; replace h9 := nz_ne h9)) | (replace h9 := sb_f h9) | (replace h9 := sb_t h9) | skip)
      | (with_reducible exact zn_in (by omega) (by decide))
      | (with_reducible exact z01) | (with_reducible exact z11) | (with_reducible exact zb01 _)
      | (with_reducible exact zn_inb (by omega) (by decide))
      | (with_reducible exact zn_ina (by omega) (by decide))
      | (with_reducible exact zn_inc (by omega) (by decide))
      | ((conv => whnf); first | (with_reducible refine And.intro ?_ ?_) | ((with_reducible intro h9); first | exact absurd h9 (by decide) | (replace h9 := zle (by omega) (by omega) h9) | (replace h9 := znle (by omega) (by omega) h9) | ((rw [ebit ‹i < 4›] at h9; replace h9 := nz_eq h9)) | ((rw [ebit ‹i < 4›] at h9; replace h9 := nz_ne h9)) | (replace h9 := sb_f h9) | (replace h9 := sb_t h9) | skip) | (with_reducible refine hK _ _ _ _ (sm_un ?_)) | (refine s_fill_1 (gl := gl) (x := x) (hC.mono (by omega)) hD1 hR hL1 (by omega) ‹i < 4› fa (by omega) fb hv0 hx0 hne f11 fg hb hw (fun G2 hx2 hs2 hsz2 hrw2 => ?_)) | ((simp only [nI_add]; refine s_told_2 (n := m) (gl := nx S x 1 i (hdp S 1 gl) gl 4) (x := x) (hC.mono (by omega)) (cD_x hx2 rfl hD1) hR (cL_x hx2 rfl hL1) (by omega) ha (by rw [hx2 20 rfl]; exact fa) (by rw [hx2 20 rfl]; exact fb) hv0 hx0 hsz2 hrw2 (hln ‹i < 4›) (nx_lt (by decide) hw) (fun G3 hx3 hs3 => ?_))))
    · obtain rfl : i = 4 := by omega
      have e := hQ G1 hx1 hs1
      rw [tw_s.mpr ht] at e
      exact e
    · have hdn : dn S x (hdp S 1 gl) i i = true := h9
      have e := ih ‹i < 4› G1 hx1 hs1 (fun q hq => by
        by_cases z : q = i
        · subst z
          obtain ⟨q', hq', e'⟩ := dn_ex.mp hdn
          rw [nx_cg e' 4]
          exact ht q' hq'
        · exact ht q (by omega))
      have ed : (fun p => bn (dn S x (hdp S 1 gl) (i + 1) p)) = (fun p => bn (dn S x (hdp S 1 gl) i p)) := funext (fun p => by rw [dn_skip hdn])
      rw [ed] at e
      simp only [nI_add]; exact ⟨⟨e⟩⟩
    · have htw : tw S x a m 2 (nx S x 1 i (hdp S 1 gl) gl 4) = true := h9
      have e := ih ‹i < 4› G3 (eqx_trans hx1 (eqx_trans (eqx_sub rfl hx2) (eqx_sub rfl hx3))) (fun j hj => ((hs3 j (by omega)).trans (hs2 j (by omega))).trans (hs1 j hj)) (fun q hq => by
        by_cases z : q = i
        · subst z; exact htw
        · exact ht q (by omega))
      simp only [nI_add, zn_or, bq_or3]
      exact ⟨⟨e⟩⟩
    · have htw : tw S x a m 2 (nx S x 1 i (hdp S 1 gl) gl 4) = false := h9
      have e := hQ G3 (eqx_trans hx1 (eqx_trans (eqx_sub rfl hx2) (eqx_sub rfl hx3))) (fun j hj => ((hs3 j (by omega)).trans (hs2 j (by omega))).trans (hs1 j hj))
      refine zq (b_f ?_) e
      cases ho : tw S x a (m + 1) 1 gl with
      | false => rfl
      | true =>
        rw [tw_s.mp ho i ‹i < 4›] at htw
        exact htw
  refine sm_body [44] 80 sm_k37 (fun CT K hC hK => ?_)
  repeat' first
    | (with_reducible refine And.intro ?_ ?_)
    | ((with_reducible intro h9); first | exact absurd h9 (by decide) | ((rw [f1] at h9; replace h9 := zneq h9)) | ((rw [f1] at h9; replace h9 := zeq (b := 0) (by omega) (by omega) h9)) | ((rw [ea] at h9; replace h9 := zle (by omega) (by omega) h9)) | ((rw [ea] at h9; replace h9 := znle (by omega) (by omega) h9)) | ((rw [e3] at h9; replace h9 := zlt (by omega) (by omega) h9)) | ((rw [e3] at h9; replace h9 := znl (by omega) (by omega) h9)) | (replace h9 := sb_f h9) | (replace h9 := sb_t h9) | skip)
    | (with_reducible exact zn_in (by omega) (by decide))
    | (with_reducible exact z01) | (with_reducible exact z11) | (with_reducible exact zb01 _)
    | (with_reducible exact zn_inb (by omega) (by decide))
    | (with_reducible exact zn_ina (by omega) (by decide))
    | (with_reducible exact zn_inc (by omega) (by decide))
    | ((conv => whnf); first | (with_reducible refine And.intro ?_ ?_) | ((with_reducible intro h9); first | exact absurd h9 (by decide) | ((rw [f1] at h9; replace h9 := zneq h9)) | ((rw [f1] at h9; replace h9 := zeq (b := 0) (by omega) (by omega) h9)) | ((rw [ea] at h9; replace h9 := zle (by omega) (by omega) h9)) | ((rw [ea] at h9; replace h9 := znle (by omega) (by omega) h9)) | ((rw [e3] at h9; replace h9 := zlt (by omega) (by omega) h9)) | ((rw [e3] at h9; replace h9 := znl (by omega) (by omega) h9)) | (replace h9 := sb_f h9) | (replace h9 := sb_t h9) | skip) | (with_reducible refine hK _ _ _ _ (sm_un ?_)) | (refine s_one_1 (gl := gl) (a := a) (hC.mono (by omega)) ‹a < 1› hR (hne ‹gl.length ≠ 0›) h1 (by omega) hg hw ?_))
  · have hz : gl.length = 0 := ‹_›
    exact hQ0 true (by rw [List.length_eq_zero_iff.mp hz]; exact tw_nil _ _)
  · have hl0 : gl.length ≠ 0 := ‹gl.length ≠ 0›
    obtain ⟨m, hm⟩ : ∃ m, n = m + 1 := ⟨n - 1, by omega⟩
    exact ⟨⟨lo m hm (hne hl0) 0 (Nat.zero_le _) G eqx_rfl (fun _ _ => rfl) (fun q hq => absurd hq (Nat.not_lt_zero _))⟩⟩
  · exfalso
    omega
  · have hl0 : gl.length ≠ 0 := ‹gl.length ≠ 0›
    obtain ⟨m, hm⟩ : ∃ m, n = m + 1 := ⟨n - 1, by omega⟩
    exact ⟨⟨lo m hm (hne hl0) 0 (Nat.zero_le _) G eqx_rfl (fun _ _ => rfl) (fun q hq => absurd hq (Nat.not_lt_zero _))⟩⟩
  · obtain rfl : n = 0 := by omega
    exact hQ0 false ‹one a gl = false›
  · exact hQ0 true (tw_one n 1 gl ‹a < 1› ‹one a gl = true›)
set_option maxRecDepth 100000 in
set_option maxHeartbeats 4000000 in
theorem s_told_0 (hC : sm_C 12 CT) (hD : cD S G) (hR : dR S) (hL : cL S G) {n : Nat} (hn : 0 + n = S 0 0) {a x v0 : Nat} (ha : a < S 0 0) (ea : G 20 3 = nI a) (eb : G 20 4 = nI (bz x (S 0 1))) (hv0 : v0 < S 0 1) (hx0 : inS x v0 = true) {gl : List (Nat → Nat)} (h1 : G 29 0 = nI gl.length) (hg : rwp S a 0 gl (G 22)) (hb : gl.length ≤ 2 ^ 0) (hw : ∀ w, w ∈ gl → ∀ i, i < 0 → w i < 4)
    (hQ : ∀ G', eqx [23, 24, 25, 26, 27, 28, 29] G G' → (∀ i, i ≤ 0 → G' 29 i = G 29 i) → Q (some (.int (sm_b (tw S x a n 0 gl)))) (hp G' L)) : CT 37 [.ref 20, .int (nI 0)] (hp G L) Q := by
  obtain ⟨r1, r2, r3, r4⟩ := id hR
  have h2p : (2 : Nat) ^ 0 ≤ 64 := by decide
  have f1 : G 29 (nI 0).toNatClampNeg = nI gl.length := by rw [zn_clI (show 0 < 2 ^ 31 by decide)]; exact h1
  have e3 := hD.1
  have hne : gl.length ≠ 0 → gl ≠ [] := fun z e => z (by rw [e]; rfl)
  have hQ0 : ∀ b, tw S x a n 0 gl = b → Q (some (.int (sm_b b))) (hp G L) := fun b e => by
    have z := hQ G eqx_rfl (fun _ _ => rfl)
    rw [e] at z
    exact z
  refine sm_meth hC [some (.ref 20), some (.int (nI 0)), none, none] rfl rfl rfl ?_
  have lo : ∀ m, n = m + 1 → gl ≠ [] → ∀ i, i ≤ 4 → ∀ G1, eqx [23, 24, 25, 26, 27, 28, 29] G G1 → (∀ j, j ≤ 0 → G1 29 j = G 29 j) → (∀ q, q < i → tw S x a m 1 (nx S x 0 q (hdp S 0 gl) gl 4) = true) → sm_Wk 11 37 Q none 44 [some (.ref 20), some (.int (nI 0)), some (.int (nI (bq 4 (fun p => bn (dn S x (hdp S 0 gl) i p))))), some (.int (nI i))] [] (hp G1 L) := by
    intro m hm hne
    subst hm
    have hf : hdp S 0 gl v0 < 4 := by
      cases gl with
      | nil => exact absurd rfl hne
      | cons w0 gr => exact ps_lt (r4 v0 hv0).2.1 _ (hw w0 List.mem_cons_self)
    refine up _ (fun i hi ih G1 hx1 hs1 ht => ?_)
    have fb : G1 20 4 = nI (bz x (S 0 1)) := by rw [hx1 20 rfl]; exact eb
    have fa : G1 20 3 = nI a := by rw [hx1 20 rfl]; exact ea
    have f11 : G1 29 0 = nI gl.length := by rw [hs1 0 (Nat.le_refl _)]; exact h1
    have fg : rwp S a 0 gl (G1 22) := by rw [hx1 22 rfl]; exact hg
    have hD1 := cD_x hx1 rfl hD
    have hL1 := cL_x hx1 rfl hL
    have hln : i < 4 → (nx S x 0 i (hdp S 0 gl) gl 4).length ≤ 2 ^ 1 := fun h4 => by
      have h5 := nx_len (S := S) (x := x) (h := 0) (q := i) (f := hdp S 0 gl) (gl := gl) 4
      have h6 := Nat.mul_le_mul_right gl.length (al_two hR hv0 hx0 hf h4)
      have h7 : (2 : Nat) ^ 1 = 2 * 2 ^ 0 := by decide
      omega
    have ebit : i < 4 → sm_shr (nI (bq 4 (fun p => bn (dn S x (hdp S 0 gl) i p)))) (nI i) &&& nI 1 = nI (bn (dn S x (hdp S 0 gl) i i)) := fun h4 => by
      have hlt := bq_lt (c := fun p => bn (dn S x (hdp S 0 gl) i p)) 4
      rw [bit_in (by omega) (by omega), inS_bq, decide_eq_true h4, Bool.true_and]
    refine sm_body [44] 120 sm_k37 (fun CT K hC hK => ?_)
    repeat' first
      | (with_reducible refine And.intro ?_ ?_)
      | ((with_reducible intro h9); first | exact absurd h9 (by decide) | (replace h9 := zle (by omega) (by omega) h9) | (replace h9 := znle (by omega) (by omega) h9) | ((rw [ebit ‹i < 4›] at h9; replace h9 := nz_eq h9)) | ((rw [ebit ‹i < 4›] at h9; replace h9 := nz_ne h9)) | (replace h9 := sb_f h9) | (replace h9 := sb_t h9) | skip)
      | (with_reducible exact zn_in (by omega) (by decide))
      | (with_reducible exact z01) | (with_reducible exact z11) | (with_reducible exact zb01 _)
      | (with_reducible exact zn_inb (by omega) (by decide))
      | (with_reducible exact zn_ina (by omega) (by decide))
      | (with_reducible exact zn_inc (by omega) (by decide))
      | ((conv => whnf); first | (with_reducible refine And.intro ?_ ?_) | ((with_reducible intro h9); first | exact absurd h9 (by decide) | (replace h9 := zle (by omega) (by omega) h9) | (replace h9 := znle (by omega) (by omega) h9) | ((rw [ebit ‹i < 4›] at h9; replace h9 := nz_eq h9)) | ((rw [ebit ‹i < 4›] at h9; replace h9 := nz_ne h9)) | (replace h9 := sb_f h9) | (replace h9 := sb_t h9) | skip) | (with_reducible refine hK _ _ _ _ (sm_un ?_)) | (refine s_fill_0 (gl := gl) (x := x) (hC.mono (by omega)) hD1 hR hL1 (by omega) ‹i < 4› fa (by omega) fb hv0 hx0 hne f11 fg hb hw (fun G2 hx2 hs2 hsz2 hrw2 => ?_)) | ((simp only [nI_add]; refine s_told_1 (n := m) (gl := nx S x 0 i (hdp S 0 gl) gl 4) (x := x) (hC.mono (by omega)) (cD_x hx2 rfl hD1) hR (cL_x hx2 rfl hL1) (by omega) ha (by rw [hx2 20 rfl]; exact fa) (by rw [hx2 20 rfl]; exact fb) hv0 hx0 hsz2 hrw2 (hln ‹i < 4›) (nx_lt (by decide) hw) (fun G3 hx3 hs3 => ?_))))
    · obtain rfl : i = 4 := by omega
      have e := hQ G1 hx1 hs1
      rw [tw_s.mpr ht] at e
      exact e
    · have hdn : dn S x (hdp S 0 gl) i i = true := h9
      have e := ih ‹i < 4› G1 hx1 hs1 (fun q hq => by
        by_cases z : q = i
        · subst z
          obtain ⟨q', hq', e'⟩ := dn_ex.mp hdn
          rw [nx_cg e' 4]
          exact ht q' hq'
        · exact ht q (by omega))
      have ed : (fun p => bn (dn S x (hdp S 0 gl) (i + 1) p)) = (fun p => bn (dn S x (hdp S 0 gl) i p)) := funext (fun p => by rw [dn_skip hdn])
      rw [ed] at e
      simp only [nI_add]; exact ⟨⟨e⟩⟩
    · have htw : tw S x a m 1 (nx S x 0 i (hdp S 0 gl) gl 4) = true := h9
      have e := ih ‹i < 4› G3 (eqx_trans hx1 (eqx_trans (eqx_sub rfl hx2) (eqx_sub rfl hx3))) (fun j hj => ((hs3 j (by omega)).trans (hs2 j (by omega))).trans (hs1 j hj)) (fun q hq => by
        by_cases z : q = i
        · subst z; exact htw
        · exact ht q (by omega))
      simp only [nI_add, zn_or, bq_or3]
      exact ⟨⟨e⟩⟩
    · have htw : tw S x a m 1 (nx S x 0 i (hdp S 0 gl) gl 4) = false := h9
      have e := hQ G3 (eqx_trans hx1 (eqx_trans (eqx_sub rfl hx2) (eqx_sub rfl hx3))) (fun j hj => ((hs3 j (by omega)).trans (hs2 j (by omega))).trans (hs1 j hj))
      refine zq (b_f ?_) e
      cases ho : tw S x a (m + 1) 0 gl with
      | false => rfl
      | true =>
        rw [tw_s.mp ho i ‹i < 4›] at htw
        exact htw
  refine sm_body [44] 80 sm_k37 (fun CT K hC hK => ?_)
  repeat' first
    | (with_reducible refine And.intro ?_ ?_)
    | ((with_reducible intro h9); first | exact absurd h9 (by decide) | ((rw [f1] at h9; replace h9 := zneq h9)) | ((rw [f1] at h9; replace h9 := zeq (b := 0) (by omega) (by omega) h9)) | ((rw [ea] at h9; replace h9 := zle (by omega) (by omega) h9)) | ((rw [ea] at h9; replace h9 := znle (by omega) (by omega) h9; exact absurd h9 (Nat.not_lt_zero _))) | ((rw [e3] at h9; replace h9 := zlt (by omega) (by omega) h9)) | ((rw [e3] at h9; replace h9 := znl (by omega) (by omega) h9)) | (replace h9 := sb_f h9) | (replace h9 := sb_t h9) | skip)
    | (with_reducible exact zn_in (by omega) (by decide))
    | (with_reducible exact z01) | (with_reducible exact z11) | (with_reducible exact zb01 _)
    | (with_reducible exact zn_inb (by omega) (by decide))
    | (with_reducible exact zn_ina (by omega) (by decide))
    | (with_reducible exact zn_inc (by omega) (by decide))
    | ((conv => whnf); first | (with_reducible refine And.intro ?_ ?_) | ((with_reducible intro h9); first | exact absurd h9 (by decide) | ((rw [f1] at h9; replace h9 := zneq h9)) | ((rw [f1] at h9; replace h9 := zeq (b := 0) (by omega) (by omega) h9)) | ((rw [ea] at h9; replace h9 := zle (by omega) (by omega) h9)) | ((rw [ea] at h9; replace h9 := znle (by omega) (by omega) h9; exact absurd h9 (Nat.not_lt_zero _))) | ((rw [e3] at h9; replace h9 := zlt (by omega) (by omega) h9)) | ((rw [e3] at h9; replace h9 := znl (by omega) (by omega) h9)) | (replace h9 := sb_f h9) | (replace h9 := sb_t h9) | skip) | (with_reducible refine hK _ _ _ _ (sm_un ?_)))
  · have hz : gl.length = 0 := ‹_›
    exact hQ0 true (by rw [List.length_eq_zero_iff.mp hz]; exact tw_nil _ _)
  · have hl0 : gl.length ≠ 0 := ‹gl.length ≠ 0›
    obtain ⟨m, hm⟩ : ∃ m, n = m + 1 := ⟨n - 1, by omega⟩
    exact ⟨⟨lo m hm (hne hl0) 0 (Nat.zero_le _) G eqx_rfl (fun _ _ => rfl) (fun q hq => absurd hq (Nat.not_lt_zero _))⟩⟩
  · exfalso
    omega
end TOLD
