/-! proof of the class: the groups. -/
/-- a way in a group ahead of hour h, the hour a being asked: as the row has it -/
def en (S : Nat → Nat → Nat) (a h : Nat) (w : Nat → Nat) : Nat := (if a < h then w a else 0) * 256 + zp (S 0 1) (fun v => ps S w v h)
def rwp (S : Nat → Nat → Nat) (a h : Nat) (gl : List (Nat → Nat)) (g : Nat → Int32) : Prop := ∀ i w, gl[i]? = some w → g i = nI (en S a h w)
def okw (S : Nat → Nat → Nat) (h q : Nat) (w : Nat → Nat) : Bool := ag S h (fun v => ps S (su w h q) v (h + 1))
def ext (S : Nat → Nat → Nat) (h q : Nat) (gl : List (Nat → Nat)) : List (Nat → Nat) := (gl.filter (okw S h q)).map (fun w => su w h q)
theorem ext_le {S : Nat → Nat → Nat} {h q : Nat} {gl : List (Nat → Nat)} : (ext S h q gl).length ≤ gl.length := by
  unfold ext
  rw [List.length_map]
  exact List.length_filter_le _ _
theorem ext_t {S : Nat → Nat → Nat} {h q i : Nat} {gl : List (Nat → Nat)} {w : Nat → Nat} (hw : gl[i]? = some w) (ho : okw S h q w = true) : ext S h q (gl.take (i + 1)) = ext S h q (gl.take i) ++ [su w h q] := by
  unfold ext
  rw [List.take_add_one, hw, List.filter_append, List.map_append]
  simp [ho]
theorem ext_f {S : Nat → Nat → Nat} {h q i : Nat} {gl : List (Nat → Nat)} {w : Nat → Nat} (hw : gl[i]? = some w) (ho : okw S h q w = false) : ext S h q (gl.take (i + 1)) = ext S h q (gl.take i) := by
  unfold ext
  rw [List.take_add_one, hw, List.filter_append, List.map_append]
  simp [ho]
theorem rwp_app {S : Nat → Nat → Nat} {a h x : Nat} {gl : List (Nat → Nat)} {w : Nat → Nat} {g : Nat → Int32} (hg : rwp S a h gl g) (e : x = en S a h w) : rwp S a h (gl ++ [w]) (su g gl.length (nI x)) := by
  intro i u hu
  rw [su_if]
  by_cases hi : i < gl.length
  · rw [List.getElem?_append_left hi] at hu
    rw [if_f (by omega)]
    exact hg i u hu
  · rw [List.getElem?_append_right (by omega)] at hu
    by_cases h0 : i = gl.length
    · subst h0
      rw [Nat.sub_self] at hu
      rw [if_t rfl, e]
      have : w = u := Option.some.inj hu
      rw [this]
    · obtain ⟨k, hk⟩ : ∃ k, i - gl.length = k + 1 := ⟨i - gl.length - 1, by omega⟩
      rw [hk] at hu
      exact absurd hu (by simp)
theorem e_255 {k z : Nat} (hz : z < 256) : nI (k * 256 + z) &&& nI 255 = nI z := by
  rw [zn_and]
  apply nI_i
  have : (k * 256 + z) &&& 255 = (k * 256 + z) % 256 := Nat.and_two_pow_sub_one_eq_mod _ 8
  omega
theorem e_sh8 {k z : Nat} (hz : z < 256) (hk : k < 8) : sm_shr (nI (k * 256 + z)) (nI 8) = nI k := by
  rw [zn_shr (by omega) (by decide)]
  apply nI_i
  have : (2 : Nat) ^ 8 = 256 := rfl
  rw [this]
  omega
theorem e_up8 {k z : Nat} (hz : z < 256) : sm_shl (nI k) (nI 8) ||| nI z = nI (k * 256 + z) := by
  rw [zn_shl (by decide), zn_or]
  apply nI_i
  rw [Nat.mul_comm k, ← Nat.two_pow_add_eq_or_of_lt hz]
theorem kw_lt {a h : Nat} {w : Nat → Nat} (hw : ∀ i, i < h → w i < 4) : (if a < h then w a else 0) < 4 := by
  split
  · exact hw a ‹_›
  · decide
section BLOW
variable {CT : sm_CT} {G : Nat → Nat → Int32} {L : Nat → Nat → Int64} {Q : sm_Q} {S : Nat → Nat → Nat} {c : Nat} {h : sm_H}
set_option maxRecDepth 100000 in
set_option maxHeartbeats 4000000 in
theorem s_blow_0 (hC : sm_C 4 CT) (hD : cD S G) (hR : dR S) (hL : cL S G) (hh : 0 < S 0 0) {a q : Nat} (hq : q < 4) (ea : G 20 3 = nI a) (ha : a < 6) {gl nl : List (Nat → Nat)} (h1 : G 29 0 = nI gl.length) (h2 : G 29 1 = nI nl.length) (hg : rwp S a 0 gl (G 22)) (hn : rwp S a 1 nl (G 23)) (hb : nl.length + gl.length ≤ 64) (hw : ∀ w, w ∈ gl → ∀ i, i < 0 → w i < 4)
    (hQ : ∀ G', eqx [23, 29] G G' → (∀ i, i ≠ 1 → G' 29 i = G 29 i) → G' 29 1 = nI (nl ++ ext S 0 q gl).length → rwp S a 1 (nl ++ ext S 0 q gl) (G' 23) → Q none (hp G' L)) : CT 40 [.ref 20, .int (nI 0), .int (nI q)] (hp G L) Q := by
  obtain ⟨r1, r2, r3, r4⟩ := id hR
  refine sm_meth hC [some (.ref 20), some (.int (nI 0)), some (.int (nI q)), none, none, none, none, none, none] rfl rfl rfl ?_
  have lo : ∀ i, i ≤ gl.length → ∀ o6 o7 o8 G1, eqx [23, 29] G G1 → (∀ i, i ≠ 1 → G1 29 i = G 29 i) → G1 29 1 = nI (nl ++ ext S 0 q (gl.take i)).length → rwp S a 1 (nl ++ ext S 0 q (gl.take i)) (G1 23) → sm_Wk 3 40 Q none 20 [some (.ref 20), some (.int (nI 0)), some (.int (nI q)), some (.ref 22), some (.ref 23), some (.int (nI i)), o6, o7, o8] [] (hp G1 L) := by
    refine up _ (fun i hi ih o6 o7 o8 G1 hx hs29 hsz hrw => ?_)
    have f1 : G1 29 (nI 0).toNatClampNeg = nI gl.length := by rw [zn_clI (show 0 < 2 ^ 31 by decide), hs29 0 (by decide)]; exact h1
    have fa : G1 20 3 = nI a := by rw [hx 20 rfl]; exact ea
    have fP : G1 22 = G 22 := hx 22 rfl
    have hD1 := cD_x hx rfl hD
    have hL1 := cL_x hx rfl hL
    by_cases hl : i < gl.length
    · obtain ⟨w, hwi⟩ : ∃ w, gl[i]? = some w := ⟨gl[i], List.getElem?_eq_getElem hl⟩
      have hwm : w ∈ gl := List.mem_of_getElem? hwi
      have hw4 := hw w hwm
      have hp4 : ∀ v, v < S 0 1 → ps S w v 0 < 4 := fun v hv => ps_lt (r4 v hv).2.1 _ hw4
      have hp5 : ∀ v, v < S 0 1 → ps S (su w 0 q) v 1 < 4 := fun v hv => ps_lt (r4 v hv).2.1 _ (fun j hj => by
        rw [su_if]
        by_cases e : j = 0
        · rw [if_t e]; exact hq
        · rw [if_f e]; exact hw4 j (by omega))
      have hz := zp_256 r2 hp4
      have hz5 := zp_256 r2 hp5
      have hk4 := kw_lt (a := a) hw4
      have egi : G1 22 i = nI ((if a < 0 then w a else 0) * 256 + zp (S 0 1) (fun v => ps S w v 0)) := by rw [fP]; exact hg i w hwi
      have ept : (fun v => tv S v (ps S w v 0) q) = fun v => ps S (su w 0 q) v 1 := (ps_su (h := 0)).symm
      have hel := ext_le (S := S) (h := 0) (q := q) (gl := gl.take i)
      rw [List.length_take] at hel
      have hlen : (nl ++ ext S 0 q (gl.take i)).length < 64 := by rw [List.length_append]; omega
      have e1i : (nI 0 + nI 1).toNatClampNeg = 1 := by rw [nI_add, zn_clI (show 0 + 1 < 2 ^ 31 by decide)]
      have fs1 : G1 29 (nI 0 + nI 1).toNatClampNeg = nI (nl ++ ext S 0 q (gl.take i)).length := by rw [e1i]; exact hsz
      have e8 : sm_shr (nI ((if a < 0 then w a else 0) * 256 + zp (S 0 1) (fun v => ps S w v 0))) (nI 8) = nI (if a < 0 then w a else 0) := e_sh8 hz (by omega)
      refine sm_body [20] 120 sm_k40 (fun CT K hC hK => ?_)
      repeat' first
        | (with_reducible refine And.intro ?_ ?_)
        | ((with_reducible intro h9); first | exact absurd h9 (by decide) | ((rw [f1] at h9; replace h9 := zle (by omega) (by omega) h9)) | ((rw [f1] at h9; replace h9 := znle (by omega) (by omega) h9)) | (exact absurd hl (by omega)) | (replace h9 := sb_f h9) | (replace h9 := sb_t h9) | ((have h8 : nI 64 ≤ G1 29 (nI 0 + nI 1).toNatClampNeg := h9; rw [fs1] at h8; have h8 := zle (by omega) (by omega) h8; exfalso; omega)) | ((rw [fa] at h9; replace h9 := zneq h9)) | ((rw [fa] at h9; replace h9 := zeq (by omega) (by omega) h9)) | skip)
        | (with_reducible exact zn_in (by omega) (by decide))
        | (with_reducible exact z01) | (with_reducible exact z11) | (with_reducible exact zb01 _)
        | (with_reducible exact zn_inb (by omega) (by decide))
        | (with_reducible exact zn_ina (by omega) (by decide))
        | (with_reducible exact zn_inc (by omega) (by decide))
        | ((conv => whnf); first | (with_reducible refine And.intro ?_ ?_) | ((with_reducible intro h9); first | exact absurd h9 (by decide) | ((rw [f1] at h9; replace h9 := zle (by omega) (by omega) h9)) | ((rw [f1] at h9; replace h9 := znle (by omega) (by omega) h9)) | (exact absurd hl (by omega)) | (replace h9 := sb_f h9) | (replace h9 := sb_t h9) | ((have h8 : nI 64 ≤ G1 29 (nI 0 + nI 1).toNatClampNeg := h9; rw [fs1] at h8; have h8 := zle (by omega) (by omega) h8; exfalso; omega)) | ((rw [fa] at h9; replace h9 := zneq h9)) | ((rw [fa] at h9; replace h9 := zeq (by omega) (by omega) h9)) | skip) | (with_reducible refine hK _ _ _ _ (sm_un ?_)) | ((simp only [zn_clI (show i < 2 ^ 31 by omega), egi, e_255 hz]; refine s_turnedPose (hC.mono (by omega)) hD1 hR hp4 hq ?_; rw [ept])) | ((rw [fs1]; exact zn_in hlen (by decide))) | (refine s_agrees (hC.mono (by omega)) hD1 hR hL1 hp5 hh ?_))
      · exact absurd h9 (by omega)
      · have e := fun o7 o8 => ih hl (some (.int (nI (zp (S 0 1) (fun v => ps S (su w 0 q) v 1))))) o7 o8 G1 hx hs29
        rw [ext_f hwi h9] at e
        simp only [nI_add]; exact ⟨⟨e _ _ hsz hrw⟩⟩
      · have e := fun o7 o8 => ih hl (some (.int (nI (zp (S 0 1) (fun v => ps S (su w 0 q) v 1))))) o7 o8 (su (su G1 23 (su (G1 23) (nl ++ ext S 0 q (gl.take i)).length (nI ((if a < 0 then w a else 0) * 256 + zp (S 0 1) (fun v => ps S (su w 0 q) v 1))))) 29 (su (G1 29) 1 (nI ((nl ++ ext S 0 q (gl.take i)).length + 1)))) (eqx_su 29 _ rfl (eqx_su 23 _ rfl hx)) (fun j hj => by show su (G1 29) 1 _ j = _; rw [su_if, if_f hj]; exact hs29 j hj)
        rw [ext_t hwi ‹(ag S 0 fun v => ps S (su w 0 q) v 1) = true›, ← List.append_assoc] at e
        simp only [zn_clI (show i < 2 ^ 31 by omega), e1i, egi, e8, e_up8 hz5, hp_0, hp_1, hp_2, hp_3, hp_4, hp_5, hp_6, hp_7, hp_8, hp_9, hp_10, hp_11, hp_12, hp_13, hp_14, hp_15, hp_16, hp_17, hp_18, hp_19, hp_20, hp_22, hp_23, hp_24, hp_25, hp_26, hp_27, hp_28, hp_29, hp_30, hp_31, hp_32, hp_33, hp_34, hp_35, hp_36, hp_37, hp_38, hp_39, hp_40, hp_41, hp_42, hp_43, hp_44, hp_45, hp_46, hp_47, hp_48, hp_49, hf0_5, hf0_6, hf0_7, hf1_1, hf3_0, hf3_2, hf3_6, hf10_0, hf10_2, hf10_6, hf17_3, hf17_4, hf20_3, hf20_4, hf30_0, hf30_1, hf30_3, hf30_7, hf30_11, hf30_12, hf30_20, hf30_22, hf30_23, hf30_24, hf30_25, hf30_21, hf30_31, upd_su, updL_su]
        simp only [hsz, nI_add, zn_clI (show (nl ++ ext S 0 q (gl.take i)).length < 2 ^ 31 by omega)]
        refine ⟨⟨e _ _ ?_ ?_⟩⟩
        · show su (G1 29) 1 _ 1 = _
          rw [su_eq]
          exact nI_i (by simp only [List.length_append, List.length_cons, List.length_nil])
        · refine rwp_app hrw ?_
          unfold en
          by_cases z : a < 0
          · rw [if_t z, if_t (show a < 1 by omega), su_if, if_f (show ¬ a = 0 by omega)]
          · rw [if_f z, if_f (show ¬ a < 1 by omega)]
      · have e := fun o7 o8 => ih hl (some (.int (nI (zp (S 0 1) (fun v => ps S (su w 0 q) v 1))))) o7 o8 G1 hx hs29
        rw [ext_f hwi h9] at e
        simp only [nI_add]; exact ⟨⟨e _ _ hsz hrw⟩⟩
      · have e := fun o7 o8 => ih hl (some (.int (nI (zp (S 0 1) (fun v => ps S (su w 0 q) v 1))))) o7 o8 (su (su G1 23 (su (G1 23) (nl ++ ext S 0 q (gl.take i)).length (nI (q * 256 + zp (S 0 1) (fun v => ps S (su w 0 q) v 1))))) 29 (su (G1 29) 1 (nI ((nl ++ ext S 0 q (gl.take i)).length + 1)))) (eqx_su 29 _ rfl (eqx_su 23 _ rfl hx)) (fun j hj => by show su (G1 29) 1 _ j = _; rw [su_if, if_f hj]; exact hs29 j hj)
        rw [ext_t hwi ‹(ag S 0 fun v => ps S (su w 0 q) v 1) = true›, ← List.append_assoc] at e
        simp only [e1i, e_up8 hz5, hp_0, hp_1, hp_2, hp_3, hp_4, hp_5, hp_6, hp_7, hp_8, hp_9, hp_10, hp_11, hp_12, hp_13, hp_14, hp_15, hp_16, hp_17, hp_18, hp_19, hp_20, hp_22, hp_23, hp_24, hp_25, hp_26, hp_27, hp_28, hp_29, hp_30, hp_31, hp_32, hp_33, hp_34, hp_35, hp_36, hp_37, hp_38, hp_39, hp_40, hp_41, hp_42, hp_43, hp_44, hp_45, hp_46, hp_47, hp_48, hp_49, hf0_5, hf0_6, hf0_7, hf1_1, hf3_0, hf3_2, hf3_6, hf10_0, hf10_2, hf10_6, hf17_3, hf17_4, hf20_3, hf20_4, hf30_0, hf30_1, hf30_3, hf30_7, hf30_11, hf30_12, hf30_20, hf30_22, hf30_23, hf30_24, hf30_25, hf30_21, hf30_31, upd_su, updL_su]
        simp only [hsz, nI_add, zn_clI (show (nl ++ ext S 0 q (gl.take i)).length < 2 ^ 31 by omega)]
        refine ⟨⟨e _ _ ?_ ?_⟩⟩
        · show su (G1 29) 1 _ 1 = _
          rw [su_eq]
          exact nI_i (by simp only [List.length_append, List.length_cons, List.length_nil])
        · refine rwp_app hrw ?_
          unfold en
          rw [if_t (show a < 1 by omega), su_if, if_t (show a = 0 by omega)]
    · refine sm_body [20] 120 sm_k40 (fun CT K hC hK => ?_)
      repeat' first
        | (with_reducible refine And.intro ?_ ?_)
        | ((with_reducible intro h9); first | exact absurd h9 (by decide) | ((rw [f1] at h9; replace h9 := zle (by omega) (by omega) h9)) | ((rw [f1] at h9; replace h9 := znle (by omega) (by omega) h9)) | skip)
        | (with_reducible exact zn_in (by omega) (by decide))
        | (with_reducible exact z01) | (with_reducible exact z11) | (with_reducible exact zb01 _)
        | (with_reducible exact zn_inb (by omega) (by decide))
        | (with_reducible exact zn_ina (by omega) (by decide))
        | (with_reducible exact zn_inc (by omega) (by decide))
        | ((conv => whnf); first | (with_reducible refine And.intro ?_ ?_) | ((with_reducible intro h9); first | exact absurd h9 (by decide) | ((rw [f1] at h9; replace h9 := zle (by omega) (by omega) h9)) | ((rw [f1] at h9; replace h9 := znle (by omega) (by omega) h9)) | skip) | (with_reducible refine hK _ _ _ _ (sm_un ?_)))
      all_goals first | exact absurd ‹i < gl.length› hl | skip
      rw [List.take_of_length_le (by omega)] at hsz hrw
      exact hQ G1 hx hs29 hsz hrw
  refine sm_body [20] 60 sm_k40 (fun CT K hC hK => ?_)
  repeat' first
    | (with_reducible refine And.intro ?_ ?_)
    | ((with_reducible intro h9); first | exact absurd h9 (by decide) | skip)
    | (with_reducible exact zn_in (by omega) (by decide))
    | (with_reducible exact z01) | (with_reducible exact z11) | (with_reducible exact zb01 _)
    | (with_reducible exact zn_inb (by omega) (by decide))
    | (with_reducible exact zn_ina (by omega) (by decide))
    | (with_reducible exact zn_inc (by omega) (by decide))
    | ((conv => whnf); first | (with_reducible refine And.intro ?_ ?_) | ((with_reducible intro h9); first | exact absurd h9 (by decide) | skip) | (with_reducible refine hK _ _ _ _ (sm_un ?_)) | (refine Exists.intro 22 (And.intro rfl ?_)) | (refine Exists.intro 23 (And.intro rfl ?_)))
  refine ⟨⟨lo 0 (Nat.zero_le _) _ _ _ G eqx_rfl (fun _ _ => rfl) ?_ ?_⟩⟩
  · show G 29 1 = nI (nl ++ []).length
    rw [List.append_nil]; exact h2
  · show rwp S a 1 (nl ++ []) (G 23)
    rw [List.append_nil]; exact hn
set_option maxRecDepth 100000 in
set_option maxHeartbeats 4000000 in
theorem s_blow_1 (hC : sm_C 4 CT) (hD : cD S G) (hR : dR S) (hL : cL S G) (hh : 1 < S 0 0) {a q : Nat} (hq : q < 4) (ea : G 20 3 = nI a) (ha : a < 6) {gl nl : List (Nat → Nat)} (h1 : G 29 1 = nI gl.length) (h2 : G 29 2 = nI nl.length) (hg : rwp S a 1 gl (G 23)) (hn : rwp S a 2 nl (G 24)) (hb : nl.length + gl.length ≤ 64) (hw : ∀ w, w ∈ gl → ∀ i, i < 1 → w i < 4)
    (hQ : ∀ G', eqx [24, 29] G G' → (∀ i, i ≠ 2 → G' 29 i = G 29 i) → G' 29 2 = nI (nl ++ ext S 1 q gl).length → rwp S a 2 (nl ++ ext S 1 q gl) (G' 24) → Q none (hp G' L)) : CT 40 [.ref 20, .int (nI 1), .int (nI q)] (hp G L) Q := by
  obtain ⟨r1, r2, r3, r4⟩ := id hR
  refine sm_meth hC [some (.ref 20), some (.int (nI 1)), some (.int (nI q)), none, none, none, none, none, none] rfl rfl rfl ?_
  have lo : ∀ i, i ≤ gl.length → ∀ o6 o7 o8 G1, eqx [24, 29] G G1 → (∀ i, i ≠ 2 → G1 29 i = G 29 i) → G1 29 2 = nI (nl ++ ext S 1 q (gl.take i)).length → rwp S a 2 (nl ++ ext S 1 q (gl.take i)) (G1 24) → sm_Wk 3 40 Q none 20 [some (.ref 20), some (.int (nI 1)), some (.int (nI q)), some (.ref 23), some (.ref 24), some (.int (nI i)), o6, o7, o8] [] (hp G1 L) := by
    refine up _ (fun i hi ih o6 o7 o8 G1 hx hs29 hsz hrw => ?_)
    have f1 : G1 29 (nI 1).toNatClampNeg = nI gl.length := by rw [zn_clI (show 1 < 2 ^ 31 by decide), hs29 1 (by decide)]; exact h1
    have fa : G1 20 3 = nI a := by rw [hx 20 rfl]; exact ea
    have fP : G1 23 = G 23 := hx 23 rfl
    have hD1 := cD_x hx rfl hD
    have hL1 := cL_x hx rfl hL
    by_cases hl : i < gl.length
    · obtain ⟨w, hwi⟩ : ∃ w, gl[i]? = some w := ⟨gl[i], List.getElem?_eq_getElem hl⟩
      have hwm : w ∈ gl := List.mem_of_getElem? hwi
      have hw4 := hw w hwm
      have hp4 : ∀ v, v < S 0 1 → ps S w v 1 < 4 := fun v hv => ps_lt (r4 v hv).2.1 _ hw4
      have hp5 : ∀ v, v < S 0 1 → ps S (su w 1 q) v 2 < 4 := fun v hv => ps_lt (r4 v hv).2.1 _ (fun j hj => by
        rw [su_if]
        by_cases e : j = 1
        · rw [if_t e]; exact hq
        · rw [if_f e]; exact hw4 j (by omega))
      have hz := zp_256 r2 hp4
      have hz5 := zp_256 r2 hp5
      have hk4 := kw_lt (a := a) hw4
      have egi : G1 23 i = nI ((if a < 1 then w a else 0) * 256 + zp (S 0 1) (fun v => ps S w v 1)) := by rw [fP]; exact hg i w hwi
      have ept : (fun v => tv S v (ps S w v 1) q) = fun v => ps S (su w 1 q) v 2 := (ps_su (h := 1)).symm
      have hel := ext_le (S := S) (h := 1) (q := q) (gl := gl.take i)
      rw [List.length_take] at hel
      have hlen : (nl ++ ext S 1 q (gl.take i)).length < 64 := by rw [List.length_append]; omega
      have e1i : (nI 1 + nI 1).toNatClampNeg = 2 := by rw [nI_add, zn_clI (show 1 + 1 < 2 ^ 31 by decide)]
      have fs1 : G1 29 (nI 1 + nI 1).toNatClampNeg = nI (nl ++ ext S 1 q (gl.take i)).length := by rw [e1i]; exact hsz
      have e8 : sm_shr (nI ((if a < 1 then w a else 0) * 256 + zp (S 0 1) (fun v => ps S w v 1))) (nI 8) = nI (if a < 1 then w a else 0) := e_sh8 hz (by omega)
      refine sm_body [20] 120 sm_k40 (fun CT K hC hK => ?_)
      repeat' first
        | (with_reducible refine And.intro ?_ ?_)
        | ((with_reducible intro h9); first | exact absurd h9 (by decide) | ((rw [f1] at h9; replace h9 := zle (by omega) (by omega) h9)) | ((rw [f1] at h9; replace h9 := znle (by omega) (by omega) h9)) | (exact absurd hl (by omega)) | (replace h9 := sb_f h9) | (replace h9 := sb_t h9) | ((have h8 : nI 64 ≤ G1 29 (nI 1 + nI 1).toNatClampNeg := h9; rw [fs1] at h8; have h8 := zle (by omega) (by omega) h8; exfalso; omega)) | ((rw [fa] at h9; replace h9 := zneq h9)) | ((rw [fa] at h9; replace h9 := zeq (by omega) (by omega) h9)) | skip)
        | (with_reducible exact zn_in (by omega) (by decide))
        | (with_reducible exact z01) | (with_reducible exact z11) | (with_reducible exact zb01 _)
        | (with_reducible exact zn_inb (by omega) (by decide))
        | (with_reducible exact zn_ina (by omega) (by decide))
        | (with_reducible exact zn_inc (by omega) (by decide))
        | ((conv => whnf); first | (with_reducible refine And.intro ?_ ?_) | ((with_reducible intro h9); first | exact absurd h9 (by decide) | ((rw [f1] at h9; replace h9 := zle (by omega) (by omega) h9)) | ((rw [f1] at h9; replace h9 := znle (by omega) (by omega) h9)) | (exact absurd hl (by omega)) | (replace h9 := sb_f h9) | (replace h9 := sb_t h9) | ((have h8 : nI 64 ≤ G1 29 (nI 1 + nI 1).toNatClampNeg := h9; rw [fs1] at h8; have h8 := zle (by omega) (by omega) h8; exfalso; omega)) | ((rw [fa] at h9; replace h9 := zneq h9)) | ((rw [fa] at h9; replace h9 := zeq (by omega) (by omega) h9)) | skip) | (with_reducible refine hK _ _ _ _ (sm_un ?_)) | ((simp only [zn_clI (show i < 2 ^ 31 by omega), egi, e_255 hz]; refine s_turnedPose (hC.mono (by omega)) hD1 hR hp4 hq ?_; rw [ept])) | ((rw [fs1]; exact zn_in hlen (by decide))) | (refine s_agrees (hC.mono (by omega)) hD1 hR hL1 hp5 hh ?_))
      · exact absurd h9 (by omega)
      · have e := fun o7 o8 => ih hl (some (.int (nI (zp (S 0 1) (fun v => ps S (su w 1 q) v 2))))) o7 o8 G1 hx hs29
        rw [ext_f hwi h9] at e
        simp only [nI_add]; exact ⟨⟨e _ _ hsz hrw⟩⟩
      · have e := fun o7 o8 => ih hl (some (.int (nI (zp (S 0 1) (fun v => ps S (su w 1 q) v 2))))) o7 o8 (su (su G1 24 (su (G1 24) (nl ++ ext S 1 q (gl.take i)).length (nI ((if a < 1 then w a else 0) * 256 + zp (S 0 1) (fun v => ps S (su w 1 q) v 2))))) 29 (su (G1 29) 2 (nI ((nl ++ ext S 1 q (gl.take i)).length + 1)))) (eqx_su 29 _ rfl (eqx_su 24 _ rfl hx)) (fun j hj => by show su (G1 29) 2 _ j = _; rw [su_if, if_f hj]; exact hs29 j hj)
        rw [ext_t hwi ‹(ag S 1 fun v => ps S (su w 1 q) v 2) = true›, ← List.append_assoc] at e
        simp only [zn_clI (show i < 2 ^ 31 by omega), e1i, egi, e8, e_up8 hz5, hp_0, hp_1, hp_2, hp_3, hp_4, hp_5, hp_6, hp_7, hp_8, hp_9, hp_10, hp_11, hp_12, hp_13, hp_14, hp_15, hp_16, hp_17, hp_18, hp_19, hp_20, hp_22, hp_23, hp_24, hp_25, hp_26, hp_27, hp_28, hp_29, hp_30, hp_31, hp_32, hp_33, hp_34, hp_35, hp_36, hp_37, hp_38, hp_39, hp_40, hp_41, hp_42, hp_43, hp_44, hp_45, hp_46, hp_47, hp_48, hp_49, hf0_5, hf0_6, hf0_7, hf1_1, hf3_0, hf3_2, hf3_6, hf10_0, hf10_2, hf10_6, hf17_3, hf17_4, hf20_3, hf20_4, hf30_0, hf30_1, hf30_3, hf30_7, hf30_11, hf30_12, hf30_20, hf30_22, hf30_23, hf30_24, hf30_25, hf30_21, hf30_31, upd_su, updL_su]
        simp only [hsz, nI_add, zn_clI (show (nl ++ ext S 1 q (gl.take i)).length < 2 ^ 31 by omega)]
        refine ⟨⟨e _ _ ?_ ?_⟩⟩
        · show su (G1 29) 2 _ 2 = _
          rw [su_eq]
          exact nI_i (by simp only [List.length_append, List.length_cons, List.length_nil])
        · refine rwp_app hrw ?_
          unfold en
          by_cases z : a < 1
          · rw [if_t z, if_t (show a < 2 by omega), su_if, if_f (show ¬ a = 1 by omega)]
          · rw [if_f z, if_f (show ¬ a < 2 by omega)]
      · have e := fun o7 o8 => ih hl (some (.int (nI (zp (S 0 1) (fun v => ps S (su w 1 q) v 2))))) o7 o8 G1 hx hs29
        rw [ext_f hwi h9] at e
        simp only [nI_add]; exact ⟨⟨e _ _ hsz hrw⟩⟩
      · have e := fun o7 o8 => ih hl (some (.int (nI (zp (S 0 1) (fun v => ps S (su w 1 q) v 2))))) o7 o8 (su (su G1 24 (su (G1 24) (nl ++ ext S 1 q (gl.take i)).length (nI (q * 256 + zp (S 0 1) (fun v => ps S (su w 1 q) v 2))))) 29 (su (G1 29) 2 (nI ((nl ++ ext S 1 q (gl.take i)).length + 1)))) (eqx_su 29 _ rfl (eqx_su 24 _ rfl hx)) (fun j hj => by show su (G1 29) 2 _ j = _; rw [su_if, if_f hj]; exact hs29 j hj)
        rw [ext_t hwi ‹(ag S 1 fun v => ps S (su w 1 q) v 2) = true›, ← List.append_assoc] at e
        simp only [e1i, e_up8 hz5, hp_0, hp_1, hp_2, hp_3, hp_4, hp_5, hp_6, hp_7, hp_8, hp_9, hp_10, hp_11, hp_12, hp_13, hp_14, hp_15, hp_16, hp_17, hp_18, hp_19, hp_20, hp_22, hp_23, hp_24, hp_25, hp_26, hp_27, hp_28, hp_29, hp_30, hp_31, hp_32, hp_33, hp_34, hp_35, hp_36, hp_37, hp_38, hp_39, hp_40, hp_41, hp_42, hp_43, hp_44, hp_45, hp_46, hp_47, hp_48, hp_49, hf0_5, hf0_6, hf0_7, hf1_1, hf3_0, hf3_2, hf3_6, hf10_0, hf10_2, hf10_6, hf17_3, hf17_4, hf20_3, hf20_4, hf30_0, hf30_1, hf30_3, hf30_7, hf30_11, hf30_12, hf30_20, hf30_22, hf30_23, hf30_24, hf30_25, hf30_21, hf30_31, upd_su, updL_su]
        simp only [hsz, nI_add, zn_clI (show (nl ++ ext S 1 q (gl.take i)).length < 2 ^ 31 by omega)]
        refine ⟨⟨e _ _ ?_ ?_⟩⟩
        · show su (G1 29) 2 _ 2 = _
          rw [su_eq]
          exact nI_i (by simp only [List.length_append, List.length_cons, List.length_nil])
        · refine rwp_app hrw ?_
          unfold en
          rw [if_t (show a < 2 by omega), su_if, if_t (show a = 1 by omega)]
    · refine sm_body [20] 120 sm_k40 (fun CT K hC hK => ?_)
      repeat' first
        | (with_reducible refine And.intro ?_ ?_)
        | ((with_reducible intro h9); first | exact absurd h9 (by decide) | ((rw [f1] at h9; replace h9 := zle (by omega) (by omega) h9)) | ((rw [f1] at h9; replace h9 := znle (by omega) (by omega) h9)) | skip)
        | (with_reducible exact zn_in (by omega) (by decide))
        | (with_reducible exact z01) | (with_reducible exact z11) | (with_reducible exact zb01 _)
        | (with_reducible exact zn_inb (by omega) (by decide))
        | (with_reducible exact zn_ina (by omega) (by decide))
        | (with_reducible exact zn_inc (by omega) (by decide))
        | ((conv => whnf); first | (with_reducible refine And.intro ?_ ?_) | ((with_reducible intro h9); first | exact absurd h9 (by decide) | ((rw [f1] at h9; replace h9 := zle (by omega) (by omega) h9)) | ((rw [f1] at h9; replace h9 := znle (by omega) (by omega) h9)) | skip) | (with_reducible refine hK _ _ _ _ (sm_un ?_)))
      all_goals first | exact absurd ‹i < gl.length› hl | skip
      rw [List.take_of_length_le (by omega)] at hsz hrw
      exact hQ G1 hx hs29 hsz hrw
  refine sm_body [20] 60 sm_k40 (fun CT K hC hK => ?_)
  repeat' first
    | (with_reducible refine And.intro ?_ ?_)
    | ((with_reducible intro h9); first | exact absurd h9 (by decide) | skip)
    | (with_reducible exact zn_in (by omega) (by decide))
    | (with_reducible exact z01) | (with_reducible exact z11) | (with_reducible exact zb01 _)
    | (with_reducible exact zn_inb (by omega) (by decide))
    | (with_reducible exact zn_ina (by omega) (by decide))
    | (with_reducible exact zn_inc (by omega) (by decide))
    | ((conv => whnf); first | (with_reducible refine And.intro ?_ ?_) | ((with_reducible intro h9); first | exact absurd h9 (by decide) | skip) | (with_reducible refine hK _ _ _ _ (sm_un ?_)) | (refine Exists.intro 23 (And.intro rfl ?_)) | (refine Exists.intro 24 (And.intro rfl ?_)))
  refine ⟨⟨lo 0 (Nat.zero_le _) _ _ _ G eqx_rfl (fun _ _ => rfl) ?_ ?_⟩⟩
  · show G 29 2 = nI (nl ++ []).length
    rw [List.append_nil]; exact h2
  · show rwp S a 2 (nl ++ []) (G 24)
    rw [List.append_nil]; exact hn
set_option maxRecDepth 100000 in
set_option maxHeartbeats 4000000 in
theorem s_blow_2 (hC : sm_C 4 CT) (hD : cD S G) (hR : dR S) (hL : cL S G) (hh : 2 < S 0 0) {a q : Nat} (hq : q < 4) (ea : G 20 3 = nI a) (ha : a < 6) {gl nl : List (Nat → Nat)} (h1 : G 29 2 = nI gl.length) (h2 : G 29 3 = nI nl.length) (hg : rwp S a 2 gl (G 24)) (hn : rwp S a 3 nl (G 25)) (hb : nl.length + gl.length ≤ 64) (hw : ∀ w, w ∈ gl → ∀ i, i < 2 → w i < 4)
    (hQ : ∀ G', eqx [25, 29] G G' → (∀ i, i ≠ 3 → G' 29 i = G 29 i) → G' 29 3 = nI (nl ++ ext S 2 q gl).length → rwp S a 3 (nl ++ ext S 2 q gl) (G' 25) → Q none (hp G' L)) : CT 40 [.ref 20, .int (nI 2), .int (nI q)] (hp G L) Q := by
  obtain ⟨r1, r2, r3, r4⟩ := id hR
  refine sm_meth hC [some (.ref 20), some (.int (nI 2)), some (.int (nI q)), none, none, none, none, none, none] rfl rfl rfl ?_
  have lo : ∀ i, i ≤ gl.length → ∀ o6 o7 o8 G1, eqx [25, 29] G G1 → (∀ i, i ≠ 3 → G1 29 i = G 29 i) → G1 29 3 = nI (nl ++ ext S 2 q (gl.take i)).length → rwp S a 3 (nl ++ ext S 2 q (gl.take i)) (G1 25) → sm_Wk 3 40 Q none 20 [some (.ref 20), some (.int (nI 2)), some (.int (nI q)), some (.ref 24), some (.ref 25), some (.int (nI i)), o6, o7, o8] [] (hp G1 L) := by
    refine up _ (fun i hi ih o6 o7 o8 G1 hx hs29 hsz hrw => ?_)
    have f1 : G1 29 (nI 2).toNatClampNeg = nI gl.length := by rw [zn_clI (show 2 < 2 ^ 31 by decide), hs29 2 (by decide)]; exact h1
    have fa : G1 20 3 = nI a := by rw [hx 20 rfl]; exact ea
    have fP : G1 24 = G 24 := hx 24 rfl
    have hD1 := cD_x hx rfl hD
    have hL1 := cL_x hx rfl hL
    by_cases hl : i < gl.length
    · obtain ⟨w, hwi⟩ : ∃ w, gl[i]? = some w := ⟨gl[i], List.getElem?_eq_getElem hl⟩
      have hwm : w ∈ gl := List.mem_of_getElem? hwi
      have hw4 := hw w hwm
      have hp4 : ∀ v, v < S 0 1 → ps S w v 2 < 4 := fun v hv => ps_lt (r4 v hv).2.1 _ hw4
      have hp5 : ∀ v, v < S 0 1 → ps S (su w 2 q) v 3 < 4 := fun v hv => ps_lt (r4 v hv).2.1 _ (fun j hj => by
        rw [su_if]
        by_cases e : j = 2
        · rw [if_t e]; exact hq
        · rw [if_f e]; exact hw4 j (by omega))
      have hz := zp_256 r2 hp4
      have hz5 := zp_256 r2 hp5
      have hk4 := kw_lt (a := a) hw4
      have egi : G1 24 i = nI ((if a < 2 then w a else 0) * 256 + zp (S 0 1) (fun v => ps S w v 2)) := by rw [fP]; exact hg i w hwi
      have ept : (fun v => tv S v (ps S w v 2) q) = fun v => ps S (su w 2 q) v 3 := (ps_su (h := 2)).symm
      have hel := ext_le (S := S) (h := 2) (q := q) (gl := gl.take i)
      rw [List.length_take] at hel
      have hlen : (nl ++ ext S 2 q (gl.take i)).length < 64 := by rw [List.length_append]; omega
      have e1i : (nI 2 + nI 1).toNatClampNeg = 3 := by rw [nI_add, zn_clI (show 2 + 1 < 2 ^ 31 by decide)]
      have fs1 : G1 29 (nI 2 + nI 1).toNatClampNeg = nI (nl ++ ext S 2 q (gl.take i)).length := by rw [e1i]; exact hsz
      have e8 : sm_shr (nI ((if a < 2 then w a else 0) * 256 + zp (S 0 1) (fun v => ps S w v 2))) (nI 8) = nI (if a < 2 then w a else 0) := e_sh8 hz (by omega)
      refine sm_body [20] 120 sm_k40 (fun CT K hC hK => ?_)
      repeat' first
        | (with_reducible refine And.intro ?_ ?_)
        | ((with_reducible intro h9); first | exact absurd h9 (by decide) | ((rw [f1] at h9; replace h9 := zle (by omega) (by omega) h9)) | ((rw [f1] at h9; replace h9 := znle (by omega) (by omega) h9)) | (exact absurd hl (by omega)) | (replace h9 := sb_f h9) | (replace h9 := sb_t h9) | ((have h8 : nI 64 ≤ G1 29 (nI 2 + nI 1).toNatClampNeg := h9; rw [fs1] at h8; have h8 := zle (by omega) (by omega) h8; exfalso; omega)) | ((rw [fa] at h9; replace h9 := zneq h9)) | ((rw [fa] at h9; replace h9 := zeq (by omega) (by omega) h9)) | skip)
        | (with_reducible exact zn_in (by omega) (by decide))
        | (with_reducible exact z01) | (with_reducible exact z11) | (with_reducible exact zb01 _)
        | (with_reducible exact zn_inb (by omega) (by decide))
        | (with_reducible exact zn_ina (by omega) (by decide))
        | (with_reducible exact zn_inc (by omega) (by decide))
        | ((conv => whnf); first | (with_reducible refine And.intro ?_ ?_) | ((with_reducible intro h9); first | exact absurd h9 (by decide) | ((rw [f1] at h9; replace h9 := zle (by omega) (by omega) h9)) | ((rw [f1] at h9; replace h9 := znle (by omega) (by omega) h9)) | (exact absurd hl (by omega)) | (replace h9 := sb_f h9) | (replace h9 := sb_t h9) | ((have h8 : nI 64 ≤ G1 29 (nI 2 + nI 1).toNatClampNeg := h9; rw [fs1] at h8; have h8 := zle (by omega) (by omega) h8; exfalso; omega)) | ((rw [fa] at h9; replace h9 := zneq h9)) | ((rw [fa] at h9; replace h9 := zeq (by omega) (by omega) h9)) | skip) | (with_reducible refine hK _ _ _ _ (sm_un ?_)) | ((simp only [zn_clI (show i < 2 ^ 31 by omega), egi, e_255 hz]; refine s_turnedPose (hC.mono (by omega)) hD1 hR hp4 hq ?_; rw [ept])) | ((rw [fs1]; exact zn_in hlen (by decide))) | (refine s_agrees (hC.mono (by omega)) hD1 hR hL1 hp5 hh ?_))
      · exact absurd h9 (by omega)
      · have e := fun o7 o8 => ih hl (some (.int (nI (zp (S 0 1) (fun v => ps S (su w 2 q) v 3))))) o7 o8 G1 hx hs29
        rw [ext_f hwi h9] at e
        simp only [nI_add]; exact ⟨⟨e _ _ hsz hrw⟩⟩
      · have e := fun o7 o8 => ih hl (some (.int (nI (zp (S 0 1) (fun v => ps S (su w 2 q) v 3))))) o7 o8 (su (su G1 25 (su (G1 25) (nl ++ ext S 2 q (gl.take i)).length (nI ((if a < 2 then w a else 0) * 256 + zp (S 0 1) (fun v => ps S (su w 2 q) v 3))))) 29 (su (G1 29) 3 (nI ((nl ++ ext S 2 q (gl.take i)).length + 1)))) (eqx_su 29 _ rfl (eqx_su 25 _ rfl hx)) (fun j hj => by show su (G1 29) 3 _ j = _; rw [su_if, if_f hj]; exact hs29 j hj)
        rw [ext_t hwi ‹(ag S 2 fun v => ps S (su w 2 q) v 3) = true›, ← List.append_assoc] at e
        simp only [zn_clI (show i < 2 ^ 31 by omega), e1i, egi, e8, e_up8 hz5, hp_0, hp_1, hp_2, hp_3, hp_4, hp_5, hp_6, hp_7, hp_8, hp_9, hp_10, hp_11, hp_12, hp_13, hp_14, hp_15, hp_16, hp_17, hp_18, hp_19, hp_20, hp_22, hp_23, hp_24, hp_25, hp_26, hp_27, hp_28, hp_29, hp_30, hp_31, hp_32, hp_33, hp_34, hp_35, hp_36, hp_37, hp_38, hp_39, hp_40, hp_41, hp_42, hp_43, hp_44, hp_45, hp_46, hp_47, hp_48, hp_49, hf0_5, hf0_6, hf0_7, hf1_1, hf3_0, hf3_2, hf3_6, hf10_0, hf10_2, hf10_6, hf17_3, hf17_4, hf20_3, hf20_4, hf30_0, hf30_1, hf30_3, hf30_7, hf30_11, hf30_12, hf30_20, hf30_22, hf30_23, hf30_24, hf30_25, hf30_21, hf30_31, upd_su, updL_su]
        simp only [hsz, nI_add, zn_clI (show (nl ++ ext S 2 q (gl.take i)).length < 2 ^ 31 by omega)]
        refine ⟨⟨e _ _ ?_ ?_⟩⟩
        · show su (G1 29) 3 _ 3 = _
          rw [su_eq]
          exact nI_i (by simp only [List.length_append, List.length_cons, List.length_nil])
        · refine rwp_app hrw ?_
          unfold en
          by_cases z : a < 2
          · rw [if_t z, if_t (show a < 3 by omega), su_if, if_f (show ¬ a = 2 by omega)]
          · rw [if_f z, if_f (show ¬ a < 3 by omega)]
      · have e := fun o7 o8 => ih hl (some (.int (nI (zp (S 0 1) (fun v => ps S (su w 2 q) v 3))))) o7 o8 G1 hx hs29
        rw [ext_f hwi h9] at e
        simp only [nI_add]; exact ⟨⟨e _ _ hsz hrw⟩⟩
      · have e := fun o7 o8 => ih hl (some (.int (nI (zp (S 0 1) (fun v => ps S (su w 2 q) v 3))))) o7 o8 (su (su G1 25 (su (G1 25) (nl ++ ext S 2 q (gl.take i)).length (nI (q * 256 + zp (S 0 1) (fun v => ps S (su w 2 q) v 3))))) 29 (su (G1 29) 3 (nI ((nl ++ ext S 2 q (gl.take i)).length + 1)))) (eqx_su 29 _ rfl (eqx_su 25 _ rfl hx)) (fun j hj => by show su (G1 29) 3 _ j = _; rw [su_if, if_f hj]; exact hs29 j hj)
        rw [ext_t hwi ‹(ag S 2 fun v => ps S (su w 2 q) v 3) = true›, ← List.append_assoc] at e
        simp only [e1i, e_up8 hz5, hp_0, hp_1, hp_2, hp_3, hp_4, hp_5, hp_6, hp_7, hp_8, hp_9, hp_10, hp_11, hp_12, hp_13, hp_14, hp_15, hp_16, hp_17, hp_18, hp_19, hp_20, hp_22, hp_23, hp_24, hp_25, hp_26, hp_27, hp_28, hp_29, hp_30, hp_31, hp_32, hp_33, hp_34, hp_35, hp_36, hp_37, hp_38, hp_39, hp_40, hp_41, hp_42, hp_43, hp_44, hp_45, hp_46, hp_47, hp_48, hp_49, hf0_5, hf0_6, hf0_7, hf1_1, hf3_0, hf3_2, hf3_6, hf10_0, hf10_2, hf10_6, hf17_3, hf17_4, hf20_3, hf20_4, hf30_0, hf30_1, hf30_3, hf30_7, hf30_11, hf30_12, hf30_20, hf30_22, hf30_23, hf30_24, hf30_25, hf30_21, hf30_31, upd_su, updL_su]
        simp only [hsz, nI_add, zn_clI (show (nl ++ ext S 2 q (gl.take i)).length < 2 ^ 31 by omega)]
        refine ⟨⟨e _ _ ?_ ?_⟩⟩
        · show su (G1 29) 3 _ 3 = _
          rw [su_eq]
          exact nI_i (by simp only [List.length_append, List.length_cons, List.length_nil])
        · refine rwp_app hrw ?_
          unfold en
          rw [if_t (show a < 3 by omega), su_if, if_t (show a = 2 by omega)]
    · refine sm_body [20] 120 sm_k40 (fun CT K hC hK => ?_)
      repeat' first
        | (with_reducible refine And.intro ?_ ?_)
        | ((with_reducible intro h9); first | exact absurd h9 (by decide) | ((rw [f1] at h9; replace h9 := zle (by omega) (by omega) h9)) | ((rw [f1] at h9; replace h9 := znle (by omega) (by omega) h9)) | skip)
        | (with_reducible exact zn_in (by omega) (by decide))
        | (with_reducible exact z01) | (with_reducible exact z11) | (with_reducible exact zb01 _)
        | (with_reducible exact zn_inb (by omega) (by decide))
        | (with_reducible exact zn_ina (by omega) (by decide))
        | (with_reducible exact zn_inc (by omega) (by decide))
        | ((conv => whnf); first | (with_reducible refine And.intro ?_ ?_) | ((with_reducible intro h9); first | exact absurd h9 (by decide) | ((rw [f1] at h9; replace h9 := zle (by omega) (by omega) h9)) | ((rw [f1] at h9; replace h9 := znle (by omega) (by omega) h9)) | skip) | (with_reducible refine hK _ _ _ _ (sm_un ?_)))
      all_goals first | exact absurd ‹i < gl.length› hl | skip
      rw [List.take_of_length_le (by omega)] at hsz hrw
      exact hQ G1 hx hs29 hsz hrw
  refine sm_body [20] 60 sm_k40 (fun CT K hC hK => ?_)
  repeat' first
    | (with_reducible refine And.intro ?_ ?_)
    | ((with_reducible intro h9); first | exact absurd h9 (by decide) | skip)
    | (with_reducible exact zn_in (by omega) (by decide))
    | (with_reducible exact z01) | (with_reducible exact z11) | (with_reducible exact zb01 _)
    | (with_reducible exact zn_inb (by omega) (by decide))
    | (with_reducible exact zn_ina (by omega) (by decide))
    | (with_reducible exact zn_inc (by omega) (by decide))
    | ((conv => whnf); first | (with_reducible refine And.intro ?_ ?_) | ((with_reducible intro h9); first | exact absurd h9 (by decide) | skip) | (with_reducible refine hK _ _ _ _ (sm_un ?_)) | (refine Exists.intro 24 (And.intro rfl ?_)) | (refine Exists.intro 25 (And.intro rfl ?_)))
  refine ⟨⟨lo 0 (Nat.zero_le _) _ _ _ G eqx_rfl (fun _ _ => rfl) ?_ ?_⟩⟩
  · show G 29 3 = nI (nl ++ []).length
    rw [List.append_nil]; exact h2
  · show rwp S a 3 (nl ++ []) (G 25)
    rw [List.append_nil]; exact hn
set_option maxRecDepth 100000 in
set_option maxHeartbeats 4000000 in
theorem s_blow_3 (hC : sm_C 4 CT) (hD : cD S G) (hR : dR S) (hL : cL S G) (hh : 3 < S 0 0) {a q : Nat} (hq : q < 4) (ea : G 20 3 = nI a) (ha : a < 6) {gl nl : List (Nat → Nat)} (h1 : G 29 3 = nI gl.length) (h2 : G 29 4 = nI nl.length) (hg : rwp S a 3 gl (G 25)) (hn : rwp S a 4 nl (G 26)) (hb : nl.length + gl.length ≤ 64) (hw : ∀ w, w ∈ gl → ∀ i, i < 3 → w i < 4)
    (hQ : ∀ G', eqx [26, 29] G G' → (∀ i, i ≠ 4 → G' 29 i = G 29 i) → G' 29 4 = nI (nl ++ ext S 3 q gl).length → rwp S a 4 (nl ++ ext S 3 q gl) (G' 26) → Q none (hp G' L)) : CT 40 [.ref 20, .int (nI 3), .int (nI q)] (hp G L) Q := by
  obtain ⟨r1, r2, r3, r4⟩ := id hR
  refine sm_meth hC [some (.ref 20), some (.int (nI 3)), some (.int (nI q)), none, none, none, none, none, none] rfl rfl rfl ?_
  have lo : ∀ i, i ≤ gl.length → ∀ o6 o7 o8 G1, eqx [26, 29] G G1 → (∀ i, i ≠ 4 → G1 29 i = G 29 i) → G1 29 4 = nI (nl ++ ext S 3 q (gl.take i)).length → rwp S a 4 (nl ++ ext S 3 q (gl.take i)) (G1 26) → sm_Wk 3 40 Q none 20 [some (.ref 20), some (.int (nI 3)), some (.int (nI q)), some (.ref 25), some (.ref 26), some (.int (nI i)), o6, o7, o8] [] (hp G1 L) := by
    refine up _ (fun i hi ih o6 o7 o8 G1 hx hs29 hsz hrw => ?_)
    have f1 : G1 29 (nI 3).toNatClampNeg = nI gl.length := by rw [zn_clI (show 3 < 2 ^ 31 by decide), hs29 3 (by decide)]; exact h1
    have fa : G1 20 3 = nI a := by rw [hx 20 rfl]; exact ea
    have fP : G1 25 = G 25 := hx 25 rfl
    have hD1 := cD_x hx rfl hD
    have hL1 := cL_x hx rfl hL
    by_cases hl : i < gl.length
    · obtain ⟨w, hwi⟩ : ∃ w, gl[i]? = some w := ⟨gl[i], List.getElem?_eq_getElem hl⟩
      have hwm : w ∈ gl := List.mem_of_getElem? hwi
      have hw4 := hw w hwm
      have hp4 : ∀ v, v < S 0 1 → ps S w v 3 < 4 := fun v hv => ps_lt (r4 v hv).2.1 _ hw4
      have hp5 : ∀ v, v < S 0 1 → ps S (su w 3 q) v 4 < 4 := fun v hv => ps_lt (r4 v hv).2.1 _ (fun j hj => by
        rw [su_if]
        by_cases e : j = 3
        · rw [if_t e]; exact hq
        · rw [if_f e]; exact hw4 j (by omega))
      have hz := zp_256 r2 hp4
      have hz5 := zp_256 r2 hp5
      have hk4 := kw_lt (a := a) hw4
      have egi : G1 25 i = nI ((if a < 3 then w a else 0) * 256 + zp (S 0 1) (fun v => ps S w v 3)) := by rw [fP]; exact hg i w hwi
      have ept : (fun v => tv S v (ps S w v 3) q) = fun v => ps S (su w 3 q) v 4 := (ps_su (h := 3)).symm
      have hel := ext_le (S := S) (h := 3) (q := q) (gl := gl.take i)
      rw [List.length_take] at hel
      have hlen : (nl ++ ext S 3 q (gl.take i)).length < 64 := by rw [List.length_append]; omega
      have e1i : (nI 3 + nI 1).toNatClampNeg = 4 := by rw [nI_add, zn_clI (show 3 + 1 < 2 ^ 31 by decide)]
      have fs1 : G1 29 (nI 3 + nI 1).toNatClampNeg = nI (nl ++ ext S 3 q (gl.take i)).length := by rw [e1i]; exact hsz
      have e8 : sm_shr (nI ((if a < 3 then w a else 0) * 256 + zp (S 0 1) (fun v => ps S w v 3))) (nI 8) = nI (if a < 3 then w a else 0) := e_sh8 hz (by omega)
      refine sm_body [20] 120 sm_k40 (fun CT K hC hK => ?_)
      repeat' first
        | (with_reducible refine And.intro ?_ ?_)
        | ((with_reducible intro h9); first | exact absurd h9 (by decide) | ((rw [f1] at h9; replace h9 := zle (by omega) (by omega) h9)) | ((rw [f1] at h9; replace h9 := znle (by omega) (by omega) h9)) | (exact absurd hl (by omega)) | (replace h9 := sb_f h9) | (replace h9 := sb_t h9) | ((have h8 : nI 64 ≤ G1 29 (nI 3 + nI 1).toNatClampNeg := h9; rw [fs1] at h8; have h8 := zle (by omega) (by omega) h8; exfalso; omega)) | ((rw [fa] at h9; replace h9 := zneq h9)) | ((rw [fa] at h9; replace h9 := zeq (by omega) (by omega) h9)) | skip)
        | (with_reducible exact zn_in (by omega) (by decide))
        | (with_reducible exact z01) | (with_reducible exact z11) | (with_reducible exact zb01 _)
        | (with_reducible exact zn_inb (by omega) (by decide))
        | (with_reducible exact zn_ina (by omega) (by decide))
        | (with_reducible exact zn_inc (by omega) (by decide))
        | ((conv => whnf); first | (with_reducible refine And.intro ?_ ?_) | ((with_reducible intro h9); first | exact absurd h9 (by decide) | ((rw [f1] at h9; replace h9 := zle (by omega) (by omega) h9)) | ((rw [f1] at h9; replace h9 := znle (by omega) (by omega) h9)) | (exact absurd hl (by omega)) | (replace h9 := sb_f h9) | (replace h9 := sb_t h9) | ((have h8 : nI 64 ≤ G1 29 (nI 3 + nI 1).toNatClampNeg := h9; rw [fs1] at h8; have h8 := zle (by omega) (by omega) h8; exfalso; omega)) | ((rw [fa] at h9; replace h9 := zneq h9)) | ((rw [fa] at h9; replace h9 := zeq (by omega) (by omega) h9)) | skip) | (with_reducible refine hK _ _ _ _ (sm_un ?_)) | ((simp only [zn_clI (show i < 2 ^ 31 by omega), egi, e_255 hz]; refine s_turnedPose (hC.mono (by omega)) hD1 hR hp4 hq ?_; rw [ept])) | ((rw [fs1]; exact zn_in hlen (by decide))) | (refine s_agrees (hC.mono (by omega)) hD1 hR hL1 hp5 hh ?_))
      · exact absurd h9 (by omega)
      · have e := fun o7 o8 => ih hl (some (.int (nI (zp (S 0 1) (fun v => ps S (su w 3 q) v 4))))) o7 o8 G1 hx hs29
        rw [ext_f hwi h9] at e
        simp only [nI_add]; exact ⟨⟨e _ _ hsz hrw⟩⟩
      · have e := fun o7 o8 => ih hl (some (.int (nI (zp (S 0 1) (fun v => ps S (su w 3 q) v 4))))) o7 o8 (su (su G1 26 (su (G1 26) (nl ++ ext S 3 q (gl.take i)).length (nI ((if a < 3 then w a else 0) * 256 + zp (S 0 1) (fun v => ps S (su w 3 q) v 4))))) 29 (su (G1 29) 4 (nI ((nl ++ ext S 3 q (gl.take i)).length + 1)))) (eqx_su 29 _ rfl (eqx_su 26 _ rfl hx)) (fun j hj => by show su (G1 29) 4 _ j = _; rw [su_if, if_f hj]; exact hs29 j hj)
        rw [ext_t hwi ‹(ag S 3 fun v => ps S (su w 3 q) v 4) = true›, ← List.append_assoc] at e
        simp only [zn_clI (show i < 2 ^ 31 by omega), e1i, egi, e8, e_up8 hz5, hp_0, hp_1, hp_2, hp_3, hp_4, hp_5, hp_6, hp_7, hp_8, hp_9, hp_10, hp_11, hp_12, hp_13, hp_14, hp_15, hp_16, hp_17, hp_18, hp_19, hp_20, hp_22, hp_23, hp_24, hp_25, hp_26, hp_27, hp_28, hp_29, hp_30, hp_31, hp_32, hp_33, hp_34, hp_35, hp_36, hp_37, hp_38, hp_39, hp_40, hp_41, hp_42, hp_43, hp_44, hp_45, hp_46, hp_47, hp_48, hp_49, hf0_5, hf0_6, hf0_7, hf1_1, hf3_0, hf3_2, hf3_6, hf10_0, hf10_2, hf10_6, hf17_3, hf17_4, hf20_3, hf20_4, hf30_0, hf30_1, hf30_3, hf30_7, hf30_11, hf30_12, hf30_20, hf30_22, hf30_23, hf30_24, hf30_25, hf30_21, hf30_31, upd_su, updL_su]
        simp only [hsz, nI_add, zn_clI (show (nl ++ ext S 3 q (gl.take i)).length < 2 ^ 31 by omega)]
        refine ⟨⟨e _ _ ?_ ?_⟩⟩
        · show su (G1 29) 4 _ 4 = _
          rw [su_eq]
          exact nI_i (by simp only [List.length_append, List.length_cons, List.length_nil])
        · refine rwp_app hrw ?_
          unfold en
          by_cases z : a < 3
          · rw [if_t z, if_t (show a < 4 by omega), su_if, if_f (show ¬ a = 3 by omega)]
          · rw [if_f z, if_f (show ¬ a < 4 by omega)]
      · have e := fun o7 o8 => ih hl (some (.int (nI (zp (S 0 1) (fun v => ps S (su w 3 q) v 4))))) o7 o8 G1 hx hs29
        rw [ext_f hwi h9] at e
        simp only [nI_add]; exact ⟨⟨e _ _ hsz hrw⟩⟩
      · have e := fun o7 o8 => ih hl (some (.int (nI (zp (S 0 1) (fun v => ps S (su w 3 q) v 4))))) o7 o8 (su (su G1 26 (su (G1 26) (nl ++ ext S 3 q (gl.take i)).length (nI (q * 256 + zp (S 0 1) (fun v => ps S (su w 3 q) v 4))))) 29 (su (G1 29) 4 (nI ((nl ++ ext S 3 q (gl.take i)).length + 1)))) (eqx_su 29 _ rfl (eqx_su 26 _ rfl hx)) (fun j hj => by show su (G1 29) 4 _ j = _; rw [su_if, if_f hj]; exact hs29 j hj)
        rw [ext_t hwi ‹(ag S 3 fun v => ps S (su w 3 q) v 4) = true›, ← List.append_assoc] at e
        simp only [e1i, e_up8 hz5, hp_0, hp_1, hp_2, hp_3, hp_4, hp_5, hp_6, hp_7, hp_8, hp_9, hp_10, hp_11, hp_12, hp_13, hp_14, hp_15, hp_16, hp_17, hp_18, hp_19, hp_20, hp_22, hp_23, hp_24, hp_25, hp_26, hp_27, hp_28, hp_29, hp_30, hp_31, hp_32, hp_33, hp_34, hp_35, hp_36, hp_37, hp_38, hp_39, hp_40, hp_41, hp_42, hp_43, hp_44, hp_45, hp_46, hp_47, hp_48, hp_49, hf0_5, hf0_6, hf0_7, hf1_1, hf3_0, hf3_2, hf3_6, hf10_0, hf10_2, hf10_6, hf17_3, hf17_4, hf20_3, hf20_4, hf30_0, hf30_1, hf30_3, hf30_7, hf30_11, hf30_12, hf30_20, hf30_22, hf30_23, hf30_24, hf30_25, hf30_21, hf30_31, upd_su, updL_su]
        simp only [hsz, nI_add, zn_clI (show (nl ++ ext S 3 q (gl.take i)).length < 2 ^ 31 by omega)]
        refine ⟨⟨e _ _ ?_ ?_⟩⟩
        · show su (G1 29) 4 _ 4 = _
          rw [su_eq]
          exact nI_i (by simp only [List.length_append, List.length_cons, List.length_nil])
        · refine rwp_app hrw ?_
          unfold en
          rw [if_t (show a < 4 by omega), su_if, if_t (show a = 3 by omega)]
    · refine sm_body [20] 120 sm_k40 (fun CT K hC hK => ?_)
      repeat' first
        | (with_reducible refine And.intro ?_ ?_)
        | ((with_reducible intro h9); first | exact absurd h9 (by decide) | ((rw [f1] at h9; replace h9 := zle (by omega) (by omega) h9)) | ((rw [f1] at h9; replace h9 := znle (by omega) (by omega) h9)) | skip)
        | (with_reducible exact zn_in (by omega) (by decide))
        | (with_reducible exact z01) | (with_reducible exact z11) | (with_reducible exact zb01 _)
        | (with_reducible exact zn_inb (by omega) (by decide))
        | (with_reducible exact zn_ina (by omega) (by decide))
        | (with_reducible exact zn_inc (by omega) (by decide))
        | ((conv => whnf); first | (with_reducible refine And.intro ?_ ?_) | ((with_reducible intro h9); first | exact absurd h9 (by decide) | ((rw [f1] at h9; replace h9 := zle (by omega) (by omega) h9)) | ((rw [f1] at h9; replace h9 := znle (by omega) (by omega) h9)) | skip) | (with_reducible refine hK _ _ _ _ (sm_un ?_)))
      all_goals first | exact absurd ‹i < gl.length› hl | skip
      rw [List.take_of_length_le (by omega)] at hsz hrw
      exact hQ G1 hx hs29 hsz hrw
  refine sm_body [20] 60 sm_k40 (fun CT K hC hK => ?_)
  repeat' first
    | (with_reducible refine And.intro ?_ ?_)
    | ((with_reducible intro h9); first | exact absurd h9 (by decide) | skip)
    | (with_reducible exact zn_in (by omega) (by decide))
    | (with_reducible exact z01) | (with_reducible exact z11) | (with_reducible exact zb01 _)
    | (with_reducible exact zn_inb (by omega) (by decide))
    | (with_reducible exact zn_ina (by omega) (by decide))
    | (with_reducible exact zn_inc (by omega) (by decide))
    | ((conv => whnf); first | (with_reducible refine And.intro ?_ ?_) | ((with_reducible intro h9); first | exact absurd h9 (by decide) | skip) | (with_reducible refine hK _ _ _ _ (sm_un ?_)) | (refine Exists.intro 25 (And.intro rfl ?_)) | (refine Exists.intro 26 (And.intro rfl ?_)))
  refine ⟨⟨lo 0 (Nat.zero_le _) _ _ _ G eqx_rfl (fun _ _ => rfl) ?_ ?_⟩⟩
  · show G 29 4 = nI (nl ++ []).length
    rw [List.append_nil]; exact h2
  · show rwp S a 4 (nl ++ []) (G 26)
    rw [List.append_nil]; exact hn
set_option maxRecDepth 100000 in
set_option maxHeartbeats 4000000 in
theorem s_blow_4 (hC : sm_C 4 CT) (hD : cD S G) (hR : dR S) (hL : cL S G) (hh : 4 < S 0 0) {a q : Nat} (hq : q < 4) (ea : G 20 3 = nI a) (ha : a < 6) {gl nl : List (Nat → Nat)} (h1 : G 29 4 = nI gl.length) (h2 : G 29 5 = nI nl.length) (hg : rwp S a 4 gl (G 26)) (hn : rwp S a 5 nl (G 27)) (hb : nl.length + gl.length ≤ 64) (hw : ∀ w, w ∈ gl → ∀ i, i < 4 → w i < 4)
    (hQ : ∀ G', eqx [27, 29] G G' → (∀ i, i ≠ 5 → G' 29 i = G 29 i) → G' 29 5 = nI (nl ++ ext S 4 q gl).length → rwp S a 5 (nl ++ ext S 4 q gl) (G' 27) → Q none (hp G' L)) : CT 40 [.ref 20, .int (nI 4), .int (nI q)] (hp G L) Q := by
  obtain ⟨r1, r2, r3, r4⟩ := id hR
  refine sm_meth hC [some (.ref 20), some (.int (nI 4)), some (.int (nI q)), none, none, none, none, none, none] rfl rfl rfl ?_
  have lo : ∀ i, i ≤ gl.length → ∀ o6 o7 o8 G1, eqx [27, 29] G G1 → (∀ i, i ≠ 5 → G1 29 i = G 29 i) → G1 29 5 = nI (nl ++ ext S 4 q (gl.take i)).length → rwp S a 5 (nl ++ ext S 4 q (gl.take i)) (G1 27) → sm_Wk 3 40 Q none 20 [some (.ref 20), some (.int (nI 4)), some (.int (nI q)), some (.ref 26), some (.ref 27), some (.int (nI i)), o6, o7, o8] [] (hp G1 L) := by
    refine up _ (fun i hi ih o6 o7 o8 G1 hx hs29 hsz hrw => ?_)
    have f1 : G1 29 (nI 4).toNatClampNeg = nI gl.length := by rw [zn_clI (show 4 < 2 ^ 31 by decide), hs29 4 (by decide)]; exact h1
    have fa : G1 20 3 = nI a := by rw [hx 20 rfl]; exact ea
    have fP : G1 26 = G 26 := hx 26 rfl
    have hD1 := cD_x hx rfl hD
    have hL1 := cL_x hx rfl hL
    by_cases hl : i < gl.length
    · obtain ⟨w, hwi⟩ : ∃ w, gl[i]? = some w := ⟨gl[i], List.getElem?_eq_getElem hl⟩
      have hwm : w ∈ gl := List.mem_of_getElem? hwi
      have hw4 := hw w hwm
      have hp4 : ∀ v, v < S 0 1 → ps S w v 4 < 4 := fun v hv => ps_lt (r4 v hv).2.1 _ hw4
      have hp5 : ∀ v, v < S 0 1 → ps S (su w 4 q) v 5 < 4 := fun v hv => ps_lt (r4 v hv).2.1 _ (fun j hj => by
        rw [su_if]
        by_cases e : j = 4
        · rw [if_t e]; exact hq
        · rw [if_f e]; exact hw4 j (by omega))
      have hz := zp_256 r2 hp4
      have hz5 := zp_256 r2 hp5
      have hk4 := kw_lt (a := a) hw4
      have egi : G1 26 i = nI ((if a < 4 then w a else 0) * 256 + zp (S 0 1) (fun v => ps S w v 4)) := by rw [fP]; exact hg i w hwi
      have ept : (fun v => tv S v (ps S w v 4) q) = fun v => ps S (su w 4 q) v 5 := (ps_su (h := 4)).symm
      have hel := ext_le (S := S) (h := 4) (q := q) (gl := gl.take i)
      rw [List.length_take] at hel
      have hlen : (nl ++ ext S 4 q (gl.take i)).length < 64 := by rw [List.length_append]; omega
      have e1i : (nI 4 + nI 1).toNatClampNeg = 5 := by rw [nI_add, zn_clI (show 4 + 1 < 2 ^ 31 by decide)]
      have fs1 : G1 29 (nI 4 + nI 1).toNatClampNeg = nI (nl ++ ext S 4 q (gl.take i)).length := by rw [e1i]; exact hsz
      have e8 : sm_shr (nI ((if a < 4 then w a else 0) * 256 + zp (S 0 1) (fun v => ps S w v 4))) (nI 8) = nI (if a < 4 then w a else 0) := e_sh8 hz (by omega)
      refine sm_body [20] 120 sm_k40 (fun CT K hC hK => ?_)
      repeat' first
        | (with_reducible refine And.intro ?_ ?_)
        | ((with_reducible intro h9); first | exact absurd h9 (by decide) | ((rw [f1] at h9; replace h9 := zle (by omega) (by omega) h9)) | ((rw [f1] at h9; replace h9 := znle (by omega) (by omega) h9)) | (exact absurd hl (by omega)) | (replace h9 := sb_f h9) | (replace h9 := sb_t h9) | ((have h8 : nI 64 ≤ G1 29 (nI 4 + nI 1).toNatClampNeg := h9; rw [fs1] at h8; have h8 := zle (by omega) (by omega) h8; exfalso; omega)) | ((rw [fa] at h9; replace h9 := zneq h9)) | ((rw [fa] at h9; replace h9 := zeq (by omega) (by omega) h9)) | skip)
        | (with_reducible exact zn_in (by omega) (by decide))
        | (with_reducible exact z01) | (with_reducible exact z11) | (with_reducible exact zb01 _)
        | (with_reducible exact zn_inb (by omega) (by decide))
        | (with_reducible exact zn_ina (by omega) (by decide))
        | (with_reducible exact zn_inc (by omega) (by decide))
        | ((conv => whnf); first | (with_reducible refine And.intro ?_ ?_) | ((with_reducible intro h9); first | exact absurd h9 (by decide) | ((rw [f1] at h9; replace h9 := zle (by omega) (by omega) h9)) | ((rw [f1] at h9; replace h9 := znle (by omega) (by omega) h9)) | (exact absurd hl (by omega)) | (replace h9 := sb_f h9) | (replace h9 := sb_t h9) | ((have h8 : nI 64 ≤ G1 29 (nI 4 + nI 1).toNatClampNeg := h9; rw [fs1] at h8; have h8 := zle (by omega) (by omega) h8; exfalso; omega)) | ((rw [fa] at h9; replace h9 := zneq h9)) | ((rw [fa] at h9; replace h9 := zeq (by omega) (by omega) h9)) | skip) | (with_reducible refine hK _ _ _ _ (sm_un ?_)) | ((simp only [zn_clI (show i < 2 ^ 31 by omega), egi, e_255 hz]; refine s_turnedPose (hC.mono (by omega)) hD1 hR hp4 hq ?_; rw [ept])) | ((rw [fs1]; exact zn_in hlen (by decide))) | (refine s_agrees (hC.mono (by omega)) hD1 hR hL1 hp5 hh ?_))
      · exact absurd h9 (by omega)
      · have e := fun o7 o8 => ih hl (some (.int (nI (zp (S 0 1) (fun v => ps S (su w 4 q) v 5))))) o7 o8 G1 hx hs29
        rw [ext_f hwi h9] at e
        simp only [nI_add]; exact ⟨⟨e _ _ hsz hrw⟩⟩
      · have e := fun o7 o8 => ih hl (some (.int (nI (zp (S 0 1) (fun v => ps S (su w 4 q) v 5))))) o7 o8 (su (su G1 27 (su (G1 27) (nl ++ ext S 4 q (gl.take i)).length (nI ((if a < 4 then w a else 0) * 256 + zp (S 0 1) (fun v => ps S (su w 4 q) v 5))))) 29 (su (G1 29) 5 (nI ((nl ++ ext S 4 q (gl.take i)).length + 1)))) (eqx_su 29 _ rfl (eqx_su 27 _ rfl hx)) (fun j hj => by show su (G1 29) 5 _ j = _; rw [su_if, if_f hj]; exact hs29 j hj)
        rw [ext_t hwi ‹(ag S 4 fun v => ps S (su w 4 q) v 5) = true›, ← List.append_assoc] at e
        simp only [zn_clI (show i < 2 ^ 31 by omega), e1i, egi, e8, e_up8 hz5, hp_0, hp_1, hp_2, hp_3, hp_4, hp_5, hp_6, hp_7, hp_8, hp_9, hp_10, hp_11, hp_12, hp_13, hp_14, hp_15, hp_16, hp_17, hp_18, hp_19, hp_20, hp_22, hp_23, hp_24, hp_25, hp_26, hp_27, hp_28, hp_29, hp_30, hp_31, hp_32, hp_33, hp_34, hp_35, hp_36, hp_37, hp_38, hp_39, hp_40, hp_41, hp_42, hp_43, hp_44, hp_45, hp_46, hp_47, hp_48, hp_49, hf0_5, hf0_6, hf0_7, hf1_1, hf3_0, hf3_2, hf3_6, hf10_0, hf10_2, hf10_6, hf17_3, hf17_4, hf20_3, hf20_4, hf30_0, hf30_1, hf30_3, hf30_7, hf30_11, hf30_12, hf30_20, hf30_22, hf30_23, hf30_24, hf30_25, hf30_21, hf30_31, upd_su, updL_su]
        simp only [hsz, nI_add, zn_clI (show (nl ++ ext S 4 q (gl.take i)).length < 2 ^ 31 by omega)]
        refine ⟨⟨e _ _ ?_ ?_⟩⟩
        · show su (G1 29) 5 _ 5 = _
          rw [su_eq]
          exact nI_i (by simp only [List.length_append, List.length_cons, List.length_nil])
        · refine rwp_app hrw ?_
          unfold en
          by_cases z : a < 4
          · rw [if_t z, if_t (show a < 5 by omega), su_if, if_f (show ¬ a = 4 by omega)]
          · rw [if_f z, if_f (show ¬ a < 5 by omega)]
      · have e := fun o7 o8 => ih hl (some (.int (nI (zp (S 0 1) (fun v => ps S (su w 4 q) v 5))))) o7 o8 G1 hx hs29
        rw [ext_f hwi h9] at e
        simp only [nI_add]; exact ⟨⟨e _ _ hsz hrw⟩⟩
      · have e := fun o7 o8 => ih hl (some (.int (nI (zp (S 0 1) (fun v => ps S (su w 4 q) v 5))))) o7 o8 (su (su G1 27 (su (G1 27) (nl ++ ext S 4 q (gl.take i)).length (nI (q * 256 + zp (S 0 1) (fun v => ps S (su w 4 q) v 5))))) 29 (su (G1 29) 5 (nI ((nl ++ ext S 4 q (gl.take i)).length + 1)))) (eqx_su 29 _ rfl (eqx_su 27 _ rfl hx)) (fun j hj => by show su (G1 29) 5 _ j = _; rw [su_if, if_f hj]; exact hs29 j hj)
        rw [ext_t hwi ‹(ag S 4 fun v => ps S (su w 4 q) v 5) = true›, ← List.append_assoc] at e
        simp only [e1i, e_up8 hz5, hp_0, hp_1, hp_2, hp_3, hp_4, hp_5, hp_6, hp_7, hp_8, hp_9, hp_10, hp_11, hp_12, hp_13, hp_14, hp_15, hp_16, hp_17, hp_18, hp_19, hp_20, hp_22, hp_23, hp_24, hp_25, hp_26, hp_27, hp_28, hp_29, hp_30, hp_31, hp_32, hp_33, hp_34, hp_35, hp_36, hp_37, hp_38, hp_39, hp_40, hp_41, hp_42, hp_43, hp_44, hp_45, hp_46, hp_47, hp_48, hp_49, hf0_5, hf0_6, hf0_7, hf1_1, hf3_0, hf3_2, hf3_6, hf10_0, hf10_2, hf10_6, hf17_3, hf17_4, hf20_3, hf20_4, hf30_0, hf30_1, hf30_3, hf30_7, hf30_11, hf30_12, hf30_20, hf30_22, hf30_23, hf30_24, hf30_25, hf30_21, hf30_31, upd_su, updL_su]
        simp only [hsz, nI_add, zn_clI (show (nl ++ ext S 4 q (gl.take i)).length < 2 ^ 31 by omega)]
        refine ⟨⟨e _ _ ?_ ?_⟩⟩
        · show su (G1 29) 5 _ 5 = _
          rw [su_eq]
          exact nI_i (by simp only [List.length_append, List.length_cons, List.length_nil])
        · refine rwp_app hrw ?_
          unfold en
          rw [if_t (show a < 5 by omega), su_if, if_t (show a = 4 by omega)]
    · refine sm_body [20] 120 sm_k40 (fun CT K hC hK => ?_)
      repeat' first
        | (with_reducible refine And.intro ?_ ?_)
        | ((with_reducible intro h9); first | exact absurd h9 (by decide) | ((rw [f1] at h9; replace h9 := zle (by omega) (by omega) h9)) | ((rw [f1] at h9; replace h9 := znle (by omega) (by omega) h9)) | skip)
        | (with_reducible exact zn_in (by omega) (by decide))
        | (with_reducible exact z01) | (with_reducible exact z11) | (with_reducible exact zb01 _)
        | (with_reducible exact zn_inb (by omega) (by decide))
        | (with_reducible exact zn_ina (by omega) (by decide))
        | (with_reducible exact zn_inc (by omega) (by decide))
        | ((conv => whnf); first | (with_reducible refine And.intro ?_ ?_) | ((with_reducible intro h9); first | exact absurd h9 (by decide) | ((rw [f1] at h9; replace h9 := zle (by omega) (by omega) h9)) | ((rw [f1] at h9; replace h9 := znle (by omega) (by omega) h9)) | skip) | (with_reducible refine hK _ _ _ _ (sm_un ?_)))
      all_goals first | exact absurd ‹i < gl.length› hl | skip
      rw [List.take_of_length_le (by omega)] at hsz hrw
      exact hQ G1 hx hs29 hsz hrw
  refine sm_body [20] 60 sm_k40 (fun CT K hC hK => ?_)
  repeat' first
    | (with_reducible refine And.intro ?_ ?_)
    | ((with_reducible intro h9); first | exact absurd h9 (by decide) | skip)
    | (with_reducible exact zn_in (by omega) (by decide))
    | (with_reducible exact z01) | (with_reducible exact z11) | (with_reducible exact zb01 _)
    | (with_reducible exact zn_inb (by omega) (by decide))
    | (with_reducible exact zn_ina (by omega) (by decide))
    | (with_reducible exact zn_inc (by omega) (by decide))
    | ((conv => whnf); first | (with_reducible refine And.intro ?_ ?_) | ((with_reducible intro h9); first | exact absurd h9 (by decide) | skip) | (with_reducible refine hK _ _ _ _ (sm_un ?_)) | (refine Exists.intro 26 (And.intro rfl ?_)) | (refine Exists.intro 27 (And.intro rfl ?_)))
  refine ⟨⟨lo 0 (Nat.zero_le _) _ _ _ G eqx_rfl (fun _ _ => rfl) ?_ ?_⟩⟩
  · show G 29 5 = nI (nl ++ []).length
    rw [List.append_nil]; exact h2
  · show rwp S a 5 (nl ++ []) (G 27)
    rw [List.append_nil]; exact hn
set_option maxRecDepth 100000 in
set_option maxHeartbeats 4000000 in
theorem s_blow_5 (hC : sm_C 4 CT) (hD : cD S G) (hR : dR S) (hL : cL S G) (hh : 5 < S 0 0) {a q : Nat} (hq : q < 4) (ea : G 20 3 = nI a) (ha : a < 6) {gl nl : List (Nat → Nat)} (h1 : G 29 5 = nI gl.length) (h2 : G 29 6 = nI nl.length) (hg : rwp S a 5 gl (G 27)) (hn : rwp S a 6 nl (G 28)) (hb : nl.length + gl.length ≤ 64) (hw : ∀ w, w ∈ gl → ∀ i, i < 5 → w i < 4)
    (hQ : ∀ G', eqx [28, 29] G G' → (∀ i, i ≠ 6 → G' 29 i = G 29 i) → G' 29 6 = nI (nl ++ ext S 5 q gl).length → rwp S a 6 (nl ++ ext S 5 q gl) (G' 28) → Q none (hp G' L)) : CT 40 [.ref 20, .int (nI 5), .int (nI q)] (hp G L) Q := by
  obtain ⟨r1, r2, r3, r4⟩ := id hR
  refine sm_meth hC [some (.ref 20), some (.int (nI 5)), some (.int (nI q)), none, none, none, none, none, none] rfl rfl rfl ?_
  have lo : ∀ i, i ≤ gl.length → ∀ o6 o7 o8 G1, eqx [28, 29] G G1 → (∀ i, i ≠ 6 → G1 29 i = G 29 i) → G1 29 6 = nI (nl ++ ext S 5 q (gl.take i)).length → rwp S a 6 (nl ++ ext S 5 q (gl.take i)) (G1 28) → sm_Wk 3 40 Q none 20 [some (.ref 20), some (.int (nI 5)), some (.int (nI q)), some (.ref 27), some (.ref 28), some (.int (nI i)), o6, o7, o8] [] (hp G1 L) := by
    refine up _ (fun i hi ih o6 o7 o8 G1 hx hs29 hsz hrw => ?_)
    have f1 : G1 29 (nI 5).toNatClampNeg = nI gl.length := by rw [zn_clI (show 5 < 2 ^ 31 by decide), hs29 5 (by decide)]; exact h1
    have fa : G1 20 3 = nI a := by rw [hx 20 rfl]; exact ea
    have fP : G1 27 = G 27 := hx 27 rfl
    have hD1 := cD_x hx rfl hD
    have hL1 := cL_x hx rfl hL
    by_cases hl : i < gl.length
    · obtain ⟨w, hwi⟩ : ∃ w, gl[i]? = some w := ⟨gl[i], List.getElem?_eq_getElem hl⟩
      have hwm : w ∈ gl := List.mem_of_getElem? hwi
      have hw4 := hw w hwm
      have hp4 : ∀ v, v < S 0 1 → ps S w v 5 < 4 := fun v hv => ps_lt (r4 v hv).2.1 _ hw4
      have hp5 : ∀ v, v < S 0 1 → ps S (su w 5 q) v 6 < 4 := fun v hv => ps_lt (r4 v hv).2.1 _ (fun j hj => by
        rw [su_if]
        by_cases e : j = 5
        · rw [if_t e]; exact hq
        · rw [if_f e]; exact hw4 j (by omega))
      have hz := zp_256 r2 hp4
      have hz5 := zp_256 r2 hp5
      have hk4 := kw_lt (a := a) hw4
      have egi : G1 27 i = nI ((if a < 5 then w a else 0) * 256 + zp (S 0 1) (fun v => ps S w v 5)) := by rw [fP]; exact hg i w hwi
      have ept : (fun v => tv S v (ps S w v 5) q) = fun v => ps S (su w 5 q) v 6 := (ps_su (h := 5)).symm
      have hel := ext_le (S := S) (h := 5) (q := q) (gl := gl.take i)
      rw [List.length_take] at hel
      have hlen : (nl ++ ext S 5 q (gl.take i)).length < 64 := by rw [List.length_append]; omega
      have e1i : (nI 5 + nI 1).toNatClampNeg = 6 := by rw [nI_add, zn_clI (show 5 + 1 < 2 ^ 31 by decide)]
      have fs1 : G1 29 (nI 5 + nI 1).toNatClampNeg = nI (nl ++ ext S 5 q (gl.take i)).length := by rw [e1i]; exact hsz
      have e8 : sm_shr (nI ((if a < 5 then w a else 0) * 256 + zp (S 0 1) (fun v => ps S w v 5))) (nI 8) = nI (if a < 5 then w a else 0) := e_sh8 hz (by omega)
      refine sm_body [20] 120 sm_k40 (fun CT K hC hK => ?_)
      repeat' first
        | (with_reducible refine And.intro ?_ ?_)
        | ((with_reducible intro h9); first | exact absurd h9 (by decide) | ((rw [f1] at h9; replace h9 := zle (by omega) (by omega) h9)) | ((rw [f1] at h9; replace h9 := znle (by omega) (by omega) h9)) | (exact absurd hl (by omega)) | (replace h9 := sb_f h9) | (replace h9 := sb_t h9) | ((have h8 : nI 64 ≤ G1 29 (nI 5 + nI 1).toNatClampNeg := h9; rw [fs1] at h8; have h8 := zle (by omega) (by omega) h8; exfalso; omega)) | ((rw [fa] at h9; replace h9 := zneq h9)) | ((rw [fa] at h9; replace h9 := zeq (by omega) (by omega) h9)) | skip)
        | (with_reducible exact zn_in (by omega) (by decide))
        | (with_reducible exact z01) | (with_reducible exact z11) | (with_reducible exact zb01 _)
        | (with_reducible exact zn_inb (by omega) (by decide))
        | (with_reducible exact zn_ina (by omega) (by decide))
        | (with_reducible exact zn_inc (by omega) (by decide))
        | ((conv => whnf); first | (with_reducible refine And.intro ?_ ?_) | ((with_reducible intro h9); first | exact absurd h9 (by decide) | ((rw [f1] at h9; replace h9 := zle (by omega) (by omega) h9)) | ((rw [f1] at h9; replace h9 := znle (by omega) (by omega) h9)) | (exact absurd hl (by omega)) | (replace h9 := sb_f h9) | (replace h9 := sb_t h9) | ((have h8 : nI 64 ≤ G1 29 (nI 5 + nI 1).toNatClampNeg := h9; rw [fs1] at h8; have h8 := zle (by omega) (by omega) h8; exfalso; omega)) | ((rw [fa] at h9; replace h9 := zneq h9)) | ((rw [fa] at h9; replace h9 := zeq (by omega) (by omega) h9)) | skip) | (with_reducible refine hK _ _ _ _ (sm_un ?_)) | ((simp only [zn_clI (show i < 2 ^ 31 by omega), egi, e_255 hz]; refine s_turnedPose (hC.mono (by omega)) hD1 hR hp4 hq ?_; rw [ept])) | ((rw [fs1]; exact zn_in hlen (by decide))) | (refine s_agrees (hC.mono (by omega)) hD1 hR hL1 hp5 hh ?_))
      · exact absurd h9 (by omega)
      · have e := fun o7 o8 => ih hl (some (.int (nI (zp (S 0 1) (fun v => ps S (su w 5 q) v 6))))) o7 o8 G1 hx hs29
        rw [ext_f hwi h9] at e
        simp only [nI_add]; exact ⟨⟨e _ _ hsz hrw⟩⟩
      · have e := fun o7 o8 => ih hl (some (.int (nI (zp (S 0 1) (fun v => ps S (su w 5 q) v 6))))) o7 o8 (su (su G1 28 (su (G1 28) (nl ++ ext S 5 q (gl.take i)).length (nI ((if a < 5 then w a else 0) * 256 + zp (S 0 1) (fun v => ps S (su w 5 q) v 6))))) 29 (su (G1 29) 6 (nI ((nl ++ ext S 5 q (gl.take i)).length + 1)))) (eqx_su 29 _ rfl (eqx_su 28 _ rfl hx)) (fun j hj => by show su (G1 29) 6 _ j = _; rw [su_if, if_f hj]; exact hs29 j hj)
        rw [ext_t hwi ‹(ag S 5 fun v => ps S (su w 5 q) v 6) = true›, ← List.append_assoc] at e
        simp only [zn_clI (show i < 2 ^ 31 by omega), e1i, egi, e8, e_up8 hz5, hp_0, hp_1, hp_2, hp_3, hp_4, hp_5, hp_6, hp_7, hp_8, hp_9, hp_10, hp_11, hp_12, hp_13, hp_14, hp_15, hp_16, hp_17, hp_18, hp_19, hp_20, hp_22, hp_23, hp_24, hp_25, hp_26, hp_27, hp_28, hp_29, hp_30, hp_31, hp_32, hp_33, hp_34, hp_35, hp_36, hp_37, hp_38, hp_39, hp_40, hp_41, hp_42, hp_43, hp_44, hp_45, hp_46, hp_47, hp_48, hp_49, hf0_5, hf0_6, hf0_7, hf1_1, hf3_0, hf3_2, hf3_6, hf10_0, hf10_2, hf10_6, hf17_3, hf17_4, hf20_3, hf20_4, hf30_0, hf30_1, hf30_3, hf30_7, hf30_11, hf30_12, hf30_20, hf30_22, hf30_23, hf30_24, hf30_25, hf30_21, hf30_31, upd_su, updL_su]
        simp only [hsz, nI_add, zn_clI (show (nl ++ ext S 5 q (gl.take i)).length < 2 ^ 31 by omega)]
        refine ⟨⟨e _ _ ?_ ?_⟩⟩
        · show su (G1 29) 6 _ 6 = _
          rw [su_eq]
          exact nI_i (by simp only [List.length_append, List.length_cons, List.length_nil])
        · refine rwp_app hrw ?_
          unfold en
          by_cases z : a < 5
          · rw [if_t z, if_t (show a < 6 by omega), su_if, if_f (show ¬ a = 5 by omega)]
          · rw [if_f z, if_f (show ¬ a < 6 by omega)]
      · have e := fun o7 o8 => ih hl (some (.int (nI (zp (S 0 1) (fun v => ps S (su w 5 q) v 6))))) o7 o8 G1 hx hs29
        rw [ext_f hwi h9] at e
        simp only [nI_add]; exact ⟨⟨e _ _ hsz hrw⟩⟩
      · have e := fun o7 o8 => ih hl (some (.int (nI (zp (S 0 1) (fun v => ps S (su w 5 q) v 6))))) o7 o8 (su (su G1 28 (su (G1 28) (nl ++ ext S 5 q (gl.take i)).length (nI (q * 256 + zp (S 0 1) (fun v => ps S (su w 5 q) v 6))))) 29 (su (G1 29) 6 (nI ((nl ++ ext S 5 q (gl.take i)).length + 1)))) (eqx_su 29 _ rfl (eqx_su 28 _ rfl hx)) (fun j hj => by show su (G1 29) 6 _ j = _; rw [su_if, if_f hj]; exact hs29 j hj)
        rw [ext_t hwi ‹(ag S 5 fun v => ps S (su w 5 q) v 6) = true›, ← List.append_assoc] at e
        simp only [e1i, e_up8 hz5, hp_0, hp_1, hp_2, hp_3, hp_4, hp_5, hp_6, hp_7, hp_8, hp_9, hp_10, hp_11, hp_12, hp_13, hp_14, hp_15, hp_16, hp_17, hp_18, hp_19, hp_20, hp_22, hp_23, hp_24, hp_25, hp_26, hp_27, hp_28, hp_29, hp_30, hp_31, hp_32, hp_33, hp_34, hp_35, hp_36, hp_37, hp_38, hp_39, hp_40, hp_41, hp_42, hp_43, hp_44, hp_45, hp_46, hp_47, hp_48, hp_49, hf0_5, hf0_6, hf0_7, hf1_1, hf3_0, hf3_2, hf3_6, hf10_0, hf10_2, hf10_6, hf17_3, hf17_4, hf20_3, hf20_4, hf30_0, hf30_1, hf30_3, hf30_7, hf30_11, hf30_12, hf30_20, hf30_22, hf30_23, hf30_24, hf30_25, hf30_21, hf30_31, upd_su, updL_su]
        simp only [hsz, nI_add, zn_clI (show (nl ++ ext S 5 q (gl.take i)).length < 2 ^ 31 by omega)]
        refine ⟨⟨e _ _ ?_ ?_⟩⟩
        · show su (G1 29) 6 _ 6 = _
          rw [su_eq]
          exact nI_i (by simp only [List.length_append, List.length_cons, List.length_nil])
        · refine rwp_app hrw ?_
          unfold en
          rw [if_t (show a < 6 by omega), su_if, if_t (show a = 5 by omega)]
    · refine sm_body [20] 120 sm_k40 (fun CT K hC hK => ?_)
      repeat' first
        | (with_reducible refine And.intro ?_ ?_)
        | ((with_reducible intro h9); first | exact absurd h9 (by decide) | ((rw [f1] at h9; replace h9 := zle (by omega) (by omega) h9)) | ((rw [f1] at h9; replace h9 := znle (by omega) (by omega) h9)) | skip)
        | (with_reducible exact zn_in (by omega) (by decide))
        | (with_reducible exact z01) | (with_reducible exact z11) | (with_reducible exact zb01 _)
        | (with_reducible exact zn_inb (by omega) (by decide))
        | (with_reducible exact zn_ina (by omega) (by decide))
        | (with_reducible exact zn_inc (by omega) (by decide))
        | ((conv => whnf); first | (with_reducible refine And.intro ?_ ?_) | ((with_reducible intro h9); first | exact absurd h9 (by decide) | ((rw [f1] at h9; replace h9 := zle (by omega) (by omega) h9)) | ((rw [f1] at h9; replace h9 := znle (by omega) (by omega) h9)) | skip) | (with_reducible refine hK _ _ _ _ (sm_un ?_)))
      all_goals first | exact absurd ‹i < gl.length› hl | skip
      rw [List.take_of_length_le (by omega)] at hsz hrw
      exact hQ G1 hx hs29 hsz hrw
  refine sm_body [20] 60 sm_k40 (fun CT K hC hK => ?_)
  repeat' first
    | (with_reducible refine And.intro ?_ ?_)
    | ((with_reducible intro h9); first | exact absurd h9 (by decide) | skip)
    | (with_reducible exact zn_in (by omega) (by decide))
    | (with_reducible exact z01) | (with_reducible exact z11) | (with_reducible exact zb01 _)
    | (with_reducible exact zn_inb (by omega) (by decide))
    | (with_reducible exact zn_ina (by omega) (by decide))
    | (with_reducible exact zn_inc (by omega) (by decide))
    | ((conv => whnf); first | (with_reducible refine And.intro ?_ ?_) | ((with_reducible intro h9); first | exact absurd h9 (by decide) | skip) | (with_reducible refine hK _ _ _ _ (sm_un ?_)) | (refine Exists.intro 27 (And.intro rfl ?_)) | (refine Exists.intro 28 (And.intro rfl ?_)))
  refine ⟨⟨lo 0 (Nat.zero_le _) _ _ _ G eqx_rfl (fun _ _ => rfl) ?_ ?_⟩⟩
  · show G 29 6 = nI (nl ++ []).length
    rw [List.append_nil]; exact h2
  · show rwp S a 6 (nl ++ []) (G 28)
    rw [List.append_nil]; exact hn
end BLOW
