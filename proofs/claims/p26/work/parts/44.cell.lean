/-! The law's cell: a number of the script. -/
def sm_callX (d n : Nat) (f : Nat → Int32) : sm_CT := fun j as h Q => ∀ (l : Launch) (D : va_G) (G : Nat → ClassId) (ad : Nat → Nat) (sz : Nat),
  Met l (sm_y j) (sm_ws j) (sm_room d) (va_Pc (as.map (sm_rv ad)) (fun U => U.heap.size = sz ∧ va_P D vwCl (sm_rw G ad h) U.heap ∧ va_K D vwCl (sm_tys G) U ∧ va_D (fun _ => True) (sm_rw G ad h) ∧ va_X (ad 9999) n f U U.heap ∧ ad 9999 < sz ∧ ¬ va_A (sm_rw G ad h) sz (ad 9999))) (sm_Qc Q D G ad (va_A (sm_rw G ad h) sz)) 0 0 (va_A (sm_rw G ad h) sz)
theorem sm_blindX {as : List Value} {sz n : Nat} {f : Nat → Int32} {D : va_G} {G : Nat → ClassId} {ad : Nat → Nat} {h : sm_H} : FrameBlind (va_Pc as (fun U => U.heap.size = sz ∧ va_P D vwCl (sm_rw G ad h) U.heap ∧ va_K D vwCl (sm_tys G) U ∧ va_D (fun _ => True) (sm_rw G ad h) ∧ va_X (ad 9999) n f U U.heap ∧ ad 9999 < sz ∧ ¬ va_A (sm_rw G ad h) sz (ad 9999))) :=
  fun a U g mk q => by obtain ⟨q0, q1, qP, qK, qD, qX, q2, q3⟩ := q; exact ⟨q0, q1, qP, va_K.moved (u := U) (U := U.calling g mk a) (Vm.Alike.refl U.vm) qK, qD, va_X.moved (u := U) (U := U.calling g mk a) (Vm.Alike.refl U.vm) qX, q2, q3⟩
theorem sm_enterX {j d n : Nat} {f : Nat → Int32} {as : List Value} {h : sm_H} {Q : sm_Q} (ls : sm_L) (hls : ls = sm_ent as ++ List.replicate (sm_max j - (sm_ent as).length) none) (hlen : Nat.ble (sm_ent as).length (sm_max j) = true) (hpl : plainName (sm_y j).cls = true)
    (hw : sm_W j d Q (some (n, f)) 0 ls [] h) : sm_callX (d + 1) n f j as h Q := by
  intro l D G ad sz
  refine Met.ofW (cc := sm_code j) (maxL := sm_max j) (ret := sm_ret j) hpl rfl ?_
  intro p e s m args below meth c s₁ B hml hv
  obtain ⟨rfl, hsz, hP, hK, hD0, hX, hlt, hno⟩ := hv
  have hx := B.exec
  have hb := B.bytes
  have hr := B.returns
  have hts := atoms_spec (ws := sm_ws j) B.pre
  have hown : s.vm.findClass (sm_y j).cls = some m.cls := findClass_of_methodNamed B.named
  have hlocks := B.notSynchronized
  subst hsz
  rw [lg_entry_eq]
  have hl := lv_entry (as.map (sm_rv ad)) (n := sm_max j) (by rw [sm_sl_len]; exact Nat.le_of_ble_eq_true hlen)
  refine hw p l e (headSpec (sm_ws j) (sm_room (d + 1))).room s m _ below meth c (va_A (sm_rw G ad h) s.heap.size) s.heap D G ad 0 0 _ ⟨hx, hb, hml, hown, fun w hw => hts w (List.mem_cons_of_mem _ hw), hK, fun q hq => Or.inr hq, ⟨Nat.le_refl _, Nat.le_refl _⟩, ⟨Nat.zero_le _, Nat.zero_le _⟩, ?_, fun q hq => by cases hq; exact ⟨hX, hlt, hno⟩⟩ s.heap [] _ hP hD0.self va_S.rf ⟨_, hl, fun i v hg => ?_⟩
  · intro H locs lsA pc v h' hrt hq hP hD hS
    match v, hrt with
    | none, hrt => exact W.vret hx hb (hr.trans hrt.2) (fun t ht hW => ⟨⟨none, h', rfl, hq, by rw [ht]; exact hP, va_K.moved hW.alike hK, hD⟩, hS.F ht⟩) hS.2.2 hrt.1
    | some (.int a), hrt =>
      obtain ⟨h1, ty, h2, h3⟩ := hrt
      exact W.zret (v := a) hx hb (hr.trans h2) h3 (fun t ht hW => ⟨⟨some (.int a), h', rfl, hq, by rw [ht]; exact hP, va_K.moved hW.alike hK, hD⟩, hS.F ht⟩) hS.2.2 h1
    | some (.long a), hrt => exact W.lret (v := a) hx hb (hr.trans hrt.2) (fun t ht hW => ⟨⟨some (.long a), h', rfl, hq, by rw [ht]; exact hP, va_K.moved hW.alike hK, hD⟩, hS.F ht⟩) hS.2.2 hrt.1
  · have h2 := sm_ent_args as ad 0 i v (sm_get_pad (by rw [← hls]; exact hg))
    rwa [Nat.zero_add] at h2
theorem zM (z : Int32) : ∃ m, m < 2 ^ 31 ∧ z &&& nI 2147483647 = nI m := by
  refine ⟨(z &&& nI 2147483647).toBitVec.toNat, ?_, ?_⟩
  · have e : (z &&& nI 2147483647).toBitVec = z.toBitVec &&& 2147483647#32 := rfl
    rw [e, BitVec.toNat_and]
    exact Nat.lt_of_le_of_lt Nat.and_le_right (by decide)
  · apply Int32.toBitVec_inj.mp
    apply BitVec.eq_of_toNat_eq
    show _ = (BitVec.ofNat 32 (z &&& nI 2147483647).toBitVec.toNat).toNat
    rw [BitVec.toNat_ofNat]
    exact (Nat.mod_eq_of_lt (BitVec.isLt _)).symm
/-- what cell answers: some number; nothing changes -/
def cellQ (G : Nat → Nat → Int32) (L : Nat → Nat → Int64) : sm_Q := fun v h => (∃ x, x < 2 ^ 31 ∧ v = some (.int (nI x))) ∧ h = hp G L
section CELL
variable {G : Nat → Nat → Int32} {L : Nat → Nat → Int64} {Q : sm_Q} {n : Nat} {f : Nat → Int32}
set_option maxRecDepth 100000 in
set_option maxHeartbeats 4000000 in
theorem x_cell {d k : Nat} (hn : n ≤ 260) (hk : k < 1000) : sm_callX (d + 1) n f 78 [.ref 9999, .int (nI k)] (hp G L) (cellQ G L) := by
  have hw : sm_Wk 0 78 (cellQ G L) (some (n, f)) 0 [some (.ref 9999), some (.int (nI k))] [] (hp G L) := by
    refine sm_body [] 60 sm_k78 (fun CT K hC hK => ?_)
    repeat' first
      | (with_reducible refine And.intro ?_ ?_)
      | ((with_reducible intro h9); first | exact absurd h9 (by decide) | (replace h9 := zle (a := n) (by omega) (by omega) h9) | (replace h9 := znle (a := n) (by omega) (by omega) h9) | skip)
      | (with_reducible exact zn_in (by omega) (by decide))
      | (with_reducible exact z01) | (with_reducible exact z11) | (with_reducible exact zb01 _)
      | (with_reducible exact zn_inb (by omega) (by decide))
      | (with_reducible exact zn_ina (by omega) (by decide))
      | (with_reducible exact zn_inc (by omega) (by decide))
      | (with_reducible exact zn_ind (by omega) (by decide))
      | (with_reducible exact zn_ine (by omega) (by decide))
      | ((conv => whnf); first | (with_reducible refine And.intro ?_ ?_) | ((with_reducible intro h9); first | exact absurd h9 (by decide) | (replace h9 := zle (a := n) (by omega) (by omega) h9) | (replace h9 := znle (a := n) (by omega) (by omega) h9) | skip) | (with_reducible refine hK _ _ _ _ (sm_un ?_)) | (exact zn_in (by omega) (by omega)))
    all_goals first
      | exact rfl
      | (obtain ⟨m, hm, e⟩ := zM (nI 7919 * nI k + nI 13); exact ⟨m, hm, congrArg (fun a => some (Value.int a)) e⟩)
      | (obtain ⟨m, hm, e⟩ := zM (f (nI k).toNatClampNeg); exact ⟨m, hm, congrArg (fun a => some (Value.int a)) e⟩)
  exact sm_enterX _ rfl rfl rfl (hw d (Nat.zero_le _))
theorem sm_cell {d k pc idx z : Nat} {ls : sm_L} {st : List Value} (hn : n ≤ 260) (hk : k < 1000) (hd : 1 ≤ d) (hc : (sm_aux 143 (.invokestatic idx) pc 78 2 z .null [] && decide (decode (sm_code 143) pc = .ok (.invokestatic idx, 3))) = true) (hcat : Nat.ble (sm_cat st) 8 = true)
    (kk : ∀ x, x < 2 ^ 31 → sm_W 143 d Q (some (n, f)) (pc + 3) ls (.int (nI x) :: st) (hp G L)) : sm_W 143 d Q (some (n, f)) pc ls (.int (nI k) :: .ref 9999 :: st) (hp G L) := by
  intro p l e R s m args below meth c A H0 D Gc ad cells slots Z C H locs lsA hP hD hS hL
  obtain ⟨d', rfl⟩ : ∃ d', d = d' + 1 := ⟨d - 1, by omega⟩
  have go : ∀ x, x < 2 ^ 31 → ∀ H locs lsA, va_P D vwCl (sm_rw Gc ad (hp G L)) H → va_D A (sm_rw Gc ad (hp G L)) → va_S A H0 H locs → sm_lo ad (sm_max 143) ls lsA → W p l e R s m args below meth c H locs cells slots Z (F0 m (pc + 3) lsA ((.int (nI x) :: st).map (sm_rv ad))) := fun x hx H locs lsA => kk x hx p l e R s m args below meth c A H0 D Gc ad cells slots Z C H locs lsA
  obtain ⟨hx, hb, hml, hown, hts, hK, hA, hRm, hRc, hret, hscr⟩ := C
  have hsz : lsA.size = sm_max 143 := by obtain ⟨l0, h1, -⟩ := hL; exact h1.1
  obtain ⟨x1, x2, x3⟩ := hscr _ rfl
  replace hc := Bool.and_eq_true_iff.mp hc
  obtain ⟨ha, hdg⟩ := hc
  have hdg : decode (sm_code 143) pc = .ok (.invokestatic idx, 3) := of_decide_eq_true hdg
  replace ha := Bool.and_eq_true_iff.mp ha
  obtain ⟨ha, hb5⟩ := ha
  replace ha := Bool.and_eq_true_iff.mp ha
  obtain ⟨ha, hb4⟩ := ha
  replace ha := Bool.and_eq_true_iff.mp ha
  obtain ⟨ha, hb3⟩ := ha
  replace ha := Bool.and_eq_true_iff.mp ha
  obtain ⟨hb1, hb2⟩ := ha
  have hmx : sm_max 78 ≤ 40 := of_decide_eq_true hb5
  simp only [sm_npar, Bool.and_eq_true, decide_eq_true_eq] at hb3
  simp only [sm_mstat] at hb2
  have hini : Jvm.Cond.initialized (sm_y 78).cls ∈ sm_all := by
    have := hb1
    simp only [sm_mwords, Bool.and_eq_true] at this
    exact sm_has_in this.2
  have hG : GoodIn sm_all (va_wsS (sm_y 143).cls idx (sm_y 78) (sm_ws 78)) :=
    sm_good_cons (sm_has_in hb4) (sm_good_cons (sm_has_in hb2) (sm_good_cons hini (sm_good_ws hb1)))
  have hbA : ¬ va_A (sm_rw Gc ad (hp G L)) H.size (ad 9999) := fun q => x3 (sm_free hD hS hA _ q)
  have hXH : va_X (ad 9999) n f s H := va_X.kept x1 (hS.2.1 _ x2 x3)
  have hlt : ad 9999 < H.size := Nat.lt_of_lt_of_le x2 hS.1
  have hr := va_runS (p := p) (l := l) (e := e) (R := R) (s := s) (m := m) (args := args) (below := below) (meth := meth) (c := c) (H := H) (locs := locs) (cells := cells) (slots := slots) (g := F0 m pc lsA ((.int (nI k) :: .ref 9999 :: st).map (sm_rv ad))) (As := [Value.ref 9999, Value.int (nI k)].map (sm_rv ad)) (rest := st.map (sm_rv ad)) (index := idx) (n := 2) (mc := 0) (ms := 0) (bytes := sm_code 78) (maxL := sm_max 78) (ret := sm_ret 78)
    ⟨hx, hb, hml, hown, hts⟩ (x_cell (G := G) (L := L) (n := n) (f := f) (d := d') hn hk l D Gc ad H.size)
    (va_cwS 2 hts hG rfl rfl rfl ⟨hb3.1.1, hb3.1.2, hb3.2⟩ ⟨hRm.1, by have := hRm.2; show 8 + (sm_max 78 + 11) + 64 * (d' + 1) ≤ R.locals; omega⟩)
    ⟨sm_blindX, fun U hU hW => ⟨rfl, by rw [hU], by rw [hU]; exact hP, va_K.moved hW.alike hK, hD.weaken (fun _ _ _ _ => trivial), by rw [hU]; exact va_X.moved hW.alike hXH, hlt, hbA⟩⟩
    rfl rfl hsz rfl (lv_room (by rw [sm_rv_sum]; exact Nat.le_of_ble_eq_true hcat)) hdg ⟨by omega, by omega⟩
  refine sm_after hr hS (sm_free hD hS hA) (sm_free hD hS hA) (fun w h1 H1 locs1 hq hP hD hS => ?_)
  obtain ⟨⟨x, hx31, rfl⟩, rfl⟩ := hq
  exact go x hx31 _ _ _ hP hD hS hL
theorem sm_cellk {k k0 pc idx z : Nat} {ls : sm_L} {st : List Value} (hk0 : 1 ≤ k0) (hn : n ≤ 260) (hk : k < 1000) (hc : (sm_aux 143 (.invokestatic idx) pc 78 2 z .null [] && decide (decode (sm_code 143) pc = .ok (.invokestatic idx, 3))) = true) (hcat : Nat.ble (sm_cat st) 8 = true)
    (kk : ∀ x, x < 2 ^ 31 → sm_Wk k0 143 Q (some (n, f)) (pc + 3) ls (.int (nI x) :: st) (hp G L)) : sm_Wk k0 143 Q (some (n, f)) pc ls (.int (nI k) :: .ref 9999 :: st) (hp G L) :=
  fun d hd => sm_cell hn hk (by omega) hc hcat (fun x hx => kk x hx d hd)
end CELL
