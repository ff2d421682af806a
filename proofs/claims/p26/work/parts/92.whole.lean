/-! The claim. -/
/-! THE CLAIM OUT OF ONE WALK OF THE LAW'S BODY. Your part is whole_start (and what it stands on); all else here is the same for every law, but numbers. -/
def R_law : String := "SwornVaneLaw"
def lw_P (b : Addr) (xs : List Int32) (args : Array Value) (s : State) : Prop := args = #[.ref b] ∧ s.IntsAt b xs ∧ xs.length ≤ 260 ∧ (Jvm.Cond.and given_1 narrow_1).before args s = true
def lw_Q (_ : Array Value) (s : State) (o : Outcome) (t : State) : Prop := o = .returned (some (.int 1)) ∧ Framed s o t [] 600000 7302250
def lw_Z (below : List Frame) (a : Array Value) (s : State) : State → Prop := fun t => ∃ o, t.status = .running ∧ Ended t below o ∧ lw_Q a s o t
/-- the law's own end, with 1 on the stack, nothing written that was there before, its room as the claim has it -/
theorem lw_ret {p : Program} {l : Launch} {e : Env} {s : State} {m : MethodId} {below : List Frame} {meth : Method} {c : Code} {b : Nat} (hx : p.tables.exec = Jvm.exec) (hb : c.code = code) (hr : meth.sig.returnType = ret) (hlocks : meth.locks = false) {pc : Nat} {H : Heap} {ls : Array Slot} (hdg : decode code pc = .ok (.ireturn, 1)) : W p l e room_1 s m #[Value.ref b] below meth c H [] 600000 7302250 (lw_Z below #[Value.ref b] s) (F0 m pc ls [.int 1]) := by
  intro T hT X
  obtain ⟨fs, hret, hrun, hended, hW, hframe⟩ := X.leave (v := some (.int 1)) (hlocks := hlocks) (fun h => by rw [hr] at h; cases h)
  have hmeth' : T.vm.method? m = some meth := X.method'
  refine ⟨T.setFrames fs, ?_, .returned (some (.int 1)), hrun, hended, rfl, ⟨_, rfl⟩, hW, hframe⟩
  jvm_step X.here [X.here.top, hx, hb, hdg, hmeth', hr, ret, narrow_b1]
  (try refine ⟨rfl, ?_⟩); (try refine ⟨rfl, ?_⟩)
  first | (intro acts; rw [hret _ acts rfl rfl rfl]) | rw [hret _ _ rfl rfl rfl]
  exact Steps.refl _
/-- what holds at the law's entry: the machine, the code, the tables' words (any of lw_tbl by 'hts w (by decide +kernel)'), the script of L ints xs at the cell b, what the Statement gives of the start (any of its parts by flat_of_before) -/
def lw_At (p : Program) (s : State) (m : MethodId) (meth : Method) (c : Code) (b L : Nat) (xs : Nat → Int32) : Prop :=
  p.tables.exec = Jvm.exec ∧ c.code = code ∧ meth.sig.returnType = ret ∧ c.maxLocals = 27 ∧ s.vm.findClass R_law = some m.cls ∧ (∀ w ∈ lw_tbl, w.before #[Value.ref b] s = true) ∧ va_X b L xs s s.heap ∧ b < s.heap.size ∧ meth.locks = false ∧ (Jvm.Cond.and given_1 narrow_1).before #[Value.ref b] s = true
-- ===== YOUR PART BEGINS =====
theorem last_none (i : Nat) (w : Value) : ¬ sm_get [some (.ref 9999), some (.ref 0), some (.ref 30), some (.ref 31), some (.ref 32), some (.ref 33), some (.ref 34), some (.ref 35), none, none, none, none, none, none, none, none, none, none, none, none, none, none, none, none, none, none, none] (i + 8) = some w := by
  intro h
  by_cases hi : i < 19
  · have key : ∀ i, i < 19 → sm_nth ([none, none, none, none, none, none, none, none, none, none, none, none, none, none, none, none, none, none, none] : sm_L) i = some none := by decide
    have h : sm_get [none, none, none, none, none, none, none, none, none, none, none, none, none, none, none, none, none, none, none] i = some w := h
    unfold sm_get at h
    rw [key i hi] at h
    cases h
  · obtain ⟨d, rfl⟩ : ∃ d, i = d + 19 := ⟨i - 19, by omega⟩
    cases h
theorem w_known {s : State} {args : Array Value} (hta : ∀ w ∈ sm_all, w.before args s = true) : ∃ D : va_G, ∀ (k : Nat) (q : vw_C), vwCl[k]? = some q → u_Kn s q.1 q.2.1 q.2.2 (D.1 k) (D.2 k) := by
  have one : ∀ k : Nat, ∃ (c : ClassId) (i : Nat → Nat), ∀ q : vw_C, vwCl[k]? = some q → u_Kn s q.1 q.2.1 q.2.2 c i := by
    intro k
    by_cases h6 : k < 5
    · have hk : ∃ (c : ClassId) (i : Nat → Nat), u_Kn s (sm_cl k).1 (sm_cl k).2.1 (sm_cl k).2.2 c i := by
        have hc : k = 0 ∨ k = 1 ∨ k = 2 ∨ k = 3 ∨ k = 4 := by omega
        rcases hc with rfl | rfl | rfl | rfl | rfl
        · exact u_known hta (sm_cl_in (by decide)) (hta (.instantiable (sm_cl 0).1 9) (sm_has_in (z := 34) (by decide +kernel)))
        · exact u_known hta (sm_cl_in (by decide)) (hta (.instantiable (sm_cl 1).1 2) (sm_has_in (z := 17) (by decide +kernel)))
        · exact u_known hta (sm_cl_in (by decide)) (hta (.instantiable (sm_cl 2).1 5) (sm_has_in (z := 78) (by decide +kernel)))
        · exact u_known hta (sm_cl_in (by decide)) (hta (.instantiable (sm_cl 3).1 5) (sm_has_in (z := 102) (by decide +kernel)))
        · exact u_known hta (sm_cl_in (by decide)) (hta (.instantiable (sm_cl 4).1 8) (sm_has_in (z := 9) (by decide +kernel)))
      obtain ⟨c, i, h⟩ := hk
      refine ⟨c, i, fun q hq => ?_⟩
      rw [sm_cl_at h6] at hq
      cases hq
      exact h
    · refine ⟨0, fun _ => 0, fun q hq => ?_⟩
      have : k < 5 := (List.getElem?_eq_some_iff.mp hq).1
      exact absurd this h6
  exact ⟨(fun k => (one k).choose, fun k => (one k).choose_spec.choose), fun k q hq => (one k).choose_spec.choose_spec q hq⟩
set_option maxRecDepth 100000 in
set_option maxHeartbeats 4000000 in
/-- the law, from its entry -/
theorem whole_start {p : Program} {e : Env} {s : State} {m : MethodId} {below : List Frame} {meth : Method} {c : Code} (l : Launch) (hflags : l.flags = flags0) {b L : Nat} {xs : Nat → Int32} (hL : L ≤ 260) (C0 : lw_At p s m meth c b L xs) : W p l e room_1 s m #[Value.ref b] below meth c s.heap [] 0 0 (lw_Z below #[Value.ref b] s) (entryFrame m ([Value.ref b] : List Value).toArray 27) := by
  obtain ⟨hx, hb, hr, hml, hown, hts, hX, hbl, hlocks, hgv⟩ := id C0
  have hA : ∀ q : Nat, s.heap.size ≤ q → (fun q : Nat => s.heap.size ≤ q) q := fun _ h => h
  have hbA : ¬ (fun q : Nat => s.heap.size ≤ q) b := Nat.not_le.mpr hbl
  have hta : ∀ w ∈ sm_all, w.before #[Value.ref b] s = true := fun w h => hts w (List.mem_filter.mp h).1
  obtain ⟨cI, kI, pI, i1, i2, i3⟩ := Jvm.Cond.arrayClass_spec (hta (.arrayClass .int) (sm_has_in (z := 32) (by decide +kernel)))
  obtain ⟨cC, cO, kO, o1, o2, o3, o4⟩ := nw_over (t := .int) (hts (.arrayOver (.array .int)) (List.mem_of_getElem? (i := 108) (by decide +kernel)))
  have eI : cC = cI := Option.some.inj (o1.symm.trans i1)
  subst eI
  obtain ⟨D, hKn⟩ := w_known hta
  obtain ⟨G, hG⟩ : ∃ G : Nat → ClassId, G = fun k => match k with | 0 => cC | 1 => cC | 2 => cC | _ => cO := ⟨_, rfl⟩
  have g_0 : G 0 = cC := congrFun hG 0
  have g_1 : G 1 = cC := congrFun hG 1
  have g_2 : G 2 = cC := congrFun hG 2
  have g_3 : G 3 = cO := congrFun hG 3
  have hK : va_K D vwCl (sm_tys G) s := by
    refine ⟨hKn, fun k q hq => ?_⟩
    have h4 : k < 4 := (List.getElem?_eq_some_iff.mp hq).1
    have hc : k = 0 ∨ k = 1 ∨ k = 2 ∨ k = 3 := by omega
    rcases hc with rfl | rfl | rfl | rfl
    · cases hq
      rw [g_0]
      exact ⟨fun n z => ⟨fun k h => (by cases h), kI, i2, pI, i3⟩, i1⟩
    · cases hq
      rw [g_1]
      exact ⟨fun n z => ⟨fun k h => (by cases h), kI, i2, pI, i3⟩, i1⟩
    · cases hq
      rw [g_2]
      exact ⟨fun n z => ⟨fun k h => (by cases h), kI, i2, pI, i3⟩, i1⟩
    · cases hq
      rw [g_3]
      exact ⟨fun n z => ⟨fun k h => (by cases h), kO, o2, cC, o3⟩, o4⟩
  have hN : nw_N G s := ⟨⟨kO, by rw [g_3]; exact o2, by rw [g_0]; exact o3⟩, va_Nw.of rfl (hts (.methodLinkNest "SwornVane" 9 (sm_y 21) "SwornVane") (List.mem_of_getElem? (i := 18) (by decide +kernel))), va_Nw.of rfl (hts (.methodLinkNest "SwornVane" 18 (sm_y 0) "SwornVane") (List.mem_of_getElem? (i := 35) (by decide +kernel)))⟩
  have C : nw_o 143 p s m #[Value.ref b] c D G := ⟨hx, hb, hml, hown, hta, hK⟩
  have hS : va_S (fun q : Nat => s.heap.size ≤ q) s.heap s.heap [] := va_S.rf
  have hP : va_P D vwCl [] s.heap := fun k q h => by simp at h
  have hD : va_D (fun q : Nat => s.heap.size ≤ q) [] := ⟨fun i j p q h => by simp at h, fun k q h => by simp at h⟩
  have hl := lv_entry ([.ref b]) (n := 27) (Nat.le_of_ble_eq_true rfl)
  rw [lg_entry_eq]
  generalize (lg_sl ([.ref b]) ++ List.replicate (27 - (lg_sl ([.ref b])).length) Slot.unset).toArray = ls at hl ⊢
  have hl : lv_has ls 27 [(0, .ref b)] := hl
  have r1 : room_1.frames = 2048 := rfl
  have r2 : room_1.cells = 600000 := rfl
  have r3 : room_1.slots = 7302250 := rfl
  have r4 : room_1.locals = 84000 := rfl
  refine nw_new C hP hD hS hA (ci := 4) (idx := 9) (N := 8) (z1 := 8) (z2 := 9) (z3 := 3) (fs := [.null, .null, .null, .null, .null, .int 0, .int 0, .int 0]) (by decide +kernel) (by omega) (by omega) (fun q0 H hP hD hS => ?_)
  refine lv_dup hx hb (show decode (sm_code 143) 3 = .ok (.dup, 1) from by decide +kernel) rfl ?_
  refine nw_cons C hN k_Vane (rest := [.ref q0]) hP hD hS hA (idx := 63) (n := 0) rfl (by decide +kernel) (Or.inl (hta _ (sm_has_in (z := 10) (by decide +kernel)))) hl.1 (Nat.le_of_ble_eq_true rfl) ⟨by omega, by omega⟩ (by omega) (by omega) (fun u H locs hu hPn hDn hSn => ?_)
  subst hu
  refine lv_astore_n (lv' := [(1, .ref (u 0)), (0, .ref b)]) hx hb (show decode (sm_code 143) 7 = .ok (.astore_n 1, 1) from by decide +kernel) rfl hl (by decide) rfl (fun ls hl => ?_)
  have hP : va_P D vwCl (wVane G u) H := hPn
  have hD : va_D (fun q : Nat => s.heap.size ≤ q) (wVane G u) := hDn
  have hS := hSn
  refine lv_bipush (v := nI 20) hx hb (show decode (sm_code 143) 8 = .ok (.bipush 20, 2) from by decide +kernel) (by decide) ?_
  refine nw_newa C hP hD hS hA (z1 := 32) (n := 20) (by decide +kernel) (by decide) (by omega) (by omega) (fun v0 H hP hD hS => ?_)
  refine lv_astore_n (lv' := [(2, .ref v0), (1, .ref (u 0)), (0, .ref b)]) hx hb (show decode (sm_code 143) 12 = .ok (.astore_n 2, 1) from by decide +kernel) rfl hl (by decide) rfl (fun ls hl => ?_)
  refine lv_bipush (v := nI 31) hx hb (show decode (sm_code 143) 13 = .ok (.bipush 31, 2) from by decide +kernel) (by decide) ?_
  refine nw_newa C hP hD hS hA (z1 := 32) (n := 31) (by decide +kernel) (by decide) (by omega) (by omega) (fun v1 H hP hD hS => ?_)
  refine lv_astore_n (lv' := [(3, .ref v1), (2, .ref v0), (1, .ref (u 0)), (0, .ref b)]) hx hb (show decode (sm_code 143) 17 = .ok (.astore_n 3, 1) from by decide +kernel) rfl hl (by decide) rfl (fun ls hl => ?_)
  refine lv_bipush (v := nI 6) hx hb (show decode (sm_code 143) 18 = .ok (.bipush 6, 2) from by decide +kernel) (by decide) ?_
  refine nw_newa C hP hD hS hA (z1 := 32) (n := 6) (by decide +kernel) (by decide) (by omega) (by omega) (fun v2 H hP hD hS => ?_)
  refine lv_astore (lv' := [(4, .ref v2), (3, .ref v1), (2, .ref v0), (1, .ref (u 0)), (0, .ref b)]) hx hb (show decode (sm_code 143) 22 = .ok (.astore 4, 2) from by decide +kernel) hl (by decide) rfl (fun ls hl => ?_)
  refine lv_bipush (v := nI 24) hx hb (show decode (sm_code 143) 24 = .ok (.bipush 24, 2) from by decide +kernel) (by decide) ?_
  refine nw_newa C hP hD hS hA (z1 := 32) (n := 24) (by decide +kernel) (by decide) (by omega) (by omega) (fun v3 H hP hD hS => ?_)
  refine lv_astore (lv' := [(5, .ref v3), (4, .ref v2), (3, .ref v1), (2, .ref v0), (1, .ref (u 0)), (0, .ref b)]) hx hb (show decode (sm_code 143) 28 = .ok (.astore 5, 2) from by decide +kernel) hl (by decide) rfl (fun ls hl => ?_)
  refine lv_bipush (v := nI 24) hx hb (show decode (sm_code 143) 30 = .ok (.bipush 24, 2) from by decide +kernel) (by decide) ?_
  refine nw_newa C hP hD hS hA (z1 := 32) (n := 24) (by decide +kernel) (by decide) (by omega) (by omega) (fun v4 H hP hD hS => ?_)
  refine lv_astore (lv' := [(6, .ref v4), (5, .ref v3), (4, .ref v2), (3, .ref v1), (2, .ref v0), (1, .ref (u 0)), (0, .ref b)]) hx hb (show decode (sm_code 143) 34 = .ok (.astore 6, 2) from by decide +kernel) hl (by decide) rfl (fun ls hl => ?_)
  refine lv_bipush (v := nI 6) hx hb (show decode (sm_code 143) 36 = .ok (.bipush 6, 2) from by decide +kernel) (by decide) ?_
  refine nw_newa C hP hD hS hA (z1 := 32) (n := 6) (by decide +kernel) (by decide) (by omega) (by omega) (fun v5 H hP hD hS => ?_)
  refine lv_astore (lv' := [(7, .ref v5), (6, .ref v4), (5, .ref v3), (4, .ref v2), (3, .ref v1), (2, .ref v0), (1, .ref (u 0)), (0, .ref b)]) hx hb (show decode (sm_code 143) 40 = .ok (.astore 7, 2) from by decide +kernel) hl (by decide) rfl (fun ls hl => ?_)
  obtain ⟨v, hv⟩ : ∃ v : Nat → Nat, v = fun k => [v0, v1, v2, v3, v4, v5].getD k 0 := ⟨_, rfl⟩
  have y0 : v0 = v 0 := by rw [hv]; rfl
  have y1 : v1 = v 1 := by rw [hv]; rfl
  have y2 : v2 = v 2 := by rw [hv]; rfl
  have y3 : v3 = v 3 := by rw [hv]; rfl
  have y4 : v4 = v 4 := by rw [hv]; rfl
  have y5 : v5 = v 5 := by rw [hv]; rfl
  have hPe : va_P D vwCl (wVane G u ++ wArr G v) H := by
    unfold wArr
    rw [← y0, ← y1, ← y2, ← y3, ← y4, ← y5]
    simpa only [List.append_assoc, List.cons_append, List.nil_append] using hP
  have hDe : va_D (fun q : Nat => s.heap.size ≤ q) (wVane G u ++ wArr G v) := by
    unfold wArr
    rw [← y0, ← y1, ← y2, ← y3, ← y4, ← y5]
    simpa only [List.append_assoc, List.cons_append, List.nil_append] using hD
  obtain ⟨hP0, hD0⟩ := first_P (b := b) hPe hDe
  have go := lw_go (Q := fun v _ => v = some (.int (nI 1))) (f := xs) (L := l0) (S := s0) (G := g0) hL (fun _ => rfl) RS_0 Ic_0 rfl rfl 20 (Nat.le_refl _)
  refine go p l e room_1 s m #[Value.ref b] below meth c (fun q : Nat => s.heap.size ≤ q) s.heap D G (adOf b u v) _ _ (lw_Z below #[Value.ref b] s) ⟨hx, hb, hml, hown, hta, hK, hA, ⟨by omega, by omega⟩, ⟨by omega, by omega⟩, ?_, ?_⟩ H _ ls hP0 hD0 hS ⟨_, hl, ?_⟩
  · intro H locs lsA pc w h hrt hw hP hD hS
    subst hw
    refine va_forget (fun q hq => hS.2.2 q hq) ?_
    refine W.widen (k := 600000) (n := 7302250) (by omega) (by omega) ?_
    exact lw_ret hx hb hr hlocks hrt.1
  · intro q hq
    cases hq
    exact ⟨hX, hbl, hbA⟩
  · intro i w hi
    subst hv
    match i, hi with
    | 0, hi => cases hi; exact List.mem_of_getElem? (i := 7) rfl
    | 1, hi => cases hi; exact List.mem_of_getElem? (i := 6) rfl
    | 2, hi => cases hi; exact List.mem_of_getElem? (i := 5) rfl
    | 3, hi => cases hi; exact List.mem_of_getElem? (i := 4) rfl
    | 4, hi => cases hi; exact List.mem_of_getElem? (i := 3) rfl
    | 5, hi => cases hi; exact List.mem_of_getElem? (i := 2) rfl
    | 6, hi => cases hi; exact List.mem_of_getElem? (i := 1) rfl
    | 7, hi => cases hi; exact List.mem_of_getElem? (i := 0) rfl
    | i + 8, hi => exact absurd hi (last_none i w)
-- ===== YOUR PART ENDS =====
set_option maxHeartbeats 4000000 in
theorem lw_walk (l : Launch) (hflags : l.flags = flags0) (b : Addr) (xs : List Int32) : MetFree l x (headSpec (Jvm.Cond.code x code maxLocals ret :: tables_1) room_1) (lw_P b xs) (fun _ _ _ _ _ => True) lw_Q := by
  refine MetFree.of_bodyS (code := code) (maxLocals := maxLocals) (ret := ret) (by decide) ?_ ?_
  · intro args s m h hn
    obtain ⟨meth, c, h1, h2, h3, h4, h5, h6, -, -⟩ := Cond.code_spec hn (atoms_spec (ws := Jvm.Cond.code x code maxLocals ret :: tables_1) h _ List.mem_cons_self)
    exact ⟨meth, c, h1, h2, h3, h4, h5, h6⟩
  · intro p e s m args below meth c s₁ B hml0 hP _
    obtain ⟨rfl, hx, hbd, hgv⟩ := hP
    obtain ⟨scr, harrAt, hlist, hof, hsmall⟩ := hx
    obtain ⟨hcb, hkn, -, -⟩ := State.arrayAt?_spec harrAt
    have hown : s.vm.findClass R_law = some m.cls := findClass_of_methodNamed B.named
    have hts0 : ∀ c ∈ (Jvm.Cond.code x code maxLocals ret :: tables_1), c.before #[Value.ref b] s = true := atoms_spec (ws := Jvm.Cond.code x code maxLocals ret :: tables_1) B.pre
    have hts : ∀ w ∈ lw_tbl, w.before #[Value.ref b] s = true := k2_hts_sels lw_privs (fun w hw => hts0 w (List.mem_cons_of_mem _ hw)) lw_privs_ok
    have hml : c.maxLocals = 27 := B.maxLocals_eq (hts0 _ List.mem_cons_self)
    have X₀ : Stand p l e room_1 s m #[Value.ref b] below meth c s₁ [] 0 0 := Stand.of_body B
    have hh0 : s₁.heap = s.heap := by rw [B.state]; rfl
    have hsz : scr.slots.size = xs.length := by rw [← Array.length_toList, hlist, List.length_map]
    have hval : ∀ j : Nat, j < xs.length → scr.slots[j]? = some (.int (xs.getD j 0)) := fun j hj => by
      rw [← Array.getElem?_toList, hlist]
      simp [hj]
    have hbl : b < s.heap.size := (Array.getElem?_eq_some_iff.mp hcb).1
    have hX : va_X b xs.length (fun j => xs.getD j 0) s s.heap := ⟨scr, hcb, hof, hkn, hsz, hval⟩
    have K : W p l e room_1 s m #[Value.ref b] below meth c s₁.heap [] 0 0 (lw_Z below #[Value.ref b] s) (entryFrame m ([Value.ref b] : List Value).toArray 27) := by
      rw [hh0]
      exact whole_start l hflags hbd ⟨B.exec, B.bytes, B.returns, hml, hown, hts, hX, hbl, B.notSynchronized, hgv⟩
    obtain ⟨t, a1, o, b1, b2, b3⟩ := K s₁ rfl X₀
    exact ⟨t, o, a1, b1, b2, b3⟩
theorem lw_pre_spec {args : Array Value} {s : State} (h : (Jvm.Cond.and given_1 narrow_1).before args s = true) (hr : rest_1_c.before args s = true) : ∃ (b : Addr) (xs : List Int32), lw_P b xs args s := by
  have hs := flat_of_before _ h
  have hq := flat_of_before _ hr
  have hc : (Cond.count 1).before args s = true := hs _ (by decide +kernel)
  have harr : (Cond.arrayOf (.arg 0) .int).before args s = true := hs _ (by decide +kernel)
  have hle : (Cond.le (.length (.arg 0)) (.int 260)).before args s = true := hs _ (by decide +kernel)
  have hlen : (Cond.isInt (.length (.arg 0))).before args s = true := hq _ (by decide +kernel)
  have hall : (Cond.all (.arg 0) (.isInt (.elem (.arg 0) (.index 0)))).before args s = true := hq _ (by decide +kernel)
  obtain ⟨b, xs, hb, hx⟩ := State.ints_of_pre rfl harr hlen hall
  have hsm : xs.length < 2 ^ 31 := hx.choose_spec.2.2.2
  have hev : (Term.length (.arg 0)).eval args s none [] s = some (.int xs.length.toInt32) := hx.length_eval hb
  have hv := Cond.le_ints hev (show (Term.int 260).eval args s none [] s = some (.int 260) from rfl)
  have hd : xs.length.toInt32 ≤ 260 := by
    simpa [Cond.before, Cond.holds, hv] using hle
  have hN : xs.length ≤ 260 := (Int32.ofNat_le_ofNat hsm (by decide)).mp (show Int32.ofNat xs.length ≤ Int32.ofNat 260 from hd)
  exact ⟨b, xs, Cond.one_arg hc (show args[0]? = some (.ref b) from hb), hx, hN, h⟩
theorem lw_comes (l : Launch) (hflags : l.flags = flags0) : Comes l x (Jvm.Cond.code x code maxLocals ret :: tables_1) room_1 (fun tb e args s => Calls_1 tb e args s ∧ rest_1 tb e args s ∧ Pre_1 tb e args s)
    (fun _ _ args s o t => lw_Q args s o t) := by
  intro p e ha hc hk s m args below hf hfit hheap happ hpre
  obtain ⟨b, xs, hP⟩ := lw_pre_spec hpre.2.2 hpre.2.1
  obtain ⟨k, o, h1, h2, h3, hQ⟩ := lw_walk l hflags b xs p e ha hc hk s m args below hf ((Spec.applies_iff_loose hf).mp happ).1 hP trivial
  exact ⟨k, o, h1, h2, h3, hQ⟩
theorem lw_frame {s t : State} {o : Outcome} {args : Array Value} (h : Framed s o t [] 600000 7302250) :
    Framed s o t (fieldLocs frame_1_writes args s ++ arrayLocs frame_1_arrays args s ++ staticLocs frame_1_statics s) 600000 7302250 := h
theorem lw_limb (L : Cond) (hL : ∀ (args : Array Value) (s t : State), L.after args s (.returned (some (.int 1))) t = true) :
    ArmFor flags0 classFile x code maxLocals ret World_1 tables_1 room_1 Calls_1 rest_1 Pre_1
      (fun tb e a s o t => postC L tb e a s o t ∧ Framed s o t (fieldLocs frame_1_writes a s ++ arrayLocs frame_1_arrays a s ++ staticLocs frame_1_statics s) 600000 7302250) := by
  intro l hflags _ _ p e ha hc hk s m args below hf hfit hheap happ hpre
  obtain ⟨k, o, h1, h2, h3, rfl, hF⟩ := lw_comes l hflags p e ha hc hk s m args below hf hfit hheap happ hpre
  exact ⟨k, _, h1, h2, h3, hL args s _, lw_frame hF⟩
theorem i_vc : Claimed_1_1 ∧ Claimed_1_2 := ⟨lw_limb limb_1_1 (fun args s t => by simp [limb_1_1, Cond.after, Cond.holds, Cond.value]), lw_limb limb_1_2 (fun args s t => Cond.after_iff.mpr (by
  first | (rw [show limb_1_2 = Cond.eq .result (.int 1) from rfl, Cond.eq_ints (x := 1) (y := 1) rfl rfl]; simp; done) | (simp [limb_1_2, Cond.value, Term.eval]; done)))⟩
