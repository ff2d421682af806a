/-! Constructors: what they stand on, how they begin, their arrays. -/
def nw_N (G : Nat → ClassId) (U : State) : Prop := nw_AO G U ∧ va_Nw (.methodLinkNest "SwornVane" 9 (sm_y 21) "SwornVane") U ∧ va_Nw (.methodLinkNest "SwornVane" 18 (sm_y 0) "SwornVane") U
theorem nw_N.warm {G : Nat → ClassId} {s U : State} (hW : s.WarmedH U.vm) (h : nw_N G s) : nw_N G U := ⟨h.1.moved hW.alike, va_Nw.warmM hW h.2.1, va_Nw.warmM hW h.2.2⟩
theorem nw_N.same {G : Nat → ClassId} {u U : State} (e : u.vm = U.vm) (h : nw_N G u) : nw_N G U := ⟨by unfold nw_AO; rw [← e]; exact h.1, va_Nw.same rfl e h.2.1, va_Nw.same rfl e h.2.2⟩
/-- the contract of constructor j: of a new object's fields e0 it makes the world w -/
def nw_call (d cc ss j : Nat) (b : List Value) (e0 : Nat × List Value) (w : (Nat → ClassId) → (Nat → Nat) → va_W) : Prop := ∀ (l : Launch) (D : va_G) (G : Nat → ClassId) (h0 sz : Nat),
  Met l (sm_y j) (sm_ws j) { frames := d, cells := cc, slots := ss, locals := 64 * d } (va_Pc (.ref h0 :: b) (fun U => U.heap.size = sz ∧ va_P D vwCl [(h0, .inr e0)] U.heap ∧ va_K D vwCl (sm_tys G) U ∧ nw_N G U ∧ va_D (fun _ => True) [(h0, .inr e0)]))
    (va_Qv (fun u : Nat → Nat => u 0 = h0) (fun u t => va_P D vwCl (w G u) t.heap ∧ va_K D vwCl (sm_tys G) t ∧ va_D (va_A [(h0, .inr e0)] sz) (w G u)) (va_A [(h0, .inr e0)] sz)) cc ss (va_A [(h0, .inr e0)] sz)
def nw_ok (j : Nat) (p : Program) (s : State) (m : MethodId) (args : Array Value) (meth : Method) (c : Code) (D : va_G) (G : Nat → ClassId) : Prop :=
  p.tables.exec = Jvm.exec ∧ c.code = sm_code j ∧ c.maxLocals = sm_max j ∧ s.vm.findClass (sm_y j).cls = some m.cls ∧ (∀ w ∈ sm_all, w.before args s = true) ∧ va_K D vwCl (sm_tys G) s ∧ meth.name = "<init>"
theorem nw_enter {d cc ss j : Nat} {b : List Value} {e0 : Nat × List Value} {w : (Nat → ClassId) → (Nat → Nat) → va_W} (hpl : plainName (sm_y j).cls = true) (hin : (sm_y j).name = "<init>") (hret : sm_ret j = none) (hlen : ∀ h0, (lg_sl (.ref h0 :: b)).length ≤ sm_max j)
    (hw : ∀ (p : Program) (l : Launch) (e : Env) (R : Room) (s : State) (m : MethodId) (args : Array Value) (below : List Frame) (meth : Method) (c : Code) (D : va_G) (G : Nat → ClassId) (h0 : Nat) (A : Nat → Prop) (ls : Array Slot) (Z : State → Prop), nw_ok j p s m args meth c D G → nw_N G s → (R.frames = d ∧ R.cells = cc ∧ R.slots = ss ∧ R.locals = 64 * d) → lv_has ls (sm_max j) (lv_args 0 (.ref h0 :: b)) →
      va_P D vwCl [(h0, .inr e0)] s.heap → va_D A [(h0, .inr e0)] → va_S A s.heap s.heap [] → (∀ q, s.heap.size ≤ q → A q) →
      (∀ (u : Nat → Nat) (H : Heap) (locs : List Loc) (ls : Array Slot) (pc : Nat), u 0 = h0 → decode (sm_code j) pc = .ok (.return_, 1) → va_P D vwCl (w G u) H → va_D A (w G u) → va_S A s.heap H locs → W p l e R s m args below meth c H locs cc ss Z (F0 m pc ls [])) →
      W p l e R s m args below meth c s.heap [] 0 0 Z (F0 m 0 ls [])) : nw_call d cc ss j b e0 w := by
  intro l D G h0 sz
  refine Met.ofW (cc := sm_code j) (maxL := sm_max j) (ret := sm_ret j) hpl rfl ?_
  intro p e s m args below meth c s₁ B hml hv
  obtain ⟨rfl, hsz, hP, hK, hN, hD0⟩ := hv
  have hx := B.exec
  have hb := B.bytes
  have hr := B.returns
  have hts := atoms_spec (ws := sm_ws j) B.pre
  have hown : s.vm.findClass (sm_y j).cls = some m.cls := findClass_of_methodNamed B.named
  have hlocks := B.notSynchronized
  have hinm : meth.name = "<init>" := (name_of_methodNamed B.named B.method).1.trans hin
  subst hsz
  rw [lg_entry_eq]
  have hl := lv_entry (.ref h0 :: b) (n := sm_max j) (hlen h0)
  refine hw p l e (headSpec (sm_ws j) { frames := d, cells := cc, slots := ss, locals := 64 * d }).room s m _ below meth c D G h0 (va_A [(h0, .inr e0)] s.heap.size) _ _ ⟨hx, hb, hml, hown, fun w hw => hts w (List.mem_cons_of_mem _ hw), hK, hinm⟩ hN ⟨rfl, rfl, rfl, rfl⟩ hl hP hD0.self va_S.rf (fun q hq => Or.inr hq) ?_
  intro u H locs ls pc hu hdg hP hD hS
  exact W.vret hx hb (hr.trans hret) (fun t ht hW => ⟨⟨u, rfl, hu, by rw [ht]; exact hP, va_K.moved hW.alike hK, hD⟩, hS.F ht⟩) hS.2.2 hdg
def nw_ty : Nat → FieldType
  | 0 => .int
  | 1 => .int
  | _ => .int
def nw_z (t n : Nat) : vp_A := match t with
  | 1 => (n, .inl (fun _ => nI 0))
  | _ => (n, .inl (fun _ => nI 0))
theorem nw_zc (t n : Nat) (cA : ClassId) : vp_cell cA (nw_z t n) = arrV cA n (fun _ => defaultValue (nw_ty t)) := by
  match t with
  | 0 => rfl
  | 1 => rfl
  | t + 2 => rfl
def nw_ochk (j idx z : Nat) : Bool := sm_has z (.methodLink (sm_y j).cls idx objectInit) && (sm_has 14 (.instanceMethod objectInit) && (sm_has 15 (.code objectInit ⟨#[0xb1]⟩ 1 none) && (decide (decode (sm_code j) 0 = .ok (.aload_n 0, 1)) && decide (decode (sm_code j) 1 = .ok (.invokespecial idx, 3)))))
def nw_achk (j ci k pc idx : Nat) (at_ : ArrayType) (t z1 z2 : Nat) : Bool := decide (ci < 5) && (decide (k < (sm_cl ci).2.2) && (decide (((sm_cl ci).2.1 k).2.2.2 = true) && (decide (((sm_cl ci).2.1 k).1 = (sm_y j).cls) && (decide (parseFieldDescriptor ((sm_cl ci).2.1 k).2.2.1 = some (.array (nw_ty t))) && (decide (newarray.typeOf at_ = nw_ty t) && (decide (t < 3) && (sm_has z1 (.arrayClass (nw_ty t)) && (sm_has z2 (.fieldLink (sm_y j).cls idx ((sm_cl ci).2.1 k).1 ((sm_cl ci).2.1 k).2.1 ((sm_cl ci).2.1 k).2.2.1) && (decide (decode (sm_code j) pc = .ok (.newarray at_, 2)) && decide (decode (sm_code j) (pc + 2) = .ok (.putfield idx, 3)))))))))))
def nw_pchk (j ci k pc idx z2 : Nat) (ty : FieldType) : Bool := decide (ci < 5) && (decide (k < (sm_cl ci).2.2) && (decide (((sm_cl ci).2.1 k).2.2.2 = true) && (decide (((sm_cl ci).2.1 k).1 = (sm_y j).cls) && (decide (parseFieldDescriptor ((sm_cl ci).2.1 k).2.2.1 = some ty) && (decide (ty.isReference = true) && (sm_has z2 (.fieldLink (sm_y j).cls idx ((sm_cl ci).2.1 k).1 ((sm_cl ci).2.1 k).2.1 ((sm_cl ci).2.1 k).2.2.1) && decide (decode (sm_code j) pc = .ok (.putfield idx, 3))))))))
section NW
variable {p : Program} {l : Launch} {e : Env} {R : Room} {s : State} {m : MethodId} {args : Array Value} {below : List Frame} {meth : Method} {c : Code} {H : Heap} {locs : List Loc} {cells slots : Nat} {Q : State → Prop}
variable {pc : Nat} {ls : Array Slot} {rest : List Value} {D : va_G} {G : Nat → ClassId} {A : Nat → Prop} {a : Nat} {ws : va_W} {H0 : Heap} {j : Nat}
theorem nw_obj (C : nw_ok j p s m args meth c D G) {lv : List (Nat × Value)} (hl : lv_has ls (sm_max j) lv) (h0 : ls[0]? = some (.val (.ref a))) (hF : 1 ≤ R.frames ∧ 12 ≤ R.locals) {idx z : Nat} (hc : nw_ochk j idx z = true) (kk : W p l e R s m args below meth c H locs cells slots Q (F0 m 4 ls [])) : W p l e R s m args below meth c H locs cells slots Q (F0 m 0 ls []) := by
  obtain ⟨hx, hb, hml, hown, hts, hK, hin⟩ := C
  simp only [nw_ochk, Bool.and_eq_true, decide_eq_true_eq] at hc
  obtain ⟨h1, h2, h3, h4, h5⟩ := hc
  refine lv_aload_n hx hb h4 rfl h0 ?_
  refine W.objInit hx hb hown (hts _ (sm_has_in h1)) (hts _ (sm_has_in h2)) (hts _ (sm_has_in h3)) rfl (by rw [hml]; exact hl.1) rfl h5 hF.1 (by show 2 * 0 + (([] : List Value).map fun v => v.category).sum + 12 ≤ R.locals; simp; exact hF.2) ?_
  exact kk
/-- a reference into a final field -/
theorem nw_put (C : nw_ok j p s m args meth c D G) (hP : va_P D vwCl ws H) (hD : va_D A ws) (hS : va_S A H0 H locs) (q0 : Nat) {ci : Nat} {fs : List Value} (he : ws[q0]? = some (a, .inr (ci, fs))) {k idx z2 v : Nat} {ty : FieldType} (hc : nw_pchk j ci k pc idx z2 ty = true) (hlen : k < fs.length)
    (kk : ∀ (H1 : Heap) (locs1 : List Loc), va_P D vwCl (ws.set q0 (a, .inr (ci, fs.set k (.ref v)))) H1 → va_D A (ws.set q0 (a, .inr (ci, fs.set k (.ref v)))) → va_S A H0 H1 locs1 → W p l e R s m args below meth c H1 locs1 cells slots Q (F0 m (pc + 3) ls rest)) : W p l e R s m args below meth c H locs cells slots Q (F0 m pc ls (.ref v :: .ref a :: rest)) := by
  obtain ⟨hx, hb, hml, hown, hts, hK, hin⟩ := C
  simp only [nw_pchk, Bool.and_eq_true, decide_eq_true_eq] at hc
  obtain ⟨h6, hk, hfin, hdecl, hty, href, h2, hdg⟩ := hc
  have hn : narrow ty (.ref v) = .ref v := by cases ty <;> first | rfl | (simp [FieldType.isReference] at href)
  have hf : fits ty (.ref v) = true := mu_fit href (Or.inr ⟨_, rfl⟩)
  exact va_putF (D := D) (cl := vwCl) (ci := ci) (C := (sm_cl ci).1) (T := (sm_cl ci).2.1) (N := (sm_cl ci).2.2) hx hb hts (sm_cl_in h6) (sm_fty ci) (sm_cl_ty h6) (sm_cl_nm h6) hown hK hP hD hS q0 he (sm_cl_at h6) k hk (hts _ (sm_has_in h2)) (fun _ q => q) hfin hin hdecl hty hn hf hlen hdg kk
/-- an array of zeros into a final field -/
theorem nw_arr (C : nw_ok j p s m args meth c D G) (hP : va_P D vwCl ws H) (hD : va_D A ws) (hS : va_S A H0 H locs) (hA : ∀ q, H0.size ≤ q → A q) (q0 : Nat) {ci : Nat} {fs : List Value} (he : ws[q0]? = some (a, .inr (ci, fs))) {k idx z1 z2 t n : Nat} {at_ : ArrayType} (hc : nw_achk j ci k pc idx at_ t z1 z2 = true) (hlen : k < fs.length) (hn : n ≤ 10000)
    (hcells : cells + 1 ≤ R.cells) (hslots : slots + n ≤ R.slots)
    (kk : ∀ (q : Nat) (H1 : Heap) (locs1 : List Loc), va_P D vwCl ((ws ++ ([(q, .inl (G t, nw_z t n))] : va_W)).set q0 (a, .inr (ci, fs.set k (.ref q)))) H1 → va_D A ((ws ++ ([(q, .inl (G t, nw_z t n))] : va_W)).set q0 (a, .inr (ci, fs.set k (.ref q)))) → va_S A H0 H1 locs1 → W p l e R s m args below meth c H1 locs1 (cells + 1) (slots + n) Q (F0 m (pc + 5) ls rest)) : W p l e R s m args below meth c H locs cells slots Q (F0 m pc ls (.int (nI n) :: .ref a :: rest)) := by
  have C' := C
  obtain ⟨hx, hb, hml, hown, hts, hK, hin⟩ := C
  simp only [nw_achk, Bool.and_eq_true, decide_eq_true_eq] at hc
  obtain ⟨h6, hk, hfin, hdecl, hty, hat, ht3, h1, h2, hd1, hd2⟩ := hc
  have hcb : componentBytes (nw_ty t) ≤ 8 := by
    match t, ht3 with
    | 0, _ => decide
    | 1, _ => decide
    | 2, _ => decide
  have hmul := Nat.mul_le_mul hn hcb
  refine va_newa (cl := vwCl) (tys := sm_tys G) (a0 := nw_z t n) hx hb (by rw [hat]; exact hts _ (sm_has_in h1)) hat hK hP hD hS hA (nw_zc t n) (by rw [zn_lt, nI_toInt (by omega)]; show ¬ (n : Int) < 0; omega) (zn_clI (by omega)) (Nat.le_trans hmul (by decide)) hcells hslots hd1 (fun q cA H1 hK1 hP1 hD1 hS1 => ?_)
  have hcA : cA = G t := by
    have e1 := (hK1.2 4 _ rfl).2
    match t, ht3 with
    | 0, _ => exact Option.some.inj (e1.symm.trans (hK.2 0 _ rfl).2)
    | 1, _ => exact Option.some.inj (e1.symm.trans (hK.2 1 _ rfl).2)
    | 2, _ => exact Option.some.inj (e1.symm.trans (hK.2 2 _ rfl).2)
  subst hcA
  have hq0 : q0 < ws.length := (List.getElem?_eq_some_iff.mp he).1
  exact nw_put C' hP1 hD1 hS1 q0 (by rw [List.getElem?_append_left hq0]; exact he) (ty := .array (nw_ty t)) (k := k) (idx := idx) (z2 := z2) (by
    simp only [nw_pchk, Bool.and_eq_true, decide_eq_true_eq]
    exact ⟨h6, hk, hfin, hdecl, hty, rfl, h2, hd2⟩) hlen (fun H2 locs2 => kk q H2 locs2)
end NW
