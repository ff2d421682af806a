/-! One step, instruction by instruction. -/
section SMT
variable {p : Program} {l : Launch} {e : Env} {R : Room} {s : State} {m : MethodId} {args : Array Value} {below : List Frame} {meth : Method} {c : Code} {H : Heap} {locs : List Loc} {cells slots : Nat} {Q : State → Prop}
variable {cc : ByteArray} {pc : Nat} {ls : Array Slot} {rest : List Value} {D : va_G} {cl : List vw_C} {A : Nat → Prop} {a : Nat} {tys : List (ClassId × FieldType)} {ws : va_W} {H0 : Heap}
theorem sm_aald (hexec : p.tables.exec = Jvm.exec) (hb : c.code = cc) (hK : va_K D cl tys s) (hP : va_P D cl ws H) (q0 t0 : Nat) {cA : ClassId} {ty : FieldType} (hty : ty.isReference = true) {n : Nat} {f : Nat → Option Nat} (ha : ws[q0]? = some (a, .inl (cA, n, .inr (.inr (.inr (.inr f)))))) (ht : tys[t0]? = some (cA, ty)) {i : Int32} (hin : vp_in i n) (hdg : decode cc pc = .ok (.aaload, 1))
    (kk : W p l e R s m args below meth c H locs cells slots Q (F0 m (pc + 1) ls (va_rf (f i.toNatClampNeg) :: rest))) : W p l e R s m args below meth c H locs cells slots Q (F0 m pc ls (.int i :: .ref a :: rest)) := by
  have hlt : i.toNatClampNeg < n := Nat.not_le.mp fun q => hin (Or.inr q)
  exact W.aald (v := va_rf (f i.toNatClampNeg)) (ty := ty) hexec hb (hP q0 _ ha) ((hK.2 t0 _ ht).1 n (fun j => va_rf (f j))) hty (fun q => by cases q) (by show ¬ (i < 0 ∨ (arrV _ _ _).slots.size ≤ _); rw [arrV_size]; exact hin) (by show (arrV _ _ _).slots[_]? = _; rw [arrV_read _ _ hlt]) rfl rfl hdg kk
end SMT
theorem sm_int32_eq {a : Int32} {n : Int} (h : a.toInt = n) : a = Int32.ofInt n := by
  rw [← h, Int32.ofInt_toInt]
theorem sm_free {G : Nat → ClassId} {ad : Nat → Nat} {h : sm_H} {A : Nat → Prop} {H0 H : Heap} {locs : List Loc} (hD : va_D A (sm_rw G ad h)) (hS : va_S A H0 H locs) (hA : ∀ q, H0.size ≤ q → A q) : ∀ q, va_A (sm_rw G ad h) H.size q → A q := by
  intro q hq
  rcases hq with ⟨k, e, h1⟩ | h1
  · exact hD.2 k _ h1
  · exact hA q (Nat.le_trans hS.1 h1)
theorem sm_blind {as : List Value} {sz : Nat} {D : va_G} {G : Nat → ClassId} {ad : Nat → Nat} {h : sm_H} : FrameBlind (va_Pc as (fun U => U.heap.size = sz ∧ va_P D vwCl (sm_rw G ad h) U.heap ∧ va_K D vwCl (sm_tys G) U ∧ va_D (fun _ => True) (sm_rw G ad h))) :=
  fun a U g mk q => by obtain ⟨q0, q1, qP, qK, qD⟩ := q; exact ⟨q0, q1, qP, va_K.moved (u := U) (U := U.calling g mk a) (Vm.Alike.refl U.vm) qK, qD⟩
set_option maxHeartbeats 8000000 in
set_option maxRecDepth 100000 in
theorem sm_step_ok {j d : Nat} {Q : sm_Q} {sc : Option (Nat × (Nat → Int32))} (e : sm_I) (hc : sm_chk j e = true) {ls : sm_L} {st : List Value} {h : sm_H} {k : sm_K} (hk : ∀ pc ls st h, k pc ls st h → sm_W j d Q sc pc ls st h)
    (hs : sm_step (sm_call d) Q sc e.2.2.1 e.2.1 e.2.2.2.1 e.2.2.2.2.1 e.2.2.2.2.2.2.1 e.2.2.2.2.2.2.2 ls st h k) : sm_W j d Q sc e.1 ls st h := by
  obtain ⟨pc, nx, i, x, y, z, v, sw⟩ := e
  simp only [sm_chk, Bool.and_eq_true, decide_eq_true_eq] at hc
  obtain ⟨⟨hdg, rfl⟩, ha⟩ := hc
  dsimp only at hs ⊢
  intro p l e R s m args below meth c A H0 D G ad cells slots Z C H locs lsA hP hD hS hL
  have go : ∀ pc ls st h, k pc ls st h → ∀ H locs lsA, va_P D vwCl (sm_rw G ad h) H → va_D A (sm_rw G ad h) → va_S A H0 H locs → sm_lo ad (sm_max j) ls lsA → W p l e R s m args below meth c H locs cells slots Z (F0 m pc lsA (st.map (sm_rv ad))) := fun pc ls st h q => hk pc ls st h q p l e R s m args below meth c A H0 D G ad cells slots Z C
  obtain ⟨hx, hb, hml, hown, hts, hK, hA, hRm, hRc, hret, hscr⟩ := C
  have hsz : lsA.size = sm_max j := by obtain ⟨l0, h1, -⟩ := hL; exact h1.1
  cases i
  case iconst n =>
    have hv : v = .int (Int32.ofInt n) := of_decide_eq_true ha
    subst hv
    exact lv_iconst hx hb hdg rfl (go _ _ _ _ hs _ _ _ hP hD hS hL)
  case bipush n =>
    have hv : v = .int (Int8.ofInt n).toInt32 := of_decide_eq_true ha
    subst hv
    exact lv_bipush hx hb hdg rfl (go _ _ _ _ hs _ _ _ hP hD hS hL)
  case sipush n =>
    have hv : v = .int (Int16.ofInt n).toInt32 := of_decide_eq_true ha
    subst hv
    exact lv_sipush hx hb hdg rfl (go _ _ _ _ hs _ _ _ hP hD hS hL)
  case lconst n =>
    have hv : v = .long (Int64.ofNat (n : Nat)) := of_decide_eq_true ha
    subst hv
    exact lv_lconst hx hb hdg rfl (go _ _ _ _ hs _ _ _ hP hD hS hL)
  case ldc n =>
    cases v with
    | int a => exact lv_ldc hx hb hown (hts _ (sm_has_in ha)) hdg (go _ _ _ _ hs _ _ _ hP hD hS hL)
    | _ => exact absurd ha (by intro q; cases q)
  case ldc_w n =>
    cases v with
    | int a => exact lv_ldcw hx hb hown (hts _ (sm_has_in ha)) hdg (go _ _ _ _ hs _ _ _ hP hD hS hL)
    | _ => exact absurd ha (by intro q; cases q)
  case ldc2_w n =>
    cases v with
    | long a => exact lv_ldc2 hx hb hown (hts _ (sm_has_in ha)) hdg (go _ _ _ _ hs _ _ _ hP hD hS hL)
    | _ => exact absurd ha (by intro q; cases q)
  case iload_n n =>
    obtain ⟨a, hg, hs1⟩ := sm_oi_inv hs
    exact lv_iload_n hx hb hdg (of_decide_eq_true ha) (sm_lo_at hL hg) (go _ _ _ _ hs1 _ _ _ hP hD hS hL)
  case iload n =>
    obtain ⟨a, hg, hs1⟩ := sm_oi_inv hs
    have hn : n = x := of_decide_eq_true ha
    subst hn
    exact lv_iload hx hb hdg (sm_lo_at hL hg) (go _ _ _ _ hs1 _ _ _ hP hD hS hL)
  case lload_n n =>
    obtain ⟨a, hg, hs1⟩ := sm_ol_inv hs
    exact lv_lload_n hx hb hdg (of_decide_eq_true ha) (sm_lo_at hL hg) (go _ _ _ _ hs1 _ _ _ hP hD hS hL)
  case lload n =>
    obtain ⟨a, hg, hs1⟩ := sm_ol_inv hs
    have hn : n = x := of_decide_eq_true ha
    subst hn
    exact lv_lload hx hb hdg (sm_lo_at hL hg) (go _ _ _ _ hs1 _ _ _ hP hD hS hL)
  case aload_n n =>
    obtain ⟨a, hg, hs1⟩ := sm_or_inv hs
    exact lv_aload_n hx hb hdg (of_decide_eq_true ha) (sm_lo_at hL hg) (go _ _ _ _ hs1 _ _ _ hP hD hS hL)
  case aload n =>
    obtain ⟨a, hg, hs1⟩ := sm_or_inv hs
    have hn : n = x := of_decide_eq_true ha
    subst hn
    exact lv_aload hx hb hdg (sm_lo_at hL hg) (go _ _ _ _ hs1 _ _ _ hP hD hS hL)
  case istore_n n =>
    obtain ⟨a, r, rfl, hs1⟩ := sm_si_inv hs
    obtain ⟨hs2, hp⟩ := sm_st1_inv hs1
    obtain ⟨hn, hlt⟩ : (n : Nat) = x ∧ x < sm_max j := of_decide_eq_true ha
    obtain ⟨l0, hl0, hv0⟩ := hL
    exact lv_istore_n hx hb hdg hn hl0 hlt rfl (fun ls' hls => go _ _ _ _ hs2 _ _ _ hP hD hS ⟨_, hls, sm_set1 (v := .int a) hv0 hp⟩)
  case istore n =>
    obtain ⟨a, r, rfl, hs1⟩ := sm_si_inv hs
    obtain ⟨hs2, hp⟩ := sm_st1_inv hs1
    obtain ⟨hn, hlt⟩ : n = x ∧ x < sm_max j := of_decide_eq_true ha
    subst hn
    obtain ⟨l0, hl0, hv0⟩ := hL
    exact lv_istore hx hb hdg hl0 hlt rfl (fun ls' hls => go _ _ _ _ hs2 _ _ _ hP hD hS ⟨_, hls, sm_set1 (v := .int a) hv0 hp⟩)
  case lstore_n n =>
    obtain ⟨a, r, rfl, hs1⟩ := sm_sl_inv hs
    obtain ⟨hs2, hp⟩ := sm_st2_inv hs1
    obtain ⟨hn, hlt⟩ : (n : Nat) = x ∧ x + 1 < sm_max j := of_decide_eq_true ha
    obtain ⟨l0, hl0, hv0⟩ := hL
    exact lv_lstore_n hx hb hdg hn hl0 hlt rfl (fun ls' hls => go _ _ _ _ hs2 _ _ _ hP hD hS ⟨_, hls, sm_set2 (v := .long a) hv0 hp⟩)
  case lstore n =>
    obtain ⟨a, r, rfl, hs1⟩ := sm_sl_inv hs
    obtain ⟨hs2, hp⟩ := sm_st2_inv hs1
    obtain ⟨hn, hlt⟩ : n = x ∧ x + 1 < sm_max j := of_decide_eq_true ha
    subst hn
    obtain ⟨l0, hl0, hv0⟩ := hL
    exact lv_lstore hx hb hdg hl0 hlt rfl (fun ls' hls => go _ _ _ _ hs2 _ _ _ hP hD hS ⟨_, hls, sm_set2 (v := .long a) hv0 hp⟩)
  case astore_n n =>
    obtain ⟨a, r, rfl, hs1⟩ := sm_sr_inv hs
    obtain ⟨hs2, hp⟩ := sm_st1_inv hs1
    obtain ⟨hn, hlt⟩ : (n : Nat) = x ∧ x < sm_max j := of_decide_eq_true ha
    obtain ⟨l0, hl0, hv0⟩ := hL
    exact lv_astore_n hx hb hdg hn hl0 hlt rfl (fun ls' hls => go _ _ _ _ hs2 _ _ _ hP hD hS ⟨_, hls, sm_set1 (v := .ref a) hv0 hp⟩)
  case astore n =>
    obtain ⟨a, r, rfl, hs1⟩ := sm_sr_inv hs
    obtain ⟨hs2, hp⟩ := sm_st1_inv hs1
    obtain ⟨hn, hlt⟩ : n = x ∧ x < sm_max j := of_decide_eq_true ha
    subst hn
    obtain ⟨l0, hl0, hv0⟩ := hL
    exact lv_astore hx hb hdg hl0 hlt rfl (fun ls' hls => go _ _ _ _ hs2 _ _ _ hP hD hS ⟨_, hls, sm_set1 (v := .ref a) hv0 hp⟩)
  case iinc n b =>
    obtain ⟨a, hg, hs1⟩ := sm_oi_inv hs
    obtain ⟨b', hb', hs2⟩ := sm_oi_inv hs1
    obtain ⟨hs3, hp⟩ := sm_st1_inv hs2
    obtain ⟨hn, hlt, hv⟩ : n = x ∧ x < sm_max j ∧ v = .int (Int32.ofInt b) := of_decide_eq_true ha
    subst hn
    subst hv
    cases hb'
    obtain ⟨l0, hl0, hv0⟩ := hL
    obtain ⟨q0, hq0⟩ := List.getElem?_of_mem (hv0 _ _ hg)
    exact lv_iinc hx hb hdg hl0 hq0 rfl hlt rfl (fun ls' hls => go _ _ _ _ hs3 _ _ _ hP hD hS ⟨_, hls, sm_set1 (v := .int (a + Int32.ofInt b)) hv0 hp⟩)
  case iadd =>
    obtain ⟨b, r, rfl, hs1⟩ := sm_si_inv hs
    obtain ⟨a, r, rfl, hs2⟩ := sm_si_inv hs1
    exact lv_iadd hx hb hdg (go _ _ _ _ hs2 _ _ _ hP hD hS hL)
  case isub =>
    obtain ⟨b, r, rfl, hs1⟩ := sm_si_inv hs
    obtain ⟨a, r, rfl, hs2⟩ := sm_si_inv hs1
    exact lv_isub hx hb hdg (go _ _ _ _ hs2 _ _ _ hP hD hS hL)
  case imul =>
    obtain ⟨b, r, rfl, hs1⟩ := sm_si_inv hs
    obtain ⟨a, r, rfl, hs2⟩ := sm_si_inv hs1
    exact lv_imul hx hb hdg (go _ _ _ _ hs2 _ _ _ hP hD hS hL)
  case iand =>
    obtain ⟨b, r, rfl, hs1⟩ := sm_si_inv hs
    obtain ⟨a, r, rfl, hs2⟩ := sm_si_inv hs1
    exact lv_iand hx hb hdg (go _ _ _ _ hs2 _ _ _ hP hD hS hL)
  case ior =>
    obtain ⟨b, r, rfl, hs1⟩ := sm_si_inv hs
    obtain ⟨a, r, rfl, hs2⟩ := sm_si_inv hs1
    exact lv_ior hx hb hdg (go _ _ _ _ hs2 _ _ _ hP hD hS hL)
  case ixor =>
    obtain ⟨b, r, rfl, hs1⟩ := sm_si_inv hs
    obtain ⟨a, r, rfl, hs2⟩ := sm_si_inv hs1
    exact lv_ixor hx hb hdg (go _ _ _ _ hs2 _ _ _ hP hD hS hL)
  case idiv =>
    obtain ⟨b, r, rfl, hs1⟩ := sm_si_inv hs
    obtain ⟨a, r, rfl, hs2⟩ := sm_si_inv hs1
    obtain ⟨hne, hs3⟩ : _ ∧ _ := hs2
    exact lv_idiv hx hb hdg hne (go _ _ _ _ hs3 _ _ _ hP hD hS hL)
  case irem =>
    obtain ⟨b, r, rfl, hs1⟩ := sm_si_inv hs
    obtain ⟨a, r, rfl, hs2⟩ := sm_si_inv hs1
    obtain ⟨hne, hs3⟩ : _ ∧ _ := hs2
    exact lv_irem hx hb hdg hne (go _ _ _ _ hs3 _ _ _ hP hD hS hL)
  case ishl =>
    obtain ⟨b, r, rfl, hs1⟩ := sm_si_inv hs
    obtain ⟨a, r, rfl, hs2⟩ := sm_si_inv hs1
    exact lv_ishl hx hb hdg (go _ _ _ _ hs2 _ _ _ hP hD hS hL)
  case ishr =>
    obtain ⟨b, r, rfl, hs1⟩ := sm_si_inv hs
    obtain ⟨a, r, rfl, hs2⟩ := sm_si_inv hs1
    exact lv_ishr hx hb hdg (go _ _ _ _ hs2 _ _ _ hP hD hS hL)
  case iushr =>
    obtain ⟨b, r, rfl, hs1⟩ := sm_si_inv hs
    obtain ⟨a, r, rfl, hs2⟩ := sm_si_inv hs1
    exact lv_iushr hx hb hdg rfl (go _ _ _ _ hs2 _ _ _ hP hD hS hL)
  case ladd =>
    obtain ⟨b, r, rfl, hs1⟩ := sm_sl_inv hs
    obtain ⟨a, r, rfl, hs2⟩ := sm_sl_inv hs1
    exact lv_ladd hx hb hdg (go _ _ _ _ hs2 _ _ _ hP hD hS hL)
  case lmul =>
    obtain ⟨b, r, rfl, hs1⟩ := sm_sl_inv hs
    obtain ⟨a, r, rfl, hs2⟩ := sm_sl_inv hs1
    exact lv_lmul hx hb hdg (go _ _ _ _ hs2 _ _ _ hP hD hS hL)
  case land =>
    obtain ⟨b, r, rfl, hs1⟩ := sm_sl_inv hs
    obtain ⟨a, r, rfl, hs2⟩ := sm_sl_inv hs1
    exact lv_land hx hb hdg (go _ _ _ _ hs2 _ _ _ hP hD hS hL)
  case ldiv =>
    obtain ⟨b, r, rfl, hs1⟩ := sm_sl_inv hs
    obtain ⟨a, r, rfl, hs2⟩ := sm_sl_inv hs1
    obtain ⟨hne, hs3⟩ : _ ∧ _ := hs2
    exact lv_ldiv hx hb hdg hne (go _ _ _ _ hs3 _ _ _ hP hD hS hL)
  case lrem =>
    obtain ⟨b, r, rfl, hs1⟩ := sm_sl_inv hs
    obtain ⟨a, r, rfl, hs2⟩ := sm_sl_inv hs1
    obtain ⟨hne, hs3⟩ : _ ∧ _ := hs2
    exact lv_lrem hx hb hdg hne (go _ _ _ _ hs3 _ _ _ hP hD hS hL)
  case lshr =>
    obtain ⟨b, r, rfl, hs1⟩ := sm_si_inv hs
    obtain ⟨a, r, rfl, hs2⟩ := sm_sl_inv hs1
    exact lv_lshr hx hb hdg rfl (go _ _ _ _ hs2 _ _ _ hP hD hS hL)
  case lcmp =>
    obtain ⟨b, r, rfl, hs1⟩ := sm_sl_inv hs
    obtain ⟨a, r, rfl, hs2⟩ := sm_sl_inv hs1
    exact W.lcmp hx hb hdg (go _ _ _ _ hs2 _ _ _ hP hD hS hL)
  case i2l =>
    obtain ⟨a, r, rfl, hs1⟩ := sm_si_inv hs
    exact lv_i2l hx hb hdg rfl (go _ _ _ _ hs1 _ _ _ hP hD hS hL)
  case l2i =>
    obtain ⟨a, r, rfl, hs1⟩ := sm_sl_inv hs
    exact lv_l2i hx hb hdg rfl (go _ _ _ _ hs1 _ _ _ hP hD hS hL)
  case i2b =>
    obtain ⟨a, r, rfl, hs1⟩ := sm_si_inv hs
    exact lv_i2b hx hb hdg rfl (go _ _ _ _ hs1 _ _ _ hP hD hS hL)
  case dup =>
    obtain ⟨a, r, rfl, hs1⟩ := sm_sv_inv hs
    obtain ⟨hc1, hs2⟩ := sm_cond_inv hs1
    exact lv_dup hx hb hdg ((sm_rv_cat ad a).trans (Nat.eq_of_beq_eq_true hc1)) (go _ _ _ _ hs2 _ _ _ hP hD hS hL)
  case dup2 =>
    obtain ⟨a, r, rfl, hs1⟩ := sm_sv_inv hs
    obtain ⟨b, r, rfl, hs2⟩ := sm_sv_inv hs1
    obtain ⟨hc1, hs3⟩ := sm_cond_inv hs2
    obtain ⟨hc2, hs4⟩ := sm_cond_inv hs3
    exact lv_dup2_11 hx hb hdg ((sm_rv_cat ad a).trans (Nat.eq_of_beq_eq_true hc1)) ((sm_rv_cat ad b).trans (Nat.eq_of_beq_eq_true hc2)) (go _ _ _ _ hs4 _ _ _ hP hD hS hL)
  case ifCond cnd o =>
    obtain ⟨a, r, rfl, hs1⟩ := sm_si_inv hs
    have ht : (pc : Int) + o = (x : Int) := of_decide_eq_true ha
    cases cnd
    case eq => obtain ⟨s1, s2⟩ : _ ∧ _ := hs1; exact lv_if_eq hx hb hdg ht (fun q => go _ _ _ _ (s1 q) _ _ _ hP hD hS hL) (fun q => go _ _ _ _ (s2 q) _ _ _ hP hD hS hL)
    case ne => obtain ⟨s1, s2⟩ : _ ∧ _ := hs1; exact lv_if_ne hx hb hdg ht (fun q => go _ _ _ _ (s1 q) _ _ _ hP hD hS hL) (fun q => go _ _ _ _ (s2 q) _ _ _ hP hD hS hL)
    case lt => obtain ⟨s1, s2⟩ : _ ∧ _ := hs1; exact lv_if_lt hx hb hdg ht (fun q => go _ _ _ _ (s1 q) _ _ _ hP hD hS hL) (fun q => go _ _ _ _ (s2 q) _ _ _ hP hD hS hL)
    case ge => obtain ⟨s1, s2⟩ : _ ∧ _ := hs1; exact lv_if_ge hx hb hdg ht (fun q => go _ _ _ _ (s1 q) _ _ _ hP hD hS hL) (fun q => go _ _ _ _ (s2 q) _ _ _ hP hD hS hL)
    case gt => obtain ⟨s1, s2⟩ : _ ∧ _ := hs1; exact lv_if_gt hx hb hdg ht (fun q => go _ _ _ _ (s1 q) _ _ _ hP hD hS hL) (fun q => go _ _ _ _ (s2 q) _ _ _ hP hD hS hL)
    case le => obtain ⟨s1, s2⟩ : _ ∧ _ := hs1; exact lv_if_le hx hb hdg ht (fun q => go _ _ _ _ (s1 q) _ _ _ hP hD hS hL) (fun q => go _ _ _ _ (s2 q) _ _ _ hP hD hS hL)
  case if_icmp cnd o =>
    obtain ⟨b, r, rfl, hs1⟩ := sm_si_inv hs
    obtain ⟨a, r, rfl, hs2⟩ := sm_si_inv hs1
    have ht : (pc : Int) + o = (x : Int) := of_decide_eq_true ha
    cases cnd
    case eq => obtain ⟨s1, s2⟩ : _ ∧ _ := hs2; exact lv_icmp_eq hx hb hdg ht (fun q => go _ _ _ _ (s1 q) _ _ _ hP hD hS hL) (fun q => go _ _ _ _ (s2 q) _ _ _ hP hD hS hL)
    case ne => obtain ⟨s1, s2⟩ : _ ∧ _ := hs2; exact lv_icmp_ne hx hb hdg ht (fun q => go _ _ _ _ (s1 q) _ _ _ hP hD hS hL) (fun q => go _ _ _ _ (s2 q) _ _ _ hP hD hS hL)
    case lt => obtain ⟨s1, s2⟩ : _ ∧ _ := hs2; exact lv_icmp_lt hx hb hdg ht (fun q => go _ _ _ _ (s1 q) _ _ _ hP hD hS hL) (fun q => go _ _ _ _ (s2 q) _ _ _ hP hD hS hL)
    case ge => obtain ⟨s1, s2⟩ : _ ∧ _ := hs2; exact lv_icmp_ge hx hb hdg ht (fun q => go _ _ _ _ (s1 q) _ _ _ hP hD hS hL) (fun q => go _ _ _ _ (s2 q) _ _ _ hP hD hS hL)
    case gt => obtain ⟨s1, s2⟩ : _ ∧ _ := hs2; exact lv_icmp_gt hx hb hdg ht (fun q => go _ _ _ _ (s1 q) _ _ _ hP hD hS hL) (fun q => go _ _ _ _ (s2 q) _ _ _ hP hD hS hL)
    case le => obtain ⟨s1, s2⟩ : _ ∧ _ := hs2; exact lv_icmp_le hx hb hdg ht (fun q => go _ _ _ _ (s1 q) _ _ _ hP hD hS hL) (fun q => go _ _ _ _ (s2 q) _ _ _ hP hD hS hL)
  case goto o =>
    have ht : (pc : Int) + o = (x : Int) := of_decide_eq_true ha
    exact lv_goto hx hb hdg ht (go _ _ _ _ hs _ _ _ hP hD hS hL)
  case tableswitch df lo hi o =>
    obtain ⟨a, r, rfl, hs1⟩ := sm_si_inv hs
    replace ha := Bool.and_eq_true_iff.mp ha
    obtain ⟨ha1, ha2⟩ := ha
    obtain ⟨ht, hlo, hhi, hno, hlen⟩ : (pc : Int) + df = (x : Int) ∧ -1000 ≤ lo ∧ hi < 1000 ∧ hi - lo + 1 = (o.size : Int) ∧ sw.length = o.size := of_decide_eq_true ha1
    have hrow : ∀ (i : Nat) (q : Int32 × Nat), sw[i]? = some q → ∃ w, o[i]? = some w ∧ q.1 = Int32.ofInt (lo + (i : Int)) ∧ (pc : Int) + w = (q.2 : Int) := by
      intro i q hq
      have hi1 : i < sw.length := (List.getElem?_eq_some_iff.mp hq).1
      have h1 := List.all_eq_true.mp ha2 i (List.mem_range.mpr (by omega))
      rw [sm_nth_eq, hq] at h1
      have ho : o[i]? = some (o[i]'(by omega)) := Array.getElem?_eq_getElem (by omega)
      rw [ho] at h1
      exact ⟨_, ho, of_decide_eq_true h1⟩
    rcases sm_sw_inv hs1 with ⟨i, t, e1, e2, e3⟩ | ⟨e1, e2⟩
    · obtain ⟨w, w1, w2, w3⟩ := hrow i _ e1
      have hi1 : i < sw.length := (List.getElem?_eq_some_iff.mp e1).1
      have hai : a.toInt = lo + (i : Int) := by
        have w2 : a = Int32.ofInt (lo + (i : Int)) := w2
        rw [w2]
        exact Int32.toInt_ofInt_of_le (by show (-2147483648 : Int) ≤ _; omega) (by show _ < (2147483648 : Int); omega)
      exact lv_tableIn hx hb hdg (by omega) (by omega) (by rw [hai, show (lo + (i : Int) - lo).toNat = i by omega]; exact w1) w3 (go _ _ _ _ e3 _ _ _ hP hD hS hL)
    · refine lv_tableOut hx hb hdg ?_ ht (go _ _ _ _ e2 _ _ _ hP hD hS hL)
      refine Decidable.byContradiction fun hcon => ?_
      have hin : lo ≤ a.toInt ∧ a.toInt ≤ hi := by omega
      have hi1 : (a.toInt - lo).toNat < sw.length := by omega
      obtain ⟨w, w1, w2, w3⟩ := hrow _ _ (List.getElem?_eq_getElem hi1)
      refine e1 _ (List.getElem_mem hi1) ?_
      rw [w2, show lo + (((a.toInt - lo).toNat : Nat) : Int) = a.toInt by omega, Int32.ofInt_toInt]
  case lookupswitch df ps =>
    obtain ⟨a, r, rfl, hs1⟩ := sm_si_inv hs
    obtain ⟨ht, hsort, hmap⟩ : (pc : Int) + df = (x : Int) ∧ (ps.toList.zip (ps.toList.drop 1)).all (fun q => q.1.1 < q.2.1) = true ∧ sw.map (fun q => (q.1.toInt, (q.2 : Int))) = ps.toList.map (fun q => (q.1, (pc : Int) + q.2)) := of_decide_eq_true ha
    have key : ∃ t : Nat, (pc : Int) + Op.lookupswitch.offset ps.toList df a.toInt = (t : Int) ∧ k t ls r h := by
      generalize ps.toList = pl at hmap
      clear hdg hsort ha go hs
      induction sw generalizing pl with
      | nil =>
        cases pl with
        | nil => exact ⟨x, by simpa [Op.lookupswitch.offset] using ht, hs1⟩
        | cons q0 q1 => simp at hmap
      | cons w sw ih =>
        cases pl with
        | nil => simp at hmap
        | cons q0 q1 =>
          simp only [List.map_cons, List.cons.injEq, Prod.mk.injEq] at hmap
          obtain ⟨s1, s2⟩ : _ ∧ _ := hs1
          by_cases hw : a = w.1
          · refine ⟨w.2, ?_, s1 hw⟩
            have : q0.1 = a.toInt := by rw [hw]; exact hmap.1.1.symm
            simp [Op.lookupswitch.offset, this, hmap.1.2]
          · obtain ⟨t, t1, t2⟩ := ih (s2 hw) q1 hmap.2
            refine ⟨t, ?_, t2⟩
            have hne : ¬ q0.1 = a.toInt := fun q => hw (Int32.toInt_inj.mp (by rw [← q, hmap.1.1]))
            simpa [Op.lookupswitch.offset, hne] using t1
    obtain ⟨t, t1, t2⟩ := key
    exact lv_lookup hx hb hdg hsort rfl t1 (go _ _ _ _ t2 _ _ _ hP hD hS hL)
  case ireturn =>
    obtain ⟨a, r, rfl, hs1⟩ := sm_si_inv hs
    cases r with
    | cons _ _ => exact False.elim hs1
    | nil =>
      cases y with
      | zero => exact hret H locs lsA pc (some (.int a)) h ⟨hdg, .int, of_decide_eq_true ha, rfl⟩ hs1 hP hD hS
      | succ n =>
        obtain ⟨h01, hs2⟩ : _ ∧ _ := hs1
        exact hret H locs lsA pc (some (.int a)) h ⟨hdg, .boolean, of_decide_eq_true ha, by rcases h01 with rfl | rfl <;> rfl⟩ hs2 hP hD hS
  case lreturn =>
    obtain ⟨a, r, rfl, hs1⟩ := sm_sl_inv hs
    cases r with
    | cons _ _ => exact False.elim hs1
    | nil => exact hret H locs lsA pc (some (.long a)) h ⟨hdg, of_decide_eq_true ha⟩ hs1 hP hD hS
  case return_ =>
    cases st with
    | cons _ _ => exact False.elim hs
    | nil => exact hret H locs lsA pc none h ⟨hdg, of_decide_eq_true ha⟩ hs hP hD hS
  case iaload =>
    obtain ⟨q, r, rfl, hs1⟩ := sm_si_inv hs
    obtain ⟨a, r, rfl, hs2⟩ := sm_sr_inv hs1
    rcases sm_ha_inv hs2 with ⟨t, x', hn, hs3⟩ | hs3
    · obtain ⟨ht, hs4⟩ := sm_cond_inv hs3
      obtain ⟨n, g, rfl, hs5⟩ := sm_xi_inv hs4
      obtain ⟨hin, hs6⟩ : _ ∧ _ := hs5
      cases Nat.eq_of_beq_eq_true ht
      exact va_iald (D := D) (cl := vwCl) hx hb hK hP a 0 (sm_rw_at hn) rfl (sm_in_inv hin) hdg (go _ _ _ _ hs6 _ _ _ hP hD hS hL)
    · cases sc with
      | none => exact False.elim hs3
      | some w =>
        obtain ⟨ht, hs7⟩ := sm_cond_inv hs3
        obtain ⟨hin, hs8⟩ : _ ∧ _ := hs7
        cases Nat.eq_of_beq_eq_true ht
        obtain ⟨x1, x2, x3⟩ := hscr _ rfl
        exact va_sld hx hb x1 x2 x3 hS (sm_in_inv hin) hdg (go _ _ _ _ hs8 _ _ _ hP hD hS hL)
  case iastore =>
    obtain ⟨w, r, rfl, hs1⟩ := sm_si_inv hs
    obtain ⟨q, r, rfl, hs2⟩ := sm_si_inv hs1
    obtain ⟨a, r, rfl, hs3⟩ := sm_sr_inv hs2
    rcases sm_ha_inv hs3 with ⟨t, x', hn, hs4⟩ | hs4
    · obtain ⟨ht, hs5⟩ := sm_cond_inv hs4
      obtain ⟨n, g, rfl, hs6⟩ := sm_xi_inv hs5
      obtain ⟨hin, hs7⟩ : _ ∧ _ := hs6
      cases Nat.eq_of_beq_eq_true ht
      refine va_iast (D := D) (cl := vwCl) hx hb hK hP hD hS a 0 (sm_rw_at hn) rfl (sm_in_inv hin) hdg (fun H1 locs1 hP hD hS => ?_)
      exact go _ _ _ _ hs7 _ _ _ (by rw [sm_rw_set]; exact hP) (by rw [sm_rw_set]; exact hD) hS hL
    · exact False.elim hs4
  case aaload =>
    obtain ⟨q, r, rfl, hs1⟩ := sm_si_inv hs
    obtain ⟨a, r, rfl, hs2⟩ := sm_sr_inv hs1
    rcases sm_ha_inv hs2 with ⟨t, x', hn, hs3⟩ | hs3
    · obtain ⟨ht, hs4⟩ := sm_cond_inv hs3
      obtain ⟨n, g, rfl, hs5⟩ := sm_xr_inv hs4
      obtain ⟨hin, b, hb', hs6⟩ : _ ∧ ∃ b, _ ∧ _ := hs5
      cases Nat.eq_of_beq_eq_true ht
      refine sm_aald (D := D) (cl := vwCl) hx hb hK hP a 3 (ty := .array .int) rfl (sm_rw_at hn) rfl (sm_in_inv hin) hdg ?_
      rw [hb']
      exact go _ _ _ _ hs6 _ _ _ hP hD hS hL
    · exact False.elim hs3
  case arraylength =>
    obtain ⟨a, r, rfl, hs1⟩ := sm_sr_inv hs
    rcases sm_ha_inv hs1 with ⟨t, x', hn, hs2⟩ | hs2
    · obtain ⟨ht4, hs9⟩ := sm_cond_inv hs2
      have ht4 : t < 4 := Nat.le_of_ble_eq_true ht4
      have hty : ∃ ty, (sm_tys G)[t]? = some (G t, ty) := by
        match t, ht4 with
        | 0, _ => exact ⟨_, rfl⟩
        | 1, _ => exact ⟨_, rfl⟩
        | 2, _ => exact ⟨_, rfl⟩
        | 3, _ => exact ⟨_, rfl⟩
      obtain ⟨ty, hty⟩ := hty
      have hx1 : (sm_ra ad x').1 = x'.1 := by
        obtain ⟨n, f | f | f | f | f⟩ := x' <;> rfl
      exact va_alen (D := D) (cl := vwCl) hx hb hK hP a t (sm_rw_at hn) hty rfl hdg (by rw [hx1]; exact go _ _ _ _ hs9 _ _ _ hP hD hS hL)
    · cases sc with
      | none => exact False.elim hs2
      | some w =>
        obtain ⟨ht, hs3⟩ := sm_cond_inv hs2
        cases Nat.eq_of_beq_eq_true ht
        obtain ⟨x1, x2, x3⟩ := hscr _ rfl
        exact va_slen hx hb x1 x2 x3 hS hdg (go _ _ _ _ hs3 _ _ _ hP hD hS hL)
  case getfield idx =>
    obtain ⟨a, r, rfl, hs1⟩ := sm_sr_inv hs
    obtain ⟨ci, fs, hn, hs2⟩ := sm_ho_inv hs1
    obtain ⟨hcx, hs3⟩ := sm_cond_inv hs2
    obtain ⟨w, hw, hs4⟩ := sm_fld_inv hs3
    have hcx := Nat.eq_of_beq_eq_true hcx
    subst hcx
    replace ha := Bool.and_eq_true_iff.mp ha
    obtain ⟨ha1, ha2⟩ := ha
    obtain ⟨h6, hy⟩ : ci < 5 ∧ y < (sm_cl ci).2.2 := of_decide_eq_true ha1
    exact va_get (D := D) (cl := vwCl) (ci := ci) (C := (sm_cl ci).1) (T := (sm_cl ci).2.1) (N := (sm_cl ci).2.2) hx hb hts (sm_cl_in h6) hown hK hP a (sm_rw_at hn) (sm_cl_at h6) y hy (hts _ (sm_has_in ha2)) (fun _ q => q) (by rw [List.getElem?_map, hw]; rfl) hdg (go _ _ _ _ hs4 _ _ _ hP hD hS hL)
  case putfield idx =>
    obtain ⟨w, b, r, rfl, hs1, hw⟩ := sm_store_inv (show sm_store v st (fun w a r => sm_ho h a fun c fs => cond (Nat.beq c x) (cond (Nat.blt y fs.length) (k (pc + 3) ls r (h.set a (.inr (c, fs.set y w)))) False) False) from hs)
    obtain ⟨ci, fs, hn, hs2⟩ := sm_ho_inv hs1
    obtain ⟨hcx, hs3⟩ := sm_cond_inv hs2
    obtain ⟨hlt, hs4⟩ := sm_cond_inv hs3
    have hcx := Nat.eq_of_beq_eq_true hcx
    subst hcx
    replace ha := Bool.and_eq_true_iff.mp ha
    obtain ⟨ha0, ha3⟩ := ha
    replace ha0 := Bool.and_eq_true_iff.mp ha0
    obtain ⟨ha1, ha2⟩ := ha0
    obtain ⟨h6, hy, hfin⟩ : ci < 5 ∧ y < (sm_cl ci).2.2 ∧ ((sm_cl ci).2.1 y).2.2.2 = false := of_decide_eq_true ha1
    have hlen : y < (fs.map (sm_rv ad)).length := by rw [List.length_map]; exact Nat.le_of_ble_eq_true hlt
    have hty : ∃ ty, parseFieldDescriptor ((sm_cl ci).2.1 y).2.2.1 = some ty ∧ narrow ty (sm_rv ad w) = sm_rv ad w ∧ fits ty (sm_rv ad w) = true := by
      rcases hw with ⟨z0, a0, rfl, rfl⟩ | ⟨z0, a0, rfl, rfl⟩ | ⟨rfl, a0, rfl, h01⟩
      · exact ⟨.int, by rw [of_decide_eq_true ha3]; rfl, rfl, rfl⟩
      · exact ⟨.long, by rw [of_decide_eq_true ha3]; rfl, rfl, rfl⟩
      · refine ⟨.boolean, by rw [of_decide_eq_true ha3]; rfl, ?_, ?_⟩ <;> rcases h01 with rfl | rfl <;> rfl
    obtain ⟨ty, t1, t2, t3⟩ := hty
    refine va_put (D := D) (cl := vwCl) (ci := ci) (C := (sm_cl ci).1) (T := (sm_cl ci).2.1) (N := (sm_cl ci).2.2) hx hb hts (sm_cl_in h6) (sm_fty ci) (sm_cl_ty h6) (sm_cl_nm h6) hown hK hP hD hS b (sm_rw_at hn) (sm_cl_at h6) y hy (hts _ (sm_has_in ha2)) (fun _ q => q) hfin t1 t2 t3 hlen hdg (fun H1 locs1 hP hD hS => ?_)
    have e : sm_rw G ad (h.set b (.inr (ci, fs.set y w))) = (sm_rw G ad h).set b (ad b, .inr (ci, (fs.map (sm_rv ad)).set y (sm_rv ad w))) := by
      rw [sm_rw_set]
      simp [sm_re, List.map_set]
    exact go _ _ _ _ hs4 _ _ _ (by rw [e]; exact hP) (by rw [e]; exact hD) hS hL
  case invokevirtual idx =>
    obtain ⟨as, r, hlen, rfl, hs1⟩ := sm_pop_inv _ _ _ _ hs
    obtain ⟨b, r, rfl, hs2⟩ := sm_sr_inv hs1
    obtain ⟨hcat, hs3⟩ := sm_cond_inv hs2
    obtain ⟨ci, fs, hn, hs4⟩ := sm_ho_inv hs3
    obtain ⟨c0, hv, hs5⟩ := sm_or_inv hs4
    obtain ⟨hcc, hs6⟩ := sm_cond_inv hs5
    rw [List.append_nil] at hs6
    have hcc := Nat.eq_of_beq_eq_true hcc
    subst hcc
    cases hv
    replace ha := Bool.and_eq_true_iff.mp ha
    obtain ⟨ha, hb6⟩ := ha
    replace ha := Bool.and_eq_true_iff.mp ha
    obtain ⟨ha, hb5⟩ := ha
    replace ha := Bool.and_eq_true_iff.mp ha
    obtain ⟨ha, hb4⟩ := ha
    replace ha := Bool.and_eq_true_iff.mp ha
    obtain ⟨ha, hb3⟩ := ha
    replace ha := Bool.and_eq_true_iff.mp ha
    obtain ⟨hb1, hb2⟩ := ha
    obtain ⟨h6, hcl⟩ : c0 < 5 ∧ (sm_cl c0).1 = (sm_y x).cls := of_decide_eq_true hb6
    have hmx : sm_max x ≤ 40 := of_decide_eq_true hb5
    simp only [sm_npar, Bool.and_eq_true, decide_eq_true_eq] at hb3
    simp only [sm_mvirt, Bool.and_eq_true] at hb2
    have hini : Jvm.Cond.initialized (sm_y x).cls ∈ sm_all := by
      have := hb1
      simp only [sm_mwords, Bool.and_eq_true] at this
      exact sm_has_in this.2
    have hG : GoodIn sm_all (wsV (sm_y j).cls idx (sm_y x).cls (sm_y x) (sm_ws x)) :=
      sm_good_cons (sm_has_in hb4) (sm_good_cons (sm_has_in hb2.1) (sm_good_cons (sm_has_in hb2.2) (sm_good_cons hini (sm_good_ws hb1))))
    have hr := va_runV (p := p) (l := l) (e := e) (R := R) (s := s) (m := m) (args := args) (below := below) (meth := meth) (c := c) (H := H) (locs := locs) (cells := cells) (slots := slots) (g := F0 m pc lsA ((as.reverse ++ .ref b :: r).map (sm_rv ad))) (As := as.map (sm_rv ad)) (rest := r.map (sm_rv ad)) (index := idx) (C := (sm_y x).cls) (b := ad b) (n := y) (mc := 0) (ms := 0) (bytes := sm_code x) (maxL := sm_max x) (ret := sm_ret x)
      ⟨hx, hb, hml, hown, hts⟩ (hs6 l D G ad H.size)
      (cwV y hts hG rfl rfl rfl ⟨rfl, hb3.1.1, hb3.1.2, hb3.2⟩ ⟨hRm.1, by have := hRm.2; show 8 + (sm_max x + 11) + 64 * d ≤ R.locals; omega⟩)
      ⟨sm_blind, by rw [← hcl]; exact va_recv (D := D) (cl := vwCl) (ci := c0) (q0 := b) hK hP (sm_cl_at h6) (sm_rw_at hn), fun U hU hW => ⟨rfl, by rw [hU], by rw [hU]; exact hP, va_K.moved hW.alike hK, hD.weaken (fun _ _ _ _ => trivial)⟩⟩
      rfl (by rw [List.length_map]; exact hlen) hsz (by simp [sm_rv, List.map_reverse]) (lv_room (by rw [sm_rv_sum]; exact Nat.le_of_ble_eq_true hcat)) hdg ⟨by omega, by omega⟩
    refine sm_after hr hS (sm_free hD hS hA) (sm_free hD hS hA) (fun w h1 H1 locs1 hq hP hD hS => ?_)
    cases w with
    | none => exact go _ _ _ _ hq _ _ _ hP hD hS hL
    | some w => exact go _ _ _ _ hq _ _ _ hP hD hS hL
  case invokestatic idx =>
    obtain ⟨as, r, hlen, rfl, hs1⟩ := sm_pop_inv _ _ _ _ hs
    obtain ⟨hcat, hs2⟩ := sm_cond_inv hs1
    rw [List.append_nil] at hs2
    replace ha := Bool.and_eq_true_iff.mp ha
    obtain ⟨ha, hb5⟩ := ha
    replace ha := Bool.and_eq_true_iff.mp ha
    obtain ⟨ha, hb4⟩ := ha
    replace ha := Bool.and_eq_true_iff.mp ha
    obtain ⟨ha, hb3⟩ := ha
    replace ha := Bool.and_eq_true_iff.mp ha
    obtain ⟨hb1, hb2⟩ := ha
    have hmx : sm_max x ≤ 40 := of_decide_eq_true hb5
    simp only [sm_npar, Bool.and_eq_true, decide_eq_true_eq] at hb3
    simp only [sm_mstat] at hb2
    have hini : Jvm.Cond.initialized (sm_y x).cls ∈ sm_all := by
      have := hb1
      simp only [sm_mwords, Bool.and_eq_true] at this
      exact sm_has_in this.2
    have hG : GoodIn sm_all (va_wsS (sm_y j).cls idx (sm_y x) (sm_ws x)) :=
      sm_good_cons (sm_has_in hb4) (sm_good_cons (sm_has_in hb2) (sm_good_cons hini (sm_good_ws hb1)))
    have hr := va_runS (p := p) (l := l) (e := e) (R := R) (s := s) (m := m) (args := args) (below := below) (meth := meth) (c := c) (H := H) (locs := locs) (cells := cells) (slots := slots) (g := F0 m pc lsA ((as.reverse ++ r).map (sm_rv ad))) (As := as.map (sm_rv ad)) (rest := r.map (sm_rv ad)) (index := idx) (n := y) (mc := 0) (ms := 0) (bytes := sm_code x) (maxL := sm_max x) (ret := sm_ret x)
      ⟨hx, hb, hml, hown, hts⟩ (hs2 l D G ad H.size)
      (va_cwS y hts hG rfl rfl rfl ⟨hb3.1.1, hb3.1.2, hb3.2⟩ ⟨hRm.1, by have := hRm.2; show 8 + (sm_max x + 11) + 64 * d ≤ R.locals; omega⟩)
      ⟨sm_blind, fun U hU hW => ⟨rfl, by rw [hU], by rw [hU]; exact hP, va_K.moved hW.alike hK, hD.weaken (fun _ _ _ _ => trivial)⟩⟩
      rfl (by rw [List.length_map]; exact hlen) hsz (by simp [sm_rv, List.map_reverse]) (lv_room (by rw [sm_rv_sum]; exact Nat.le_of_ble_eq_true hcat)) hdg ⟨by omega, by omega⟩
    refine sm_after hr hS (sm_free hD hS hA) (sm_free hD hS hA) (fun w h1 H1 locs1 hq hP hD hS => ?_)
    cases w with
    | none => exact go _ _ _ _ hq _ _ _ hP hD hS hL
    | some w => exact go _ _ _ _ hq _ _ _ hP hD hS hL
  all_goals exact False.elim hs
theorem sm_from_mem {tb : List sm_I} {pc : Nat} : (∀ e ∈ sm_from tb pc, e ∈ tb) ∧ ∀ e tl, sm_from tb pc = e :: tl → e.1 = pc := by
  induction tb with
  | nil => exact ⟨fun e h => h, fun e tl h => by cases h⟩
  | cons q r ih =>
    unfold sm_from
    cases hq : Nat.beq q.1 pc with
    | true =>
      refine ⟨fun e h => h, fun e tl h => ?_⟩
      cases h
      exact Nat.eq_of_beq_eq_true hq
    | false => exact ⟨fun e h => List.mem_cons_of_mem _ (ih.1 e h), fun e tl h => ih.2 e tl h⟩
theorem sm_next_mem {tb tl : List sm_I} {pc : Nat} (h : ∀ e ∈ tl, e ∈ tb) : (∀ e ∈ sm_next tb tl pc, e ∈ tb) ∧ ∀ e tl', sm_next tb tl pc = e :: tl' → e.1 = pc := by
  cases tl with
  | nil => exact sm_from_mem
  | cons q r =>
    unfold sm_next
    dsimp only
    cases hq : Nat.beq q.1 pc with
    | true =>
      refine ⟨h, fun e tl' h => ?_⟩
      cases h
      exact Nat.eq_of_beq_eq_true hq
    | false => exact sm_from_mem
theorem sm_run_ok {j d : Nat} {Q : sm_Q} {sc : Option (Nat × (Nat → Int32))} {stop : List Nat} (hall : (sm_tab j).all (sm_chk j) = true) :
    ∀ (n : Nat) (suf : List sm_I) (pc : Nat) (ls : sm_L) (st : List Value) (h : sm_H), (∀ e ∈ suf, e ∈ sm_tab j) → (∀ e tl, suf = e :: tl → e.1 = pc) →
      sm_run (sm_call d) Q sc (sm_tab j) stop (sm_W j d Q sc) n suf ls st h → sm_W j d Q sc pc ls st h := by
  intro n
  induction n with
  | zero => intro suf pc ls st h _ _ hr; exact False.elim hr
  | succ n ih =>
    intro suf pc ls st h hm hp hr
    cases suf with
    | nil => exact False.elim hr
    | cons e tl =>
      have hpc := hp e tl rfl
      subst hpc
      refine sm_step_ok e (List.all_eq_true.mp hall e (hm e List.mem_cons_self)) (k := fun pc ls st h => cond (sm_mem stop pc) (sm_W j d Q sc pc ls st h) (sm_run (sm_call d) Q sc (sm_tab j) stop (sm_W j d Q sc) n (sm_next (sm_tab j) tl pc) ls st h)) ?_ hr
      intro pc ls st h hk
      cases hs : sm_mem stop pc with
      | true => rw [hs] at hk; exact hk
      | false =>
        rw [hs] at hk
        have hn := sm_next_mem (pc := pc) (fun e he => hm e (List.mem_cons_of_mem _ he))
        exact ih _ pc ls st h hn.1 hn.2 hk
/-- a run from a pc on -/
theorem sm_go {j d : Nat} {Q : sm_Q} {sc : Option (Nat × (Nat → Int32))} (stop : List Nat) (n : Nat) (hall : (sm_tab j).all (sm_chk j) = true) {pc : Nat} {ls : sm_L} {st : List Value} {h : sm_H}
    (hr : sm_run (sm_call d) Q sc (sm_tab j) stop (sm_W j d Q sc) n (sm_from (sm_tab j) pc) ls st h) : sm_W j d Q sc pc ls st h :=
  sm_run_ok hall n _ pc ls st h sm_from_mem.1 sm_from_mem.2 hr
def sm_ent : List Value → sm_L
  | [] => []
  | v :: r => if v.category = 2 then some v :: none :: sm_ent r else some v :: sm_ent r
theorem sm_ent_args : ∀ (as : List Value) (ad : Nat → Nat) (k i : Nat) (v : Value), sm_get (sm_ent as) i = some v → (k + i, sm_rv ad v) ∈ lv_args k (as.map (sm_rv ad))
  | [], ad, k, i, v, h => by cases h
  | w :: r, ad, k, i, v, h => by
    simp only [List.map_cons, lv_args]
    by_cases hc : w.category = 2
    · rw [sm_ent, if_pos hc] at h
      rw [if_pos (by rw [sm_rv_cat]; exact hc)]
      match i, h with
      | 0, h => cases h; exact List.mem_cons_self
      | 1, h => cases h
      | i + 2, h =>
        have := sm_ent_args r ad (k + 2) i v h
        rw [show k + (i + 2) = k + 2 + i by omega]
        exact List.mem_cons_of_mem _ this
    · rw [sm_ent, if_neg hc] at h
      rw [if_neg (by rw [sm_rv_cat]; exact hc)]
      match i, h with
      | 0, h => cases h; exact List.mem_cons_self
      | i + 1, h =>
        have := sm_ent_args r ad (k + 1) i v h
        rw [show k + (i + 1) = k + 1 + i by omega]
        exact List.mem_cons_of_mem _ this
theorem sm_sl_len (ad : Nat → Nat) : ∀ (as : List Value), (lg_sl (as.map (sm_rv ad))).length = (sm_ent as).length
  | [] => rfl
  | v :: r => by
    have ih := sm_sl_len ad r
    simp only [lg_sl] at ih ⊢
    by_cases hc : v.category = 2
    · simp [sm_ent, hc, sm_rv_cat, ih]
    · simp [sm_ent, hc, sm_rv_cat, ih]
theorem sm_get_pad {l : sm_L} {n i : Nat} {v : Value} (h : sm_get (l ++ List.replicate n none) i = some v) : sm_get l i = some v := by
  unfold sm_get at h ⊢
  rw [sm_nth_eq] at h ⊢
  by_cases hi : i < l.length
  · rwa [List.getElem?_append_left hi] at h
  · rw [List.getElem?_append_right (by omega)] at h
    by_cases h2 : i - l.length < n
    · rw [List.getElem?_replicate, if_pos h2] at h
      cases h
    · rw [List.getElem?_replicate, if_neg h2] at h
      cases h
/-- from a walk of the body to the contract -/
theorem sm_enter {j d : Nat} {as : List Value} {h : sm_H} {Q : sm_Q} (ls : sm_L) (hls : ls = sm_ent as ++ List.replicate (sm_max j - (sm_ent as).length) none) (hlen : Nat.ble (sm_ent as).length (sm_max j) = true) (hpl : plainName (sm_y j).cls = true)
    (hw : sm_W j d Q none 0 ls [] h) : sm_call (d + 1) j as h Q := by
  intro l D G ad sz
  refine Met.ofW (cc := sm_code j) (maxL := sm_max j) (ret := sm_ret j) hpl rfl ?_
  intro p e s m args below meth c s₁ B hml hv
  obtain ⟨rfl, hsz, hP, hK, hD0⟩ := hv
  have hx := B.exec
  have hb := B.bytes
  have hr := B.returns
  have hts := atoms_spec (ws := sm_ws j) B.pre
  have hown : s.vm.findClass (sm_y j).cls = some m.cls := findClass_of_methodNamed B.named
  have hlocks := B.notSynchronized
  subst hsz
  rw [lg_entry_eq]
  have hl := lv_entry (as.map (sm_rv ad)) (n := sm_max j) (by rw [sm_sl_len]; exact Nat.le_of_ble_eq_true hlen)
  refine hw p l e (headSpec (sm_ws j) (sm_room (d + 1))).room s m _ below meth c (va_A (sm_rw G ad h) s.heap.size) s.heap D G ad 0 0 _ ⟨hx, hb, hml, hown, fun w hw => hts w (List.mem_cons_of_mem _ hw), hK, fun q hq => Or.inr hq, ⟨Nat.le_refl _, Nat.le_refl _⟩, ⟨Nat.zero_le _, Nat.zero_le _⟩, ?_, fun q hq => by cases hq⟩ s.heap [] _ hP hD0.self va_S.rf ⟨_, hl, fun i v hg => ?_⟩
  · intro H locs lsA pc v h' hrt hq hP hD hS
    match v, hrt with
    | none, hrt => exact W.vret hx hb (hr.trans hrt.2) (fun t ht hW => ⟨⟨none, h', rfl, hq, by rw [ht]; exact hP, va_K.moved hW.alike hK, hD⟩, hS.F ht⟩) hS.2.2 hrt.1
    | some (.int a), hrt =>
      obtain ⟨h1, ty, h2, h3⟩ := hrt
      exact W.zret (v := a) hx hb (hr.trans h2) h3 (fun t ht hW => ⟨⟨some (.int a), h', rfl, hq, by rw [ht]; exact hP, va_K.moved hW.alike hK, hD⟩, hS.F ht⟩) hS.2.2 h1
    | some (.long a), hrt => exact W.lret (v := a) hx hb (hr.trans hrt.2) (fun t ht hW => ⟨⟨some (.long a), h', rfl, hq, by rw [ht]; exact hP, va_K.moved hW.alike hK, hD⟩, hS.F ht⟩) hS.2.2 hrt.1
  · have h2 := sm_ent_args as ad 0 i v (sm_get_pad (by rw [← hls]; exact hg))
    rwa [Nat.zero_add] at h2
/-- a runner of calls with k frames at least -/
def sm_C (k : Nat) (CT : sm_CT) : Prop := ∃ d, k ≤ d ∧ CT = sm_call d
theorem sm_C.mono {k k' : Nat} {CT : sm_CT} (h : sm_C k CT) (hk : k' ≤ k) : sm_C k' CT := by
  obtain ⟨d, h1, h2⟩ := h
  exact ⟨d, Nat.le_trans hk h1, h2⟩
def sm_Wk (k j : Nat) (Q : sm_Q) (sc : Option (Nat × (Nat → Int32))) : sm_K := fun pc ls st h => ∀ d, k ≤ d → sm_W j d Q sc pc ls st h
theorem sm_body {k j : Nat} {Q : sm_Q} {sc : Option (Nat × (Nat → Int32))} (stop : List Nat) (n : Nat) (hall : (sm_tab j).all (sm_chk j) = true) {pc : Nat} {ls : sm_L} {st : List Value} {h : sm_H}
    (hr : ∀ (CT : sm_CT) (K : sm_K), sm_C k CT → (∀ pc ls st h, sm_Wk k j Q sc pc ls st h → K pc ls st h) → sm_run CT Q sc (sm_tab j) stop K n (sm_from (sm_tab j) pc) ls st h) : sm_Wk k j Q sc pc ls st h :=
  fun d hd => sm_go stop n hall (hr (sm_call d) (sm_W j d Q sc) ⟨d, hd, rfl⟩ (fun _ _ _ _ q => q d hd))
theorem sm_meth {k j : Nat} {as : List Value} {h : sm_H} {Q : sm_Q} {CT : sm_CT} (hC : sm_C (k + 1) CT) (ls : sm_L) (hls : ls = sm_ent as ++ List.replicate (sm_max j - (sm_ent as).length) none) (hlen : Nat.ble (sm_ent as).length (sm_max j) = true) (hpl : plainName (sm_y j).cls = true)
    (hw : sm_Wk k j Q none 0 ls [] h) : CT j as h Q := by
  obtain ⟨d, h1, rfl⟩ := hC
  obtain ⟨d', rfl⟩ : ∃ d', d = d' + 1 := ⟨d - 1, by omega⟩
  exact sm_enter ls hls hlen hpl (hw d' (by omega))
