/-! A step of the simple machine is a step of the machine. -/
def sm_len (i : Instr) (y : Nat) : Nat := match i with
  | .tableswitch _ _ _ _ | .lookupswitch _ _ => y
  | .bipush _ | .ldc _ | .iload _ | .lload _ | .aload _ | .istore _ | .lstore _ | .astore _ => 2
  | .sipush _ | .ldc_w _ | .ldc2_w _ | .iinc _ _ | .ifCond _ _ | .if_icmp _ _ | .goto _ | .getfield _ | .putfield _ | .invokevirtual _ | .invokestatic _ | .invokespecial _ | .new _ => 3
  | .newarray _ => 2
  | .multianewarray _ _ => 4
  | _ => 1
/-- the words of method j itself -/
def sm_mwords (j : Nat) : Bool := sm_has (sm_m j).2.2.2.2.2.1 (.code (sm_y j) (sm_code j) (sm_max j) (sm_ret j)) && sm_has (sm_m j).2.2.2.2.2.2.2.2 (.initialized (sm_y j).cls)
def sm_mvirt (j : Nat) : Bool := sm_has (sm_m j).2.2.2.2.2.2.1 (.instanceMethod (sm_y j)) && sm_has (sm_m j).2.2.2.2.2.2.2.1 (.selects (sm_y j).cls (sm_y j) (sm_y j))
def sm_mstat (j : Nat) : Bool := sm_has (sm_m j).2.2.2.2.2.2.1 (.static (sm_y j))
def sm_npar (j n : Nat) : Bool := decide ((sm_y j).cls ≠ "java/lang/invoke/MethodHandle") && decide ((sm_y j).cls ≠ "java/lang/invoke/VarHandle") && decide ((parseMethodDescriptor (sm_y j).desc).map (fun d => d.parameters.length) = some n)
def sm_cl (x : Nat) : vw_C := match sm_nth vwCl x with
  | some r => r
  | none => ("", fun _ => ("", "", "", true), 0)
/-- what must be so of a row of method j -/
def sm_aux (j : Nat) (i : Instr) (pc x y z : Nat) (v : Value) (sw : List (Int32 × Nat)) : Bool := match i with
  | .iconst n => decide (v = .int (Int32.ofInt n))
  | .bipush n => decide (v = .int (Int8.ofInt n).toInt32)
  | .sipush n => decide (v = .int (Int16.ofInt n).toInt32)
  | .lconst n => decide (v = .long (Int64.ofNat (n : Nat)))
  | .ldc k => match v with
    | .int a => sm_has z (.constant (sm_y j).cls k a)
    | _ => false
  | .ldc_w k => match v with
    | .int a => sm_has z (.constant (sm_y j).cls k a)
    | _ => false
  | .ldc2_w k => match v with
    | .long a => sm_has z (.constantLong (sm_y j).cls k a)
    | _ => false
  | .iload_n n => decide ((n : Nat) = x)
  | .lload_n n => decide ((n : Nat) = x)
  | .aload_n n => decide ((n : Nat) = x)
  | .iload n => decide (n = x)
  | .lload n => decide (n = x)
  | .aload n => decide (n = x)
  | .istore_n n => decide ((n : Nat) = x ∧ x < sm_max j)
  | .lstore_n n => decide ((n : Nat) = x ∧ x + 1 < sm_max j)
  | .astore_n n => decide ((n : Nat) = x ∧ x < sm_max j)
  | .istore n => decide (n = x ∧ x < sm_max j)
  | .lstore n => decide (n = x ∧ x + 1 < sm_max j)
  | .astore n => decide (n = x ∧ x < sm_max j)
  | .iinc n b => decide (n = x ∧ x < sm_max j ∧ v = .int (Int32.ofInt b))
  | .ifCond _ o => decide ((pc : Int) + o = (x : Int))
  | .if_icmp _ o => decide ((pc : Int) + o = (x : Int))
  | .goto o => decide ((pc : Int) + o = (x : Int))
  | .getfield k => decide (x < 5 ∧ y < (sm_cl x).2.2) && sm_has z (.fieldLink (sm_y j).cls k ((sm_cl x).2.1 y).1 ((sm_cl x).2.1 y).2.1 ((sm_cl x).2.1 y).2.2.1)
  | .putfield k => decide (x < 5 ∧ y < (sm_cl x).2.2 ∧ ((sm_cl x).2.1 y).2.2.2 = false) && sm_has z (.fieldLink (sm_y j).cls k ((sm_cl x).2.1 y).1 ((sm_cl x).2.1 y).2.1 ((sm_cl x).2.1 y).2.2.1) && (match v with
    | .int _ => decide (((sm_cl x).2.1 y).2.2.1 = "I")
    | .long _ => decide (((sm_cl x).2.1 y).2.2.1 = "J")
    | .null => decide (((sm_cl x).2.1 y).2.2.1 = "Z")
    | _ => false)
  | .tableswitch d lo hi o => decide ((pc : Int) + d = (x : Int) ∧ -1000 ≤ lo ∧ hi < 1000 ∧ hi - lo + 1 = (o.size : Int) ∧ sw.length = o.size) && (List.range o.size).all fun i => match sm_nth sw i, o[i]? with
    | some q, some w => decide (q.1 = Int32.ofInt (lo + (i : Int)) ∧ (pc : Int) + w = (q.2 : Int))
    | _, _ => false
  | .lookupswitch d ps => decide ((pc : Int) + d = (x : Int) ∧ (ps.toList.zip (ps.toList.drop 1)).all (fun q => q.1.1 < q.2.1) = true ∧ sw.map (fun q => (q.1.toInt, (q.2 : Int))) = ps.toList.map (fun q => (q.1, (pc : Int) + q.2)))
  | .invokevirtual k => sm_mwords x && sm_mvirt x && sm_npar x y && sm_has z (.methodLink (sm_y j).cls k (sm_y x)) && decide (sm_max x ≤ 40) && (match v with
    | .ref c => decide (c < 5 ∧ (sm_cl c).1 = (sm_y x).cls)
    | _ => false)
  | .invokestatic k => sm_mwords x && sm_mstat x && sm_npar x y && sm_has z (.methodLink (sm_y j).cls k (sm_y x)) && decide (sm_max x ≤ 40)
  | .ireturn => match y with
    | 0 => decide (sm_ret j = some .int)
    | _ => decide (sm_ret j = some .boolean)
  | .lreturn => decide (sm_ret j = some .long)
  | .return_ => decide (sm_ret j = none)
  | .iadd | .isub | .imul | .iand | .ior | .ixor | .idiv | .irem | .ishl | .ishr | .iushr | .ladd | .lmul | .land | .ldiv | .lrem | .lshr | .lcmp | .i2l | .l2i | .i2b | .dup | .dup2 => true
  | .iaload | .iastore | .aaload | .arraylength => true
  | _ => false
def sm_chk (j : Nat) (e : sm_I) : Bool := decide (decode (sm_code j) e.1 = .ok (e.2.2.1, sm_len e.2.2.1 e.2.2.2.2.1)) && decide (e.2.1 = e.1 + sm_len e.2.2.1 e.2.2.2.2.1) && sm_aux j e.2.2.1 e.1 e.2.2.2.1 e.2.2.2.2.1 e.2.2.2.2.2.1 e.2.2.2.2.2.2.1 e.2.2.2.2.2.2.2
theorem sm_cl_at {x : Nat} (h : x < 5) : vwCl[x]? = some (sm_cl x) := by
  match x, h with
  | 0, _ => rfl
  | 1, _ => rfl
  | 2, _ => rfl
  | 3, _ => rfl
  | 4, _ => rfl
def sm_fty : Nat → Nat → FieldType
  | 0 => tyX0
  | 1 => tyX1
  | 2 => tyX2
  | 3 => tyX3
  | _ => tyX4
theorem sm_cl_ty {x : Nat} (h : x < 5) : ∀ k, k < (sm_cl x).2.2 → parseFieldDescriptor ((sm_cl x).2.1 k).2.2.1 = some (sm_fty x k) := by
  match x, h with
  | 0, _ => exact tyX0_ok
  | 1, _ => exact tyX1_ok
  | 2, _ => exact tyX2_ok
  | 3, _ => exact tyX3_ok
  | 4, _ => exact tyX4_ok
theorem sm_cl_nm {x : Nat} (h : x < 5) : ∀ a, a < (sm_cl x).2.2 → ∀ b, b < (sm_cl x).2.2 → a ≠ b → ((sm_cl x).2.1 a).2.1 ≠ ((sm_cl x).2.1 b).2.1 := by
  match x, h with
  | 0, _ => exact nmX0
  | 1, _ => exact nmX1
  | 2, _ => exact nmX2
  | 3, _ => exact nmX3
  | 4, _ => exact nmX4
theorem sm_inw (ws : List Jvm.Cond) (h : (ws.all fun w => goodWord w && decide (w ∈ lw_tbl)) = true) : ∀ w ∈ ws, w ∈ sm_all := by
  intro w hw
  have h1 := List.all_eq_true.mp h w hw
  simp only [Bool.and_eq_true, decide_eq_true_eq] at h1
  exact List.mem_filter.mpr ⟨h1.2, h1.1⟩
theorem sm_inX0 : ∀ w ∈ wsX00, w ∈ sm_all := sm_inw _ (by decide +kernel)
theorem sm_inX1 : ∀ w ∈ wsX10, w ∈ sm_all := sm_inw _ (by decide +kernel)
theorem sm_inX2 : ∀ w ∈ wsX20, w ∈ sm_all := sm_inw _ (by decide +kernel)
theorem sm_inX3 : ∀ w ∈ wsX30, w ∈ sm_all := sm_inw _ (by decide +kernel)
theorem sm_inX4 : ∀ w ∈ wsX40, w ∈ sm_all := sm_inw _ (by decide +kernel)
theorem sm_cl_in {x : Nat} (h : x < 5) : ∀ w ∈ u_ws (sm_cl x).1 (sm_cl x).2.1 (sm_cl x).2.2, w ∈ sm_all := by
  match x, h with
  | 0, _ => exact sm_inX0
  | 1, _ => exact sm_inX1
  | 2, _ => exact sm_inX2
  | 3, _ => exact sm_inX3
  | 4, _ => exact sm_inX4
theorem sm_good_ws {x : Nat} (h : sm_mwords x = true) : GoodIn sm_all (sm_ws x) := by
  simp only [sm_mwords, Bool.and_eq_true] at h
  intro w hw
  rcases List.mem_cons.mp hw with rfl | hw
  · exact ⟨sm_has_in h.1, good_of_word (sm_all_good (sm_has_in h.1))⟩
  · exact ⟨hw, good_of_word (sm_all_good hw)⟩
theorem sm_good_cons {w : Jvm.Cond} {ws : List Jvm.Cond} (h : w ∈ sm_all) (h2 : GoodIn sm_all ws) : GoodIn sm_all (w :: ws) := by
  intro u hu
  rcases List.mem_cons.mp hu with rfl | hu
  · exact ⟨h, good_of_word (sm_all_good h)⟩
  · exact h2 u hu
section SMS
variable {p : Program} {l : Launch} {e : Env} {R : Room} {s : State} {m : MethodId} {args : Array Value} {below : List Frame} {meth : Method} {c : Code} {H : Heap} {locs : List Loc} {cells slots : Nat} {Z : State → Prop}
variable {pc : Nat} {ls : Array Slot} {rest st0 : List Value} {a : Array Value} {A0 A1 : Nat → Prop} {H0 : Heap} {mc ms : Nat} {free : Addr → Prop}
/-- behind a call of whatever answer -/
theorem sm_after {Q : sm_Q} {D : va_G} {G : Nat → ClassId} {ad : Nat → Nat} (hr : va_Run p l e R s m args below meth c H locs cells slots 0 0 (F0 m pc ls st0) rest (sm_Qc Q D G ad A1 a) free) (hS : va_S A0 H0 H locs) (hA : ∀ q, A1 q → A0 q) (hf : ∀ q, free q → A0 q)
    (kk : ∀ (v : Option Value) (h : sm_H) (H1 : Heap) (locs1 : List Loc), Q v h → va_P D vwCl (sm_rw G ad h) H1 → va_D A0 (sm_rw G ad h) → va_S A0 H0 H1 locs1 → W p l e R s m args below meth c H1 locs1 cells slots Z (F0 m (pc + 3) ls ((v.map (sm_rv ad)).toList ++ rest))) : W p l e R s m args below meth c H locs cells slots Z (F0 m pc ls st0) := by
  intro T hT X
  obtain ⟨v, st₀, t, T', L, h0, X', hL, e1, e2, ⟨⟨w, h, hv, hq, hP, hK, hD⟩, hz, hk⟩, st⟩ := hr T hT X
  cases hv
  rw [h0] at hz hk
  obtain ⟨t2, a1, b1⟩ := kk w h T'.heap (locs ++ L) hq (by rw [e1]; exact hP) (hD.weaken (fun _ _ _ h => hA _ h))
    ⟨Nat.le_trans hS.1 (by rw [e1]; exact hz), fun q h1 h2 => by rw [e1, hk q (Nat.lt_of_lt_of_le h1 hS.1) (fun z => h2 (hA q z))]; exact hS.2.1 q h1 h2, fun q hq => by
      rcases List.mem_append.mp hq with h | h
      · exact hS.2.2 q h
      · exact hf _ (hL q h)⟩ T' rfl X'
  exact ⟨t2, st t2 a1, b1⟩
end SMS
