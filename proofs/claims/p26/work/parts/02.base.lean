/-! The simple machine: one method's code as rows, locals by place, a stack, a heap by places; a step as a transformer of what must hold. -/
abbrev sm_E : Type := (Nat × vp_A) ⊕ (Nat × List Value)
abbrev sm_H : Type := List sm_E
abbrev sm_L : Type := List (Option Value)
/-- pc, next pc, instruction, three numbers, a value, a switch's rows -/
abbrev sm_I : Type := Nat × Nat × Instr × Nat × Nat × Nat × Value × List (Int32 × Nat)
/-- name, code, locals, return, rows; places of its words: code, instance or static, selects, initialized -/
abbrev sm_M : Type := MethodName × ByteArray × Nat × Option FieldType × List sm_I × Nat × Nat × Nat × Nat
abbrev sm_Q : Type := Option Value → sm_H → Prop
abbrev sm_CT : Type := Nat → List Value → sm_H → sm_Q → Prop
abbrev sm_K : Type := Nat → sm_L → List Value → sm_H → Prop
def sm_nth {α : Type} : List α → Nat → Option α
  | [], _ => none
  | a :: _, 0 => some a
  | _ :: r, k + 1 => sm_nth r k
theorem sm_nth_eq {α : Type} : ∀ (l : List α) (k : Nat), sm_nth l k = l[k]?
  | [], _ => by simp [sm_nth]
  | _ :: _, 0 => by simp [sm_nth]
  | _ :: r, k + 1 => by simp [sm_nth, sm_nth_eq r k]
def sm_get (ls : sm_L) (i : Nat) : Option Value := match sm_nth ls i with
  | some o => o
  | none => none
/-- a store of one place: never over the second half of a long -/
def sm_st1 (ls : sm_L) (i : Nat) (v : Value) (k : sm_L → Prop) : Prop := match i with
  | 0 => k (ls.set 0 (some v))
  | j + 1 => match sm_get ls j with
    | some w => cond (Nat.beq w.category 2) False (k (ls.set (j + 1) (some v)))
    | none => k (ls.set (j + 1) (some v))
def sm_st2 (ls : sm_L) (i : Nat) (v : Value) (k : sm_L → Prop) : Prop := match i with
  | 0 => k ((ls.set 0 (some v)).set 1 none)
  | j + 1 => match sm_get ls j with
    | some w => cond (Nat.beq w.category 2) False (k ((ls.set (j + 1) (some v)).set (j + 2) none))
    | none => k ((ls.set (j + 1) (some v)).set (j + 2) none)
-- views of a value, of a stack
def sm_oi (o : Option Value) (f : Int32 → Prop) : Prop := match o with
  | some (.int a) => f a
  | _ => False
def sm_ol (o : Option Value) (f : Int64 → Prop) : Prop := match o with
  | some (.long a) => f a
  | _ => False
def sm_or (o : Option Value) (f : Nat → Prop) : Prop := match o with
  | some (.ref a) => f a
  | _ => False
def sm_si (st : List Value) (f : Int32 → List Value → Prop) : Prop := match st with
  | .int a :: r => f a r
  | _ => False
def sm_sl (st : List Value) (f : Int64 → List Value → Prop) : Prop := match st with
  | .long a :: r => f a r
  | _ => False
def sm_sr (st : List Value) (f : Nat → List Value → Prop) : Prop := match st with
  | .ref a :: r => f a r
  | _ => False
def sm_sv (st : List Value) (f : Value → List Value → Prop) : Prop := match st with
  | v :: r => f v r
  | _ => False
-- views of a heap
def sm_ha (h : sm_H) (a : Nat) (f : Nat → vp_A → Prop) (g : Prop) : Prop := match sm_nth h a with
  | some (.inl (t, x)) => f t x
  | some (.inr _) => False
  | none => g
def sm_ho (h : sm_H) (a : Nat) (f : Nat → List Value → Prop) : Prop := match sm_nth h a with
  | some (.inr (c, fs)) => f c fs
  | _ => False
def sm_xi (x : vp_A) (f : Nat → (Nat → Int32) → Prop) : Prop := match x with
  | (n, .inl g) => f n g
  | _ => False
def sm_xl (x : vp_A) (f : Nat → (Nat → Int64) → Prop) : Prop := match x with
  | (n, .inr (.inl g)) => f n g
  | _ => False
def sm_xr (x : vp_A) (f : Nat → (Nat → Option Nat) → Prop) : Prop := match x with
  | (n, .inr (.inr (.inr (.inr g)))) => f n g
  | _ => False
def sm_icmp (c : ClassFile.Cond) (x y : Int32) (t f : Prop) : Prop := match c with
  | .eq => (x = y → t) ∧ (¬ x = y → f)
  | .ne => (¬ x = y → t) ∧ (x = y → f)
  | .lt => (x < y → t) ∧ (¬ x < y → f)
  | .ge => (y ≤ x → t) ∧ (¬ y ≤ x → f)
  | .gt => (y < x → t) ∧ (¬ y < x → f)
  | .le => (x ≤ y → t) ∧ (¬ x ≤ y → f)
def sm_if0 (c : ClassFile.Cond) (x : Int32) (t f : Prop) : Prop := match c with
  | .eq => (x = nI 0 → t) ∧ (¬ x = nI 0 → f)
  | .ne => (¬ x = nI 0 → t) ∧ (x = nI 0 → f)
  | .lt => (x < nI 0 → t) ∧ (¬ x < nI 0 → f)
  | .ge => (nI 0 ≤ x → t) ∧ (¬ nI 0 ≤ x → f)
  | .gt => (nI 0 < x → t) ∧ (¬ nI 0 < x → f)
  | .le => (x ≤ nI 0 → t) ∧ (¬ x ≤ nI 0 → f)
def sm_sw (a : Int32) (sw : List (Int32 × Nat)) (d : Nat) (k : Nat → Prop) : Prop := match sw with
  | [] => k d
  | q :: r => (a = q.1 → k q.2) ∧ (¬ a = q.1 → sm_sw a r d k)
/-- n values off the stack, the last one first -/
def sm_pop : Nat → List Value → List Value → (List Value → List Value → Prop) → Prop
  | 0, acc, st, f => f acc st
  | n + 1, acc, st, f => match st with
    | v :: r => sm_pop n (v :: acc) r f
    | [] => False
def sm_cat : List Value → Nat
  | [] => 0
  | v :: r => v.category + sm_cat r
def sm_push (v : Option Value) (st : List Value) : List Value := match v with
  | some a => a :: st
  | none => st
def sm_fld (fs : List Value) (y : Nat) (f : Value → Prop) : Prop := match sm_nth fs y with
  | some w => f w
  | none => False
def sm_store (v : Value) (st : List Value) (f : Value → Nat → List Value → Prop) : Prop := match v, st with
  | .int _, .int a :: .ref b :: r => f (.int a) b r
  | .long _, .long a :: .ref b :: r => f (.long a) b r
  | .null, .int a :: .ref b :: r => (a = nI 0 ∨ a = nI 1) ∧ f (.int a) b r
  | _, _ => False
/-- a place of an array: within (a shield: whnf stops at it) -/
def sm_in (j : Int32) (n : Nat) : Prop := Nonempty (PLift (vp_in j n))
theorem sm_in_of {j : Int32} {n : Nat} (h : vp_in j n) : sm_in j n := ⟨⟨h⟩⟩
theorem sm_in_inv {j : Int32} {n : Nat} (h : sm_in j n) : vp_in j n := by
  obtain ⟨⟨h⟩⟩ := h
  exact h
def sm_shl (x y : Int32) : Int32 := x <<< (y &&& 31)
def sm_shr (x y : Int32) : Int32 := x >>> (y &&& 31)
def sm_ushr (x y : Int32) : Int32 := (x.toUInt32 >>> (y.toUInt32 &&& Int32.toUInt32 31)).toInt32
def sm_ir (x y : Int32) : Int32 := x - x / y * y
def sm_lr (x y : Int64) : Int64 := x - x / y * y
def sm_step (CT : sm_CT) (Q : sm_Q) (sc : Option (Nat × (Nat → Int32))) (i : Instr) (nx x y : Nat) (v : Value) (sw : List (Int32 × Nat)) (ls : sm_L) (st : List Value) (h : sm_H) (k : sm_K) : Prop :=
  match i with
  | .iconst _ => k nx ls (v :: st) h
  | .bipush _ => k nx ls (v :: st) h
  | .sipush _ => k nx ls (v :: st) h
  | .ldc _ => k nx ls (v :: st) h
  | .ldc_w _ => k nx ls (v :: st) h
  | .ldc2_w _ => k nx ls (v :: st) h
  | .lconst _ => k nx ls (v :: st) h
  | .iload_n _ => sm_oi (sm_get ls x) fun a => k nx ls (.int a :: st) h
  | .iload _ => sm_oi (sm_get ls x) fun a => k nx ls (.int a :: st) h
  | .lload_n _ => sm_ol (sm_get ls x) fun a => k nx ls (.long a :: st) h
  | .lload _ => sm_ol (sm_get ls x) fun a => k nx ls (.long a :: st) h
  | .aload_n _ => sm_or (sm_get ls x) fun a => k nx ls (.ref a :: st) h
  | .aload _ => sm_or (sm_get ls x) fun a => k nx ls (.ref a :: st) h
  | .istore_n _ => sm_si st fun a r => sm_st1 ls x (.int a) fun ls => k nx ls r h
  | .istore _ => sm_si st fun a r => sm_st1 ls x (.int a) fun ls => k nx ls r h
  | .lstore_n _ => sm_sl st fun a r => sm_st2 ls x (.long a) fun ls => k nx ls r h
  | .lstore _ => sm_sl st fun a r => sm_st2 ls x (.long a) fun ls => k nx ls r h
  | .astore_n _ => sm_sr st fun a r => sm_st1 ls x (.ref a) fun ls => k nx ls r h
  | .astore _ => sm_sr st fun a r => sm_st1 ls x (.ref a) fun ls => k nx ls r h
  | .iinc _ _ => sm_oi (sm_get ls x) fun a => sm_oi (some v) fun b => sm_st1 ls x (.int (a + b)) fun ls => k nx ls st h
  | .iadd => sm_si st fun b r => sm_si r fun a r => k nx ls (.int (a + b) :: r) h
  | .isub => sm_si st fun b r => sm_si r fun a r => k nx ls (.int (a - b) :: r) h
  | .imul => sm_si st fun b r => sm_si r fun a r => k nx ls (.int (a * b) :: r) h
  | .iand => sm_si st fun b r => sm_si r fun a r => k nx ls (.int (a &&& b) :: r) h
  | .ior => sm_si st fun b r => sm_si r fun a r => k nx ls (.int (a ||| b) :: r) h
  | .ixor => sm_si st fun b r => sm_si r fun a r => k nx ls (.int (a ^^^ b) :: r) h
  | .idiv => sm_si st fun b r => sm_si r fun a r => ¬ b = nI 0 ∧ k nx ls (.int (a / b) :: r) h
  | .irem => sm_si st fun b r => sm_si r fun a r => ¬ b = nI 0 ∧ k nx ls (.int (sm_ir a b) :: r) h
  | .ishl => sm_si st fun b r => sm_si r fun a r => k nx ls (.int (sm_shl a b) :: r) h
  | .ishr => sm_si st fun b r => sm_si r fun a r => k nx ls (.int (sm_shr a b) :: r) h
  | .iushr => sm_si st fun b r => sm_si r fun a r => k nx ls (.int (sm_ushr a b) :: r) h
  | .ladd => sm_sl st fun b r => sm_sl r fun a r => k nx ls (.long (a + b) :: r) h
  | .lmul => sm_sl st fun b r => sm_sl r fun a r => k nx ls (.long (a * b) :: r) h
  | .land => sm_sl st fun b r => sm_sl r fun a r => k nx ls (.long (a &&& b) :: r) h
  | .ldiv => sm_sl st fun b r => sm_sl r fun a r => ¬ b = 0 ∧ k nx ls (.long (a / b) :: r) h
  | .lrem => sm_sl st fun b r => sm_sl r fun a r => ¬ b = 0 ∧ k nx ls (.long (sm_lr a b) :: r) h
  | .lshr => sm_si st fun b r => sm_sl r fun a r => k nx ls (.long (a >>> (b.toInt64 &&& 63)) :: r) h
  | .lcmp => sm_sl st fun b r => sm_sl r fun a r => k nx ls (.int (lg_cmp a b) :: r) h
  | .i2l => sm_si st fun a r => k nx ls (.long a.toInt64 :: r) h
  | .l2i => sm_sl st fun a r => k nx ls (.int a.toInt32 :: r) h
  | .i2b => sm_si st fun a r => k nx ls (.int a.toInt8.toInt32 :: r) h
  | .dup => sm_sv st fun a r => cond (Nat.beq a.category 1) (k nx ls (a :: a :: r) h) False
  | .dup2 => sm_sv st fun a r => sm_sv r fun b r => cond (Nat.beq a.category 1) (cond (Nat.beq b.category 1) (k nx ls (a :: b :: a :: b :: r) h) False) False
  | .ifCond c _ => sm_si st fun a r => sm_if0 c a (k x ls r h) (k nx ls r h)
  | .if_icmp c _ => sm_si st fun b r => sm_si r fun a r => sm_icmp c a b (k x ls r h) (k nx ls r h)
  | .goto _ => k x ls st h
  | .tableswitch _ _ _ _ => sm_si st fun a r => sm_sw a sw x fun t => k t ls r h
  | .lookupswitch _ _ => sm_si st fun a r => sm_sw a sw x fun t => k t ls r h
  | .getfield _ => sm_sr st fun a r => sm_ho h a fun c fs => cond (Nat.beq c x) (sm_fld fs y fun w => k nx ls (w :: r) h) False
  | .putfield _ => sm_store v st fun w a r => sm_ho h a fun c fs => cond (Nat.beq c x) (cond (Nat.blt y fs.length) (k nx ls r (h.set a (.inr (c, fs.set y w)))) False) False
  | .iaload => sm_si st fun j r => sm_sr r fun a r => sm_ha h a (fun t z => cond (Nat.beq t 0) (sm_xi z fun n g => sm_in j n ∧ k nx ls (.int (g j.toNatClampNeg) :: r) h) False)
      (match sc with
        | some q => cond (Nat.beq a 9999) (sm_in j q.1 ∧ k nx ls (.int (q.2 j.toNatClampNeg) :: r) h) False
        | none => False)
  | .iastore => sm_si st fun w r => sm_si r fun j r => sm_sr r fun a r => sm_ha h a (fun t z => cond (Nat.beq t 0) (sm_xi z fun n g => sm_in j n ∧ k nx ls r (h.set a (.inl (0, n, .inl (upd g j.toNatClampNeg w))))) False) False
  | .aaload => sm_si st fun j r => sm_sr r fun a r => sm_ha h a (fun t z => cond (Nat.beq t 3) (sm_xr z fun n g => sm_in j n ∧ ∃ b, g j.toNatClampNeg = some b ∧ k nx ls (.ref b :: r) h) False) False
  | .arraylength => sm_sr st fun a r => sm_ha h a (fun t z => cond (Nat.blt t 4) (k nx ls (.int (nI z.1) :: r) h) False)
      (match sc with
        | some q => cond (Nat.beq a 9999) (k nx ls (.int (nI q.1) :: r) h) False
        | none => False)
  | .invokevirtual _ => sm_pop y [] st fun as r => sm_sr r fun a r => cond (Nat.ble (sm_cat r) 8) (sm_ho h a fun c _ => sm_or (some v) fun b => cond (Nat.beq b c) (CT x (.ref a :: as) h fun w h => k nx ls (sm_push w r) h) False) False
  | .invokestatic _ => sm_pop y [] st fun as r => cond (Nat.ble (sm_cat r) 8) (CT x as h fun w h => k nx ls (sm_push w r) h) False
  | .ireturn => sm_si st fun a r => match r, y with
    | [], 0 => Q (some (.int a)) h
    | [], _ => (a = nI 0 ∨ a = nI 1) ∧ Q (some (.int a)) h
    | _, _ => False
  | .lreturn => sm_sl st fun a r => match r with
    | [] => Q (some (.long a)) h
    | _ => False
  | .return_ => match st with
    | [] => Q none h
    | _ => False
  | _ => False
def sm_from : List sm_I → Nat → List sm_I
  | [], _ => []
  | e :: r, pc => cond (Nat.beq e.1 pc) (e :: r) (sm_from r pc)
/-- where a run goes on: at the row behind, or wherever the pc stands -/
def sm_next (tb tl : List sm_I) (pc : Nat) : List sm_I := match tl with
  | [] => sm_from tb pc
  | e :: r => cond (Nat.beq e.1 pc) (e :: r) (sm_from tb pc)
def sm_mem (l : List Nat) (a : Nat) : Bool := match l with
  | [] => false
  | b :: r => cond (Nat.beq b a) true (sm_mem r a)
/-- n steps at most; at a pc of 'stop' (not at the start) K must hold -/
def sm_run (CT : sm_CT) (Q : sm_Q) (sc : Option (Nat × (Nat → Int32))) (tb : List sm_I) (stop : List Nat) (K : sm_K) : Nat → List sm_I → sm_L → List Value → sm_H → Prop
  | 0, _, _, _, _ => False
  | n + 1, suf, ls, st, h => match suf with
    | [] => False
    | e :: tl => sm_step CT Q sc e.2.2.1 e.2.1 e.2.2.2.1 e.2.2.2.2.1 e.2.2.2.2.2.2.1 e.2.2.2.2.2.2.2 ls st h fun pc ls st h =>
      cond (sm_mem stop pc) (K pc ls st h) (sm_run CT Q sc tb stop K n (sm_next tb tl pc) ls st h)
