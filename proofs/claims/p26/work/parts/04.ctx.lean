/-! What the rows of the simple machine say of the machine: contracts, contexts. -/
def sm_all : List Jvm.Cond := lw_tbl.filter goodWord
def sm_has (z : Nat) (w : Jvm.Cond) : Bool := decide (lw_tbl[z]? = some w) && goodWord w
theorem sm_has_in {z : Nat} {w : Jvm.Cond} (h : sm_has z w = true) : w ∈ sm_all := by
  simp only [sm_has, Bool.and_eq_true, decide_eq_true_eq] at h
  exact List.mem_filter.mpr ⟨List.mem_of_getElem? h.1, h.2⟩
theorem sm_all_good {w : Jvm.Cond} (h : w ∈ sm_all) : goodWord w = true := (List.mem_filter.mp h).2
def sm_m0 : sm_M := (⟨"", "", ""⟩, ⟨#[]⟩, 0, none, [], 0, 0, 0, 0)
def sm_m (j : Nat) : sm_M := match sm_nth sm_ms j with
  | some q => q
  | none => sm_m0
def sm_y (j : Nat) : MethodName := (sm_m j).1
def sm_code (j : Nat) : ByteArray := (sm_m j).2.1
def sm_max (j : Nat) : Nat := (sm_m j).2.2.1
def sm_ret (j : Nat) : Option FieldType := (sm_m j).2.2.2.1
def sm_tab (j : Nat) : List sm_I := (sm_m j).2.2.2.2.1
def sm_ws (j : Nat) : List Jvm.Cond := Jvm.Cond.code (sm_y j) (sm_code j) (sm_max j) (sm_ret j) :: sm_all
-- values, entries, heaps: a place k is the address ad k
def sm_rv (ad : Nat → Nat) : Value → Value
  | .ref a => .ref (ad a)
  | v => v
def sm_ra (ad : Nat → Nat) (a : vp_A) : vp_A := match a with
  | (n, .inr (.inr (.inr (.inr f)))) => (n, .inr (.inr (.inr (.inr (fun i => (f i).map ad)))))
  | a => a
def sm_re (G : Nat → ClassId) (ad : Nat → Nat) (e : sm_E) : va_E := match e with
  | .inl (t, a) => .inl (G t, sm_ra ad a)
  | .inr (c, fs) => .inr (c, fs.map (sm_rv ad))
def sm_rw (G : Nat → ClassId) (ad : Nat → Nat) (h : sm_H) : va_W := h.mapIdx fun k e => (ad k, sm_re G ad e)
def sm_tys (G : Nat → ClassId) : List (ClassId × FieldType) := [(G 0, .int), (G 1, .int), (G 2, .int), (G 3, .array .int)]
theorem sm_rw_at {G : Nat → ClassId} {ad : Nat → Nat} {h : sm_H} {k : Nat} {e : sm_E} (hk : sm_nth h k = some e) : (sm_rw G ad h)[k]? = some (ad k, sm_re G ad e) := by
  rw [sm_nth_eq] at hk
  simp [sm_rw, List.getElem?_mapIdx, hk]
theorem sm_rw_len (G : Nat → ClassId) (ad : Nat → Nat) (h : sm_H) : (sm_rw G ad h).length = h.length := by simp [sm_rw]
theorem sm_rw_set (G : Nat → ClassId) (ad : Nat → Nat) (h : sm_H) (k : Nat) (e : sm_E) : sm_rw G ad (h.set k e) = (sm_rw G ad h).set k (ad k, sm_re G ad e) := by
  apply List.ext_getElem?
  intro i
  simp only [sm_rw, List.getElem?_mapIdx, List.getElem?_set, List.length_mapIdx]
  by_cases hi : k = i
  · subst hi
    by_cases hl : k < h.length <;> simp [hl]
  · simp [hi]
theorem sm_rv_cat (ad : Nat → Nat) (v : Value) : (sm_rv ad v).category = v.category := by cases v <;> rfl
-- locals
def sm_lo (ad : Nat → Nat) (n : Nat) (ls : sm_L) (lsA : Array Slot) : Prop := ∃ l, lv_has lsA n l ∧ ∀ i v, sm_get ls i = some v → (i, sm_rv ad v) ∈ l
theorem sm_lo_at {ad : Nat → Nat} {n : Nat} {ls : sm_L} {lsA : Array Slot} {i : Nat} {v : Value} (h : sm_lo ad n ls lsA) (hg : sm_get ls i = some v) : lsA[i]? = some (.val (sm_rv ad v)) := by
  obtain ⟨l, h1, h2⟩ := h
  exact h1.2.2 _ (h2 i v hg)
theorem sm_get_set (ls : sm_L) (k : Nat) (o : Option Value) (i : Nat) : sm_get (ls.set k o) i = if k = i then (if k < ls.length then o else none) else sm_get ls i := by
  unfold sm_get
  rw [sm_nth_eq, sm_nth_eq, List.getElem?_set]
  by_cases h : k = i
  · subst h
    by_cases h2 : k < ls.length <;> simp [h2]
  · simp [h]
theorem sm_set1 {ad : Nat → Nat} {ls : sm_L} {l : List (Nat × Value)} {x : Nat} {v : Value} (hv : ∀ i w, sm_get ls i = some w → (i, sm_rv ad w) ∈ l) (hp : ∀ j w, x = j + 1 → sm_get ls j = some w → w.category ≠ 2) :
    ∀ i w, sm_get (ls.set x (some v)) i = some w → (i, sm_rv ad w) ∈ (x, sm_rv ad v) :: l.filter (fun q => !(q.1 == x) && !(q.1 + 1 == x && q.2.category == 2)) := by
  intro i w hi
  rw [sm_get_set] at hi
  by_cases h : x = i
  · rw [if_pos h] at hi
    split at hi
    · cases hi
      rw [h]
      exact List.mem_cons_self
    · cases hi
  · rw [if_neg h] at hi
    refine List.mem_cons_of_mem _ (List.mem_filter.mpr ⟨hv i w hi, ?_⟩)
    have h1 : (i == x) = false := by simp; omega
    simp only [h1, Bool.not_false, Bool.true_and, Bool.not_eq_true', Bool.and_eq_false_iff, beq_eq_false_iff_ne]
    by_cases h2 : i + 1 = x
    · exact Or.inr (by rw [sm_rv_cat]; exact hp i w h2.symm hi)
    · exact Or.inl h2
theorem sm_set2 {ad : Nat → Nat} {ls : sm_L} {l : List (Nat × Value)} {x : Nat} {v : Value} (hv : ∀ i w, sm_get ls i = some w → (i, sm_rv ad w) ∈ l) (hp : ∀ j w, x = j + 1 → sm_get ls j = some w → w.category ≠ 2) :
    ∀ i w, sm_get ((ls.set x (some v)).set (x + 1) none) i = some w → (i, sm_rv ad w) ∈ (x, sm_rv ad v) :: l.filter (fun q => !(q.1 == x) && (!(q.1 == x + 1) && !(q.1 + 1 == x && q.2.category == 2))) := by
  intro i w hi
  rw [sm_get_set] at hi
  by_cases h0 : x + 1 = i
  · rw [if_pos h0] at hi
    split at hi <;> cases hi
  rw [if_neg h0, sm_get_set] at hi
  by_cases h : x = i
  · rw [if_pos h] at hi
    split at hi
    · cases hi
      rw [h]
      exact List.mem_cons_self
    · cases hi
  · rw [if_neg h] at hi
    refine List.mem_cons_of_mem _ (List.mem_filter.mpr ⟨hv i w hi, ?_⟩)
    have h1 : (i == x) = false := by simp; omega
    have h2 : (i == x + 1) = false := by simp; omega
    simp only [h1, h2, Bool.not_false, Bool.true_and, Bool.not_eq_true', Bool.and_eq_false_iff, beq_eq_false_iff_ne]
    by_cases h2 : i + 1 = x
    · exact Or.inr (by rw [sm_rv_cat]; exact hp i w h2.symm hi)
    · exact Or.inl h2
theorem sm_st1_inv {ls : sm_L} {x : Nat} {v : Value} {k : sm_L → Prop} (h : sm_st1 ls x v k) : k (ls.set x (some v)) ∧ ∀ j w, x = j + 1 → sm_get ls j = some w → w.category ≠ 2 := by
  cases x with
  | zero => exact ⟨h, fun j w h => by cases h⟩
  | succ n =>
    unfold sm_st1 at h
    dsimp only at h
    cases hg : sm_get ls n with
    | none =>
      rw [hg] at h
      exact ⟨h, fun j w h1 h2 => by cases h1; rw [hg] at h2; cases h2⟩
    | some u =>
      rw [hg] at h
      dsimp only at h
      cases hb : Nat.beq u.category 2 with
      | true => rw [hb] at h; exact False.elim h
      | false =>
        rw [hb] at h
        exact ⟨h, fun j w h1 h2 => by cases h1; rw [hg] at h2; cases h2; exact Nat.ne_of_beq_eq_false hb⟩
theorem sm_st2_inv {ls : sm_L} {x : Nat} {v : Value} {k : sm_L → Prop} (h : sm_st2 ls x v k) : k ((ls.set x (some v)).set (x + 1) none) ∧ ∀ j w, x = j + 1 → sm_get ls j = some w → w.category ≠ 2 := by
  cases x with
  | zero => exact ⟨h, fun j w h => by cases h⟩
  | succ n =>
    unfold sm_st2 at h
    dsimp only at h
    cases hg : sm_get ls n with
    | none =>
      rw [hg] at h
      exact ⟨h, fun j w h1 h2 => by cases h1; rw [hg] at h2; cases h2⟩
    | some u =>
      rw [hg] at h
      dsimp only at h
      cases hb : Nat.beq u.category 2 with
      | true => rw [hb] at h; exact False.elim h
      | false =>
        rw [hb] at h
        exact ⟨h, fun j w h1 h2 => by cases h1; rw [hg] at h2; cases h2; exact Nat.ne_of_beq_eq_false hb⟩
-- inversions of the views
theorem sm_oi_inv {o : Option Value} {f : Int32 → Prop} (h : sm_oi o f) : ∃ a, o = some (.int a) ∧ f a := by
  unfold sm_oi at h
  split at h
  · exact ⟨_, rfl, h⟩
  · exact False.elim h
theorem sm_ol_inv {o : Option Value} {f : Int64 → Prop} (h : sm_ol o f) : ∃ a, o = some (.long a) ∧ f a := by
  unfold sm_ol at h
  split at h
  · exact ⟨_, rfl, h⟩
  · exact False.elim h
theorem sm_or_inv {o : Option Value} {f : Nat → Prop} (h : sm_or o f) : ∃ a, o = some (.ref a) ∧ f a := by
  unfold sm_or at h
  split at h
  · exact ⟨_, rfl, h⟩
  · exact False.elim h
theorem sm_si_inv {st : List Value} {f : Int32 → List Value → Prop} (h : sm_si st f) : ∃ a r, st = .int a :: r ∧ f a r := by
  unfold sm_si at h
  split at h
  · exact ⟨_, _, rfl, h⟩
  · exact False.elim h
theorem sm_sl_inv {st : List Value} {f : Int64 → List Value → Prop} (h : sm_sl st f) : ∃ a r, st = .long a :: r ∧ f a r := by
  unfold sm_sl at h
  split at h
  · exact ⟨_, _, rfl, h⟩
  · exact False.elim h
theorem sm_sr_inv {st : List Value} {f : Nat → List Value → Prop} (h : sm_sr st f) : ∃ a r, st = .ref a :: r ∧ f a r := by
  unfold sm_sr at h
  split at h
  · exact ⟨_, _, rfl, h⟩
  · exact False.elim h
theorem sm_sv_inv {st : List Value} {f : Value → List Value → Prop} (h : sm_sv st f) : ∃ a r, st = a :: r ∧ f a r := by
  unfold sm_sv at h
  split at h
  · exact ⟨_, _, rfl, h⟩
  · exact False.elim h
theorem sm_ha_inv {h : sm_H} {a : Nat} {f : Nat → vp_A → Prop} {g : Prop} (hh : sm_ha h a f g) : (∃ t x, sm_nth h a = some (.inl (t, x)) ∧ f t x) ∨ g := by
  unfold sm_ha at hh
  split at hh
  · exact Or.inl ⟨_, _, by assumption, hh⟩
  · exact False.elim hh
  · exact Or.inr hh
theorem sm_ho_inv {h : sm_H} {a : Nat} {f : Nat → List Value → Prop} (hh : sm_ho h a f) : ∃ c fs, sm_nth h a = some (.inr (c, fs)) ∧ f c fs := by
  unfold sm_ho at hh
  split at hh
  · exact ⟨_, _, by assumption, hh⟩
  · exact False.elim hh
theorem sm_xi_inv {x : vp_A} {f : Nat → (Nat → Int32) → Prop} (h : sm_xi x f) : ∃ n g, x = (n, .inl g) ∧ f n g := by
  unfold sm_xi at h
  split at h
  · exact ⟨_, _, rfl, h⟩
  · exact False.elim h
theorem sm_xl_inv {x : vp_A} {f : Nat → (Nat → Int64) → Prop} (h : sm_xl x f) : ∃ n g, x = (n, .inr (.inl g)) ∧ f n g := by
  unfold sm_xl at h
  split at h
  · exact ⟨_, _, rfl, h⟩
  · exact False.elim h
theorem sm_xr_inv {x : vp_A} {f : Nat → (Nat → Option Nat) → Prop} (h : sm_xr x f) : ∃ n g, x = (n, .inr (.inr (.inr (.inr g)))) ∧ f n g := by
  unfold sm_xr at h
  split at h
  · exact ⟨_, _, rfl, h⟩
  · exact False.elim h
theorem sm_fld_inv {fs : List Value} {y : Nat} {f : Value → Prop} (h : sm_fld fs y f) : ∃ w, fs[y]? = some w ∧ f w := by
  unfold sm_fld at h
  split at h
  · exact ⟨_, by rw [← sm_nth_eq]; assumption, h⟩
  · exact False.elim h
theorem sm_cond_inv {b : Bool} {p : Prop} (h : cond b p False) : b = true ∧ p := by
  cases b
  · exact False.elim h
  · exact ⟨rfl, h⟩
theorem sm_pop_inv : ∀ (n : Nat) (acc st : List Value) (f : List Value → List Value → Prop), sm_pop n acc st f → ∃ as r, as.length = n ∧ st = as.reverse ++ r ∧ f (as ++ acc) r
  | 0, acc, st, f, h => ⟨[], st, rfl, rfl, h⟩
  | n + 1, acc, [], f, h => False.elim h
  | n + 1, acc, v :: r, f, h => by
    obtain ⟨as, r', h1, h2, h3⟩ := sm_pop_inv n (v :: acc) r f h
    refine ⟨as ++ [v], r', by simp [h1], by simp [h2], by simpa using h3⟩
theorem sm_cat_sum : ∀ (st : List Value), (st.map fun v => v.category).sum = sm_cat st
  | [] => rfl
  | v :: r => by simp [sm_cat, sm_cat_sum r]
theorem sm_rv_sum (ad : Nat → Nat) (st : List Value) : ((st.map (sm_rv ad)).map fun v => v.category).sum = sm_cat st := by
  rw [← sm_cat_sum, List.map_map]
  congr 1
  apply List.map_congr_left
  intro v _
  exact sm_rv_cat ad v
theorem sm_store_inv {v : Value} {st : List Value} {f : Value → Nat → List Value → Prop} (h : sm_store v st f) :
    ∃ w b r, st = w :: .ref b :: r ∧ f w b r ∧ ((∃ z a, v = .int z ∧ w = .int a) ∨ (∃ z a, v = .long z ∧ w = .long a) ∨ (v = .null ∧ ∃ a, w = .int a ∧ (a = 0 ∨ a = 1))) := by
  unfold sm_store at h
  split at h
  · exact ⟨_, _, _, rfl, h, Or.inl ⟨_, _, rfl, rfl⟩⟩
  · exact ⟨_, _, _, rfl, h, Or.inr (Or.inl ⟨_, _, rfl, rfl⟩)⟩
  · exact ⟨_, _, _, rfl, h.2, Or.inr (Or.inr ⟨rfl, _, rfl, h.1⟩)⟩
  · exact False.elim h
theorem sm_sw_inv {a : Int32} {d : Nat} {k : Nat → Prop} : ∀ {sw : List (Int32 × Nat)}, sm_sw a sw d k → (∃ (i t : Nat), sw[i]? = some (a, t) ∧ (∀ (j : Nat), j < i → ∀ (q : Int32 × Nat), sw[j]? = some q → q.1 ≠ a) ∧ k t) ∨ ((∀ q : Int32 × Nat, q ∈ sw → q.1 ≠ a) ∧ k d)
  | [], h => Or.inr ⟨fun q h => (by cases h), h⟩
  | (c, t) :: r, h => by
    obtain ⟨h1, h2⟩ := h
    by_cases hc : a = c
    · subst hc
      exact Or.inl ⟨0, t, rfl, fun j hj => absurd hj (Nat.not_lt_zero j), h1 rfl⟩
    · rcases sm_sw_inv (h2 hc) with ⟨i, t', e1, e2, e3⟩ | ⟨e1, e2⟩
      · refine Or.inl ⟨i + 1, t', by simpa using e1, fun j hj q hq => ?_, e3⟩
        cases j with
        | zero => simp at hq; subst hq; exact fun h => hc h.symm
        | succ j => exact e2 j (by omega) q (by simpa using hq)
      · refine Or.inr ⟨fun q hq => ?_, e2⟩
        rcases List.mem_cons.mp hq with rfl | hq
        · exact fun h => hc h.symm
        · exact e1 q hq
-- contracts and contexts
def sm_Qc (Q : sm_Q) (D : va_G) (G : Nat → ClassId) (ad : Nat → Nat) (A : Nat → Prop) : Array Value → State → Outcome → State → Prop := fun _ st oc t =>
  (∃ v h, oc = .returned (v.map (sm_rv ad)) ∧ Q v h ∧ va_P D vwCl (sm_rw G ad h) t.heap ∧ va_K D vwCl (sm_tys G) t ∧ va_D A (sm_rw G ad h)) ∧ va_F A st t
def sm_room (d : Nat) : Room := { frames := d, cells := 0, slots := 0, locals := 64 * d }
/-- method j, called with these arguments at this heap, with d frames left: it returns, with Q -/
def sm_call (d : Nat) : sm_CT := fun j as h Q => ∀ (l : Launch) (D : va_G) (G : Nat → ClassId) (ad : Nat → Nat) (sz : Nat),
  Met l (sm_y j) (sm_ws j) (sm_room d) (va_Pc (as.map (sm_rv ad)) (fun U => U.heap.size = sz ∧ va_P D vwCl (sm_rw G ad h) U.heap ∧ va_K D vwCl (sm_tys G) U ∧ va_D (fun _ => True) (sm_rw G ad h))) (sm_Qc Q D G ad (va_A (sm_rw G ad h) sz)) 0 0 (va_A (sm_rw G ad h) sz)
def sm_rt (j : Nat) (v : Option Value) (pc : Nat) : Prop := match v with
  | none => decode (sm_code j) pc = .ok (.return_, 1) ∧ sm_ret j = none
  | some (.int a) => decode (sm_code j) pc = .ok (.ireturn, 1) ∧ ∃ ty, sm_ret j = some ty ∧ narrow ty (.int a) = .int a
  | some (.long _) => decode (sm_code j) pc = .ok (.lreturn, 1) ∧ sm_ret j = some .long
  | _ => False
def sm_ok (j d : Nat) (Q : sm_Q) (sc : Option (Nat × (Nat → Int32))) (p : Program) (l : Launch) (e : Env) (R : Room) (s : State) (m : MethodId) (args : Array Value) (below : List Frame) (meth : Method) (c : Code) (A : Nat → Prop) (H0 : Heap) (D : va_G) (G : Nat → ClassId) (ad : Nat → Nat) (cells slots : Nat) (Z : State → Prop) : Prop :=
  p.tables.exec = Jvm.exec ∧ c.code = sm_code j ∧ c.maxLocals = sm_max j ∧ s.vm.findClass (sm_y j).cls = some m.cls ∧ (∀ w ∈ sm_all, w.before args s = true) ∧ va_K D vwCl (sm_tys G) s ∧ (∀ q, H0.size ≤ q → A q) ∧ (d + 1 ≤ R.frames ∧ 64 * (d + 1) ≤ R.locals) ∧ (cells ≤ R.cells ∧ slots ≤ R.slots) ∧
  (∀ (H : Heap) (locs : List Loc) (lsA : Array Slot) (pc : Nat) (v : Option Value) (h : sm_H), sm_rt j v pc → Q v h → va_P D vwCl (sm_rw G ad h) H → va_D A (sm_rw G ad h) → va_S A H0 H locs → W p l e R s m args below meth c H locs cells slots Z (F0 m pc lsA (v.map (sm_rv ad)).toList)) ∧
  (∀ q, sc = some q → va_X (ad 9999) q.1 q.2 s H0 ∧ ad 9999 < H0.size ∧ ¬ A (ad 9999))
def sm_W (j d : Nat) (Q : sm_Q) (sc : Option (Nat × (Nat → Int32))) (pc : Nat) (ls : sm_L) (st : List Value) (h : sm_H) : Prop :=
  ∀ (p : Program) (l : Launch) (e : Env) (R : Room) (s : State) (m : MethodId) (args : Array Value) (below : List Frame) (meth : Method) (c : Code) (A : Nat → Prop) (H0 : Heap) (D : va_G) (G : Nat → ClassId) (ad : Nat → Nat) (cells slots : Nat) (Z : State → Prop),
    sm_ok j d Q sc p l e R s m args below meth c A H0 D G ad cells slots Z → ∀ (H : Heap) (locs : List Loc) (lsA : Array Slot), va_P D vwCl (sm_rw G ad h) H → va_D A (sm_rw G ad h) → va_S A H0 H locs → sm_lo ad (sm_max j) ls lsA →
      W p l e R s m args below meth c H locs cells slots Z (F0 m pc lsA (st.map (sm_rv ad)))
