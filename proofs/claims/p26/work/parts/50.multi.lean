/-! Arrays of arrays: two dimensions at once, out of the machine's own step. -/
/-- the outer row behind i inner ones, the first at h + 1 -/
def mu_f (h i j : Nat) : Value := if j < i then .ref (h + 1 + j) else .null
theorem mu_f0 (h : Nat) : mu_f h 0 = fun _ => .null := funext fun j => if_f (Nat.not_lt_zero j)
theorem mu_fs (h i : Nat) : updV (mu_f h i) i (.ref (h + 1 + i)) = mu_f h (i + 1) := by
  funext j
  unfold updV mu_f
  by_cases e : j = i
  · subst e
    rw [if_t rfl, if_t (Nat.lt_succ_self j)]
  · rw [if_f e]
    by_cases h : j < i
    · rw [if_t h, if_t (by omega)]
    · rw [if_f h, if_f (by omega)]
/-- the state behind i inner rows of M each, the outer one of N -/
def mu_s (cO cI : ClassId) (N M : Nat) (z : Value) (T : State) : Nat → State
  | 0 => T.pushCell (arrV cO N (mu_f T.heap.size 0))
  | i + 1 => ((mu_s cO cI N M z T i).pushCell (arrV cI M (fun _ => z))).setCell T.heap.size (arrV cO N (mu_f T.heap.size (i + 1)))
section MU
variable {cO cI : ClassId} {N M : Nat} {z : Value} {T : State}
theorem mu_is : ∀ i, (mu_s cO cI N M z T i).heap.size = T.heap.size + 1 + i ∧ (mu_s cO cI N M z T i).heap[T.heap.size]? = some (arrV cO N (mu_f T.heap.size i)) ∧ (mu_s cO cI N M z T i).vm = T.vm ∧ (mu_s cO cI N M z T i).slotsUsed = T.slotsUsed + N + i * M
  | 0 => ⟨by simp [mu_s], by simp [mu_s], rfl, by simp [mu_s, arrV_size]⟩
  | i + 1 => by
    obtain ⟨h1, h2, h3, h4⟩ := mu_is i
    have hlt : T.heap.size < (mu_s cO cI N M z T i).heap.size := by rw [h1]; omega
    have hb : ((mu_s cO cI N M z T i).pushCell (arrV cI M (fun _ => z))).heap[T.heap.size]? = some (arrV cO N (mu_f T.heap.size i)) := by rw [State.heap_pushCell_of_lt (h := hlt)]; exact h2
    refine ⟨?_, State.heap_setCell_self hb, ?_, ?_⟩
    · simp [mu_s, State.setCell, h1]; omega
    · simp [mu_s, h3]
    · simp [mu_s, h4, arrV_size, Nat.succ_mul]; omega
theorem mu_top (g : JFrame) : ∀ i, mu_s cO cI N M z (T.setTop g) i = (mu_s cO cI N M z T i).setTop g
  | 0 => rfl
  | i + 1 => by simp only [mu_s, mu_top g i, State.heap_setTop, State.pushCell_setTop, State.setCell_setTop]
theorem mu_old {a : Addr} (ha : a < T.heap.size) : ∀ i, (mu_s cO cI N M z T i).heap[a]? = T.heap[a]?
  | 0 => State.heap_pushCell_of_lt _ _ ha
  | i + 1 => by
    have hlt : a < (mu_s cO cI N M z T i).heap.size := Nat.lt_of_lt_of_le ha (by rw [(mu_is i).1]; omega)
    show (((mu_s cO cI N M z T i).pushCell (arrV cI M (fun _ => z))).setCell T.heap.size _).heap[a]? = _
    rw [State.heap_setCell_other (Nat.ne_of_gt ha), State.heap_pushCell_of_lt (h := hlt)]
    exact mu_old ha i
theorem mu_row : ∀ i j, j < i → (mu_s cO cI N M z T i).heap[T.heap.size + 1 + j]? = some (arrV cI M (fun _ => z))
  | 0, j, h => absurd h (Nat.not_lt_zero j)
  | i + 1, j, h => by
    have h1 := (mu_is (cO := cO) (cI := cI) (N := N) (M := M) (z := z) (T := T) i).1
    show (((mu_s cO cI N M z T i).pushCell (arrV cI M (fun _ => z))).setCell T.heap.size _).heap[T.heap.size + 1 + j]? = _
    rw [State.heap_setCell_other (show T.heap.size ≠ T.heap.size + 1 + j by omega)]
    by_cases e : j < i
    · have hlt : T.heap.size + 1 + j < (mu_s cO cI N M z T i).heap.size := by rw [h1]; omega
      rw [State.heap_pushCell_of_lt (h := hlt)]
      exact mu_row i j e
    · rw [show T.heap.size + 1 + j = (mu_s cO cI N M z T i).heap.size by rw [h1]; omega]
      exact State.heap_pushCell_size _ _
end MU
section MUW
variable {E : CtlPost} {e : Env} {d : Bool} {acts : List Action} {s : State}
/-- a new array, all its places alike -/
theorem mu_new {c comp : ClassId} {k : Class} {ty : FieldType} {n : Nat} {z : Value} (hk : s.vm.classes[c]? = some k) (hkind : k.kind = .array comp ty) (hl : ¬ n > e.platform.arrayLengthLimit) (hh : ¬ n * componentBytes ty > e.platform.maxHeapBytes) (hf : fits ty z = true) (hz : z.isDefault = true)
    (h1 : s.heap.size < e.platform.maxCells) (h2 : s.slotsUsed + n ≤ e.platform.maxSlots) {Q : Addr → Pre} (hq : Q s.heap.size d acts (s.pushCell (arrV c n (fun _ => z)))) : wp (newArray c n z) Q E e d acts s := by
  have ha : allocActs (Array.replicate n z) s.heap.size acts = acts := by
    have : ((Array.replicate n z).all (·.isDefault)) = true := by
      rw [Array.all_replicate]
      split <;> simp [hz]
    unfold allocActs
    rw [if_pos this]
  have hv : ∀ i v, (Array.replicate n z)[i]? = some v → s.fitsSlot c .none i v = true := by
    intro i v h
    rw [Array.getElem?_replicate] at h
    split at h
    · cases h
      simp [State.fitsSlot, State.slotType?, hk, hkind, hf]
    · cases h
  simp only [newArray, arrayFits, wp_bind', W.ask, W.ite, hl, if_false, wp_pure', W.theClass, hk, hkind, hh, W.alloc, W.stop, Option.some.injEq, exists_eq_left', Array.size_replicate, ha]
  rw [if_neg (show ¬ n > e.platform.maxSlots by omega), arrV_new]
  exact ⟨h1, h2, hv, hq⟩
theorem mu_fit {t : FieldType} (h : t.isReference = true) {v : Value} (hv : v = .null ∨ ∃ a, v = .ref a) : fits t v = true := by
  rcases hv with rfl | ⟨a, rfl⟩ <;> cases t <;> first | rfl | (simp [FieldType.isReference] at h)
/-- two dimensions -/
theorem mu_make {c comp cc : ClassId} {k kc : Class} {t0 ty : FieldType} {n m : Int32} (hk : s.vm.classes[c]? = some k) (hkind : k.kind = .array comp t0) (hr : t0.isReference = true) (hkc : s.vm.classes[comp]? = some kc) (hkc2 : kc.kind = .array cc ty) (hn : ¬ n < 0) (hm : ¬ m < 0)
    (l1 : ¬ n.toNatClampNeg > e.platform.arrayLengthLimit) (b1 : ¬ n.toNatClampNeg * componentBytes t0 > e.platform.maxHeapBytes) (l2 : ¬ m.toNatClampNeg > e.platform.arrayLengthLimit) (b2 : ¬ m.toNatClampNeg * componentBytes ty > e.platform.maxHeapBytes) (hf : fits ty (defaultValue ty) = true) (hz : (defaultValue ty).isDefault = true)
    (r1 : s.heap.size + 1 + n.toNatClampNeg ≤ e.platform.maxCells) (r2 : s.slotsUsed + n.toNatClampNeg + n.toNatClampNeg * m.toNatClampNeg ≤ e.platform.maxSlots) {Q : Addr → Pre} (hq : ∀ d' acts', Q s.heap.size d' acts' (mu_s c comp n.toNatClampNeg m.toNatClampNeg (defaultValue ty) s n.toNatClampNeg)) : wp (multianewarray.make c [n, m]) Q E e d acts s := by
  rw [multianewarray.make]
  simp only [wp_bind', W.ite, hn, if_false, wp_pure', W.theClass, hk, hkind, Option.some.injEq, exists_eq_left']
  refine mu_new hk hkind l1 b1 (mu_fit hr (Or.inl rfl)) rfl (by omega) (by omega) ?_
  rw [← mu_f0 s.heap.size]
  have hfd : ([m].find? (· < 0)) = none := by simp [hm]
  simp only [hfd]
  rw [ite_self, wp_bind', Std.Legacy.Range.forIn_eq_forIn_range']
  have hz7 : ([:n.toNatClampNeg] : Std.Legacy.Range).size = n.toNatClampNeg := by simp [Std.Legacy.Range.size]
  rw [hz7]
  show wp (forIn (List.range' 0 n.toNatClampNeg 1) PUnit.unit _) _ E e d acts _
  refine wp_forIn_inv (fun r s' => ∃ i, i + r.length = n.toNatClampNeg ∧ r = List.range' i r.length ∧ s' = mu_s c comp n.toNatClampNeg m.toNatClampNeg (defaultValue ty) s i) _ _ ⟨0, by simp, by simp, rfl⟩ ?_ ?_
  · rintro x r s' d' acts' Q' ⟨i, hi, hl, rfl⟩ hgo
    rw [List.length_cons] at hi
    rw [List.length_cons, List.range'_succ] at hl
    obtain ⟨rfl, hr2⟩ : x = i ∧ r = List.range' (i + 1) r.length := ⟨(List.cons.inj hl).1, (List.cons.inj hl).2⟩
    obtain ⟨f1, f2, f3, f4⟩ := mu_is (cO := c) (cI := comp) (N := n.toNatClampNeg) (M := m.toNatClampNeg) (z := defaultValue ty) (T := s) x
    have hmul := Nat.mul_le_mul_right m.toNatClampNeg (show x + 1 ≤ n.toNatClampNeg by omega)
    rw [Nat.succ_mul] at hmul
    have hlt : s.heap.size < (mu_s c comp n.toNatClampNeg m.toNatClampNeg (defaultValue ty) s x).heap.size := by rw [f1]; omega
    have hk3 : (mu_s c comp n.toNatClampNeg m.toNatClampNeg (defaultValue ty) s x).vm.classes[comp]? = some kc := by rw [f3]; exact hkc
    simp only [wp_bind']
    rw [multianewarray.make]
    simp only [wp_bind', W.ite, hm, if_false, wp_pure', W.theClass, hk3, hkc2, Option.some.injEq, exists_eq_left']
    refine mu_new hk3 hkc2 l2 b2 hf hz (by rw [f1]; omega) (by rw [f4]; omega) ?_
    simp only [wp_bind', W.writeLoc, wp_pure']
    refine ⟨arrV c n.toNatClampNeg (mu_f s.heap.size x), (by rw [State.heap_pushCell_of_lt (h := hlt)]; exact f2), (fun q => by cases q), (by rw [arrV_size]; omega), ?_, hgo _ _ _ ⟨x + 1, by omega, hr2, ?_⟩⟩
    · simp [State.fitsSlot, State.slotType?, f3, hk, hkind, mu_fit hr (Or.inr ⟨_, rfl⟩), arrV]
    · rw [f1, arrV_store, mu_fs]
      rfl
  · rintro s' d' acts' ⟨i, hi, -, rfl⟩
    have hi : i = n.toNatClampNeg := by simpa using hi
    subst hi
    simp only [wp_pure']
    exact hq _ _
end MUW
