/-! Two dimensions at once, over a heap. -/
def nw_AO (G : Nat → ClassId) (U : State) : Prop := ∃ k, U.vm.classes[G 3]? = some k ∧ k.kind = .array (G 0) (.array .int)
theorem nw_AO.moved {G : Nat → ClassId} {u U : State} (hvm : u.vm.Alike U.vm) (h : nw_AO G u) : nw_AO G U := by
  obtain ⟨k, h1, h2⟩ := h
  obtain ⟨k', h3, h4⟩ := hvm.2.2 _ _ h1
  exact ⟨k', h3, by rw [h4]; exact h2⟩
section MUS
variable {p : Program} {l : Launch} {e : Env} {R : Room} {s : State} {m : MethodId} {args : Array Value} {below : List Frame} {meth : Method} {c : Code} {T : State} {locs : List Loc} {cells slots : Nat}
theorem mu_stand (X : Stand p l e R s m args below meth c T locs cells slots) (cO cI : ClassId) (N M : Nat) (z : Value) : ∀ i, Stand p l e R s m args below meth c (mu_s cO cI N M z T i) (locs ++ (List.range i).map fun j => ⟨T.heap.size, j⟩) (cells + 1 + i) (slots + N + i * M)
  | 0 => by
    have h := X.pushed (arrV cO N (mu_f T.heap.size 0))
    rw [arrV_size] at h
    simpa [mu_s] using h
  | i + 1 => by
    have Xi := mu_stand X cO cI N M z i
    obtain ⟨h1, h2, -, -⟩ := mu_is (cO := cO) (cI := cI) (N := N) (M := M) (z := z) (T := T) i
    have hlt : T.heap.size < (mu_s cO cI N M z T i).heap.size := by rw [h1]; omega
    have hb : ((mu_s cO cI N M z T i).pushCell (arrV cI M (fun _ => z))).heap[T.heap.size]? = some (arrV cO N (mu_f T.heap.size i)) := by rw [State.heap_pushCell_of_lt (h := hlt)]; exact h2
    have h := (Xi.pushed (arrV cI M (fun _ => z))).stored hb i (.ref (T.heap.size + 1 + i))
    rw [arrV_size, arrV_store, mu_fs] at h
    have el : (locs ++ (List.range (i + 1)).map fun j => (⟨T.heap.size, j⟩ : Loc)) = (locs ++ (List.range i).map fun j => (⟨T.heap.size, j⟩ : Loc)) ++ [⟨T.heap.size, i⟩] := by simp [List.range_succ, List.append_assoc]
    rw [el, show slots + N + (i + 1) * M = slots + N + i * M + M by rw [Nat.succ_mul]; omega]
    exact h
end MUS
section MUR
variable {p : Program} {l : Launch} {e : Env} {R : Room} {s : State} {m : MethodId} {args : Array Value} {below : List Frame} {meth : Method} {c : Code} {H : Heap} {locs : List Loc} {cells slots : Nat} {Q : State → Prop}
theorem mu_W {cc : ByteArray} {pc : Nat} {ls : Array Slot} {rest : List Value} {D : va_G} {G : Nat → ClassId} (hexec : p.tables.exec = Jvm.exec) (hb : c.code = cc) {own : String} {index : Nat} (hown : s.vm.findClass own = some m.cls) (hlink : (Jvm.Cond.classLink own index "[[I").before args s = true) (hK : va_K D vwCl (sm_tys G) s) (hAO : nw_AO G s) (hdg : decode cc pc = .ok (.multianewarray index 2, 4)) {n k : Int32} {N M : Nat} (hn : ¬ n < 0) (hk : ¬ k < 0) (hN : n.toNatClampNeg = N) (hM : k.toNatClampNeg = M) (b1 : N ≤ 1000) (b2 : M ≤ 1000) (hcells : cells + (1 + N) ≤ R.cells) (hslots : slots + (N + N * M) ≤ R.slots)
    (kk : ∀ H1 : Heap, H1.size = H.size + 1 + N → H1[H.size]? = some (arrV (G 3) N (mu_f H.size N)) → (∀ j, j < N → H1[H.size + 1 + j]? = some (arrV (G 0) M (fun _ => .int 0))) → (∀ q, q < H.size → H1[q]? = H[q]?) → W p l e R s m args below meth c H1 locs (cells + (1 + N)) (slots + (N + N * M)) Q (F0 m (pc + 4) ls (.ref H.size :: rest))) :
    W p l e R s m args below meth c H locs cells slots Q (F0 m pc ls (.int k :: .int n :: rest)) := by
  intro T hT X
  subst hT
  subst hb
  subst hN
  subst hM
  have hpl : e.platform.magicAccessors = ({} : Platform).magicAccessors := by rw [X.admits.platform]
  obtain ⟨kA, hkA, hkindA⟩ := hAO
  have hfO : s.vm.findClass "[[I" = some (G 3) := (hK.2 3 _ rfl).2
  obtain ⟨-, kC, hkC, cc0, hkindC⟩ := (hK.2 0 _ rfl).1 0 (fun _ => .null)
  obtain ⟨c0, hfc0, hcl⟩ := Jvm.Cond.classLink_spec hown hlink e.platform hpl
  have e0 : c0 = G 3 := Option.some.inj (hfc0.symm.trans hfO)
  rw [e0] at hcl
  obtain ⟨hg₁, hwarm₁, hready₁⟩ := State.classEntry (e := e) X.warmed hcl
  generalize T.vm.noted m.cls index (.cls (G 3)) = vm₁ at hg₁ hwarm₁ hready₁
  have hal : s.vm.Alike vm₁ := hwarm₁.alike
  obtain ⟨kA₁, hkA₁, heA⟩ := hal.2.2 _ _ hkA
  obtain ⟨kC₁, hkC₁, heC⟩ := hal.2.2 _ _ hkC
  have hkindA₁ : kA₁.kind = .array (G 0) (.array .int) := by rw [heA]; exact hkindA
  have hkindC₁ : kC₁.kind = .array cc0 .int := by rw [heC]; exact hkindC
  have X₁ := X.noted hwarm₁
  obtain ⟨hr1, hr2⟩ := X.roomAbove hcells hslots
  have l1 : ¬ n.toNatClampNeg > e.platform.arrayLengthLimit := by rw [Launch.admits_arrayLengthLimit X.admits]; omega
  have l2 : ¬ k.toNatClampNeg > e.platform.arrayLengthLimit := by rw [Launch.admits_arrayLengthLimit X.admits]; omega
  have h1 : ¬ n.toNatClampNeg * componentBytes (.array .int) > e.platform.maxHeapBytes := by rw [Launch.admits_maxHeapBytes X.admits]; show ¬ n.toNatClampNeg * 4 > 536870912; omega
  have h2 : ¬ k.toNatClampNeg * componentBytes .int > e.platform.maxHeapBytes := by rw [Launch.admits_maxHeapBytes X.admits]; show ¬ k.toNatClampNeg * 4 > 536870912; omega
  have XF := (mu_stand X₁ (G 3) (G 0) n.toNatClampNeg k.toNatClampNeg (defaultValue .int) n.toNatClampNeg).dropFresh (fun x hx => by
    obtain ⟨j, -, rfl⟩ := List.mem_map.mp hx
    exact X.heapGrown)
  obtain ⟨f1, f2, -, -⟩ := mu_is (cO := G 3) (cI := G 0) (N := n.toNatClampNeg) (M := k.toNatClampNeg) (z := defaultValue .int) (T := T.setVm vm₁) n.toNatClampNeg
  have f3 := fun j => mu_row (cO := G 3) (cI := G 0) (N := n.toNatClampNeg) (M := k.toNatClampNeg) (z := defaultValue .int) (T := T.setVm vm₁) n.toNatClampNeg j
  have f4 := fun q hq => mu_old (cO := G 3) (cI := G 0) (N := n.toNatClampNeg) (M := k.toNatClampNeg) (z := defaultValue .int) (T := T.setVm vm₁) (a := q) hq n.toNatClampNeg
  have eS : T.heap.size = (T.setVm vm₁).heap.size := rfl
  obtain ⟨t, ht, hQt⟩ := kk (mu_s (G 3) (G 0) n.toNatClampNeg k.toNatClampNeg (defaultValue .int) (T.setVm vm₁) n.toNatClampNeg).heap f1 f2 f3 f4 _ rfl (by rw [show cells + (1 + n.toNatClampNeg) = cells + 1 + n.toNatClampNeg by omega, show slots + (n.toNatClampNeg + n.toNatClampNeg * k.toNatClampNeg) = slots + n.toNatClampNeg + n.toNatClampNeg * k.toNatClampNeg by omega]; exact XF)
  refine ⟨t, ?_, hQt⟩
  jvm_step X.here [hexec, hdg]
  simp only [multianewarray.sem, wp_bind', W.resolveClassAt_links (State.method?_setTop (F0 m pc ls (.int k :: .int n :: rest)) X.here.top) hg₁]
  rw [W.popN, if_neg (by decide)]
  refine ⟨F0 m pc ls (.int k :: .int n :: rest), State.topJava?_setTop' (s := T.setVm vm₁) _ X.here.top, [.int n, .int k], rest, rfl, rfl, ?_⟩
  simp only [List.mapM_cons, List.mapM_nil, wp_bind', wp_pure']
  refine mu_make (k := kA₁) (kc := kC₁) (comp := G 0) (cc := cc0) (t0 := .array .int) (ty := .int) hkA₁ hkindA₁ rfl hkC₁ hkindC₁ hn hk l1 h1 l2 h2 rfl rfl (by show T.heap.size + 1 + _ ≤ _; omega) (by show T.slotsUsed + _ + _ ≤ _; omega) (fun d' acts' => ?_)
  have eT : ((T.setTop (F0 m pc ls (.int k :: .int n :: rest))).setVm vm₁).setTop { F0 m pc ls (.int k :: .int n :: rest) with stack := rest } = (T.setVm vm₁).setTop { F0 m pc ls (.int k :: .int n :: rest) with stack := rest } := by
    show ((T.setVm vm₁).setTop _).setTop _ = _
    rw [State.setTop_setTop]
  rw [eT, mu_top]
  simp only [wp_bind', W.mark, W.pushRef, State.topJava?_setTop' _ XF.here.top, Option.some.injEq, exists_eq_left', State.setTop_setTop, State.heap_setTop]
  intro acts
  simp [jvm, XF.here.top]
  exact ht
end MUR
