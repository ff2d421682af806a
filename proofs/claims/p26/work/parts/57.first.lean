/-! The state at first. -/
def s0 : Nat → Nat → Nat := fun _ _ => 0
def g0 : Nat → Nat → Int32 := su (fun _ _ => nI 0) 17 (su (fun _ => nI 0) 4 (nI 1))
def l0 : Nat → Nat → Int64 := fun _ _ => 0
theorem n0 {P : Prop} {i : Nat} (h : i < s0 0 0) : P := absurd h (Nat.not_lt_zero i)
theorem RS_0 : RS 0 s0 := ⟨⟨by decide, by decide, fun i h => n0 h, fun i h => n0 h⟩, ⟨by decide, fun k h => n0 h⟩, by decide, fun i h => n0 h, Nat.le_refl _, by decide, by decide, fun _ => rfl, fun h => absurd h (by decide)⟩
theorem Ic_0 : Ic s0 g0 := ⟨⟨rfl, rfl, rfl, fun i h => n0 h, fun i h => n0 h, fun v _ => rfl, fun v _ k h => n0 h⟩, ⟨rfl, fun i h => n0 h⟩, ⟨rfl, rfl, rfl⟩, Or.inr rfl, fun h => absurd h (by decide)⟩
/-- the world of a heap, place by place -/
def rwl (G : Nat → ClassId) (ad : Nat → Nat) : Nat → sm_H → va_W
  | _, [] => []
  | k, e :: r => (ad k, sm_re G ad e) :: rwl G ad (k + 1) r
theorem rwl_eq (G : Nat → ClassId) (ad : Nat → Nat) : ∀ (h : sm_H) (n : Nat), h.mapIdx (fun k e => (ad (n + k), sm_re G ad e)) = rwl G ad n h
  | [], n => rfl
  | e :: r, n => by
    rw [List.mapIdx_cons, rwl, ← rwl_eq G ad r (n + 1)]
    congr 1
    congr 1
    funext k e
    rw [show n + (k + 1) = n + 1 + k by omega]
theorem rwl_rw (G : Nat → ClassId) (ad : Nat → Nat) (h : sm_H) : sm_rw G ad h = rwl G ad 0 h := by
  rw [← rwl_eq]
  unfold sm_rw
  congr 1
  funext k e
  rw [Nat.zero_add]
def adOf (b : Nat) (u v : Nat → Nat) : Nat → Nat := fun k => cond (Nat.beq k 9999) b (cond (Nat.blt k 30) (u k) (v (k - 30)))
/-- the law's own arrays -/
def wArr (G : Nat → ClassId) (v : Nat → Nat) : va_W := [(v 0, .inl (G 0, nw_z 0 20)), (v 1, .inl (G 0, nw_z 0 31)), (v 2, .inl (G 0, nw_z 0 6)), (v 3, .inl (G 0, nw_z 0 24)), (v 4, .inl (G 0, nw_z 0 24)), (v 5, .inl (G 0, nw_z 0 6))]
set_option maxRecDepth 100000 in
set_option maxHeartbeats 4000000 in
/-- what is made at first is the heap at first -/
theorem first_P {D : va_G} {A : Nat → Prop} {G : Nat → ClassId} {b : Nat} {u v : Nat → Nat} {H : Heap} (hP : va_P D vwCl (wVane G u ++ wArr G v) H) (hD : va_D A (wVane G u ++ wArr G v)) : va_P D vwCl (sm_rw G (adOf b u v) (hp g0 l0)) H ∧ va_D A (sm_rw G (adOf b u v) (hp g0 l0)) := by
  rw [rwl_rw]
  obtain ⟨hP, hD⟩ := nw_swap hP hD 21 (g := fun i => (cond (Nat.blt i 7) (some (22 + i)) none).map (adOf b u v)) rfl (fun i hi => by
    have : i = 0 ∨ i = 1 ∨ i = 2 ∨ i = 3 ∨ i = 4 ∨ i = 5 ∨ i = 6 := by omega
    rcases this with rfl | rfl | rfl | rfl | rfl | rfl | rfl <;> rfl)
  exact ⟨hP, hD⟩
/-- an array of ints, onto the stack -/
theorem nw_newa {p : Program} {l : Launch} {e : Env} {R : Room} {s : State} {m : MethodId} {args : Array Value} {below : List Frame} {meth : Method} {c : Code} {H : Heap} {locs : List Loc} {cells slots : Nat} {Q : State → Prop} {pc : Nat} {ls : Array Slot} {rest : List Value} {D : va_G} {G : Nat → ClassId} {A : Nat → Prop} {ws : va_W} {H0 : Heap} {j : Nat} (C : nw_o j p s m args c D G) (hP : va_P D vwCl ws H) (hD : va_D A ws) (hS : va_S A H0 H locs) (hA : ∀ q, H0.size ≤ q → A q) {z1 n : Nat} (hc : (sm_has z1 (.arrayClass .int) && decide (decode (sm_code j) pc = .ok (.newarray .int, 2))) = true) (hn : n ≤ 10000) (hcells : cells + 1 ≤ R.cells) (hslots : slots + n ≤ R.slots)
    (kk : ∀ (q : Nat) (H1 : Heap), va_P D vwCl (ws ++ ([(q, .inl (G 0, nw_z 0 n))] : va_W)) H1 → va_D A (ws ++ ([(q, .inl (G 0, nw_z 0 n))] : va_W)) → va_S A H0 H1 locs → W p l e R s m args below meth c H1 locs (cells + 1) (slots + n) Q (F0 m (pc + 2) ls (.ref q :: rest))) : W p l e R s m args below meth c H locs cells slots Q (F0 m pc ls (.int (nI n) :: rest)) := by
  obtain ⟨hx, hb, hml, hown, hts, hK⟩ := C
  simp only [Bool.and_eq_true, decide_eq_true_eq] at hc
  have hmul : n * componentBytes (nw_ty 0) ≤ 10000 * 8 := Nat.mul_le_mul hn (by decide)
  refine va_newa (cl := vwCl) (tys := sm_tys G) (a0 := nw_z 0 n) (atype := .int) hx hb (hts _ (sm_has_in hc.1)) rfl hK hP hD hS hA (nw_zc 0 n) (by rw [zn_lt, nI_toInt (by omega)]; show ¬ (n : Int) < 0; omega) (zn_clI (by omega)) (Nat.le_trans hmul (by decide)) hcells hslots hc.2 (fun q cA H1 hK1 hP1 hD1 hS1 => ?_)
  have hcA : cA = G 0 := Option.some.inj (((hK1.2 4 _ rfl).2).symm.trans (hK.2 0 _ rfl).2)
  subst hcA
  exact kk q H1 hP1 hD1 hS1
theorem nw_over {args : Array Value} {s : State} {t : FieldType} (h : (Jvm.Cond.arrayOver (.array t)).before args s = true) : ∃ comp c k, s.vm.findClass (FieldType.array t).toString = some comp ∧ s.vm.classes[c]? = some k ∧ k.kind = .array comp (.array t) ∧ s.vm.findClass ("[" ++ (FieldType.array t).toString) = some c := by
  unfold Jvm.Cond.before at h
  simp only [Jvm.Cond.holds, Jvm.Cond.value, beq_iff_eq] at h
  cases hc : s.vm.findClass (FieldType.array t).toString with
  | none => simp [hc] at h
  | some comp =>
    simp only [hc, Option.bind_some, Option.bind_eq_some_iff, Option.map_eq_some_iff] at h
    obtain ⟨c, hi, k, hk, hb⟩ := h
    obtain ⟨hlt, hp, -⟩ := Array.findIdx?_eq_some_iff_getElem.mp hi
    rw [(Array.getElem?_eq_some_iff.mp hk).2] at hp
    cases hkind : k.kind with
    | array component ty =>
      rw [hkind] at hb hp
      simp at hb hp
      exact ⟨comp, c, k, rfl, hk, by rw [hkind, hp, hb.1], hb.2⟩
    | _ => rw [hkind] at hb; simp at hb
