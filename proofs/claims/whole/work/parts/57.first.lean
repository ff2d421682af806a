/-! The state at first. -/
def s0 : Nat → Nat → Nat := fun _ _ => 0
def g0 : Nat → Nat → Int32 := su (fun _ _ => nI 0) 17 (su (fun _ => nI 0) 4 (nI 1))
def l0 : Nat → Nat → Int64 := fun _ _ => 0
theorem n0 {P : Prop} {i : Nat} (h : i < s0 0 0) : P := absurd h (Nat.not_lt_zero i)
theorem RS_0 : RS 0 s0 := ⟨⟨by decide, by decide, fun i h => n0 h, fun i h => n0 h⟩, ⟨by decide, fun k h => n0 h⟩, by decide, fun i h => n0 h, Nat.le_refl _, by decide, by decide, fun _ => rfl, fun h => absurd h (by decide)⟩
theorem Ic_0 : Ic s0 g0 := ⟨⟨rfl, rfl, rfl, fun i h => n0 h, fun i h => n0 h, fun v _ => rfl, fun v _ k h => n0 h⟩, ⟨rfl, fun i h => n0 h⟩, ⟨rfl, rfl, rfl⟩, Or.inr rfl, fun h => absurd h (by decide)⟩
theorem Im_0 : Im 0 s0 g0 := ⟨⟨rfl, rfl, fun i h => n0 h, fun i h => n0 h⟩, ⟨rfl, fun i h => n0 h⟩, ⟨rfl, fun i h => n0 h⟩, ⟨rfl, rfl⟩, ⟨0, 0, by decide, Nat.le_refl _, rfl, rfl, ⟨fun h => absurd h (by decide), fun h => absurd h.1 (by decide)⟩, fun h => absurd h (by decide)⟩, ⟨0, Nat.le_refl _, rfl, fun i _ => ⟨0, Nat.le_refl _, rfl⟩⟩, fun k _ => ⟨0, by decide, rfl⟩⟩
/-- the world of a heap, place by place -/
def rwl (G : Nat → ClassId) (ad : Nat → Nat) : Nat → sm_H → va_W
  | _, [] => []
  | k, e :: r => (ad k, sm_re G ad e) :: rwl G ad (k + 1) r
theorem rwl_eq (G : Nat → ClassId) (ad : Nat → Nat) : ∀ (h : sm_H) (n : Nat), h.mapIdx (fun k e => (ad (n + k), sm_re G ad e)) = rwl G ad n h
  | [], n => rfl
  | e :: r, n => by
    rw [List.mapIdx_cons, rwl, ← rwl_eq G ad r (n + 1)]
    congr 1
    congr 1
    funext k e
    rw [show n + (k + 1) = n + 1 + k by omega]
theorem rwl_rw (G : Nat → ClassId) (ad : Nat → Nat) (h : sm_H) : sm_rw G ad h = rwl G ad 0 h := by
  rw [← rwl_eq]
  unfold sm_rw
  congr 1
  funext k e
  rw [Nat.zero_add]
def adOf (b : Nat) (u v : Nat → Nat) : Nat → Nat := fun k => cond (Nat.beq k 9999) b (cond (Nat.blt k 30) (u k) (v (k - 30)))
set_option maxRecDepth 100000 in
set_option maxHeartbeats 4000000 in
/-- what the two constructors have made is the heap at first -/
theorem first_P {D : va_G} {A : Nat → Prop} {G : Nat → ClassId} {b : Nat} {u v : Nat → Nat} {H : Heap} (hP : va_P D vwCl (wVane G u ++ wModel G v) H) (hD : va_D A (wVane G u ++ wModel G v)) : va_P D vwCl (sm_rw G (adOf b u v) (hp g0 l0)) H ∧ va_D A (sm_rw G (adOf b u v) (hp g0 l0)) := by
  rw [rwl_rw]
  obtain ⟨hP, hD⟩ := nw_swap hP hD 21 (g := fun i => (cond (Nat.blt i 7) (some (22 + i)) none).map (adOf b u v)) rfl (fun i hi => by
    have : i = 0 ∨ i = 1 ∨ i = 2 ∨ i = 3 ∨ i = 4 ∨ i = 5 ∨ i = 6 := by omega
    rcases this with rfl | rfl | rfl | rfl | rfl | rfl | rfl <;> rfl)
  exact ⟨hP, hD⟩
theorem nw_over {args : Array Value} {s : State} {t : FieldType} (h : (Jvm.Cond.arrayOver (.array t)).before args s = true) : ∃ comp c k, s.vm.findClass (FieldType.array t).toString = some comp ∧ s.vm.classes[c]? = some k ∧ k.kind = .array comp (.array t) ∧ s.vm.findClass ("[" ++ (FieldType.array t).toString) = some c := by
  unfold Jvm.Cond.before at h
  simp only [Jvm.Cond.holds, Jvm.Cond.value, beq_iff_eq] at h
  cases hc : s.vm.findClass (FieldType.array t).toString with
  | none => simp [hc] at h
  | some comp =>
    simp only [hc, Option.bind_some, Option.bind_eq_some_iff, Option.map_eq_some_iff] at h
    obtain ⟨c, hi, k, hk, hb⟩ := h
    obtain ⟨hlt, hp, -⟩ := Array.findIdx?_eq_some_iff_getElem.mp hi
    rw [(Array.getElem?_eq_some_iff.mp hk).2] at hp
    cases hkind : k.kind with
    | array component ty =>
      rw [hkind] at hb hp
      simp at hb hp
      exact ⟨comp, c, k, rfl, hk, by rw [hkind, hp, hb.1], hb.2⟩
    | _ => rw [hkind] at hb; simp at hb
