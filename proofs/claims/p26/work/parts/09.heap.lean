/-! The heap of the whole run: G p = the ints of place p (an array's elements, an object's fields by number), L p = its longs. -/
def su {α : Type} (f : Nat → α) (k : Nat) (v : α) : Nat → α := fun j => cond (Nat.beq j k) v (f j)
theorem su_eq {α : Type} (f : Nat → α) (k : Nat) (v : α) : su f k v k = v := by simp [su]
theorem su_ne {α : Type} (f : Nat → α) {k j : Nat} (v : α) (h : j ≠ k) : su f k v j = f j := by
  have : Nat.beq j k = false := by
    cases hb : Nat.beq j k with
    | false => rfl
    | true => exact absurd (Nat.eq_of_beq_eq_true hb) h
  simp [su, this]
theorem su_self {α : Type} (f : Nat → α) (k : Nat) : su f k (f k) = f := by
  funext j
  by_cases h : j = k
  · subst h; exact su_eq _ _ _
  · exact su_ne _ _ h
theorem su_su {α : Type} (f : Nat → α) (k : Nat) (v w : α) : su (su f k v) k w = su f k w := by
  funext j
  by_cases h : j = k
  · subst h; rw [su_eq, su_eq]
  · rw [su_ne _ _ h, su_ne _ _ h, su_ne _ _ h]
theorem su_if {α : Type} (f : Nat → α) (k : Nat) (v : α) (j : Nat) : su f k v j = if j = k then v else f j := by
  by_cases h : j = k
  · subst h; rw [su_eq, if_pos rfl]
  · rw [su_ne _ _ h, if_neg h]
theorem upd_su (f : Nat → Int32) (k : Nat) (v : Int32) : upd f k v = su f k v := by
  funext j
  rw [su_if]
  rfl
theorem updL_su (f : Nat → Int64) (k : Nat) (v : Int64) : vp_updL f k v = su f k v := by
  funext j
  rw [su_if]
  rfl
def hf0 (x : Nat → Int32) : List Value := [.ref 1, .ref 3, .ref 10, .ref 17, .ref 20, .int (x 5), .int (x 6), .int (x 7)]
theorem hf0_5 (x : Nat → Int32) (v : Int32) : (hf0 x).set 5 (.int v) = hf0 (su x 5 v) := rfl
theorem hf0_6 (x : Nat → Int32) (v : Int32) : (hf0 x).set 6 (.int v) = hf0 (su x 6 v) := rfl
theorem hf0_7 (x : Nat → Int32) (v : Int32) : (hf0 x).set 7 (.int v) = hf0 (su x 7 v) := rfl
def hf1 (x : Nat → Int32) : List Value := [.ref 2, .int (x 1)]
theorem hf1_1 (x : Nat → Int32) (v : Int32) : (hf1 x).set 1 (.int v) = hf1 (su x 1 v) := rfl
def hf3 (x : Nat → Int32) : List Value := [.int (x 0), .ref 4, .int (x 2), .ref 5, .ref 6, .ref 7, .int (x 6), .ref 8, .ref 9]
theorem hf3_0 (x : Nat → Int32) (v : Int32) : (hf3 x).set 0 (.int v) = hf3 (su x 0 v) := rfl
theorem hf3_2 (x : Nat → Int32) (v : Int32) : (hf3 x).set 2 (.int v) = hf3 (su x 2 v) := rfl
theorem hf3_6 (x : Nat → Int32) (v : Int32) : (hf3 x).set 6 (.int v) = hf3 (su x 6 v) := rfl
def hf10 (x : Nat → Int32) : List Value := [.int (x 0), .ref 11, .int (x 2), .ref 12, .ref 13, .ref 14, .int (x 6), .ref 15, .ref 16]
theorem hf10_0 (x : Nat → Int32) (v : Int32) : (hf10 x).set 0 (.int v) = hf10 (su x 0 v) := rfl
theorem hf10_2 (x : Nat → Int32) (v : Int32) : (hf10 x).set 2 (.int v) = hf10 (su x 2 v) := rfl
theorem hf10_6 (x : Nat → Int32) (v : Int32) : (hf10 x).set 6 (.int v) = hf10 (su x 6 v) := rfl
def hf17 (x : Nat → Int32) : List Value := [.ref 3, .ref 18, .ref 19, .int (x 3), .int (x 4)]
theorem hf17_3 (x : Nat → Int32) (v : Int32) : (hf17 x).set 3 (.int v) = hf17 (su x 3 v) := rfl
theorem hf17_4 (x : Nat → Int32) (v : Int32) : (hf17 x).set 4 (.int v) = hf17 (su x 4 v) := rfl
def hf20 (x : Nat → Int32) : List Value := [.ref 3, .ref 21, .ref 29, .int (x 3), .int (x 4)]
theorem hf20_3 (x : Nat → Int32) (v : Int32) : (hf20 x).set 3 (.int v) = hf20 (su x 3 v) := rfl
theorem hf20_4 (x : Nat → Int32) (v : Int32) : (hf20 x).set 4 (.int v) = hf20 (su x 4 v) := rfl
def hp (G : Nat → Nat → Int32) (L : Nat → Nat → Int64) : sm_H := [
  .inr (4, hf0 (G 0)),
  .inr (1, hf1 (G 1)),
  .inl (0, 8, .inl (G 2)),
  .inr (0, hf3 (G 3)),
  .inl (0, 6, .inl (G 4)),
  .inl (0, 4, .inl (G 5)),
  .inl (0, 4, .inl (G 6)),
  .inl (0, 4, .inl (G 7)),
  .inl (0, 4, .inl (G 8)),
  .inl (0, 24, .inl (G 9)),
  .inr (0, hf10 (G 10)),
  .inl (0, 6, .inl (G 11)),
  .inl (0, 4, .inl (G 12)),
  .inl (0, 4, .inl (G 13)),
  .inl (0, 4, .inl (G 14)),
  .inl (0, 4, .inl (G 15)),
  .inl (0, 24, .inl (G 16)),
  .inr (2, hf17 (G 17)),
  .inl (0, 96, .inl (G 18)),
  .inl (0, 24, .inl (G 19)),
  .inr (3, hf20 (G 20)),
  .inl (3, 7, .inr (.inr (.inr (.inr (fun i => cond (Nat.blt i 7) (some (22 + i)) none))))),
  .inl (0, 64, .inl (G 22)),
  .inl (0, 64, .inl (G 23)),
  .inl (0, 64, .inl (G 24)),
  .inl (0, 64, .inl (G 25)),
  .inl (0, 64, .inl (G 26)),
  .inl (0, 64, .inl (G 27)),
  .inl (0, 64, .inl (G 28)),
  .inl (0, 7, .inl (G 29)),
  .inl (0, 20, .inl (G 30)),
  .inl (0, 31, .inl (G 31)),
  .inl (0, 6, .inl (G 32)),
  .inl (0, 24, .inl (G 33)),
  .inl (0, 24, .inl (G 34)),
  .inl (0, 6, .inl (G 35))]
theorem hp_0 (G : Nat → Nat → Int32) (L : Nat → Nat → Int64) (x : Nat → Int32) : (hp G L).set 0 (.inr (4, hf0 x)) = hp (su G 0 x) L := rfl
theorem hp_1 (G : Nat → Nat → Int32) (L : Nat → Nat → Int64) (x : Nat → Int32) : (hp G L).set 1 (.inr (1, hf1 x)) = hp (su G 1 x) L := rfl
theorem hp_2 (G : Nat → Nat → Int32) (L : Nat → Nat → Int64) (x : Nat → Int32) : (hp G L).set 2 (.inl (0, 8, .inl x)) = hp (su G 2 x) L := rfl
theorem hp_3 (G : Nat → Nat → Int32) (L : Nat → Nat → Int64) (x : Nat → Int32) : (hp G L).set 3 (.inr (0, hf3 x)) = hp (su G 3 x) L := rfl
theorem hp_4 (G : Nat → Nat → Int32) (L : Nat → Nat → Int64) (x : Nat → Int32) : (hp G L).set 4 (.inl (0, 6, .inl x)) = hp (su G 4 x) L := rfl
theorem hp_5 (G : Nat → Nat → Int32) (L : Nat → Nat → Int64) (x : Nat → Int32) : (hp G L).set 5 (.inl (0, 4, .inl x)) = hp (su G 5 x) L := rfl
theorem hp_6 (G : Nat → Nat → Int32) (L : Nat → Nat → Int64) (x : Nat → Int32) : (hp G L).set 6 (.inl (0, 4, .inl x)) = hp (su G 6 x) L := rfl
theorem hp_7 (G : Nat → Nat → Int32) (L : Nat → Nat → Int64) (x : Nat → Int32) : (hp G L).set 7 (.inl (0, 4, .inl x)) = hp (su G 7 x) L := rfl
theorem hp_8 (G : Nat → Nat → Int32) (L : Nat → Nat → Int64) (x : Nat → Int32) : (hp G L).set 8 (.inl (0, 4, .inl x)) = hp (su G 8 x) L := rfl
theorem hp_9 (G : Nat → Nat → Int32) (L : Nat → Nat → Int64) (x : Nat → Int32) : (hp G L).set 9 (.inl (0, 24, .inl x)) = hp (su G 9 x) L := rfl
theorem hp_10 (G : Nat → Nat → Int32) (L : Nat → Nat → Int64) (x : Nat → Int32) : (hp G L).set 10 (.inr (0, hf10 x)) = hp (su G 10 x) L := rfl
theorem hp_11 (G : Nat → Nat → Int32) (L : Nat → Nat → Int64) (x : Nat → Int32) : (hp G L).set 11 (.inl (0, 6, .inl x)) = hp (su G 11 x) L := rfl
theorem hp_12 (G : Nat → Nat → Int32) (L : Nat → Nat → Int64) (x : Nat → Int32) : (hp G L).set 12 (.inl (0, 4, .inl x)) = hp (su G 12 x) L := rfl
theorem hp_13 (G : Nat → Nat → Int32) (L : Nat → Nat → Int64) (x : Nat → Int32) : (hp G L).set 13 (.inl (0, 4, .inl x)) = hp (su G 13 x) L := rfl
theorem hp_14 (G : Nat → Nat → Int32) (L : Nat → Nat → Int64) (x : Nat → Int32) : (hp G L).set 14 (.inl (0, 4, .inl x)) = hp (su G 14 x) L := rfl
theorem hp_15 (G : Nat → Nat → Int32) (L : Nat → Nat → Int64) (x : Nat → Int32) : (hp G L).set 15 (.inl (0, 4, .inl x)) = hp (su G 15 x) L := rfl
theorem hp_16 (G : Nat → Nat → Int32) (L : Nat → Nat → Int64) (x : Nat → Int32) : (hp G L).set 16 (.inl (0, 24, .inl x)) = hp (su G 16 x) L := rfl
theorem hp_17 (G : Nat → Nat → Int32) (L : Nat → Nat → Int64) (x : Nat → Int32) : (hp G L).set 17 (.inr (2, hf17 x)) = hp (su G 17 x) L := rfl
theorem hp_18 (G : Nat → Nat → Int32) (L : Nat → Nat → Int64) (x : Nat → Int32) : (hp G L).set 18 (.inl (0, 96, .inl x)) = hp (su G 18 x) L := rfl
theorem hp_19 (G : Nat → Nat → Int32) (L : Nat → Nat → Int64) (x : Nat → Int32) : (hp G L).set 19 (.inl (0, 24, .inl x)) = hp (su G 19 x) L := rfl
theorem hp_20 (G : Nat → Nat → Int32) (L : Nat → Nat → Int64) (x : Nat → Int32) : (hp G L).set 20 (.inr (3, hf20 x)) = hp (su G 20 x) L := rfl
theorem hp_22 (G : Nat → Nat → Int32) (L : Nat → Nat → Int64) (x : Nat → Int32) : (hp G L).set 22 (.inl (0, 64, .inl x)) = hp (su G 22 x) L := rfl
theorem hp_23 (G : Nat → Nat → Int32) (L : Nat → Nat → Int64) (x : Nat → Int32) : (hp G L).set 23 (.inl (0, 64, .inl x)) = hp (su G 23 x) L := rfl
theorem hp_24 (G : Nat → Nat → Int32) (L : Nat → Nat → Int64) (x : Nat → Int32) : (hp G L).set 24 (.inl (0, 64, .inl x)) = hp (su G 24 x) L := rfl
theorem hp_25 (G : Nat → Nat → Int32) (L : Nat → Nat → Int64) (x : Nat → Int32) : (hp G L).set 25 (.inl (0, 64, .inl x)) = hp (su G 25 x) L := rfl
theorem hp_26 (G : Nat → Nat → Int32) (L : Nat → Nat → Int64) (x : Nat → Int32) : (hp G L).set 26 (.inl (0, 64, .inl x)) = hp (su G 26 x) L := rfl
theorem hp_27 (G : Nat → Nat → Int32) (L : Nat → Nat → Int64) (x : Nat → Int32) : (hp G L).set 27 (.inl (0, 64, .inl x)) = hp (su G 27 x) L := rfl
theorem hp_28 (G : Nat → Nat → Int32) (L : Nat → Nat → Int64) (x : Nat → Int32) : (hp G L).set 28 (.inl (0, 64, .inl x)) = hp (su G 28 x) L := rfl
theorem hp_29 (G : Nat → Nat → Int32) (L : Nat → Nat → Int64) (x : Nat → Int32) : (hp G L).set 29 (.inl (0, 7, .inl x)) = hp (su G 29 x) L := rfl
theorem hp_30 (G : Nat → Nat → Int32) (L : Nat → Nat → Int64) (x : Nat → Int32) : (hp G L).set 30 (.inl (0, 20, .inl x)) = hp (su G 30 x) L := rfl
theorem hp_31 (G : Nat → Nat → Int32) (L : Nat → Nat → Int64) (x : Nat → Int32) : (hp G L).set 31 (.inl (0, 31, .inl x)) = hp (su G 31 x) L := rfl
theorem hp_32 (G : Nat → Nat → Int32) (L : Nat → Nat → Int64) (x : Nat → Int32) : (hp G L).set 32 (.inl (0, 6, .inl x)) = hp (su G 32 x) L := rfl
theorem hp_33 (G : Nat → Nat → Int32) (L : Nat → Nat → Int64) (x : Nat → Int32) : (hp G L).set 33 (.inl (0, 24, .inl x)) = hp (su G 33 x) L := rfl
theorem hp_34 (G : Nat → Nat → Int32) (L : Nat → Nat → Int64) (x : Nat → Int32) : (hp G L).set 34 (.inl (0, 24, .inl x)) = hp (su G 34 x) L := rfl
theorem hp_35 (G : Nat → Nat → Int32) (L : Nat → Nat → Int64) (x : Nat → Int32) : (hp G L).set 35 (.inl (0, 6, .inl x)) = hp (su G 35 x) L := rfl
