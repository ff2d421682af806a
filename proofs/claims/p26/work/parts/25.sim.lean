/-! States alike in what counts for the day. -/
def sim (S S' : Nat → Nat → Nat) : Prop := S' 0 0 = S 0 0 ∧ S' 0 1 = S 0 1 ∧ S' 0 2 = S 0 2 ∧ S' 1 = S 1 ∧ S' 2 = S 2 ∧ S' 3 = S 3 ∧ S' 4 = S 4 ∧ S' 6 = S 6 ∧ S' 7 = S 7 ∧ S' 8 = S 8
section SIM
variable {S S' : Nat → Nat → Nat}
theorem dR_sim (h : sim S S') (e : dR S) : dR S' := by
  obtain ⟨h0, h1, h2, h3, h4, h5, h6, h7, h8, h9⟩ := h
  unfold dR at *
  rw [h0, h1, h3, h4, h5, h6]
  exact e
theorem nR_sim (h : sim S S') (e : nR S) : nR S' := by
  obtain ⟨h0, h1, h2, h3, h4, h5, h6, h7, h8, h9⟩ := h
  unfold nR at *
  rw [h0, h1, h2, h7, h8, h9]
  exact e
theorem ob_sim (h : sim S S') : ob S' = ob S := by
  obtain ⟨h0, h1, h2, h3, h4, h5, h6, h7, h8, h9⟩ := h
  funext v k q
  unfold ob
  simp only [h2, h7, h8, h9]
theorem tv_sim (h : sim S S') : tv S' = tv S := by
  obtain ⟨h0, h1, h2, h3, h4, h5, h6, h7, h8, h9⟩ := h
  funext v a w
  unfold tv
  rw [h4, h6]
theorem okq_sim (h : sim S S') : okq S' = okq S := by
  have e1 := ob_sim h
  have e2 := tv_sim h
  obtain ⟨h0, h1, h2, h3, h4, h5, h6, h7, h8, h9⟩ := h
  funext k f q
  unfold okq may ag tf
  simp only [e1, e2, h1, h3]
theorem tf_sim (h : sim S S') : tf S' = tf S := by
  have e2 := tv_sim h
  funext f q v
  unfold tf
  rw [e2]
theorem wk_sim (h : sim S S') : ∀ {n k : Nat} {f : Nat → Nat}, wk S' n k f = wk S n k f
  | 0, k, f => rfl
  | n + 1, k, f => by
    rw [wk, wk, okq_sim h, tf_sim h]
    apply sg_congr
    intro q _
    rw [wk_sim h]
theorem wx_sim (h : sim S S') {i : Nat} : ∀ {n k : Nat} {f : Nat → Nat}, wx S' n k f i = wx S n k f i
  | 0, k, f => rfl
  | n + 1, k, f => by
    rw [wx, wx, okq_sim h, tf_sim h, h.2.1]
    apply sg_congr
    intro q _
    rw [wx_sim h, wk_sim h]
theorem wy_sim (h : sim S S') {i : Nat} : ∀ {n k : Nat} {f : Nat → Nat}, wy S' n k f i = wy S n k f i
  | 0, k, f => rfl
  | n + 1, k, f => by
    rw [wy, wy, okq_sim h, tf_sim h]
    apply sg_congr
    intro q _
    rw [wy_sim h, wk_sim h]
theorem tl_sim (h : sim S S') {G : Nat → Nat → Int32} (e : tl S G) : tl S' G := by
  unfold tl at *
  simp only [wk_sim h, wx_sim h, wy_sim h, h.1, h.2.2.2.2.2.1]
  exact e
theorem lf_sim (h : sim S S') : lf S' = lf S := by
  funext v k
  unfold lf
  rw [ob_sim h]
theorem so_sim (h : sim S S') : so S' = so S := by
  funext v
  unfold so
  rw [h.2.2.1, h.2.2.2.2.2.2.2.1]
theorem hF_sim (h : sim S S') {h0 h2 h6 : Int32} {W K A T O L : Nat → Int32} (e : hF S h0 h2 h6 W K A T O L) : hF S' h0 h2 h6 W K A T O L := by
  unfold hF at *
  rw [lf_sim h, so_sim h, h.1, h.2.1, h.2.2.1, h.2.2.2.1, h.2.2.2.2.1, h.2.2.2.2.2.1, h.2.2.2.2.2.2.1]
  exact e
theorem cT_sim (h : sim S S') {G : Nat → Nat → Int32} (e : cT S G) : cT S' G := by
  rcases e with e | e
  · exact Or.inl ⟨e.1, tl_sim h e.2⟩
  · exact Or.inr e
end SIM
