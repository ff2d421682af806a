set_option maxRecDepth 100000 in
set_option maxHeartbeats 400000 in
theorem ts_hasHour {CT : sm_CT} (hC : sm_C 1 CT) {a : Int32} {G : Nat → Nat → Int32} {L : Nat → Nat → Int64} {Q : sm_Q} (hQ : ∀ r, Q (some (.int r)) (hp G L)) : CT 1 [.ref 3, .int a] (hp G L) Q := by
  refine sm_meth hC [some (.ref 3), some (.int a)] rfl rfl rfl ?_
  refine sm_body [] 40 sm_k1 (fun CT K hC hK => ?_)
  repeat' first
    | (with_reducible refine And.intro ?_ ?_)
    | (with_reducible intro _)
    | (with_reducible exact hQ _)
    | ((conv => whnf); first | (with_reducible refine And.intro ?_ ?_) | (with_reducible intro _) | (with_reducible exact hQ _))
  all_goals trace_state
  all_goals sorry
set_option maxRecDepth 100000 in
set_option maxHeartbeats 400000 in
theorem ts_witness {CT : sm_CT} (hC : sm_C 1 CT) {a b c : Int32} {G : Nat → Nat → Int32} {L : Nat → Nat → Int64} {Q : sm_Q} (hQ : ∀ r, Q (some (.int r)) (hp G L)) : CT 5 [.ref 3, .int a, .int b, .int c] (hp G L) Q := by
  refine sm_meth hC [some (.ref 3), some (.int a), some (.int b), some (.int c)] rfl rfl rfl ?_
  refine sm_body [] 40 sm_k5 (fun CT K hC hK => ?_)
  repeat' first
    | (with_reducible refine And.intro ?_ ?_)
    | (with_reducible intro _)
    | (with_reducible exact hQ _)
    | ((conv => whnf); first | (with_reducible refine And.intro ?_ ?_) | (with_reducible intro _) | (with_reducible exact hQ _))
  all_goals simp only [hp_3, hp_8, hp_9, hf3_6]
  all_goals trace_state
  all_goals sorry
set_option maxRecDepth 100000 in
set_option maxHeartbeats 400000 in
theorem ts_startPose {k j : Nat} {r v : Int32} {G : Nat → Nat → Int32} {L : Nat → Nat → Int64} {Q : sm_Q} (hQ : ∀ r, Q (some (.int r)) (hp G L)) : sm_Wk 0 13 Q none 4 [some (.ref 3), some (.int r), some (.int v)] [] (hp G L) := by
  refine sm_body [4] 40 sm_k13 (fun CT K hC hK => ?_)
  repeat' first
    | (with_reducible refine And.intro ?_ ?_)
    | (with_reducible intro _)
    | (with_reducible exact hQ _)
    | ((conv => whnf); first | (with_reducible refine And.intro ?_ ?_) | (with_reducible intro _) | (with_reducible exact hQ _))
  all_goals trace_state
  all_goals sorry
