set_option maxRecDepth 100000 in
set_option maxHeartbeats 400000 in
theorem ts_nudged {CT : sm_CT} (hC : sm_C 1 CT) {a b : Int32} {h : sm_H} {Q : sm_Q} (hQ : ∀ r, Q (some (.int r)) h) : CT 12 [.int a, .int b] h Q := by
  refine sm_meth hC [some (.int a), some (.int b), none] rfl rfl rfl ?_
  refine sm_body [] 40 sm_k12 (fun CT K hC hK => ?_)
  repeat' first
    | (refine And.intro ?_ ?_)
    | intro _
    | (with_reducible exact hQ _)
    | (conv => whnf)
  all_goals trace_state
