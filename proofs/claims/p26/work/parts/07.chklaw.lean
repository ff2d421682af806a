/-! The law's rows, checked by pieces. -/
theorem sm_cut {α : Type} {l : List α} {p : α → Bool} (a n : Nat) (h1 : ((l.drop a).take n).all p = true) (h2 : (l.drop (a + n)).all p = true) : (l.drop a).all p = true := by
  rw [← List.take_append_drop n (l.drop a), List.all_append, h1, List.drop_drop, h2]
  rfl
set_option maxRecDepth 100000 in
theorem sm_k143_0 : (((sm_tab 143).drop 0).take 60).all (sm_chk 143) = true := by decide +kernel
set_option maxRecDepth 100000 in
theorem sm_k143_60 : (((sm_tab 143).drop 60).take 60).all (sm_chk 143) = true := by decide +kernel
set_option maxRecDepth 100000 in
theorem sm_k143_120 : (((sm_tab 143).drop 120).take 60).all (sm_chk 143) = true := by decide +kernel
set_option maxRecDepth 100000 in
theorem sm_k143_180 : (((sm_tab 143).drop 180).take 60).all (sm_chk 143) = true := by decide +kernel
set_option maxRecDepth 100000 in
theorem sm_k143_240 : (((sm_tab 143).drop 240).take 60).all (sm_chk 143) = true := by decide +kernel
set_option maxRecDepth 100000 in
theorem sm_k143_300 : (((sm_tab 143).drop 300).take 60).all (sm_chk 143) = true := by decide +kernel
set_option maxRecDepth 100000 in
theorem sm_k143_360 : (((sm_tab 143).drop 360).take 60).all (sm_chk 143) = true := by decide +kernel
set_option maxRecDepth 100000 in
theorem sm_k143_420 : (((sm_tab 143).drop 420).take 60).all (sm_chk 143) = true := by decide +kernel
set_option maxRecDepth 100000 in
theorem sm_k143_480 : (((sm_tab 143).drop 480).take 60).all (sm_chk 143) = true := by decide +kernel
set_option maxRecDepth 100000 in
theorem sm_k143_540 : (((sm_tab 143).drop 540).take 60).all (sm_chk 143) = true := by decide +kernel
set_option maxRecDepth 100000 in
theorem sm_k143_600 : (((sm_tab 143).drop 600).take 60).all (sm_chk 143) = true := by decide +kernel
set_option maxRecDepth 100000 in
theorem sm_k143_660 : (((sm_tab 143).drop 660).take 60).all (sm_chk 143) = true := by decide +kernel
set_option maxRecDepth 100000 in
theorem sm_k143_e : ((sm_tab 143).drop 720).all (sm_chk 143) = true := by decide +kernel
theorem sm_k143 : (sm_tab 143).all (sm_chk 143) = true := sm_cut 0 60 sm_k143_0 (sm_cut 60 60 sm_k143_60 (sm_cut 120 60 sm_k143_120 (sm_cut 180 60 sm_k143_180 (sm_cut 240 60 sm_k143_240 (sm_cut 300 60 sm_k143_300 (sm_cut 360 60 sm_k143_360 (sm_cut 420 60 sm_k143_420 (sm_cut 480 60 sm_k143_480 (sm_cut 540 60 sm_k143_540 (sm_cut 600 60 sm_k143_600 (sm_cut 660 60 sm_k143_660 (sm_k143_e))))))))))))
