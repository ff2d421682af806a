/-! The constructors of the class's parts. -/
def wPage (G : Nat → ClassId) (u : Nat → Nat) : va_W := [(u 0, .inr (1, [.ref (u 1), .int 0])), (u 1, .inl (G 0, nw_z 0 8))]
def wHill (G : Nat → ClassId) (u : Nat → Nat) : va_W := [(u 0, .inr (0, [.int 0, .ref (u 1), .int 0, .ref (u 2), .ref (u 3), .ref (u 4), .int 0, .ref (u 5), .ref (u 6)])), (u 1, .inl (G 0, nw_z 0 6)), (u 2, .inl (G 0, nw_z 0 4)), (u 3, .inl (G 0, nw_z 0 4)), (u 4, .inl (G 0, nw_z 0 4)), (u 5, .inl (G 0, nw_z 0 4)), (u 6, .inl (G 0, nw_z 0 24))]
def wTally (hh : Nat) (G : Nat → ClassId) (u : Nat → Nat) : va_W := [(u 0, .inr (2, [.ref hh, .ref (u 1), .ref (u 2), .int 0, .int (nI 1)])), (u 1, .inl (G 0, nw_z 0 96)), (u 2, .inl (G 0, nw_z 0 24))]
def wWit (hh : Nat) (G : Nat → ClassId) (u : Nat → Nat) : va_W := [(u 0, .inr (3, [.ref hh, .ref (u 1), .ref (u 9), .int 0, .int 0])), (u 1, .inl (G 3, 7, .inr (.inr (.inr (.inr (fun i => cond (Nat.blt i 7) (some (u (2 + i))) none)))))), (u 2, .inl (G 0, nw_z 0 64)), (u 3, .inl (G 0, nw_z 0 64)), (u 4, .inl (G 0, nw_z 0 64)), (u 5, .inl (G 0, nw_z 0 64)), (u 6, .inl (G 0, nw_z 0 64)), (u 7, .inl (G 0, nw_z 0 64)), (u 8, .inl (G 0, nw_z 0 64)), (u 9, .inl (G 0, nw_z 0 7))]
set_option maxRecDepth 100000 in
set_option maxHeartbeats 4000000 in
theorem k_Page : nw_call 1 1 8 21 [] (1, [.null, .int 0]) wPage := by
  refine nw_enter (by decide +kernel) rfl rfl (fun h0 => Nat.le_of_ble_eq_true rfl) ?_
  intro p l e R s m args below meth c D G h0 A ls Z C hN hR hl hP hD hS hA hret
  obtain ⟨f1, f2, f3, f4⟩ := hR
  have hl : lv_has ls 1 [(0, .ref h0)] := hl
  have hx := C.1
  have hb := C.2.1
  have hts := C.2.2.2.2.1
  have hown := C.2.2.2.1
  have hK := C.2.2.2.2.2.1
  refine nw_obj C hl (lv_at hl 0 rfl) ⟨by omega, by omega⟩ (idx := 3) (z := 21) (by decide +kernel) ?_
  refine lv_aload_n hx hb (show decode (sm_code 21) 4 = .ok (.aload_n 0, 1) from by decide +kernel) rfl (lv_at hl 0 rfl) ?_
  refine lv_bipush (v := nI 8) hx hb (show decode (sm_code 21) 5 = .ok (.bipush 8, 2) from by decide +kernel) (by decide) ?_
  refine nw_arr C hP hD hS hA 0 rfl (ci := 1) (k := 0) (idx := 9) (z1 := 32) (z2 := 22) (t := 0) (n := 8) (at_ := .int) (by decide +kernel) (Nat.le_of_ble_eq_true rfl) (by decide) (by omega) (by omega) (fun q0 H locs hP hD hS => ?_)
  have hP : va_P D vwCl [(h0, .inr (1, [.ref q0, .int 0])), (q0, .inl (G 0, nw_z 0 8))] H := hP
  have hD : va_D A [(h0, .inr (1, [.ref q0, .int 0])), (q0, .inl (G 0, nw_z 0 8))] := hD
  exact hret (fun k => [h0, q0].getD k 0) H _ ls 12 rfl (by decide +kernel) hP hD hS
set_option maxRecDepth 100000 in
set_option maxHeartbeats 4000000 in
theorem k_Hill : nw_call 1 6 46 0 [] (0, [.int 0, .null, .int 0, .null, .null, .null, .int 0, .null, .null]) wHill := by
  refine nw_enter (by decide +kernel) rfl rfl (fun h0 => Nat.le_of_ble_eq_true rfl) ?_
  intro p l e R s m args below meth c D G h0 A ls Z C hN hR hl hP hD hS hA hret
  obtain ⟨f1, f2, f3, f4⟩ := hR
  have hl : lv_has ls 1 [(0, .ref h0)] := hl
  have hx := C.1
  have hb := C.2.1
  have hts := C.2.2.2.2.1
  have hown := C.2.2.2.1
  have hK := C.2.2.2.2.2.1
  refine nw_obj C hl (lv_at hl 0 rfl) ⟨by omega, by omega⟩ (idx := 3) (z := 38) (by decide +kernel) ?_
  refine lv_aload_n hx hb (show decode (sm_code 0) 4 = .ok (.aload_n 0, 1) from by decide +kernel) rfl (lv_at hl 0 rfl) ?_
  refine lv_bipush (v := nI 6) hx hb (show decode (sm_code 0) 5 = .ok (.bipush 6, 2) from by decide +kernel) (by decide) ?_
  refine nw_arr C hP hD hS hA 0 rfl (ci := 0) (k := 1) (idx := 9) (z1 := 32) (z2 := 42) (t := 0) (n := 6) (at_ := .int) (by decide +kernel) (Nat.le_of_ble_eq_true rfl) (by decide) (by omega) (by omega) (fun q0 H locs hP hD hS => ?_)
  have hP : va_P D vwCl [(h0, .inr (0, [.int 0, .ref q0, .int 0, .null, .null, .null, .int 0, .null, .null])), (q0, .inl (G 0, nw_z 0 6))] H := hP
  have hD : va_D A [(h0, .inr (0, [.int 0, .ref q0, .int 0, .null, .null, .null, .int 0, .null, .null])), (q0, .inl (G 0, nw_z 0 6))] := hD
  refine lv_aload_n hx hb (show decode (sm_code 0) 12 = .ok (.aload_n 0, 1) from by decide +kernel) rfl (lv_at hl 0 rfl) ?_
  refine lv_iconst (v := nI 4) hx hb (show decode (sm_code 0) 13 = .ok (.iconst 4, 1) from by decide +kernel) (by decide) ?_
  refine nw_arr C hP hD hS hA 0 rfl (ci := 0) (k := 3) (idx := 15) (z1 := 32) (z2 := 47) (t := 0) (n := 4) (at_ := .int) (by decide +kernel) (Nat.le_of_ble_eq_true rfl) (by decide) (by omega) (by omega) (fun q1 H locs hP hD hS => ?_)
  have hP : va_P D vwCl [(h0, .inr (0, [.int 0, .ref q0, .int 0, .ref q1, .null, .null, .int 0, .null, .null])), (q0, .inl (G 0, nw_z 0 6)), (q1, .inl (G 0, nw_z 0 4))] H := hP
  have hD : va_D A [(h0, .inr (0, [.int 0, .ref q0, .int 0, .ref q1, .null, .null, .int 0, .null, .null])), (q0, .inl (G 0, nw_z 0 6)), (q1, .inl (G 0, nw_z 0 4))] := hD
  refine lv_aload_n hx hb (show decode (sm_code 0) 19 = .ok (.aload_n 0, 1) from by decide +kernel) rfl (lv_at hl 0 rfl) ?_
  refine lv_iconst (v := nI 4) hx hb (show decode (sm_code 0) 20 = .ok (.iconst 4, 1) from by decide +kernel) (by decide) ?_
  refine nw_arr C hP hD hS hA 0 rfl (ci := 0) (k := 4) (idx := 18) (z1 := 32) (z2 := 49) (t := 0) (n := 4) (at_ := .int) (by decide +kernel) (Nat.le_of_ble_eq_true rfl) (by decide) (by omega) (by omega) (fun q2 H locs hP hD hS => ?_)
  have hP : va_P D vwCl [(h0, .inr (0, [.int 0, .ref q0, .int 0, .ref q1, .ref q2, .null, .int 0, .null, .null])), (q0, .inl (G 0, nw_z 0 6)), (q1, .inl (G 0, nw_z 0 4)), (q2, .inl (G 0, nw_z 0 4))] H := hP
  have hD : va_D A [(h0, .inr (0, [.int 0, .ref q0, .int 0, .ref q1, .ref q2, .null, .int 0, .null, .null])), (q0, .inl (G 0, nw_z 0 6)), (q1, .inl (G 0, nw_z 0 4)), (q2, .inl (G 0, nw_z 0 4))] := hD
  refine lv_aload_n hx hb (show decode (sm_code 0) 26 = .ok (.aload_n 0, 1) from by decide +kernel) rfl (lv_at hl 0 rfl) ?_
  refine lv_iconst (v := nI 4) hx hb (show decode (sm_code 0) 27 = .ok (.iconst 4, 1) from by decide +kernel) (by decide) ?_
  refine nw_arr C hP hD hS hA 0 rfl (ci := 0) (k := 5) (idx := 21) (z1 := 32) (z2 := 51) (t := 0) (n := 4) (at_ := .int) (by decide +kernel) (Nat.le_of_ble_eq_true rfl) (by decide) (by omega) (by omega) (fun q3 H locs hP hD hS => ?_)
  have hP : va_P D vwCl [(h0, .inr (0, [.int 0, .ref q0, .int 0, .ref q1, .ref q2, .ref q3, .int 0, .null, .null])), (q0, .inl (G 0, nw_z 0 6)), (q1, .inl (G 0, nw_z 0 4)), (q2, .inl (G 0, nw_z 0 4)), (q3, .inl (G 0, nw_z 0 4))] H := hP
  have hD : va_D A [(h0, .inr (0, [.int 0, .ref q0, .int 0, .ref q1, .ref q2, .ref q3, .int 0, .null, .null])), (q0, .inl (G 0, nw_z 0 6)), (q1, .inl (G 0, nw_z 0 4)), (q2, .inl (G 0, nw_z 0 4)), (q3, .inl (G 0, nw_z 0 4))] := hD
  refine lv_aload_n hx hb (show decode (sm_code 0) 33 = .ok (.aload_n 0, 1) from by decide +kernel) rfl (lv_at hl 0 rfl) ?_
  refine lv_iconst (v := nI 4) hx hb (show decode (sm_code 0) 34 = .ok (.iconst 4, 1) from by decide +kernel) (by decide) ?_
  refine nw_arr C hP hD hS hA 0 rfl (ci := 0) (k := 7) (idx := 24) (z1 := 32) (z2 := 55) (t := 0) (n := 4) (at_ := .int) (by decide +kernel) (Nat.le_of_ble_eq_true rfl) (by decide) (by omega) (by omega) (fun q4 H locs hP hD hS => ?_)
  have hP : va_P D vwCl [(h0, .inr (0, [.int 0, .ref q0, .int 0, .ref q1, .ref q2, .ref q3, .int 0, .ref q4, .null])), (q0, .inl (G 0, nw_z 0 6)), (q1, .inl (G 0, nw_z 0 4)), (q2, .inl (G 0, nw_z 0 4)), (q3, .inl (G 0, nw_z 0 4)), (q4, .inl (G 0, nw_z 0 4))] H := hP
  have hD : va_D A [(h0, .inr (0, [.int 0, .ref q0, .int 0, .ref q1, .ref q2, .ref q3, .int 0, .ref q4, .null])), (q0, .inl (G 0, nw_z 0 6)), (q1, .inl (G 0, nw_z 0 4)), (q2, .inl (G 0, nw_z 0 4)), (q3, .inl (G 0, nw_z 0 4)), (q4, .inl (G 0, nw_z 0 4))] := hD
  refine lv_aload_n hx hb (show decode (sm_code 0) 40 = .ok (.aload_n 0, 1) from by decide +kernel) rfl (lv_at hl 0 rfl) ?_
  refine lv_bipush (v := nI 24) hx hb (show decode (sm_code 0) 41 = .ok (.bipush 24, 2) from by decide +kernel) (by decide) ?_
  refine nw_arr C hP hD hS hA 0 rfl (ci := 0) (k := 8) (idx := 27) (z1 := 32) (z2 := 57) (t := 0) (n := 24) (at_ := .int) (by decide +kernel) (Nat.le_of_ble_eq_true rfl) (by decide) (by omega) (by omega) (fun q5 H locs hP hD hS => ?_)
  have hP : va_P D vwCl [(h0, .inr (0, [.int 0, .ref q0, .int 0, .ref q1, .ref q2, .ref q3, .int 0, .ref q4, .ref q5])), (q0, .inl (G 0, nw_z 0 6)), (q1, .inl (G 0, nw_z 0 4)), (q2, .inl (G 0, nw_z 0 4)), (q3, .inl (G 0, nw_z 0 4)), (q4, .inl (G 0, nw_z 0 4)), (q5, .inl (G 0, nw_z 0 24))] H := hP
  have hD : va_D A [(h0, .inr (0, [.int 0, .ref q0, .int 0, .ref q1, .ref q2, .ref q3, .int 0, .ref q4, .ref q5])), (q0, .inl (G 0, nw_z 0 6)), (q1, .inl (G 0, nw_z 0 4)), (q2, .inl (G 0, nw_z 0 4)), (q3, .inl (G 0, nw_z 0 4)), (q4, .inl (G 0, nw_z 0 4)), (q5, .inl (G 0, nw_z 0 24))] := hD
  exact hret (fun k => [h0, q0, q1, q2, q3, q4, q5].getD k 0) H _ ls 48 rfl (by decide +kernel) hP hD hS
set_option maxRecDepth 100000 in
set_option maxHeartbeats 4000000 in
theorem k_Tally (hh : Nat) : nw_call 1 2 120 26 [.ref hh] (2, [.null, .null, .null, .int 0, .int 0]) (wTally hh) := by
  refine nw_enter (by decide +kernel) rfl rfl (fun h0 => Nat.le_of_ble_eq_true rfl) ?_
  intro p l e R s m args below meth c D G h0 A ls Z C hN hR hl hP hD hS hA hret
  obtain ⟨f1, f2, f3, f4⟩ := hR
  have hl : lv_has ls 2 [(0, .ref h0), (1, .ref hh)] := hl
  have hx := C.1
  have hb := C.2.1
  have hts := C.2.2.2.2.1
  have hown := C.2.2.2.1
  have hK := C.2.2.2.2.2.1
  refine nw_obj C hl (lv_at hl 0 rfl) ⟨by omega, by omega⟩ (idx := 3) (z := 82) (by decide +kernel) ?_
  refine lv_aload_n hx hb (show decode (sm_code 26) 4 = .ok (.aload_n 0, 1) from by decide +kernel) rfl (lv_at hl 0 rfl) ?_
  refine lv_bipush (v := nI 96) hx hb (show decode (sm_code 26) 5 = .ok (.bipush 96, 2) from by decide +kernel) (by decide) ?_
  refine nw_arr C hP hD hS hA 0 rfl (ci := 2) (k := 1) (idx := 9) (z1 := 32) (z2 := 84) (t := 0) (n := 96) (at_ := .int) (by decide +kernel) (Nat.le_of_ble_eq_true rfl) (by decide) (by omega) (by omega) (fun q0 H locs hP hD hS => ?_)
  have hP : va_P D vwCl [(h0, .inr (2, [.null, .ref q0, .null, .int 0, .int 0])), (q0, .inl (G 0, nw_z 0 96))] H := hP
  have hD : va_D A [(h0, .inr (2, [.null, .ref q0, .null, .int 0, .int 0])), (q0, .inl (G 0, nw_z 0 96))] := hD
  refine lv_aload_n hx hb (show decode (sm_code 26) 12 = .ok (.aload_n 0, 1) from by decide +kernel) rfl (lv_at hl 0 rfl) ?_
  refine lv_bipush (v := nI 24) hx hb (show decode (sm_code 26) 13 = .ok (.bipush 24, 2) from by decide +kernel) (by decide) ?_
  refine nw_arr C hP hD hS hA 0 rfl (ci := 2) (k := 2) (idx := 15) (z1 := 32) (z2 := 85) (t := 0) (n := 24) (at_ := .int) (by decide +kernel) (Nat.le_of_ble_eq_true rfl) (by decide) (by omega) (by omega) (fun q1 H locs hP hD hS => ?_)
  have hP : va_P D vwCl [(h0, .inr (2, [.null, .ref q0, .ref q1, .int 0, .int 0])), (q0, .inl (G 0, nw_z 0 96)), (q1, .inl (G 0, nw_z 0 24))] H := hP
  have hD : va_D A [(h0, .inr (2, [.null, .ref q0, .ref q1, .int 0, .int 0])), (q0, .inl (G 0, nw_z 0 96)), (q1, .inl (G 0, nw_z 0 24))] := hD
  refine lv_aload_n hx hb (show decode (sm_code 26) 20 = .ok (.aload_n 0, 1) from by decide +kernel) rfl (lv_at hl 0 rfl) ?_
  refine lv_iconst (v := nI 1) hx hb (show decode (sm_code 26) 21 = .ok (.iconst 1, 1) from by decide +kernel) (by decide) ?_
  refine va_put (D := D) (cl := vwCl) (ci := 2) (C := (sm_cl 2).1) (T := (sm_cl 2).2.1) (N := (sm_cl 2).2.2) (ty := .boolean) hx hb hts (sm_cl_in (by decide)) (sm_fty 2) (sm_cl_ty (by decide)) (sm_cl_nm (by decide)) hown hK hP hD hS 0 rfl (sm_cl_at (by decide)) 4 (by decide) (hts _ (sm_has_in (z := 88) (by decide +kernel))) (fun _ q => q) (by decide) (by decide +kernel) rfl rfl (Nat.le_of_ble_eq_true rfl) (show decode (sm_code 26) 22 = .ok (.putfield 18, 3) from by decide +kernel) (fun H locs hP hD hS => ?_)
  have hP : va_P D vwCl [(h0, .inr (2, [.null, .ref q0, .ref q1, .int 0, .int (nI 1)])), (q0, .inl (G 0, nw_z 0 96)), (q1, .inl (G 0, nw_z 0 24))] H := hP
  have hD : va_D A [(h0, .inr (2, [.null, .ref q0, .ref q1, .int 0, .int (nI 1)])), (q0, .inl (G 0, nw_z 0 96)), (q1, .inl (G 0, nw_z 0 24))] := hD
  refine lv_aload_n hx hb (show decode (sm_code 26) 25 = .ok (.aload_n 0, 1) from by decide +kernel) rfl (lv_at hl 0 rfl) ?_
  refine lv_aload_n hx hb (show decode (sm_code 26) 26 = .ok (.aload_n 1, 1) from by decide +kernel) rfl (lv_at hl 1 rfl) ?_
  refine nw_put C hP hD hS 0 rfl (ci := 2) (k := 0) (idx := 22) (z2 := 83) (ty := .object "SwornVane$Hill") (by decide +kernel) (Nat.le_of_ble_eq_true rfl) (fun H locs hP hD hS => ?_)
  have hP : va_P D vwCl [(h0, .inr (2, [.ref hh, .ref q0, .ref q1, .int 0, .int (nI 1)])), (q0, .inl (G 0, nw_z 0 96)), (q1, .inl (G 0, nw_z 0 24))] H := hP
  have hD : va_D A [(h0, .inr (2, [.ref hh, .ref q0, .ref q1, .int 0, .int (nI 1)])), (q0, .inl (G 0, nw_z 0 96)), (q1, .inl (G 0, nw_z 0 24))] := hD
  exact hret (fun k => [h0, q0, q1].getD k 0) H _ ls 30 rfl (by decide +kernel) hP hD hS
set_option maxRecDepth 100000 in
set_option maxHeartbeats 4000000 in
theorem k_Wit (hh : Nat) : nw_call 1 9 462 35 [.ref hh] (3, [.null, .null, .null, .int 0, .int 0]) (wWit hh) := by
  refine nw_enter (by decide +kernel) rfl rfl (fun h0 => Nat.le_of_ble_eq_true rfl) ?_
  intro p l e R s m args below meth c D G h0 A ls Z C hN hR hl hP hD hS hA hret
  obtain ⟨f1, f2, f3, f4⟩ := hR
  have hl : lv_has ls 2 [(0, .ref h0), (1, .ref hh)] := hl
  have hx := C.1
  have hb := C.2.1
  have hts := C.2.2.2.2.1
  have hown := C.2.2.2.1
  have hK := C.2.2.2.2.2.1
  refine nw_obj C hl (lv_at hl 0 rfl) ⟨by omega, by omega⟩ (idx := 3) (z := 106) (by decide +kernel) ?_
  refine lv_aload_n hx hb (show decode (sm_code 35) 4 = .ok (.aload_n 0, 1) from by decide +kernel) rfl (lv_at hl 0 rfl) ?_
  refine lv_bipush (v := nI 7) hx hb (show decode (sm_code 35) 5 = .ok (.bipush 7, 2) from by decide +kernel) (by decide) ?_
  refine lv_bipush (v := nI 64) hx hb (show decode (sm_code 35) 7 = .ok (.bipush 64, 2) from by decide +kernel) (by decide) ?_
  refine nw_multi C.o hN.1 hP hD hS hA (idx := 11) (z := 107) (by decide +kernel) (by omega) (by omega) (fun r H hP hD hS => ?_)
  have hP : va_P D vwCl [(h0, .inr (3, [.null, .null, .null, .int 0, .int 0])), (r 0, .inl (G 3, 7, .inr (.inr (.inr (.inr (fun i => cond (Nat.blt i 7) (some (r (1 + i))) none)))))), (r 1, .inl (G 0, nw_z 0 64)), (r 2, .inl (G 0, nw_z 0 64)), (r 3, .inl (G 0, nw_z 0 64)), (r 4, .inl (G 0, nw_z 0 64)), (r 5, .inl (G 0, nw_z 0 64)), (r 6, .inl (G 0, nw_z 0 64)), (r 7, .inl (G 0, nw_z 0 64))] H := hP
  have hD : va_D A [(h0, .inr (3, [.null, .null, .null, .int 0, .int 0])), (r 0, .inl (G 3, 7, .inr (.inr (.inr (.inr (fun i => cond (Nat.blt i 7) (some (r (1 + i))) none)))))), (r 1, .inl (G 0, nw_z 0 64)), (r 2, .inl (G 0, nw_z 0 64)), (r 3, .inl (G 0, nw_z 0 64)), (r 4, .inl (G 0, nw_z 0 64)), (r 5, .inl (G 0, nw_z 0 64)), (r 6, .inl (G 0, nw_z 0 64)), (r 7, .inl (G 0, nw_z 0 64))] := hD
  refine nw_put C hP hD hS 0 rfl (ci := 3) (k := 1) (idx := 13) (z2 := 110) (ty := .array (.array .int)) (by decide +kernel) (Nat.le_of_ble_eq_true rfl) (fun H locs hP hD hS => ?_)
  have hP : va_P D vwCl [(h0, .inr (3, [.null, .ref (r 0), .null, .int 0, .int 0])), (r 0, .inl (G 3, 7, .inr (.inr (.inr (.inr (fun i => cond (Nat.blt i 7) (some (r (1 + i))) none)))))), (r 1, .inl (G 0, nw_z 0 64)), (r 2, .inl (G 0, nw_z 0 64)), (r 3, .inl (G 0, nw_z 0 64)), (r 4, .inl (G 0, nw_z 0 64)), (r 5, .inl (G 0, nw_z 0 64)), (r 6, .inl (G 0, nw_z 0 64)), (r 7, .inl (G 0, nw_z 0 64))] H := hP
  have hD : va_D A [(h0, .inr (3, [.null, .ref (r 0), .null, .int 0, .int 0])), (r 0, .inl (G 3, 7, .inr (.inr (.inr (.inr (fun i => cond (Nat.blt i 7) (some (r (1 + i))) none)))))), (r 1, .inl (G 0, nw_z 0 64)), (r 2, .inl (G 0, nw_z 0 64)), (r 3, .inl (G 0, nw_z 0 64)), (r 4, .inl (G 0, nw_z 0 64)), (r 5, .inl (G 0, nw_z 0 64)), (r 6, .inl (G 0, nw_z 0 64)), (r 7, .inl (G 0, nw_z 0 64))] := hD
  refine lv_aload_n hx hb (show decode (sm_code 35) 16 = .ok (.aload_n 0, 1) from by decide +kernel) rfl (lv_at hl 0 rfl) ?_
  refine lv_bipush (v := nI 7) hx hb (show decode (sm_code 35) 17 = .ok (.bipush 7, 2) from by decide +kernel) (by decide) ?_
  refine nw_arr C hP hD hS hA 0 rfl (ci := 3) (k := 2) (idx := 16) (z1 := 32) (z2 := 111) (t := 0) (n := 7) (at_ := .int) (by decide +kernel) (Nat.le_of_ble_eq_true rfl) (by decide) (by omega) (by omega) (fun q0 H locs hP hD hS => ?_)
  have hP : va_P D vwCl [(h0, .inr (3, [.null, .ref (r 0), .ref q0, .int 0, .int 0])), (r 0, .inl (G 3, 7, .inr (.inr (.inr (.inr (fun i => cond (Nat.blt i 7) (some (r (1 + i))) none)))))), (r 1, .inl (G 0, nw_z 0 64)), (r 2, .inl (G 0, nw_z 0 64)), (r 3, .inl (G 0, nw_z 0 64)), (r 4, .inl (G 0, nw_z 0 64)), (r 5, .inl (G 0, nw_z 0 64)), (r 6, .inl (G 0, nw_z 0 64)), (r 7, .inl (G 0, nw_z 0 64)), (q0, .inl (G 0, nw_z 0 7))] H := hP
  have hD : va_D A [(h0, .inr (3, [.null, .ref (r 0), .ref q0, .int 0, .int 0])), (r 0, .inl (G 3, 7, .inr (.inr (.inr (.inr (fun i => cond (Nat.blt i 7) (some (r (1 + i))) none)))))), (r 1, .inl (G 0, nw_z 0 64)), (r 2, .inl (G 0, nw_z 0 64)), (r 3, .inl (G 0, nw_z 0 64)), (r 4, .inl (G 0, nw_z 0 64)), (r 5, .inl (G 0, nw_z 0 64)), (r 6, .inl (G 0, nw_z 0 64)), (r 7, .inl (G 0, nw_z 0 64)), (q0, .inl (G 0, nw_z 0 7))] := hD
  refine lv_aload_n hx hb (show decode (sm_code 35) 24 = .ok (.aload_n 0, 1) from by decide +kernel) rfl (lv_at hl 0 rfl) ?_
  refine lv_aload_n hx hb (show decode (sm_code 35) 25 = .ok (.aload_n 1, 1) from by decide +kernel) rfl (lv_at hl 1 rfl) ?_
  refine nw_put C hP hD hS 0 rfl (ci := 3) (k := 0) (idx := 20) (z2 := 109) (ty := .object "SwornVane$Hill") (by decide +kernel) (Nat.le_of_ble_eq_true rfl) (fun H locs hP hD hS => ?_)
  have hP : va_P D vwCl [(h0, .inr (3, [.ref hh, .ref (r 0), .ref q0, .int 0, .int 0])), (r 0, .inl (G 3, 7, .inr (.inr (.inr (.inr (fun i => cond (Nat.blt i 7) (some (r (1 + i))) none)))))), (r 1, .inl (G 0, nw_z 0 64)), (r 2, .inl (G 0, nw_z 0 64)), (r 3, .inl (G 0, nw_z 0 64)), (r 4, .inl (G 0, nw_z 0 64)), (r 5, .inl (G 0, nw_z 0 64)), (r 6, .inl (G 0, nw_z 0 64)), (r 7, .inl (G 0, nw_z 0 64)), (q0, .inl (G 0, nw_z 0 7))] H := hP
  have hD : va_D A [(h0, .inr (3, [.ref hh, .ref (r 0), .ref q0, .int 0, .int 0])), (r 0, .inl (G 3, 7, .inr (.inr (.inr (.inr (fun i => cond (Nat.blt i 7) (some (r (1 + i))) none)))))), (r 1, .inl (G 0, nw_z 0 64)), (r 2, .inl (G 0, nw_z 0 64)), (r 3, .inl (G 0, nw_z 0 64)), (r 4, .inl (G 0, nw_z 0 64)), (r 5, .inl (G 0, nw_z 0 64)), (r 6, .inl (G 0, nw_z 0 64)), (r 7, .inl (G 0, nw_z 0 64)), (q0, .inl (G 0, nw_z 0 7))] := hD
  obtain ⟨hP, hD⟩ := nw_swap hP hD 1 (g := fun i => cond (Nat.blt i 7) (some ([h0, r 0, r 1, r 2, r 3, r 4, r 5, r 6, r 7, q0].getD (2 + i) 0)) none) rfl (fun i hi => by
    have : i = 0 ∨ i = 1 ∨ i = 2 ∨ i = 3 ∨ i = 4 ∨ i = 5 ∨ i = 6 := by omega
    rcases this with rfl | rfl | rfl | rfl | rfl | rfl | rfl <;> rfl)
  exact hret (fun k => [h0, r 0, r 1, r 2, r 3, r 4, r 5, r 6, r 7, q0].getD k 0) H _ ls 29 rfl (by decide +kernel) hP hD hS
