/-! The rows of each method, checked. -/
set_option maxRecDepth 100000 in
theorem sm_k1 : (sm_tab 1).all (sm_chk 1) = true := by decide +kernel
set_option maxRecDepth 100000 in
theorem sm_k2 : (sm_tab 2).all (sm_chk 2) = true := by decide +kernel
set_option maxRecDepth 100000 in
theorem sm_k3 : (sm_tab 3).all (sm_chk 3) = true := by decide +kernel
set_option maxRecDepth 100000 in
theorem sm_k4 : (sm_tab 4).all (sm_chk 4) = true := by decide +kernel
set_option maxRecDepth 100000 in
theorem sm_k5 : (sm_tab 5).all (sm_chk 5) = true := by decide +kernel
set_option maxRecDepth 100000 in
theorem sm_k6 : (sm_tab 6).all (sm_chk 6) = true := by decide +kernel
set_option maxRecDepth 100000 in
theorem sm_k8 : (sm_tab 8).all (sm_chk 8) = true := by decide +kernel
set_option maxRecDepth 100000 in
theorem sm_k10 : (sm_tab 10).all (sm_chk 10) = true := by decide +kernel
set_option maxRecDepth 100000 in
theorem sm_k11 : (sm_tab 11).all (sm_chk 11) = true := by decide +kernel
set_option maxRecDepth 100000 in
theorem sm_k13 : (sm_tab 13).all (sm_chk 13) = true := by decide +kernel
set_option maxRecDepth 100000 in
theorem sm_k14 : (sm_tab 14).all (sm_chk 14) = true := by decide +kernel
set_option maxRecDepth 100000 in
theorem sm_k15 : (sm_tab 15).all (sm_chk 15) = true := by decide +kernel
set_option maxRecDepth 100000 in
theorem sm_k19 : (sm_tab 19).all (sm_chk 19) = true := by decide +kernel
set_option maxRecDepth 100000 in
theorem sm_k20 : (sm_tab 20).all (sm_chk 20) = true := by decide +kernel
set_option maxRecDepth 100000 in
theorem sm_k22 : (sm_tab 22).all (sm_chk 22) = true := by decide +kernel
set_option maxRecDepth 100000 in
theorem sm_k23 : (sm_tab 23).all (sm_chk 23) = true := by decide +kernel
set_option maxRecDepth 100000 in
theorem sm_k24 : (sm_tab 24).all (sm_chk 24) = true := by decide +kernel
set_option maxRecDepth 100000 in
theorem sm_k25 : (sm_tab 25).all (sm_chk 25) = true := by decide +kernel
set_option maxRecDepth 100000 in
theorem sm_k27 : (sm_tab 27).all (sm_chk 27) = true := by decide +kernel
set_option maxRecDepth 100000 in
theorem sm_k28 : (sm_tab 28).all (sm_chk 28) = true := by decide +kernel
set_option maxRecDepth 100000 in
theorem sm_k29 : (sm_tab 29).all (sm_chk 29) = true := by decide +kernel
set_option maxRecDepth 100000 in
theorem sm_k30 : (sm_tab 30).all (sm_chk 30) = true := by decide +kernel
set_option maxRecDepth 100000 in
theorem sm_k31 : (sm_tab 31).all (sm_chk 31) = true := by decide +kernel
set_option maxRecDepth 100000 in
theorem sm_k32 : (sm_tab 32).all (sm_chk 32) = true := by decide +kernel
set_option maxRecDepth 100000 in
theorem sm_k42 : (sm_tab 42).all (sm_chk 42) = true := by decide +kernel
set_option maxRecDepth 100000 in
theorem sm_k44 : (sm_tab 44).all (sm_chk 44) = true := by decide +kernel
set_option maxRecDepth 100000 in
theorem sm_k45 : (sm_tab 45).all (sm_chk 45) = true := by decide +kernel
set_option maxRecDepth 100000 in
theorem sm_k46 : (sm_tab 46).all (sm_chk 46) = true := by decide +kernel
set_option maxRecDepth 100000 in
theorem sm_k47 : (sm_tab 47).all (sm_chk 47) = true := by decide +kernel
set_option maxRecDepth 100000 in
theorem sm_k48 : (sm_tab 48).all (sm_chk 48) = true := by decide +kernel
set_option maxRecDepth 100000 in
theorem sm_k49 : (sm_tab 49).all (sm_chk 49) = true := by decide +kernel
set_option maxRecDepth 100000 in
theorem sm_k50 : (sm_tab 50).all (sm_chk 50) = true := by decide +kernel
set_option maxRecDepth 100000 in
theorem sm_k51 : (sm_tab 51).all (sm_chk 51) = true := by decide +kernel
set_option maxRecDepth 100000 in
theorem sm_k52 : (sm_tab 52).all (sm_chk 52) = true := by decide +kernel
set_option maxRecDepth 100000 in
theorem sm_k53 : (sm_tab 53).all (sm_chk 53) = true := by decide +kernel
set_option maxRecDepth 100000 in
theorem sm_k54 : (sm_tab 54).all (sm_chk 54) = true := by decide +kernel
set_option maxRecDepth 100000 in
theorem sm_k55 : (sm_tab 55).all (sm_chk 55) = true := by decide +kernel
set_option maxRecDepth 100000 in
theorem sm_k60 : (sm_tab 60).all (sm_chk 60) = true := by decide +kernel
set_option maxRecDepth 100000 in
theorem sm_k63 : (sm_tab 63).all (sm_chk 63) = true := by decide +kernel
set_option maxRecDepth 100000 in
theorem sm_k73 : (sm_tab 73).all (sm_chk 73) = true := by decide +kernel
set_option maxRecDepth 100000 in
theorem sm_k74 : (sm_tab 74).all (sm_chk 74) = true := by decide +kernel
set_option maxRecDepth 100000 in
theorem sm_k75 : (sm_tab 75).all (sm_chk 75) = true := by decide +kernel
set_option maxRecDepth 100000 in
theorem sm_k76 : (sm_tab 76).all (sm_chk 76) = true := by decide +kernel
set_option maxRecDepth 100000 in
theorem sm_k77 : (sm_tab 77).all (sm_chk 77) = true := by decide +kernel
set_option maxRecDepth 100000 in
theorem sm_k78 : (sm_tab 78).all (sm_chk 78) = true := by decide +kernel
set_option maxRecDepth 100000 in
theorem sm_k79 : (sm_tab 79).all (sm_chk 79) = true := by decide +kernel
set_option maxRecDepth 100000 in
theorem sm_k80 : (sm_tab 80).all (sm_chk 80) = true := by decide +kernel
set_option maxRecDepth 100000 in
theorem sm_k81 : (sm_tab 81).all (sm_chk 81) = true := by decide +kernel
set_option maxRecDepth 100000 in
theorem sm_k82 : (sm_tab 82).all (sm_chk 82) = true := by decide +kernel
set_option maxRecDepth 100000 in
theorem sm_k83 : (sm_tab 83).all (sm_chk 83) = true := by decide +kernel
set_option maxRecDepth 100000 in
theorem sm_k84 : (sm_tab 84).all (sm_chk 84) = true := by decide +kernel
set_option maxRecDepth 100000 in
theorem sm_k85 : (sm_tab 85).all (sm_chk 85) = true := by decide +kernel
set_option maxRecDepth 100000 in
theorem sm_k86 : (sm_tab 86).all (sm_chk 86) = true := by decide +kernel
set_option maxRecDepth 100000 in
theorem sm_k87 : (sm_tab 87).all (sm_chk 87) = true := by decide +kernel
