/-! The rows of each method, checked. -/
set_option maxRecDepth 100000 in
theorem sm_k1 : (sm_tab 1).all (sm_chk 1) = true := by decide +kernel
set_option maxRecDepth 100000 in
theorem sm_k2 : (sm_tab 2).all (sm_chk 2) = true := by decide +kernel
set_option maxRecDepth 100000 in
theorem sm_k3 : (sm_tab 3).all (sm_chk 3) = true := by decide +kernel
set_option maxRecDepth 100000 in
theorem sm_k4 : (sm_tab 4).all (sm_chk 4) = true := by decide +kernel
set_option maxRecDepth 100000 in
theorem sm_k5 : (sm_tab 5).all (sm_chk 5) = true := by decide +kernel
set_option maxRecDepth 100000 in
theorem sm_k6 : (sm_tab 6).all (sm_chk 6) = true := by decide +kernel
set_option maxRecDepth 100000 in
theorem sm_k7 : (sm_tab 7).all (sm_chk 7) = true := by decide +kernel
set_option maxRecDepth 100000 in
theorem sm_k8 : (sm_tab 8).all (sm_chk 8) = true := by decide +kernel
set_option maxRecDepth 100000 in
theorem sm_k9 : (sm_tab 9).all (sm_chk 9) = true := by decide +kernel
set_option maxRecDepth 100000 in
theorem sm_k10 : (sm_tab 10).all (sm_chk 10) = true := by decide +kernel
set_option maxRecDepth 100000 in
theorem sm_k11 : (sm_tab 11).all (sm_chk 11) = true := by decide +kernel
set_option maxRecDepth 100000 in
theorem sm_k12 : (sm_tab 12).all (sm_chk 12) = true := by decide +kernel
set_option maxRecDepth 100000 in
theorem sm_k13 : (sm_tab 13).all (sm_chk 13) = true := by decide +kernel
set_option maxRecDepth 100000 in
theorem sm_k14 : (sm_tab 14).all (sm_chk 14) = true := by decide +kernel
set_option maxRecDepth 100000 in
theorem sm_k15 : (sm_tab 15).all (sm_chk 15) = true := by decide +kernel
set_option maxRecDepth 100000 in
theorem sm_k16 : (sm_tab 16).all (sm_chk 16) = true := by decide +kernel
set_option maxRecDepth 100000 in
theorem sm_k17 : (sm_tab 17).all (sm_chk 17) = true := by decide +kernel
set_option maxRecDepth 100000 in
theorem sm_k18 : (sm_tab 18).all (sm_chk 18) = true := by decide +kernel
set_option maxRecDepth 100000 in
theorem sm_k19 : (sm_tab 19).all (sm_chk 19) = true := by decide +kernel
set_option maxRecDepth 100000 in
theorem sm_k20 : (sm_tab 20).all (sm_chk 20) = true := by decide +kernel
set_option maxRecDepth 100000 in
theorem sm_k22 : (sm_tab 22).all (sm_chk 22) = true := by decide +kernel
set_option maxRecDepth 100000 in
theorem sm_k23 : (sm_tab 23).all (sm_chk 23) = true := by decide +kernel
set_option maxRecDepth 100000 in
theorem sm_k24 : (sm_tab 24).all (sm_chk 24) = true := by decide +kernel
set_option maxRecDepth 100000 in
theorem sm_k25 : (sm_tab 25).all (sm_chk 25) = true := by decide +kernel
set_option maxRecDepth 100000 in
theorem sm_k27 : (sm_tab 27).all (sm_chk 27) = true := by decide +kernel
set_option maxRecDepth 100000 in
theorem sm_k28 : (sm_tab 28).all (sm_chk 28) = true := by decide +kernel
set_option maxRecDepth 100000 in
theorem sm_k29 : (sm_tab 29).all (sm_chk 29) = true := by decide +kernel
set_option maxRecDepth 100000 in
theorem sm_k30 : (sm_tab 30).all (sm_chk 30) = true := by decide +kernel
set_option maxRecDepth 100000 in
theorem sm_k31 : (sm_tab 31).all (sm_chk 31) = true := by decide +kernel
set_option maxRecDepth 100000 in
theorem sm_k32 : (sm_tab 32).all (sm_chk 32) = true := by decide +kernel
set_option maxRecDepth 100000 in
theorem sm_k33 : (sm_tab 33).all (sm_chk 33) = true := by decide +kernel
set_option maxRecDepth 100000 in
theorem sm_k34 : (sm_tab 34).all (sm_chk 34) = true := by decide +kernel
set_option maxRecDepth 100000 in
theorem sm_k36 : (sm_tab 36).all (sm_chk 36) = true := by decide +kernel
set_option maxRecDepth 100000 in
theorem sm_k37 : (sm_tab 37).all (sm_chk 37) = true := by decide +kernel
set_option maxRecDepth 100000 in
theorem sm_k38 : (sm_tab 38).all (sm_chk 38) = true := by decide +kernel
set_option maxRecDepth 100000 in
theorem sm_k39 : (sm_tab 39).all (sm_chk 39) = true := by decide +kernel
set_option maxRecDepth 100000 in
theorem sm_k40 : (sm_tab 40).all (sm_chk 40) = true := by decide +kernel
set_option maxRecDepth 100000 in
theorem sm_k42 : (sm_tab 42).all (sm_chk 42) = true := by decide +kernel
set_option maxRecDepth 100000 in
theorem sm_k43 : (sm_tab 43).all (sm_chk 43) = true := by decide +kernel
set_option maxRecDepth 100000 in
theorem sm_k44 : (sm_tab 44).all (sm_chk 44) = true := by decide +kernel
set_option maxRecDepth 100000 in
theorem sm_k45 : (sm_tab 45).all (sm_chk 45) = true := by decide +kernel
set_option maxRecDepth 100000 in
theorem sm_k46 : (sm_tab 46).all (sm_chk 46) = true := by decide +kernel
set_option maxRecDepth 100000 in
theorem sm_k47 : (sm_tab 47).all (sm_chk 47) = true := by decide +kernel
set_option maxRecDepth 100000 in
theorem sm_k48 : (sm_tab 48).all (sm_chk 48) = true := by decide +kernel
set_option maxRecDepth 100000 in
theorem sm_k49 : (sm_tab 49).all (sm_chk 49) = true := by decide +kernel
set_option maxRecDepth 100000 in
theorem sm_k50 : (sm_tab 50).all (sm_chk 50) = true := by decide +kernel
set_option maxRecDepth 100000 in
theorem sm_k51 : (sm_tab 51).all (sm_chk 51) = true := by decide +kernel
set_option maxRecDepth 100000 in
theorem sm_k52 : (sm_tab 52).all (sm_chk 52) = true := by decide +kernel
set_option maxRecDepth 100000 in
theorem sm_k53 : (sm_tab 53).all (sm_chk 53) = true := by decide +kernel
set_option maxRecDepth 100000 in
theorem sm_k54 : (sm_tab 54).all (sm_chk 54) = true := by decide +kernel
set_option maxRecDepth 100000 in
theorem sm_k55 : (sm_tab 55).all (sm_chk 55) = true := by decide +kernel
set_option maxRecDepth 100000 in
theorem sm_k56 : (sm_tab 56).all (sm_chk 56) = true := by decide +kernel
set_option maxRecDepth 100000 in
theorem sm_k57 : (sm_tab 57).all (sm_chk 57) = true := by decide +kernel
set_option maxRecDepth 100000 in
theorem sm_k58 : (sm_tab 58).all (sm_chk 58) = true := by decide +kernel
set_option maxRecDepth 100000 in
theorem sm_k59 : (sm_tab 59).all (sm_chk 59) = true := by decide +kernel
set_option maxRecDepth 100000 in
theorem sm_k60 : (sm_tab 60).all (sm_chk 60) = true := by decide +kernel
set_option maxRecDepth 100000 in
theorem sm_k61 : (sm_tab 61).all (sm_chk 61) = true := by decide +kernel
set_option maxRecDepth 100000 in
theorem sm_k62 : (sm_tab 62).all (sm_chk 62) = true := by decide +kernel
set_option maxRecDepth 100000 in
theorem sm_k63 : (sm_tab 63).all (sm_chk 63) = true := by decide +kernel
set_option maxRecDepth 100000 in
theorem sm_k64 : (sm_tab 64).all (sm_chk 64) = true := by decide +kernel
set_option maxRecDepth 100000 in
theorem sm_k65 : (sm_tab 65).all (sm_chk 65) = true := by decide +kernel
set_option maxRecDepth 100000 in
theorem sm_k66 : (sm_tab 66).all (sm_chk 66) = true := by decide +kernel
set_option maxRecDepth 100000 in
theorem sm_k67 : (sm_tab 67).all (sm_chk 67) = true := by decide +kernel
set_option maxRecDepth 100000 in
theorem sm_k68 : (sm_tab 68).all (sm_chk 68) = true := by decide +kernel
set_option maxRecDepth 100000 in
theorem sm_k69 : (sm_tab 69).all (sm_chk 69) = true := by decide +kernel
set_option maxRecDepth 100000 in
theorem sm_k70 : (sm_tab 70).all (sm_chk 70) = true := by decide +kernel
set_option maxRecDepth 100000 in
theorem sm_k71 : (sm_tab 71).all (sm_chk 71) = true := by decide +kernel
set_option maxRecDepth 100000 in
theorem sm_k72 : (sm_tab 72).all (sm_chk 72) = true := by decide +kernel
set_option maxRecDepth 100000 in
theorem sm_k73 : (sm_tab 73).all (sm_chk 73) = true := by decide +kernel
set_option maxRecDepth 100000 in
theorem sm_k74 : (sm_tab 74).all (sm_chk 74) = true := by decide +kernel
set_option maxRecDepth 100000 in
theorem sm_k75 : (sm_tab 75).all (sm_chk 75) = true := by decide +kernel
set_option maxRecDepth 100000 in
theorem sm_k76 : (sm_tab 76).all (sm_chk 76) = true := by decide +kernel
set_option maxRecDepth 100000 in
theorem sm_k77 : (sm_tab 77).all (sm_chk 77) = true := by decide +kernel
set_option maxRecDepth 100000 in
theorem sm_k79 : (sm_tab 79).all (sm_chk 79) = true := by decide +kernel
set_option maxRecDepth 100000 in
theorem sm_k80 : (sm_tab 80).all (sm_chk 80) = true := by decide +kernel
set_option maxRecDepth 100000 in
theorem sm_k81 : (sm_tab 81).all (sm_chk 81) = true := by decide +kernel
set_option maxRecDepth 100000 in
theorem sm_k82 : (sm_tab 82).all (sm_chk 82) = true := by decide +kernel
set_option maxRecDepth 100000 in
theorem sm_k83 : (sm_tab 83).all (sm_chk 83) = true := by decide +kernel
set_option maxRecDepth 100000 in
theorem sm_k84 : (sm_tab 84).all (sm_chk 84) = true := by decide +kernel
set_option maxRecDepth 100000 in
theorem sm_k85 : (sm_tab 85).all (sm_chk 85) = true := by decide +kernel
set_option maxRecDepth 100000 in
theorem sm_k86 : (sm_tab 86).all (sm_chk 86) = true := by decide +kernel
set_option maxRecDepth 100000 in
theorem sm_k87 : (sm_tab 87).all (sm_chk 87) = true := by decide +kernel
set_option maxRecDepth 100000 in
theorem sm_k88 : (sm_tab 88).all (sm_chk 88) = true := by decide +kernel
set_option maxRecDepth 100000 in
theorem sm_k89 : (sm_tab 89).all (sm_chk 89) = true := by decide +kernel
set_option maxRecDepth 100000 in
theorem sm_k90 : (sm_tab 90).all (sm_chk 90) = true := by decide +kernel
set_option maxRecDepth 100000 in
theorem sm_k91 : (sm_tab 91).all (sm_chk 91) = true := by decide +kernel
set_option maxRecDepth 100000 in
theorem sm_k92 : (sm_tab 92).all (sm_chk 92) = true := by decide +kernel
set_option maxRecDepth 100000 in
theorem sm_k93 : (sm_tab 93).all (sm_chk 93) = true := by decide +kernel
set_option maxRecDepth 100000 in
theorem sm_k94 : (sm_tab 94).all (sm_chk 94) = true := by decide +kernel
set_option maxRecDepth 100000 in
theorem sm_k95 : (sm_tab 95).all (sm_chk 95) = true := by decide +kernel
set_option maxRecDepth 100000 in
theorem sm_k96 : (sm_tab 96).all (sm_chk 96) = true := by decide +kernel
set_option maxRecDepth 100000 in
theorem sm_k97 : (sm_tab 97).all (sm_chk 97) = true := by decide +kernel
set_option maxRecDepth 100000 in
theorem sm_k98 : (sm_tab 98).all (sm_chk 98) = true := by decide +kernel
set_option maxRecDepth 100000 in
theorem sm_k99 : (sm_tab 99).all (sm_chk 99) = true := by decide +kernel
set_option maxRecDepth 100000 in
theorem sm_k100 : (sm_tab 100).all (sm_chk 100) = true := by decide +kernel
set_option maxRecDepth 100000 in
theorem sm_k101 : (sm_tab 101).all (sm_chk 101) = true := by decide +kernel
set_option maxRecDepth 100000 in
theorem sm_k102 : (sm_tab 102).all (sm_chk 102) = true := by decide +kernel
set_option maxRecDepth 100000 in
theorem sm_k103 : (sm_tab 103).all (sm_chk 103) = true := by decide +kernel
set_option maxRecDepth 100000 in
theorem sm_k104 : (sm_tab 104).all (sm_chk 104) = true := by decide +kernel
set_option maxRecDepth 100000 in
theorem sm_k105 : (sm_tab 105).all (sm_chk 105) = true := by decide +kernel
set_option maxRecDepth 100000 in
theorem sm_k106 : (sm_tab 106).all (sm_chk 106) = true := by decide +kernel
set_option maxRecDepth 100000 in
theorem sm_k107 : (sm_tab 107).all (sm_chk 107) = true := by decide +kernel
set_option maxRecDepth 100000 in
theorem sm_k108 : (sm_tab 108).all (sm_chk 108) = true := by decide +kernel
set_option maxRecDepth 100000 in
theorem sm_k109 : (sm_tab 109).all (sm_chk 109) = true := by decide +kernel
set_option maxRecDepth 100000 in
theorem sm_k110 : (sm_tab 110).all (sm_chk 110) = true := by decide +kernel
set_option maxRecDepth 100000 in
theorem sm_k111 : (sm_tab 111).all (sm_chk 111) = true := by decide +kernel
set_option maxRecDepth 100000 in
theorem sm_k112 : (sm_tab 112).all (sm_chk 112) = true := by decide +kernel
set_option maxRecDepth 100000 in
theorem sm_k113 : (sm_tab 113).all (sm_chk 113) = true := by decide +kernel
set_option maxRecDepth 100000 in
theorem sm_k114 : (sm_tab 114).all (sm_chk 114) = true := by decide +kernel
set_option maxRecDepth 100000 in
theorem sm_k115 : (sm_tab 115).all (sm_chk 115) = true := by decide +kernel
set_option maxRecDepth 100000 in
theorem sm_k116 : (sm_tab 116).all (sm_chk 116) = true := by decide +kernel
set_option maxRecDepth 100000 in
theorem sm_k117 : (sm_tab 117).all (sm_chk 117) = true := by decide +kernel
set_option maxRecDepth 100000 in
theorem sm_k118 : (sm_tab 118).all (sm_chk 118) = true := by decide +kernel
set_option maxRecDepth 100000 in
theorem sm_k119 : (sm_tab 119).all (sm_chk 119) = true := by decide +kernel
set_option maxRecDepth 100000 in
theorem sm_k120 : (sm_tab 120).all (sm_chk 120) = true := by decide +kernel
set_option maxRecDepth 100000 in
theorem sm_k121 : (sm_tab 121).all (sm_chk 121) = true := by decide +kernel
set_option maxRecDepth 100000 in
theorem sm_k122 : (sm_tab 122).all (sm_chk 122) = true := by decide +kernel
set_option maxRecDepth 100000 in
theorem sm_k123 : (sm_tab 123).all (sm_chk 123) = true := by decide +kernel
set_option maxRecDepth 100000 in
theorem sm_k124 : (sm_tab 124).all (sm_chk 124) = true := by decide +kernel
set_option maxRecDepth 100000 in
theorem sm_k125 : (sm_tab 125).all (sm_chk 125) = true := by decide +kernel
set_option maxRecDepth 100000 in
theorem sm_k126 : (sm_tab 126).all (sm_chk 126) = true := by decide +kernel
set_option maxRecDepth 100000 in
theorem sm_k127 : (sm_tab 127).all (sm_chk 127) = true := by decide +kernel
set_option maxRecDepth 100000 in
theorem sm_k128 : (sm_tab 128).all (sm_chk 128) = true := by decide +kernel
set_option maxRecDepth 100000 in
theorem sm_k129 : (sm_tab 129).all (sm_chk 129) = true := by decide +kernel
set_option maxRecDepth 100000 in
theorem sm_k130 : (sm_tab 130).all (sm_chk 130) = true := by decide +kernel
set_option maxRecDepth 100000 in
theorem sm_k131 : (sm_tab 131).all (sm_chk 131) = true := by decide +kernel
set_option maxRecDepth 100000 in
theorem sm_k132 : (sm_tab 132).all (sm_chk 132) = true := by decide +kernel
set_option maxRecDepth 100000 in
theorem sm_k133 : (sm_tab 133).all (sm_chk 133) = true := by decide +kernel
set_option maxRecDepth 100000 in
theorem sm_k134 : (sm_tab 134).all (sm_chk 134) = true := by decide +kernel
set_option maxRecDepth 100000 in
theorem sm_k135 : (sm_tab 135).all (sm_chk 135) = true := by decide +kernel
set_option maxRecDepth 100000 in
theorem sm_k136 : (sm_tab 136).all (sm_chk 136) = true := by decide +kernel
set_option maxRecDepth 100000 in
theorem sm_k137 : (sm_tab 137).all (sm_chk 137) = true := by decide +kernel
set_option maxRecDepth 100000 in
theorem sm_k138 : (sm_tab 138).all (sm_chk 138) = true := by decide +kernel
set_option maxRecDepth 100000 in
theorem sm_k139 : (sm_tab 139).all (sm_chk 139) = true := by decide +kernel
set_option maxRecDepth 100000 in
theorem sm_k140 : (sm_tab 140).all (sm_chk 140) = true := by decide +kernel
set_option maxRecDepth 100000 in
theorem sm_k141 : (sm_tab 141).all (sm_chk 141) = true := by decide +kernel
set_option maxRecDepth 100000 in
theorem sm_k142 : (sm_tab 142).all (sm_chk 142) = true := by decide +kernel
