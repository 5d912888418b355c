/-- the words that may be handed on to a callee, all of them for every method -/
def tbl : List Cond := lw_tbl.filter goodWord
theorem tbl_ok : ∀ w ∈ tbl, goodWord w = true := fun _ h => (List.mem_filter.mp h).2
theorem tbl_lw : ∀ w ∈ tbl, w ∈ lw_tbl := fun _ h => (List.mem_filter.mp h).1
theorem tbl_good {big : List Cond} (h : ∀ w ∈ tbl, w ∈ big) : GoodIn big tbl := fun w hw => ⟨h w hw, good_of_word (tbl_ok w hw)⟩
theorem tbl_t {w : Cond} (i : Nat) (h : tables_1[i]? = some w) (g : goodWord w = true) : w ∈ tbl := List.mem_filter.mpr ⟨List.mem_append_right _ (List.mem_of_getElem? h), g⟩
theorem tbl_s {w : Cond} (i : Nat) (h : (k2_sels lw_privs)[i]? = some w) (g : goodWord w = true) : w ∈ tbl := List.mem_filter.mpr ⟨List.mem_append_left _ (List.mem_of_getElem? h), g⟩
theorem tbl_c1 {w : Cond} (h : w ∈ tables_1_1) (g : goodWord w = true) : w ∈ tbl := List.mem_filter.mpr ⟨List.mem_append_right _ (List.mem_append_left _ h), g⟩
theorem tbl_c2 {w : Cond} (h : w ∈ tables_1_2) (g : goodWord w = true) : w ∈ tbl := List.mem_filter.mpr ⟨List.mem_append_right _ (List.mem_append_right _ (List.mem_append_left _ h)), g⟩
theorem tbl_c3 {w : Cond} (h : w ∈ tables_1_3) (g : goodWord w = true) : w ∈ tbl := List.mem_filter.mpr ⟨List.mem_append_right _ (List.mem_append_right _ (List.mem_append_right _ (List.mem_append_left _ h))), g⟩
theorem tbl_c4 {w : Cond} (h : w ∈ tables_1_4) (g : goodWord w = true) : w ∈ tbl := List.mem_filter.mpr ⟨List.mem_append_right _ (List.mem_append_right _ (List.mem_append_right _ (List.mem_append_right _ (List.mem_append_left _ h)))), g⟩
theorem tbl_c5 {w : Cond} (h : w ∈ tables_1_5) (g : goodWord w = true) : w ∈ tbl := List.mem_filter.mpr ⟨List.mem_append_right _ (List.mem_append_right _ (List.mem_append_right _ (List.mem_append_right _ (List.mem_append_right _ h)))), g⟩
theorem kw0 : Cond.initialized RL ∈ tbl := tbl_c1 (List.mem_of_getElem? (i := 0) (by decide +kernel)) rfl
theorem kw1 : Cond.initialized RX6 ∈ tbl := tbl_c1 (List.mem_of_getElem? (i := 1) (by decide +kernel)) rfl
theorem kw2 : Cond.initialized RX3 ∈ tbl := tbl_c1 (List.mem_of_getElem? (i := 2) (by decide +kernel)) rfl
theorem kw3 : Cond.initialized RX0 ∈ tbl := tbl_c1 (List.mem_of_getElem? (i := 3) (by decide +kernel)) rfl
theorem kw4 : Cond.initialized RX5 ∈ tbl := tbl_c1 (List.mem_of_getElem? (i := 4) (by decide +kernel)) rfl
theorem kw5 : Cond.initialized RX4 ∈ tbl := tbl_c1 (List.mem_of_getElem? (i := 5) (by decide +kernel)) rfl
theorem kw6 : Cond.initialized RX2 ∈ tbl := tbl_c1 (List.mem_of_getElem? (i := 6) (by decide +kernel)) rfl
theorem kw7 : Cond.initialized RX1 ∈ tbl := tbl_c1 (List.mem_of_getElem? (i := 7) (by decide +kernel)) rfl
theorem kw8 : Cond.initialized RX7 ∈ tbl := tbl_c1 (List.mem_of_getElem? (i := 8) (by decide +kernel)) rfl
theorem kw9 : Cond.initialized "java/lang/System" ∈ tbl := tbl_c1 (List.mem_of_getElem? (i := 9) (by decide +kernel)) rfl
theorem kw10 : Cond.initialized "java/lang/Math" ∈ tbl := tbl_c1 (List.mem_of_getElem? (i := 10) (by decide +kernel)) rfl
theorem kw11 : Cond.classLink RL 7 RX6 ∈ tbl := tbl_c1 (List.mem_of_getElem? (i := 11) (by decide +kernel)) rfl
theorem kw12 : Cond.instantiable RX6 8 ∈ tbl := tbl_c1 (List.mem_of_getElem? (i := 12) (by decide +kernel)) rfl
theorem kw13 : Cond.methodLink RL 9 yX6_init ∈ tbl := tbl_c1 (List.mem_of_getElem? (i := 13) (by decide +kernel)) rfl
theorem kw14 : Cond.instanceMethod yX6_init ∈ tbl := tbl_c1 (List.mem_of_getElem? (i := 14) (by decide +kernel)) rfl
theorem kw15 : Cond.code yX6_init cX6_init 1 none ∈ tbl := tbl_c1 (List.mem_of_getElem? (i := 15) rfl) rfl
theorem kw16 : Cond.methodLink RX6 1 objectInit ∈ tbl := tbl_c1 (List.mem_of_getElem? (i := 16) (by decide +kernel)) rfl
theorem kw17 : Cond.instanceMethod objectInit ∈ tbl := tbl_c1 (List.mem_of_getElem? (i := 17) (by decide +kernel)) rfl
theorem kw18 : Cond.code objectInit object_method_1_code 1 none ∈ tbl := tbl_c1 (List.mem_of_getElem? (i := 18) rfl) rfl
theorem kw19 : Cond.classLink RX6 7 RX3 ∈ tbl := tbl_c1 (List.mem_of_getElem? (i := 19) (by decide +kernel)) rfl
theorem kw20 : Cond.instantiable RX3 12 ∈ tbl := tbl_c1 (List.mem_of_getElem? (i := 20) (by decide +kernel)) rfl
theorem kw22 : Cond.instanceMethod yX3_init ∈ tbl := tbl_c1 (List.mem_of_getElem? (i := 22) (by decide +kernel)) rfl
theorem kw23 : Cond.code yX3_init cX3_init 1 none ∈ tbl := tbl_c1 (List.mem_of_getElem? (i := 23) rfl) rfl
theorem kw24 : Cond.methodLink RX3 3 objectInit ∈ tbl := tbl_c1 (List.mem_of_getElem? (i := 24) (by decide +kernel)) rfl
theorem kw25 : Cond.classLink RX3 9 RX0 ∈ tbl := tbl_c1 (List.mem_of_getElem? (i := 25) (by decide +kernel)) rfl
theorem kw26 : Cond.instantiable RX0 8 ∈ tbl := tbl_c1 (List.mem_of_getElem? (i := 26) (by decide +kernel)) rfl
theorem kw28 : Cond.instanceMethod yX0_init ∈ tbl := tbl_c1 (List.mem_of_getElem? (i := 28) (by decide +kernel)) rfl
theorem kw29 : Cond.code yX0_init cX0_init 1 none ∈ tbl := tbl_c1 (List.mem_of_getElem? (i := 29) rfl) rfl
theorem kw30 : Cond.methodLink RX0 3 objectInit ∈ tbl := tbl_c1 (List.mem_of_getElem? (i := 30) (by decide +kernel)) rfl
theorem kw31 : Cond.fieldLink RX0 9 "HarbourMud$Cells" "number" "I" ∈ tbl := tbl_c1 (List.mem_of_getElem? (i := 31) (by decide +kernel)) rfl
theorem kw32 : Cond.fieldLink RX6 147 "HarbourMud$Cells" "number" "I" ∈ tbl := tbl_c1 (List.mem_of_getElem? (i := 32) (by decide +kernel)) rfl
theorem kw33 : Cond.fieldLink RX0 15 "HarbourMud$Cells" "base" "[I" ∈ tbl := tbl_c1 (List.mem_of_getElem? (i := 33) (by decide +kernel)) rfl
theorem kw34 : Cond.fieldLink RX0 19 "HarbourMud$Cells" "wanted" "[I" ∈ tbl := tbl_c1 (List.mem_of_getElem? (i := 34) (by decide +kernel)) rfl
theorem kw35 : Cond.fieldLink RX0 22 "HarbourMud$Cells" "settles" "[I" ∈ tbl := tbl_c1 (List.mem_of_getElem? (i := 35) (by decide +kernel)) rfl
theorem kw36 : Cond.fieldLink RX0 25 "HarbourMud$Cells" "stirs" "[I" ∈ tbl := tbl_c1 (List.mem_of_getElem? (i := 36) (by decide +kernel)) rfl
theorem kw37 : Cond.fieldLink RX0 28 "HarbourMud$Cells" "price" "[I" ∈ tbl := tbl_c1 (List.mem_of_getElem? (i := 37) (by decide +kernel)) rfl
theorem kw38 : Cond.fieldLink RX0 31 "HarbourMud$Cells" "loose" "[I" ∈ tbl := tbl_c1 (List.mem_of_getElem? (i := 38) (by decide +kernel)) rfl
theorem kw39 : Cond.fieldLink RX3 130 "HarbourMud$Cells" "loose" "[I" ∈ tbl := tbl_c1 (List.mem_of_getElem? (i := 39) (by decide +kernel)) rfl
theorem kw40 : Cond.fieldLink RX0 34 "HarbourMud$Cells" "settled" "[I" ∈ tbl := tbl_c1 (List.mem_of_getElem? (i := 40) (by decide +kernel)) rfl
theorem kw41 : Cond.fieldLink RX3 200 "HarbourMud$Cells" "settled" "[I" ∈ tbl := tbl_c1 (List.mem_of_getElem? (i := 41) (by decide +kernel)) rfl
theorem kw59 : Cond.arrayClass .int ∈ tbl := tbl_c1 (List.mem_of_getElem? (i := 59) (by decide +kernel)) rfl
theorem kw60 : Cond.classLink RX3 18 RX5 ∈ tbl := tbl_c1 (List.mem_of_getElem? (i := 60) (by decide +kernel)) rfl
theorem kw61 : Cond.instantiable RX5 7 ∈ tbl := tbl_c1 (List.mem_of_getElem? (i := 61) (by decide +kernel)) rfl
theorem kw63 : Cond.instanceMethod yX5_init ∈ tbl := tbl_c1 (List.mem_of_getElem? (i := 63) (by decide +kernel)) rfl
theorem kw64 : Cond.code yX5_init cX5_init 1 none ∈ tbl := tbl_c1 (List.mem_of_getElem? (i := 64) rfl) rfl
theorem kw65 : Cond.methodLink RX5 3 objectInit ∈ tbl := tbl_c1 (List.mem_of_getElem? (i := 65) (by decide +kernel)) rfl
theorem kw66 : Cond.fieldLink RX5 9 "HarbourMud$Ways" "number" "I" ∈ tbl := tbl_c1 (List.mem_of_getElem? (i := 66) (by decide +kernel)) rfl
theorem kw67 : Cond.fieldLink RX3 139 "HarbourMud$Ways" "number" "I" ∈ tbl := tbl_c1 (List.mem_of_getElem? (i := 67) (by decide +kernel)) rfl
theorem kw68 : Cond.fieldLink RX6 195 "HarbourMud$Ways" "number" "I" ∈ tbl := tbl_c1 (List.mem_of_getElem? (i := 68) (by decide +kernel)) rfl
theorem kw69 : Cond.fieldLink RX5 15 "HarbourMud$Ways" "from" "[I" ∈ tbl := tbl_c1 (List.mem_of_getElem? (i := 69) (by decide +kernel)) rfl
theorem kw70 : Cond.fieldLink RX3 151 "HarbourMud$Ways" "from" "[I" ∈ tbl := tbl_c1 (List.mem_of_getElem? (i := 70) (by decide +kernel)) rfl
theorem kw71 : Cond.fieldLink RX5 19 "HarbourMud$Ways" "to" "[I" ∈ tbl := tbl_c1 (List.mem_of_getElem? (i := 71) (by decide +kernel)) rfl
theorem kw72 : Cond.fieldLink RX3 164 "HarbourMud$Ways" "to" "[I" ∈ tbl := tbl_c1 (List.mem_of_getElem? (i := 72) (by decide +kernel)) rfl
theorem kw73 : Cond.fieldLink RX5 22 "HarbourMud$Ways" "kind" "[I" ∈ tbl := tbl_c1 (List.mem_of_getElem? (i := 73) (by decide +kernel)) rfl
theorem kw74 : Cond.fieldLink RX3 142 "HarbourMud$Ways" "kind" "[I" ∈ tbl := tbl_c1 (List.mem_of_getElem? (i := 74) (by decide +kernel)) rfl
theorem kw75 : Cond.fieldLink RX5 25 "HarbourMud$Ways" "stuff" "[I" ∈ tbl := tbl_c1 (List.mem_of_getElem? (i := 75) (by decide +kernel)) rfl
theorem kw76 : Cond.fieldLink RX3 148 "HarbourMud$Ways" "stuff" "[I" ∈ tbl := tbl_c1 (List.mem_of_getElem? (i := 76) (by decide +kernel)) rfl
theorem kw77 : Cond.fieldLink RX5 28 "HarbourMud$Ways" "hundredths" "[I" ∈ tbl := tbl_c1 (List.mem_of_getElem? (i := 77) (by decide +kernel)) rfl
theorem kw78 : Cond.fieldLink RX3 158 "HarbourMud$Ways" "hundredths" "[I" ∈ tbl := tbl_c1 (List.mem_of_getElem? (i := 78) (by decide +kernel)) rfl
theorem kw79 : Cond.fieldLink RX5 31 "HarbourMud$Ways" "shutBits" "I" ∈ tbl := tbl_c1 (List.mem_of_getElem? (i := 79) (by decide +kernel)) rfl
theorem kw95 : Cond.classLink RX3 25 RX4 ∈ tbl := tbl_c1 (List.mem_of_getElem? (i := 95) (by decide +kernel)) rfl
theorem kw96 : Cond.instantiable RX4 4 ∈ tbl := tbl_c1 (List.mem_of_getElem? (i := 96) (by decide +kernel)) rfl
theorem kw98 : Cond.instanceMethod yX4_init ∈ tbl := tbl_c1 (List.mem_of_getElem? (i := 98) (by decide +kernel)) rfl
theorem kw99 : Cond.code yX4_init cX4_init 1 none ∈ tbl := tbl_c1 (List.mem_of_getElem? (i := 99) rfl) rfl
theorem kw100 : Cond.methodLink RX4 3 objectInit ∈ tbl := tbl_c1 (List.mem_of_getElem? (i := 100) (by decide +kernel)) rfl
theorem kw101 : Cond.fieldLink RX4 9 "HarbourMud$Rivers" "number" "I" ∈ tbl := tbl_c1 (List.mem_of_getElem? (i := 101) (by decide +kernel)) rfl
theorem kw102 : Cond.fieldLink RX3 171 "HarbourMud$Rivers" "number" "I" ∈ tbl := tbl_c1 (List.mem_of_getElem? (i := 102) (by decide +kernel)) rfl
theorem kw103 : Cond.fieldLink RX6 226 "HarbourMud$Rivers" "number" "I" ∈ tbl := tbl_c1 (List.mem_of_getElem? (i := 103) (by decide +kernel)) rfl
theorem kw104 : Cond.fieldLink RX4 15 "HarbourMud$Rivers" "cell" "[I" ∈ tbl := tbl_c1 (List.mem_of_getElem? (i := 104) (by decide +kernel)) rfl
theorem kw105 : Cond.fieldLink RX3 172 "HarbourMud$Rivers" "cell" "[I" ∈ tbl := tbl_c1 (List.mem_of_getElem? (i := 105) (by decide +kernel)) rfl
theorem kw106 : Cond.fieldLink RX4 19 "HarbourMud$Rivers" "stuff" "[I" ∈ tbl := tbl_c1 (List.mem_of_getElem? (i := 106) (by decide +kernel)) rfl
theorem kw107 : Cond.fieldLink RX3 175 "HarbourMud$Rivers" "stuff" "[I" ∈ tbl := tbl_c1 (List.mem_of_getElem? (i := 107) (by decide +kernel)) rfl
theorem kw108 : Cond.fieldLink RX4 22 "HarbourMud$Rivers" "tonsATide" "[I" ∈ tbl := tbl_c1 (List.mem_of_getElem? (i := 108) (by decide +kernel)) rfl
theorem kw109 : Cond.fieldLink RX3 176 "HarbourMud$Rivers" "tonsATide" "[I" ∈ tbl := tbl_c1 (List.mem_of_getElem? (i := 109) (by decide +kernel)) rfl
theorem kw110 : Cond.fieldLink RX6 206 "HarbourMud$Rivers" "tonsATide" "[I" ∈ tbl := tbl_c1 (List.mem_of_getElem? (i := 110) (by decide +kernel)) rfl
theorem kw120 : Cond.classLink RX3 32 RX2 ∈ tbl := tbl_c1 (List.mem_of_getElem? (i := 120) (by decide +kernel)) rfl
theorem kw121 : Cond.instantiable RX2 5 ∈ tbl := tbl_c1 (List.mem_of_getElem? (i := 121) (by decide +kernel)) rfl
theorem kw123 : Cond.instanceMethod yX2_init ∈ tbl := tbl_c1 (List.mem_of_getElem? (i := 123) (by decide +kernel)) rfl
theorem kw124 : Cond.code yX2_init cX2_init 1 none ∈ tbl := tbl_c1 (List.mem_of_getElem? (i := 124) rfl) rfl
theorem kw125 : Cond.methodLink RX2 3 objectInit ∈ tbl := tbl_c1 (List.mem_of_getElem? (i := 125) (by decide +kernel)) rfl
theorem kw126 : Cond.fieldLink RX2 9 "HarbourMud$Dredger" "cap" "I" ∈ tbl := tbl_c1 (List.mem_of_getElem? (i := 126) (by decide +kernel)) rfl
theorem kw127 : Cond.fieldLink RX3 197 "HarbourMud$Dredger" "cap" "I" ∈ tbl := tbl_c1 (List.mem_of_getElem? (i := 127) (by decide +kernel)) rfl
theorem kw128 : Cond.fieldLink RX6 192 "HarbourMud$Dredger" "cap" "I" ∈ tbl := tbl_c1 (List.mem_of_getElem? (i := 128) (by decide +kernel)) rfl
theorem kw129 : Cond.fieldLink RX2 15 "HarbourMud$Dredger" "drop" "I" ∈ tbl := tbl_c1 (List.mem_of_getElem? (i := 129) (by decide +kernel)) rfl
theorem kw130 : Cond.fieldLink RX3 182 "HarbourMud$Dredger" "drop" "I" ∈ tbl := tbl_c1 (List.mem_of_getElem? (i := 130) (by decide +kernel)) rfl
theorem kw131 : Cond.fieldLink RX6 157 "HarbourMud$Dredger" "drop" "I" ∈ tbl := tbl_c1 (List.mem_of_getElem? (i := 131) (by decide +kernel)) rfl
theorem kw132 : Cond.fieldLink RX2 18 "HarbourMud$Dredger" "plan" "I" ∈ tbl := tbl_c1 (List.mem_of_getElem? (i := 132) (by decide +kernel)) rfl
theorem kw133 : Cond.fieldLink RX3 179 "HarbourMud$Dredger" "plan" "I" ∈ tbl := tbl_c1 (List.mem_of_getElem? (i := 133) (by decide +kernel)) rfl
theorem kw134 : Cond.fieldLink RX6 189 "HarbourMud$Dredger" "plan" "I" ∈ tbl := tbl_c1 (List.mem_of_getElem? (i := 134) (by decide +kernel)) rfl
theorem kw135 : Cond.fieldLink RX2 21 "HarbourMud$Dredger" "toldCell" "I" ∈ tbl := tbl_c1 (List.mem_of_getElem? (i := 135) (by decide +kernel)) rfl
theorem kw136 : Cond.fieldLink RX3 187 "HarbourMud$Dredger" "toldCell" "I" ∈ tbl := tbl_c1 (List.mem_of_getElem? (i := 136) (by decide +kernel)) rfl
theorem kw137 : Cond.fieldLink RX2 24 "HarbourMud$Dredger" "fee" "I" ∈ tbl := tbl_c1 (List.mem_of_getElem? (i := 137) (by decide +kernel)) rfl
theorem kw138 : Cond.fieldLink RX3 212 "HarbourMud$Dredger" "fee" "I" ∈ tbl := tbl_c1 (List.mem_of_getElem? (i := 138) (by decide +kernel)) rfl
theorem kw150 : Cond.fieldLink RX3 12 "HarbourMud$Harbour" "cells" "LHarbourMud$Cells;" ∈ tbl := tbl_c1 (List.mem_of_getElem? (i := 150) (by decide +kernel)) rfl
theorem kw151 : Cond.fieldLink RX6 63 "HarbourMud$Harbour" "cells" "LHarbourMud$Cells;" ∈ tbl := tbl_c1 (List.mem_of_getElem? (i := 151) (by decide +kernel)) rfl
theorem kw152 : Cond.fieldLink RX1 57 "HarbourMud$Harbour" "cells" "LHarbourMud$Cells;" ∈ tbl := tbl_c1 (List.mem_of_getElem? (i := 152) (by decide +kernel)) rfl
theorem kw153 : Cond.fieldLink RX3 21 "HarbourMud$Harbour" "ways" "LHarbourMud$Ways;" ∈ tbl := tbl_c1 (List.mem_of_getElem? (i := 153) (by decide +kernel)) rfl
theorem kw154 : Cond.fieldLink RX6 88 "HarbourMud$Harbour" "ways" "LHarbourMud$Ways;" ∈ tbl := tbl_c1 (List.mem_of_getElem? (i := 154) (by decide +kernel)) rfl
theorem kw155 : Cond.fieldLink RX3 28 "HarbourMud$Harbour" "rivers" "LHarbourMud$Rivers;" ∈ tbl := tbl_c1 (List.mem_of_getElem? (i := 155) (by decide +kernel)) rfl
theorem kw156 : Cond.fieldLink RX6 196 "HarbourMud$Harbour" "rivers" "LHarbourMud$Rivers;" ∈ tbl := tbl_c1 (List.mem_of_getElem? (i := 156) (by decide +kernel)) rfl
theorem kw157 : Cond.fieldLink RX3 35 "HarbourMud$Harbour" "dredger" "LHarbourMud$Dredger;" ∈ tbl := tbl_c1 (List.mem_of_getElem? (i := 157) (by decide +kernel)) rfl
theorem kw158 : Cond.fieldLink RX6 137 "HarbourMud$Harbour" "dredger" "LHarbourMud$Dredger;" ∈ tbl := tbl_c1 (List.mem_of_getElem? (i := 158) (by decide +kernel)) rfl
theorem kw159 : Cond.fieldLink RX3 39 "HarbourMud$Harbour" "moonLength" "I" ∈ tbl := tbl_c1 (List.mem_of_getElem? (i := 159) (by decide +kernel)) rfl
theorem kw160 : Cond.fieldLink RX6 105 "HarbourMud$Harbour" "moonLength" "I" ∈ tbl := tbl_c1 (List.mem_of_getElem? (i := 160) (by decide +kernel)) rfl
theorem kw161 : Cond.fieldLink RX3 43 "HarbourMud$Harbour" "moonKinds" "I" ∈ tbl := tbl_c1 (List.mem_of_getElem? (i := 161) (by decide +kernel)) rfl
theorem kw162 : Cond.fieldLink RX3 46 "HarbourMud$Harbour" "tides" "I" ∈ tbl := tbl_c1 (List.mem_of_getElem? (i := 162) (by decide +kernel)) rfl
theorem kw163 : Cond.fieldLink RX6 166 "HarbourMud$Harbour" "tides" "I" ∈ tbl := tbl_c1 (List.mem_of_getElem? (i := 163) (by decide +kernel)) rfl
theorem kw164 : Cond.fieldLink RX3 49 "HarbourMud$Harbour" "gone" "I" ∈ tbl := tbl_c1 (List.mem_of_getElem? (i := 164) (by decide +kernel)) rfl
theorem kw165 : Cond.fieldLink RX6 230 "HarbourMud$Harbour" "gone" "I" ∈ tbl := tbl_c1 (List.mem_of_getElem? (i := 165) (by decide +kernel)) rfl
theorem kw166 : Cond.fieldLink RX3 52 "HarbourMud$Harbour" "taken" "I" ∈ tbl := tbl_c1 (List.mem_of_getElem? (i := 166) (by decide +kernel)) rfl
theorem kw167 : Cond.fieldLink RX6 233 "HarbourMud$Harbour" "taken" "I" ∈ tbl := tbl_c1 (List.mem_of_getElem? (i := 167) (by decide +kernel)) rfl
theorem kw168 : Cond.fieldLink RX3 55 "HarbourMud$Harbour" "takenLast" "I" ∈ tbl := tbl_c1 (List.mem_of_getElem? (i := 168) (by decide +kernel)) rfl
theorem kw169 : Cond.fieldLink RX6 220 "HarbourMud$Harbour" "takenLast" "I" ∈ tbl := tbl_c1 (List.mem_of_getElem? (i := 169) (by decide +kernel)) rfl
theorem kw170 : Cond.fieldLink RX3 58 "HarbourMud$Harbour" "takenToSeaLast" "I" ∈ tbl := tbl_c1 (List.mem_of_getElem? (i := 170) (by decide +kernel)) rfl
theorem kw171 : Cond.fieldLink RX3 61 "HarbourMud$Harbour" "looseBefore" "[I" ∈ tbl := tbl_c1 (List.mem_of_getElem? (i := 171) (by decide +kernel)) rfl
theorem kw197 : Cond.classLink RX6 26 RX1 ∈ tbl := tbl_c1 (List.mem_of_getElem? (i := 197) (by decide +kernel)) rfl
theorem kw198 : Cond.instantiable RX1 12 ∈ tbl := tbl_c1 (List.mem_of_getElem? (i := 198) (by decide +kernel)) rfl
theorem kw200 : Cond.instanceMethod yX1_init ∈ tbl := tbl_c1 (List.mem_of_getElem? (i := 200) (by decide +kernel)) rfl
theorem kw201 : Cond.code yX1_init cX1_init 1 none ∈ tbl := tbl_c1 (List.mem_of_getElem? (i := 201) rfl) rfl
theorem kw202 : Cond.methodLink RX1 3 objectInit ∈ tbl := tbl_c1 (List.mem_of_getElem? (i := 202) (by decide +kernel)) rfl
theorem kw203 : Cond.fieldLink RX1 9 "HarbourMud$CoastText" "length" "I" ∈ tbl := tbl_c1 (List.mem_of_getElem? (i := 203) (by decide +kernel)) rfl
theorem kw204 : Cond.fieldLink RX6 48 "HarbourMud$CoastText" "length" "I" ∈ tbl := tbl_c1 (List.mem_of_getElem? (i := 204) (by decide +kernel)) rfl
theorem kw205 : Cond.fieldLink RX1 15 "HarbourMud$CoastText" "bytes" "[I" ∈ tbl := tbl_c1 (List.mem_of_getElem? (i := 205) (by decide +kernel)) rfl
theorem kw206 : Cond.fieldLink RX1 19 "HarbourMud$CoastText" "at" "I" ∈ tbl := tbl_c1 (List.mem_of_getElem? (i := 206) (by decide +kernel)) rfl
theorem kw207 : Cond.fieldLink RX1 22 "HarbourMud$CoastText" "letter" "I" ∈ tbl := tbl_c1 (List.mem_of_getElem? (i := 207) (by decide +kernel)) rfl
theorem kw208 : Cond.fieldLink RX1 25 "HarbourMud$CoastText" "digit" "I" ∈ tbl := tbl_c1 (List.mem_of_getElem? (i := 208) (by decide +kernel)) rfl
theorem kw209 : Cond.fieldLink RX1 28 "HarbourMud$CoastText" "digitBefore" "I" ∈ tbl := tbl_c1 (List.mem_of_getElem? (i := 209) (by decide +kernel)) rfl
theorem kw210 : Cond.fieldLink RX1 31 "HarbourMud$CoastText" "kind" "I" ∈ tbl := tbl_c1 (List.mem_of_getElem? (i := 210) (by decide +kernel)) rfl
theorem kw211 : Cond.fieldLink RX1 34 "HarbourMud$CoastText" "stuff" "I" ∈ tbl := tbl_c1 (List.mem_of_getElem? (i := 211) (by decide +kernel)) rfl
theorem kw212 : Cond.fieldLink RX1 37 "HarbourMud$CoastText" "number" "I" ∈ tbl := tbl_c1 (List.mem_of_getElem? (i := 212) (by decide +kernel)) rfl
theorem kw213 : Cond.fieldLink RX1 40 "HarbourMud$CoastText" "numberBefore" "I" ∈ tbl := tbl_c1 (List.mem_of_getElem? (i := 213) (by decide +kernel)) rfl
theorem kw214 : Cond.fieldLink RX1 43 "HarbourMud$CoastText" "moonLength" "I" ∈ tbl := tbl_c1 (List.mem_of_getElem? (i := 214) (by decide +kernel)) rfl
theorem kw215 : Cond.fieldLink RX1 46 "HarbourMud$CoastText" "moonKinds" "I" ∈ tbl := tbl_c1 (List.mem_of_getElem? (i := 215) (by decide +kernel)) rfl
theorem kw241 : Cond.fieldLink RX6 10 "HarbourMud" "now" "LHarbourMud$Harbour;" ∈ tbl := tbl_c2 (List.mem_of_getElem? (i := 1) (by decide +kernel)) rfl
theorem kw242 : Cond.fieldLink RX6 16 "HarbourMud" "mind" "LHarbourMud$Harbour;" ∈ tbl := tbl_c2 (List.mem_of_getElem? (i := 2) (by decide +kernel)) rfl
theorem kw243 : Cond.fieldLink RX6 19 "HarbourMud" "kept" "LHarbourMud$Harbour;" ∈ tbl := tbl_c2 (List.mem_of_getElem? (i := 3) (by decide +kernel)) rfl
theorem kw244 : Cond.fieldLink RX6 22 "HarbourMud" "hasImage" "Z" ∈ tbl := tbl_c2 (List.mem_of_getElem? (i := 4) (by decide +kernel)) rfl
theorem kw245 : Cond.fieldLink RX6 29 "HarbourMud" "text" "LHarbourMud$CoastText;" ∈ tbl := tbl_c2 (List.mem_of_getElem? (i := 5) (by decide +kernel)) rfl
theorem kw246 : Cond.fieldLink RX6 33 "HarbourMud" "rowBytes" "[I" ∈ tbl := tbl_c2 (List.mem_of_getElem? (i := 6) (by decide +kernel)) rfl
theorem kw247 : Cond.fieldLink RX6 37 "HarbourMud" "rowLength" "I" ∈ tbl := tbl_c2 (List.mem_of_getElem? (i := 7) (by decide +kernel)) rfl
theorem kw248 : Cond.fieldLink RX6 41 "HarbourMud" "refusals" "[I" ∈ tbl := tbl_c2 (List.mem_of_getElem? (i := 8) (by decide +kernel)) rfl
theorem kw266 : Cond.methodLink RL 15 yX6_feed ∈ tbl := tbl_c2 (List.mem_of_getElem? (i := 26) (by decide +kernel)) rfl
theorem kw267 : Cond.instanceMethod yX6_feed ∈ tbl := tbl_c2 (List.mem_of_getElem? (i := 27) (by decide +kernel)) rfl
theorem kw268 : Cond.selects RX6 yX6_feed yX6_feed ∈ tbl := tbl_c2 (List.mem_of_getElem? (i := 28) (by decide +kernel)) rfl
theorem kw269 : Cond.code yX6_feed cX6_feed 5 (some .int) ∈ tbl := tbl_c2 (List.mem_of_getElem? (i := 29) rfl) rfl
theorem kw270 : Cond.methodLink RX6 44 yX6_refuse ∈ tbl := tbl_c2 (List.mem_of_getElem? (i := 30) (by decide +kernel)) rfl
theorem kw272 : Cond.instanceMethod yX6_refuse ∈ tbl := tbl_c2 (List.mem_of_getElem? (i := 32) (by decide +kernel)) rfl
theorem kw273 : Cond.code yX6_refuse cX6_refuse 3 (some .int) ∈ tbl := tbl_c2 (List.mem_of_getElem? (i := 33) rfl) rfl
theorem kw274 : Cond.methodLink RX6 51 yX1_append ∈ tbl := tbl_c2 (List.mem_of_getElem? (i := 34) (by decide +kernel)) rfl
theorem kw275 : Cond.instanceMethod yX1_append ∈ tbl := tbl_c2 (List.mem_of_getElem? (i := 35) (by decide +kernel)) rfl
theorem kw276 : Cond.selects RX1 yX1_append yX1_append ∈ tbl := tbl_c2 (List.mem_of_getElem? (i := 36) (by decide +kernel)) rfl
theorem kw277 : Cond.code yX1_append cX1_append 2 none ∈ tbl := tbl_c2 (List.mem_of_getElem? (i := 37) rfl) rfl
theorem kw278 : Cond.methodLink RL 20 yX6_coast ∈ tbl := tbl_c2 (List.mem_of_getElem? (i := 38) (by decide +kernel)) rfl
theorem kw279 : Cond.instanceMethod yX6_coast ∈ tbl := tbl_c2 (List.mem_of_getElem? (i := 39) (by decide +kernel)) rfl
theorem kw280 : Cond.selects RX6 yX6_coast yX6_coast ∈ tbl := tbl_c2 (List.mem_of_getElem? (i := 40) (by decide +kernel)) rfl
theorem kw281 : Cond.code yX6_coast cX6_coast 2 (some .int) ∈ tbl := tbl_c2 (List.mem_of_getElem? (i := 41) rfl) rfl
theorem kw282 : Cond.methodLink RX6 55 yX3_become ∈ tbl := tbl_c2 (List.mem_of_getElem? (i := 42) (by decide +kernel)) rfl
theorem kw283 : Cond.instanceMethod yX3_become ∈ tbl := tbl_c2 (List.mem_of_getElem? (i := 43) (by decide +kernel)) rfl
theorem kw284 : Cond.selects RX3 yX3_become yX3_become ∈ tbl := tbl_c2 (List.mem_of_getElem? (i := 44) (by decide +kernel)) rfl
theorem kw285 : Cond.code yX3_become cX3_become 2 none ∈ tbl := tbl_c2 (List.mem_of_getElem? (i := 45) rfl) rfl
theorem kw286 : Cond.methodLink RX3 65 yX0_become ∈ tbl := tbl_c2 (List.mem_of_getElem? (i := 46) (by decide +kernel)) rfl
theorem kw287 : Cond.instanceMethod yX0_become ∈ tbl := tbl_c2 (List.mem_of_getElem? (i := 47) (by decide +kernel)) rfl
theorem kw288 : Cond.selects RX0 yX0_become yX0_become ∈ tbl := tbl_c2 (List.mem_of_getElem? (i := 48) (by decide +kernel)) rfl
theorem kw289 : Cond.code yX0_become cX0_become 2 none ∈ tbl := tbl_c2 (List.mem_of_getElem? (i := 49) rfl) rfl
theorem kw290 : Cond.methodLink RX0 37 arraycopyName ∈ tbl := tbl_c2 (List.mem_of_getElem? (i := 50) (by decide +kernel)) rfl
theorem kw291 : Cond.static arraycopyName ∈ tbl := tbl_c2 (List.mem_of_getElem? (i := 51) (by decide +kernel)) rfl
theorem kw292 : Cond.native arraycopyName ∈ tbl := tbl_c2 (List.mem_of_getElem? (i := 52) (by decide +kernel)) rfl
theorem kw293 : Cond.methodLink RX3 69 yX5_become ∈ tbl := tbl_c2 (List.mem_of_getElem? (i := 53) (by decide +kernel)) rfl
theorem kw294 : Cond.instanceMethod yX5_become ∈ tbl := tbl_c2 (List.mem_of_getElem? (i := 54) (by decide +kernel)) rfl
theorem kw295 : Cond.selects RX5 yX5_become yX5_become ∈ tbl := tbl_c2 (List.mem_of_getElem? (i := 55) (by decide +kernel)) rfl
theorem kw296 : Cond.code yX5_become cX5_become 2 none ∈ tbl := tbl_c2 (List.mem_of_getElem? (i := 56) rfl) rfl
theorem kw297 : Cond.methodLink RX5 34 arraycopyName ∈ tbl := tbl_c2 (List.mem_of_getElem? (i := 57) (by decide +kernel)) rfl
theorem kw298 : Cond.methodLink RX3 72 yX4_become ∈ tbl := tbl_c2 (List.mem_of_getElem? (i := 58) (by decide +kernel)) rfl
theorem kw299 : Cond.instanceMethod yX4_become ∈ tbl := tbl_c2 (List.mem_of_getElem? (i := 59) (by decide +kernel)) rfl
theorem kw300 : Cond.selects RX4 yX4_become yX4_become ∈ tbl := tbl_c2 (List.mem_of_getElem? (i := 60) (by decide +kernel)) rfl
theorem kw301 : Cond.code yX4_become cX4_become 2 none ∈ tbl := tbl_c2 (List.mem_of_getElem? (i := 61) rfl) rfl
theorem kw302 : Cond.methodLink RX4 25 arraycopyName ∈ tbl := tbl_c2 (List.mem_of_getElem? (i := 62) (by decide +kernel)) rfl
theorem kw303 : Cond.methodLink RX3 75 yX2_become ∈ tbl := tbl_c2 (List.mem_of_getElem? (i := 63) (by decide +kernel)) rfl
theorem kw304 : Cond.instanceMethod yX2_become ∈ tbl := tbl_c2 (List.mem_of_getElem? (i := 64) (by decide +kernel)) rfl
theorem kw305 : Cond.selects RX2 yX2_become yX2_become ∈ tbl := tbl_c2 (List.mem_of_getElem? (i := 65) (by decide +kernel)) rfl
theorem kw306 : Cond.code yX2_become cX2_become 2 none ∈ tbl := tbl_c2 (List.mem_of_getElem? (i := 66) rfl) rfl
theorem kw307 : Cond.methodLink RX6 59 yX1_readInto ∈ tbl := tbl_c2 (List.mem_of_getElem? (i := 67) (by decide +kernel)) rfl
theorem kw308 : Cond.instanceMethod yX1_readInto ∈ tbl := tbl_c2 (List.mem_of_getElem? (i := 68) (by decide +kernel)) rfl
theorem kw309 : Cond.selects RX1 yX1_readInto yX1_readInto ∈ tbl := tbl_c2 (List.mem_of_getElem? (i := 69) (by decide +kernel)) rfl
theorem kw310 : Cond.code yX1_readInto cX1_readInto 5 (some .int) ∈ tbl := tbl_c2 (List.mem_of_getElem? (i := 70) rfl) rfl
theorem kw311 : Cond.methodLink RX1 49 yX1_readStatement ∈ tbl := tbl_c2 (List.mem_of_getElem? (i := 71) (by decide +kernel)) rfl
theorem kw313 : Cond.instanceMethod yX1_readStatement ∈ tbl := tbl_c2 (List.mem_of_getElem? (i := 73) (by decide +kernel)) rfl
theorem kw314 : Cond.code yX1_readStatement cX1_readStatement 1 (some .boolean) ∈ tbl := tbl_c2 (List.mem_of_getElem? (i := 74) rfl) rfl
theorem kw315 : Cond.methodLink RX1 81 yX1_byteHere ∈ tbl := tbl_c2 (List.mem_of_getElem? (i := 75) (by decide +kernel)) rfl
theorem kw317 : Cond.instanceMethod yX1_byteHere ∈ tbl := tbl_c2 (List.mem_of_getElem? (i := 77) (by decide +kernel)) rfl
theorem kw318 : Cond.code yX1_byteHere cX1_byteHere 1 (some .int) ∈ tbl := tbl_c2 (List.mem_of_getElem? (i := 78) rfl) rfl
theorem kw319 : Cond.methodLink RX1 85 yX1_readNumber ∈ tbl := tbl_c2 (List.mem_of_getElem? (i := 79) (by decide +kernel)) rfl
theorem kw321 : Cond.instanceMethod yX1_readNumber ∈ tbl := tbl_c2 (List.mem_of_getElem? (i := 81) (by decide +kernel)) rfl
theorem kw322 : Cond.code yX1_readNumber cX1_readNumber 4 (some .boolean) ∈ tbl := tbl_c2 (List.mem_of_getElem? (i := 82) rfl) rfl
theorem kw323 : Cond.methodLink RX1 104 yX1_digitIsHere ∈ tbl := tbl_c2 (List.mem_of_getElem? (i := 83) (by decide +kernel)) rfl
theorem kw325 : Cond.instanceMethod yX1_digitIsHere ∈ tbl := tbl_c2 (List.mem_of_getElem? (i := 85) (by decide +kernel)) rfl
theorem kw326 : Cond.code yX1_digitIsHere cX1_digitIsHere 1 (some .boolean) ∈ tbl := tbl_c2 (List.mem_of_getElem? (i := 86) rfl) rfl
theorem kw327 : Cond.methodLink RX1 88 yX1_readSign ∈ tbl := tbl_c2 (List.mem_of_getElem? (i := 87) (by decide +kernel)) rfl
theorem kw329 : Cond.instanceMethod yX1_readSign ∈ tbl := tbl_c2 (List.mem_of_getElem? (i := 89) (by decide +kernel)) rfl
theorem kw330 : Cond.code yX1_readSign cX1_readSign 2 (some .boolean) ∈ tbl := tbl_c2 (List.mem_of_getElem? (i := 90) rfl) rfl
theorem kw331 : Cond.methodLink RX1 92 yX1_readDigit ∈ tbl := tbl_c2 (List.mem_of_getElem? (i := 91) (by decide +kernel)) rfl
theorem kw333 : Cond.instanceMethod yX1_readDigit ∈ tbl := tbl_c2 (List.mem_of_getElem? (i := 93) (by decide +kernel)) rfl
theorem kw334 : Cond.code yX1_readDigit cX1_readDigit 1 (some .boolean) ∈ tbl := tbl_c2 (List.mem_of_getElem? (i := 94) rfl) rfl
theorem kw335 : Cond.methodLink RX1 95 yX1_readKind ∈ tbl := tbl_c2 (List.mem_of_getElem? (i := 95) (by decide +kernel)) rfl
theorem kw337 : Cond.instanceMethod yX1_readKind ∈ tbl := tbl_c2 (List.mem_of_getElem? (i := 97) (by decide +kernel)) rfl
theorem kw338 : Cond.code yX1_readKind cX1_readKind 1 (some .boolean) ∈ tbl := tbl_c2 (List.mem_of_getElem? (i := 98) rfl) rfl
theorem kw339 : Cond.methodLink RX1 98 yX1_readStuff ∈ tbl := tbl_c2 (List.mem_of_getElem? (i := 99) (by decide +kernel)) rfl
theorem kw341 : Cond.instanceMethod yX1_readStuff ∈ tbl := tbl_c2 (List.mem_of_getElem? (i := 101) (by decide +kernel)) rfl
theorem kw342 : Cond.code yX1_readStuff cX1_readStuff 1 (some .boolean) ∈ tbl := tbl_c2 (List.mem_of_getElem? (i := 102) rfl) rfl
theorem kw343 : Cond.methodLink RX1 101 yX1_readMoon ∈ tbl := tbl_c2 (List.mem_of_getElem? (i := 103) (by decide +kernel)) rfl
theorem kw345 : Cond.instanceMethod yX1_readMoon ∈ tbl := tbl_c2 (List.mem_of_getElem? (i := 105) (by decide +kernel)) rfl
theorem kw346 : Cond.code yX1_readMoon cX1_readMoon 2 (some .boolean) ∈ tbl := tbl_c2 (List.mem_of_getElem? (i := 106) rfl) rfl
theorem kw347 : Cond.methodLink RX1 53 yX1_giveTo ∈ tbl := tbl_c2 (List.mem_of_getElem? (i := 107) (by decide +kernel)) rfl
theorem kw349 : Cond.instanceMethod yX1_giveTo ∈ tbl := tbl_c2 (List.mem_of_getElem? (i := 109) (by decide +kernel)) rfl
theorem kw350 : Cond.code yX1_giveTo cX1_giveTo 2 (some .boolean) ∈ tbl := tbl_c2 (List.mem_of_getElem? (i := 110) rfl) rfl
theorem kw351 : Cond.methodLink RX1 63 yX0_add ∈ tbl := tbl_c2 (List.mem_of_getElem? (i := 111) (by decide +kernel)) rfl
theorem kw352 : Cond.instanceMethod yX0_add ∈ tbl := tbl_c2 (List.mem_of_getElem? (i := 112) (by decide +kernel)) rfl
theorem kw353 : Cond.selects RX0 yX0_add yX0_add ∈ tbl := tbl_c2 (List.mem_of_getElem? (i := 113) (by decide +kernel)) rfl
theorem kw354 : Cond.code yX0_add cX0_add 4 (some .int) ∈ tbl := tbl_c2 (List.mem_of_getElem? (i := 114) rfl) rfl
theorem kw355 : Cond.methodLink RX1 69 yX3_addWay ∈ tbl := tbl_c2 (List.mem_of_getElem? (i := 115) (by decide +kernel)) rfl
theorem kw356 : Cond.instanceMethod yX3_addWay ∈ tbl := tbl_c2 (List.mem_of_getElem? (i := 116) (by decide +kernel)) rfl
theorem kw357 : Cond.selects RX3 yX3_addWay yX3_addWay ∈ tbl := tbl_c2 (List.mem_of_getElem? (i := 117) (by decide +kernel)) rfl
theorem kw358 : Cond.code yX3_addWay cX3_addWay 6 (some .int) ∈ tbl := tbl_c2 (List.mem_of_getElem? (i := 118) rfl) rfl
theorem kw359 : Cond.methodLink RX3 78 yX0_has ∈ tbl := tbl_c2 (List.mem_of_getElem? (i := 119) (by decide +kernel)) rfl
theorem kw360 : Cond.instanceMethod yX0_has ∈ tbl := tbl_c2 (List.mem_of_getElem? (i := 120) (by decide +kernel)) rfl
theorem kw361 : Cond.selects RX0 yX0_has yX0_has ∈ tbl := tbl_c2 (List.mem_of_getElem? (i := 121) (by decide +kernel)) rfl
theorem kw362 : Cond.code yX0_has cX0_has 2 (some .boolean) ∈ tbl := tbl_c2 (List.mem_of_getElem? (i := 122) rfl) rfl
theorem kw364 : Cond.static yX6_isKind ∈ tbl := tbl_c2 (List.mem_of_getElem? (i := 124) (by decide +kernel)) rfl
theorem kw365 : Cond.code yX6_isKind cX6_isKind 1 (some .boolean) ∈ tbl := tbl_c2 (List.mem_of_getElem? (i := 125) rfl) rfl
theorem kw367 : Cond.static yX6_isStuff ∈ tbl := tbl_c2 (List.mem_of_getElem? (i := 127) (by decide +kernel)) rfl
theorem kw368 : Cond.code yX6_isStuff cX6_isStuff 1 (some .boolean) ∈ tbl := tbl_c2 (List.mem_of_getElem? (i := 128) rfl) rfl
theorem kw369 : Cond.methodLink RX3 88 yX5_isFull ∈ tbl := tbl_c2 (List.mem_of_getElem? (i := 129) (by decide +kernel)) rfl
theorem kw370 : Cond.instanceMethod yX5_isFull ∈ tbl := tbl_c2 (List.mem_of_getElem? (i := 130) (by decide +kernel)) rfl
theorem kw371 : Cond.selects RX5 yX5_isFull yX5_isFull ∈ tbl := tbl_c2 (List.mem_of_getElem? (i := 131) (by decide +kernel)) rfl
theorem kw372 : Cond.code yX5_isFull cX5_isFull 1 (some .boolean) ∈ tbl := tbl_c2 (List.mem_of_getElem? (i := 132) rfl) rfl
theorem kw373 : Cond.methodLink RX3 92 yX5_together ∈ tbl := tbl_c2 (List.mem_of_getElem? (i := 133) (by decide +kernel)) rfl
theorem kw374 : Cond.instanceMethod yX5_together ∈ tbl := tbl_c2 (List.mem_of_getElem? (i := 134) (by decide +kernel)) rfl
theorem kw375 : Cond.selects RX5 yX5_together yX5_together ∈ tbl := tbl_c2 (List.mem_of_getElem? (i := 135) (by decide +kernel)) rfl
theorem kw376 : Cond.code yX5_together cX5_together 6 (some .int) ∈ tbl := tbl_c2 (List.mem_of_getElem? (i := 136) rfl) rfl
theorem kw377 : Cond.methodLink RX3 96 yX5_add ∈ tbl := tbl_c2 (List.mem_of_getElem? (i := 137) (by decide +kernel)) rfl
theorem kw378 : Cond.instanceMethod yX5_add ∈ tbl := tbl_c2 (List.mem_of_getElem? (i := 138) (by decide +kernel)) rfl
theorem kw379 : Cond.selects RX5 yX5_add yX5_add ∈ tbl := tbl_c2 (List.mem_of_getElem? (i := 139) (by decide +kernel)) rfl
theorem kw380 : Cond.code yX5_add cX5_add 7 (some .int) ∈ tbl := tbl_c2 (List.mem_of_getElem? (i := 140) rfl) rfl
theorem kw381 : Cond.methodLink RX5 40 yX5_isFull ∈ tbl := tbl_c2 (List.mem_of_getElem? (i := 141) (by decide +kernel)) rfl
theorem kw382 : Cond.methodLink RX1 73 yX3_addRiver ∈ tbl := tbl_c2 (List.mem_of_getElem? (i := 142) (by decide +kernel)) rfl
theorem kw383 : Cond.instanceMethod yX3_addRiver ∈ tbl := tbl_c2 (List.mem_of_getElem? (i := 143) (by decide +kernel)) rfl
theorem kw384 : Cond.selects RX3 yX3_addRiver yX3_addRiver ∈ tbl := tbl_c2 (List.mem_of_getElem? (i := 144) (by decide +kernel)) rfl
theorem kw385 : Cond.code yX3_addRiver cX3_addRiver 4 (some .int) ∈ tbl := tbl_c2 (List.mem_of_getElem? (i := 145) rfl) rfl
theorem kw386 : Cond.methodLink RX3 100 yX4_isFull ∈ tbl := tbl_c2 (List.mem_of_getElem? (i := 146) (by decide +kernel)) rfl
theorem kw387 : Cond.instanceMethod yX4_isFull ∈ tbl := tbl_c2 (List.mem_of_getElem? (i := 147) (by decide +kernel)) rfl
theorem kw388 : Cond.selects RX4 yX4_isFull yX4_isFull ∈ tbl := tbl_c2 (List.mem_of_getElem? (i := 148) (by decide +kernel)) rfl
theorem kw389 : Cond.code yX4_isFull cX4_isFull 1 (some .boolean) ∈ tbl := tbl_c2 (List.mem_of_getElem? (i := 149) rfl) rfl
theorem kw390 : Cond.methodLink RX3 101 yX4_add ∈ tbl := tbl_c2 (List.mem_of_getElem? (i := 150) (by decide +kernel)) rfl
theorem kw391 : Cond.instanceMethod yX4_add ∈ tbl := tbl_c2 (List.mem_of_getElem? (i := 151) (by decide +kernel)) rfl
theorem kw392 : Cond.selects RX4 yX4_add yX4_add ∈ tbl := tbl_c2 (List.mem_of_getElem? (i := 152) (by decide +kernel)) rfl
theorem kw393 : Cond.code yX4_add cX4_add 5 (some .int) ∈ tbl := tbl_c2 (List.mem_of_getElem? (i := 153) rfl) rfl
theorem kw394 : Cond.methodLink RX4 31 yX4_isFull ∈ tbl := tbl_c2 (List.mem_of_getElem? (i := 154) (by decide +kernel)) rfl
theorem kw395 : Cond.methodLink RX1 77 yX3_changeMoon ∈ tbl := tbl_c2 (List.mem_of_getElem? (i := 155) (by decide +kernel)) rfl
theorem kw396 : Cond.instanceMethod yX3_changeMoon ∈ tbl := tbl_c2 (List.mem_of_getElem? (i := 156) (by decide +kernel)) rfl
theorem kw397 : Cond.selects RX3 yX3_changeMoon yX3_changeMoon ∈ tbl := tbl_c2 (List.mem_of_getElem? (i := 157) (by decide +kernel)) rfl
theorem kw398 : Cond.code yX3_changeMoon cX3_changeMoon 3 none ∈ tbl := tbl_c2 (List.mem_of_getElem? (i := 158) rfl) rfl
theorem kw399 : Cond.methodLink RL 25 yX6_cell ∈ tbl := tbl_c2 (List.mem_of_getElem? (i := 159) (by decide +kernel)) rfl
theorem kw400 : Cond.instanceMethod yX6_cell ∈ tbl := tbl_c2 (List.mem_of_getElem? (i := 160) (by decide +kernel)) rfl
theorem kw401 : Cond.selects RX6 yX6_cell yX6_cell ∈ tbl := tbl_c2 (List.mem_of_getElem? (i := 161) (by decide +kernel)) rfl
theorem kw402 : Cond.code yX6_cell cX6_cell 3 (some .int) ∈ tbl := tbl_c2 (List.mem_of_getElem? (i := 162) rfl) rfl
theorem kw403 : Cond.methodLink RX6 67 yX0_add ∈ tbl := tbl_c2 (List.mem_of_getElem? (i := 163) (by decide +kernel)) rfl
theorem kw404 : Cond.methodLink RX6 73 yX6_refuseIfBelow0 ∈ tbl := tbl_c2 (List.mem_of_getElem? (i := 164) (by decide +kernel)) rfl
theorem kw406 : Cond.instanceMethod yX6_refuseIfBelow0 ∈ tbl := tbl_c2 (List.mem_of_getElem? (i := 166) (by decide +kernel)) rfl
theorem kw407 : Cond.code yX6_refuseIfBelow0 cX6_refuseIfBelow0 2 (some .int) ∈ tbl := tbl_c2 (List.mem_of_getElem? (i := 167) rfl) rfl
theorem kw408 : Cond.methodLink RL 30 yX6_set ∈ tbl := tbl_c2 (List.mem_of_getElem? (i := 168) (by decide +kernel)) rfl
theorem kw409 : Cond.instanceMethod yX6_set ∈ tbl := tbl_c2 (List.mem_of_getElem? (i := 169) (by decide +kernel)) rfl
theorem kw410 : Cond.selects RX6 yX6_set yX6_set ∈ tbl := tbl_c2 (List.mem_of_getElem? (i := 170) (by decide +kernel)) rfl
theorem kw411 : Cond.code yX6_set cX6_set 6 (some .int) ∈ tbl := tbl_c2 (List.mem_of_getElem? (i := 171) rfl) rfl
theorem kw412 : Cond.methodLink RX6 76 yX0_has ∈ tbl := tbl_c2 (List.mem_of_getElem? (i := 172) (by decide +kernel)) rfl
theorem kw413 : Cond.methodLink RX6 80 yX0_valuesOf ∈ tbl := tbl_c2 (List.mem_of_getElem? (i := 173) (by decide +kernel)) rfl
theorem kw414 : Cond.instanceMethod yX0_valuesOf ∈ tbl := tbl_c2 (List.mem_of_getElem? (i := 174) (by decide +kernel)) rfl
theorem kw415 : Cond.selects RX0 yX0_valuesOf yX0_valuesOf ∈ tbl := tbl_c2 (List.mem_of_getElem? (i := 175) (by decide +kernel)) rfl
theorem kw416 : Cond.code yX0_valuesOf cX0_valuesOf 2 (some (.array .int)) ∈ tbl := tbl_c2 (List.mem_of_getElem? (i := 176) rfl) rfl
theorem kw417 : Cond.methodLink RL 35 yX6_way ∈ tbl := tbl_c2 (List.mem_of_getElem? (i := 177) (by decide +kernel)) rfl
theorem kw418 : Cond.instanceMethod yX6_way ∈ tbl := tbl_c2 (List.mem_of_getElem? (i := 178) (by decide +kernel)) rfl
theorem kw419 : Cond.selects RX6 yX6_way yX6_way ∈ tbl := tbl_c2 (List.mem_of_getElem? (i := 179) (by decide +kernel)) rfl
theorem kw420 : Cond.code yX6_way cX6_way 5 (some .int) ∈ tbl := tbl_c2 (List.mem_of_getElem? (i := 180) rfl) rfl
theorem kw421 : Cond.methodLink RX6 84 yX3_addWay ∈ tbl := tbl_c2 (List.mem_of_getElem? (i := 181) (by decide +kernel)) rfl
theorem kw422 : Cond.methodLink RL 40 yX6_shut ∈ tbl := tbl_c2 (List.mem_of_getElem? (i := 182) (by decide +kernel)) rfl
theorem kw423 : Cond.instanceMethod yX6_shut ∈ tbl := tbl_c2 (List.mem_of_getElem? (i := 183) (by decide +kernel)) rfl
theorem kw424 : Cond.selects RX6 yX6_shut yX6_shut ∈ tbl := tbl_c2 (List.mem_of_getElem? (i := 184) (by decide +kernel)) rfl
theorem kw425 : Cond.code yX6_shut cX6_shut 3 (some .int) ∈ tbl := tbl_c2 (List.mem_of_getElem? (i := 185) rfl) rfl
theorem kw426 : Cond.methodLink RX6 92 yX5_has ∈ tbl := tbl_c2 (List.mem_of_getElem? (i := 186) (by decide +kernel)) rfl
theorem kw427 : Cond.instanceMethod yX5_has ∈ tbl := tbl_c2 (List.mem_of_getElem? (i := 187) (by decide +kernel)) rfl
theorem kw428 : Cond.selects RX5 yX5_has yX5_has ∈ tbl := tbl_c2 (List.mem_of_getElem? (i := 188) (by decide +kernel)) rfl
theorem kw429 : Cond.code yX5_has cX5_has 2 (some .boolean) ∈ tbl := tbl_c2 (List.mem_of_getElem? (i := 189) rfl) rfl
theorem kw430 : Cond.methodLink RX6 95 yX5_isShut ∈ tbl := tbl_c2 (List.mem_of_getElem? (i := 190) (by decide +kernel)) rfl
theorem kw431 : Cond.instanceMethod yX5_isShut ∈ tbl := tbl_c2 (List.mem_of_getElem? (i := 191) (by decide +kernel)) rfl
theorem kw432 : Cond.selects RX5 yX5_isShut yX5_isShut ∈ tbl := tbl_c2 (List.mem_of_getElem? (i := 192) (by decide +kernel)) rfl
theorem kw433 : Cond.code yX5_isShut cX5_isShut 2 (some .boolean) ∈ tbl := tbl_c2 (List.mem_of_getElem? (i := 193) rfl) rfl
theorem kw434 : Cond.methodLink RX6 98 yX5_turn ∈ tbl := tbl_c2 (List.mem_of_getElem? (i := 194) (by decide +kernel)) rfl
theorem kw435 : Cond.instanceMethod yX5_turn ∈ tbl := tbl_c2 (List.mem_of_getElem? (i := 195) (by decide +kernel)) rfl
theorem kw436 : Cond.selects RX5 yX5_turn yX5_turn ∈ tbl := tbl_c2 (List.mem_of_getElem? (i := 196) (by decide +kernel)) rfl
theorem kw437 : Cond.code yX5_turn cX5_turn 2 none ∈ tbl := tbl_c2 (List.mem_of_getElem? (i := 197) rfl) rfl
theorem kw438 : Cond.methodLink RL 45 yX6_river ∈ tbl := tbl_c2 (List.mem_of_getElem? (i := 198) (by decide +kernel)) rfl
theorem kw439 : Cond.instanceMethod yX6_river ∈ tbl := tbl_c2 (List.mem_of_getElem? (i := 199) (by decide +kernel)) rfl
theorem kw440 : Cond.selects RX6 yX6_river yX6_river ∈ tbl := tbl_c2 (List.mem_of_getElem? (i := 200) (by decide +kernel)) rfl
theorem kw441 : Cond.code yX6_river cX6_river 4 (some .int) ∈ tbl := tbl_c2 (List.mem_of_getElem? (i := 201) rfl) rfl
theorem kw442 : Cond.methodLink RX6 101 yX3_addRiver ∈ tbl := tbl_c2 (List.mem_of_getElem? (i := 202) (by decide +kernel)) rfl
theorem kw443 : Cond.methodLink RL 49 yX6_moon ∈ tbl := tbl_c2 (List.mem_of_getElem? (i := 203) (by decide +kernel)) rfl
theorem kw444 : Cond.instanceMethod yX6_moon ∈ tbl := tbl_c2 (List.mem_of_getElem? (i := 204) (by decide +kernel)) rfl
theorem kw445 : Cond.selects RX6 yX6_moon yX6_moon ∈ tbl := tbl_c2 (List.mem_of_getElem? (i := 205) (by decide +kernel)) rfl
theorem kw446 : Cond.code yX6_moon cX6_moon 4 (some .int) ∈ tbl := tbl_c2 (List.mem_of_getElem? (i := 206) rfl) rfl
theorem kw447 : Cond.methodLink RX6 108 yX3_changeMoon ∈ tbl := tbl_c2 (List.mem_of_getElem? (i := 207) (by decide +kernel)) rfl
theorem kw448 : Cond.methodLink RL 53 yX6_put ∈ tbl := tbl_c2 (List.mem_of_getElem? (i := 208) (by decide +kernel)) rfl
theorem kw449 : Cond.instanceMethod yX6_put ∈ tbl := tbl_c2 (List.mem_of_getElem? (i := 209) (by decide +kernel)) rfl
theorem kw450 : Cond.selects RX6 yX6_put yX6_put ∈ tbl := tbl_c2 (List.mem_of_getElem? (i := 210) (by decide +kernel)) rfl
theorem kw451 : Cond.code yX6_put cX6_put 8 (some .int) ∈ tbl := tbl_c2 (List.mem_of_getElem? (i := 211) rfl) rfl
theorem kw452 : Cond.methodLink RX6 112 yX6_isStuff ∈ tbl := tbl_c2 (List.mem_of_getElem? (i := 212) (by decide +kernel)) rfl
theorem kw453 : Cond.methodLink RX6 115 yX0_heapsOf ∈ tbl := tbl_c2 (List.mem_of_getElem? (i := 213) (by decide +kernel)) rfl
theorem kw454 : Cond.instanceMethod yX0_heapsOf ∈ tbl := tbl_c2 (List.mem_of_getElem? (i := 214) (by decide +kernel)) rfl
theorem kw455 : Cond.selects RX0 yX0_heapsOf yX0_heapsOf ∈ tbl := tbl_c2 (List.mem_of_getElem? (i := 215) (by decide +kernel)) rfl
theorem kw456 : Cond.code yX0_heapsOf cX0_heapsOf 2 (some (.array .int)) ∈ tbl := tbl_c2 (List.mem_of_getElem? (i := 216) rfl) rfl
theorem kw457 : Cond.methodLink RX6 119 yX6_heapOf ∈ tbl := tbl_c2 (List.mem_of_getElem? (i := 217) (by decide +kernel)) rfl
theorem kw458 : Cond.static yX6_heapOf ∈ tbl := tbl_c2 (List.mem_of_getElem? (i := 218) (by decide +kernel)) rfl
theorem kw459 : Cond.code yX6_heapOf cX6_heapOf 2 (some .int) ∈ tbl := tbl_c2 (List.mem_of_getElem? (i := 219) rfl) rfl
theorem kw460 : Cond.methodLink RX6 122 Lib.Math.max.name ∈ tbl := tbl_c2 (List.mem_of_getElem? (i := 220) (by decide +kernel)) rfl
theorem kw461 : Cond.static Lib.Math.max.name ∈ tbl := tbl_c2 (List.mem_of_getElem? (i := 221) (by decide +kernel)) rfl
theorem kw462 : Cond.code Lib.Math.max.name Lib.Math.max.code 2 (some .int) ∈ tbl := tbl_c2 (List.mem_of_getElem? (i := 222) rfl) rfl
theorem kw463 : Cond.constant RX6 127 (1000000) ∈ tbl := tbl_c2 (List.mem_of_getElem? (i := 223) (by decide +kernel)) rfl
theorem kw464 : Cond.methodLink RL 58 yX6_tons ∈ tbl := tbl_c2 (List.mem_of_getElem? (i := 224) (by decide +kernel)) rfl
theorem kw465 : Cond.instanceMethod yX6_tons ∈ tbl := tbl_c2 (List.mem_of_getElem? (i := 225) (by decide +kernel)) rfl
theorem kw466 : Cond.selects RX6 yX6_tons yX6_tons ∈ tbl := tbl_c2 (List.mem_of_getElem? (i := 226) (by decide +kernel)) rfl
theorem kw467 : Cond.code yX6_tons cX6_tons 4 (some .int) ∈ tbl := tbl_c2 (List.mem_of_getElem? (i := 227) rfl) rfl
theorem kw468 : Cond.methodLink RL 63 yX6_depth ∈ tbl := tbl_c2 (List.mem_of_getElem? (i := 228) (by decide +kernel)) rfl
theorem kw469 : Cond.instanceMethod yX6_depth ∈ tbl := tbl_c2 (List.mem_of_getElem? (i := 229) (by decide +kernel)) rfl
theorem kw470 : Cond.selects RX6 yX6_depth yX6_depth ∈ tbl := tbl_c2 (List.mem_of_getElem? (i := 230) (by decide +kernel)) rfl
theorem kw471 : Cond.code yX6_depth cX6_depth 2 (some .int) ∈ tbl := tbl_c2 (List.mem_of_getElem? (i := 231) rfl) rfl
theorem kw472 : Cond.methodLink RX6 128 yX0_depthOf ∈ tbl := tbl_c2 (List.mem_of_getElem? (i := 232) (by decide +kernel)) rfl
theorem kw473 : Cond.instanceMethod yX0_depthOf ∈ tbl := tbl_c2 (List.mem_of_getElem? (i := 233) (by decide +kernel)) rfl
theorem kw474 : Cond.selects RX0 yX0_depthOf yX0_depthOf ∈ tbl := tbl_c2 (List.mem_of_getElem? (i := 234) (by decide +kernel)) rfl
theorem kw475 : Cond.code yX0_depthOf cX0_depthOf 2 (some .int) ∈ tbl := tbl_c2 (List.mem_of_getElem? (i := 235) rfl) rfl
theorem kw476 : Cond.methodLink RX0 43 yX0_settledIn ∈ tbl := tbl_c2 (List.mem_of_getElem? (i := 236) (by decide +kernel)) rfl
theorem kw477 : Cond.instanceMethod yX0_settledIn ∈ tbl := tbl_c2 (List.mem_of_getElem? (i := 237) (by decide +kernel)) rfl
theorem kw478 : Cond.selects RX0 yX0_settledIn yX0_settledIn ∈ tbl := tbl_c2 (List.mem_of_getElem? (i := 238) (by decide +kernel)) rfl
theorem kw479 : Cond.code yX0_settledIn cX0_settledIn 2 (some .int) ∈ tbl := tbl_c2 (List.mem_of_getElem? (i := 239) rfl) rfl
theorem kw481 : Cond.static yX6_depthAbove ∈ tbl := tbl_c3 (List.mem_of_getElem? (i := 1) (by decide +kernel)) rfl
theorem kw482 : Cond.code yX6_depthAbove cX6_depthAbove 2 (some .int) ∈ tbl := tbl_c3 (List.mem_of_getElem? (i := 2) rfl) rfl
theorem kw483 : Cond.methodLink RL 68 yX6_lacks ∈ tbl := tbl_c3 (List.mem_of_getElem? (i := 3) (by decide +kernel)) rfl
theorem kw484 : Cond.instanceMethod yX6_lacks ∈ tbl := tbl_c3 (List.mem_of_getElem? (i := 4) (by decide +kernel)) rfl
theorem kw485 : Cond.selects RX6 yX6_lacks yX6_lacks ∈ tbl := tbl_c3 (List.mem_of_getElem? (i := 5) (by decide +kernel)) rfl
theorem kw486 : Cond.code yX6_lacks cX6_lacks 2 (some .int) ∈ tbl := tbl_c3 (List.mem_of_getElem? (i := 6) rfl) rfl
theorem kw487 : Cond.constant RX6 131 (-1000000000) ∈ tbl := tbl_c3 (List.mem_of_getElem? (i := 7) (by decide +kernel)) rfl
theorem kw488 : Cond.methodLink RX6 132 yX0_lackOf ∈ tbl := tbl_c3 (List.mem_of_getElem? (i := 8) (by decide +kernel)) rfl
theorem kw489 : Cond.instanceMethod yX0_lackOf ∈ tbl := tbl_c3 (List.mem_of_getElem? (i := 9) (by decide +kernel)) rfl
theorem kw490 : Cond.selects RX0 yX0_lackOf yX0_lackOf ∈ tbl := tbl_c3 (List.mem_of_getElem? (i := 10) (by decide +kernel)) rfl
theorem kw491 : Cond.code yX0_lackOf cX0_lackOf 2 (some .int) ∈ tbl := tbl_c3 (List.mem_of_getElem? (i := 11) rfl) rfl
theorem kw492 : Cond.methodLink RL 72 yX6_dredger ∈ tbl := tbl_c3 (List.mem_of_getElem? (i := 12) (by decide +kernel)) rfl
theorem kw493 : Cond.instanceMethod yX6_dredger ∈ tbl := tbl_c3 (List.mem_of_getElem? (i := 13) (by decide +kernel)) rfl
theorem kw494 : Cond.selects RX6 yX6_dredger yX6_dredger ∈ tbl := tbl_c3 (List.mem_of_getElem? (i := 14) (by decide +kernel)) rfl
theorem kw495 : Cond.code yX6_dredger cX6_dredger 4 (some .int) ∈ tbl := tbl_c3 (List.mem_of_getElem? (i := 15) rfl) rfl
theorem kw496 : Cond.methodLink RX6 141 yX2_change ∈ tbl := tbl_c3 (List.mem_of_getElem? (i := 16) (by decide +kernel)) rfl
theorem kw497 : Cond.instanceMethod yX2_change ∈ tbl := tbl_c3 (List.mem_of_getElem? (i := 17) (by decide +kernel)) rfl
theorem kw498 : Cond.selects RX2 yX2_change yX2_change ∈ tbl := tbl_c3 (List.mem_of_getElem? (i := 18) (by decide +kernel)) rfl
theorem kw499 : Cond.code yX2_change cX2_change 4 (some .int) ∈ tbl := tbl_c3 (List.mem_of_getElem? (i := 19) rfl) rfl
theorem kw500 : Cond.methodLink RX6 144 yX2_greatest ∈ tbl := tbl_c3 (List.mem_of_getElem? (i := 20) (by decide +kernel)) rfl
theorem kw501 : Cond.static yX2_greatest ∈ tbl := tbl_c3 (List.mem_of_getElem? (i := 21) (by decide +kernel)) rfl
theorem kw502 : Cond.code yX2_greatest cX2_greatest 1 (some .int) ∈ tbl := tbl_c3 (List.mem_of_getElem? (i := 22) rfl) rfl
theorem kw503 : Cond.methodLink RL 76 yX6_takes ∈ tbl := tbl_c3 (List.mem_of_getElem? (i := 23) (by decide +kernel)) rfl
theorem kw504 : Cond.instanceMethod yX6_takes ∈ tbl := tbl_c3 (List.mem_of_getElem? (i := 24) (by decide +kernel)) rfl
theorem kw505 : Cond.selects RX6 yX6_takes yX6_takes ∈ tbl := tbl_c3 (List.mem_of_getElem? (i := 25) (by decide +kernel)) rfl
theorem kw506 : Cond.code yX6_takes cX6_takes 2 (some .int) ∈ tbl := tbl_c3 (List.mem_of_getElem? (i := 26) rfl) rfl
theorem kw507 : Cond.methodLink RX6 150 yX3_kindNow ∈ tbl := tbl_c3 (List.mem_of_getElem? (i := 27) (by decide +kernel)) rfl
theorem kw508 : Cond.instanceMethod yX3_kindNow ∈ tbl := tbl_c3 (List.mem_of_getElem? (i := 28) (by decide +kernel)) rfl
theorem kw509 : Cond.selects RX3 yX3_kindNow yX3_kindNow ∈ tbl := tbl_c3 (List.mem_of_getElem? (i := 29) (by decide +kernel)) rfl
theorem kw510 : Cond.code yX3_kindNow cX3_kindNow 1 (some .int) ∈ tbl := tbl_c3 (List.mem_of_getElem? (i := 30) rfl) rfl
theorem kw511 : Cond.methodLink RX6 154 yX3_plannedCell ∈ tbl := tbl_c3 (List.mem_of_getElem? (i := 31) (by decide +kernel)) rfl
theorem kw512 : Cond.instanceMethod yX3_plannedCell ∈ tbl := tbl_c3 (List.mem_of_getElem? (i := 32) (by decide +kernel)) rfl
theorem kw513 : Cond.selects RX3 yX3_plannedCell yX3_plannedCell ∈ tbl := tbl_c3 (List.mem_of_getElem? (i := 33) (by decide +kernel)) rfl
theorem kw514 : Cond.code yX3_plannedCell cX3_plannedCell 2 (some .int) ∈ tbl := tbl_c3 (List.mem_of_getElem? (i := 34) rfl) rfl
theorem kw515 : Cond.methodLink RX3 184 yX0_nearest ∈ tbl := tbl_c3 (List.mem_of_getElem? (i := 35) (by decide +kernel)) rfl
theorem kw516 : Cond.instanceMethod yX0_nearest ∈ tbl := tbl_c3 (List.mem_of_getElem? (i := 36) (by decide +kernel)) rfl
theorem kw517 : Cond.selects RX0 yX0_nearest yX0_nearest ∈ tbl := tbl_c3 (List.mem_of_getElem? (i := 37) (by decide +kernel)) rfl
theorem kw518 : Cond.code yX0_nearest cX0_nearest 5 (some .int) ∈ tbl := tbl_c3 (List.mem_of_getElem? (i := 38) rfl) rfl
theorem kw519 : Cond.methodLink RX0 51 yX0_lackOf ∈ tbl := tbl_c3 (List.mem_of_getElem? (i := 39) (by decide +kernel)) rfl
theorem kw520 : Cond.methodLink RX3 190 yX0_fullest ∈ tbl := tbl_c3 (List.mem_of_getElem? (i := 40) (by decide +kernel)) rfl
theorem kw521 : Cond.instanceMethod yX0_fullest ∈ tbl := tbl_c3 (List.mem_of_getElem? (i := 41) (by decide +kernel)) rfl
theorem kw522 : Cond.selects RX0 yX0_fullest yX0_fullest ∈ tbl := tbl_c3 (List.mem_of_getElem? (i := 42) (by decide +kernel)) rfl
theorem kw523 : Cond.code yX0_fullest cX0_fullest 5 (some .int) ∈ tbl := tbl_c3 (List.mem_of_getElem? (i := 43) rfl) rfl
theorem kw524 : Cond.methodLink RL 80 yX6_go ∈ tbl := tbl_c3 (List.mem_of_getElem? (i := 44) (by decide +kernel)) rfl
theorem kw525 : Cond.instanceMethod yX6_go ∈ tbl := tbl_c3 (List.mem_of_getElem? (i := 45) (by decide +kernel)) rfl
theorem kw526 : Cond.selects RX6 yX6_go yX6_go ∈ tbl := tbl_c3 (List.mem_of_getElem? (i := 46) (by decide +kernel)) rfl
theorem kw527 : Cond.code yX6_go cX6_go 3 (some .int) ∈ tbl := tbl_c3 (List.mem_of_getElem? (i := 47) rfl) rfl
theorem kw528 : Cond.methodLink RX6 160 yX6_whyNoRun ∈ tbl := tbl_c3 (List.mem_of_getElem? (i := 48) (by decide +kernel)) rfl
theorem kw530 : Cond.instanceMethod yX6_whyNoRun ∈ tbl := tbl_c3 (List.mem_of_getElem? (i := 50) (by decide +kernel)) rfl
theorem kw531 : Cond.code yX6_whyNoRun cX6_whyNoRun 2 (some .int) ∈ tbl := tbl_c3 (List.mem_of_getElem? (i := 51) rfl) rfl
theorem kw532 : Cond.methodLink RX6 163 yX3_goOn ∈ tbl := tbl_c3 (List.mem_of_getElem? (i := 52) (by decide +kernel)) rfl
theorem kw533 : Cond.instanceMethod yX3_goOn ∈ tbl := tbl_c3 (List.mem_of_getElem? (i := 53) (by decide +kernel)) rfl
theorem kw534 : Cond.selects RX3 yX3_goOn yX3_goOn ∈ tbl := tbl_c3 (List.mem_of_getElem? (i := 54) (by decide +kernel)) rfl
theorem kw535 : Cond.code yX3_goOn cX3_goOn 4 none ∈ tbl := tbl_c3 (List.mem_of_getElem? (i := 55) rfl) rfl
theorem kw536 : Cond.methodLink RX3 127 yX3_goBy ∈ tbl := tbl_c3 (List.mem_of_getElem? (i := 56) (by decide +kernel)) rfl
theorem kw537 : Cond.instanceMethod yX3_goBy ∈ tbl := tbl_c3 (List.mem_of_getElem? (i := 57) (by decide +kernel)) rfl
theorem kw538 : Cond.selects RX3 yX3_goBy yX3_goBy ∈ tbl := tbl_c3 (List.mem_of_getElem? (i := 58) (by decide +kernel)) rfl
theorem kw539 : Cond.code yX3_goBy cX3_goBy 3 none ∈ tbl := tbl_c3 (List.mem_of_getElem? (i := 59) rfl) rfl
theorem kw540 : Cond.methodLink RX3 103 yX3_kindNow ∈ tbl := tbl_c3 (List.mem_of_getElem? (i := 60) (by decide +kernel)) rfl
theorem kw541 : Cond.methodLink RX3 107 yX0_stir ∈ tbl := tbl_c3 (List.mem_of_getElem? (i := 61) (by decide +kernel)) rfl
theorem kw542 : Cond.instanceMethod yX0_stir ∈ tbl := tbl_c3 (List.mem_of_getElem? (i := 62) (by decide +kernel)) rfl
theorem kw543 : Cond.selects RX0 yX0_stir yX0_stir ∈ tbl := tbl_c3 (List.mem_of_getElem? (i := 63) (by decide +kernel)) rfl
theorem kw544 : Cond.code yX0_stir cX0_stir 5 none ∈ tbl := tbl_c3 (List.mem_of_getElem? (i := 64) rfl) rfl
theorem kw547 : Cond.static yX6_partOf ∈ tbl := tbl_c3 (List.mem_of_getElem? (i := 67) (by decide +kernel)) rfl
theorem kw548 : Cond.code yX6_partOf cX6_partOf 2 (some .int) ∈ tbl := tbl_c3 (List.mem_of_getElem? (i := 68) rfl) rfl
theorem kw549 : Cond.constantLong RX6 236 (100) ∈ tbl := tbl_c3 (List.mem_of_getElem? (i := 69) (by decide +kernel)) rfl
theorem kw550 : Cond.methodLink RX3 110 yX3_carry ∈ tbl := tbl_c3 (List.mem_of_getElem? (i := 70) (by decide +kernel)) rfl
theorem kw552 : Cond.instanceMethod yX3_carry ∈ tbl := tbl_c3 (List.mem_of_getElem? (i := 72) (by decide +kernel)) rfl
theorem kw553 : Cond.code yX3_carry cX3_carry 6 none ∈ tbl := tbl_c3 (List.mem_of_getElem? (i := 73) rfl) rfl
theorem kw554 : Cond.methodLink RX3 133 arraycopyName ∈ tbl := tbl_c3 (List.mem_of_getElem? (i := 74) (by decide +kernel)) rfl
theorem kw555 : Cond.methodLink RX3 145 yX5_isShut ∈ tbl := tbl_c3 (List.mem_of_getElem? (i := 75) (by decide +kernel)) rfl
theorem kw558 : Cond.methodLink RX3 167 yX3_drop ∈ tbl := tbl_c3 (List.mem_of_getElem? (i := 78) (by decide +kernel)) rfl
theorem kw559 : Cond.instanceMethod yX3_drop ∈ tbl := tbl_c3 (List.mem_of_getElem? (i := 79) (by decide +kernel)) rfl
theorem kw560 : Cond.selects RX3 yX3_drop yX3_drop ∈ tbl := tbl_c3 (List.mem_of_getElem? (i := 80) (by decide +kernel)) rfl
theorem kw561 : Cond.code yX3_drop cX3_drop 4 none ∈ tbl := tbl_c3 (List.mem_of_getElem? (i := 81) rfl) rfl
theorem kw562 : Cond.methodLink RX3 114 yX3_bring ∈ tbl := tbl_c3 (List.mem_of_getElem? (i := 82) (by decide +kernel)) rfl
theorem kw564 : Cond.instanceMethod yX3_bring ∈ tbl := tbl_c3 (List.mem_of_getElem? (i := 84) (by decide +kernel)) rfl
theorem kw565 : Cond.code yX3_bring cX3_bring 2 none ∈ tbl := tbl_c3 (List.mem_of_getElem? (i := 85) rfl) rfl
theorem kw566 : Cond.methodLink RX3 117 yX0_settle ∈ tbl := tbl_c3 (List.mem_of_getElem? (i := 86) (by decide +kernel)) rfl
theorem kw567 : Cond.instanceMethod yX0_settle ∈ tbl := tbl_c3 (List.mem_of_getElem? (i := 87) (by decide +kernel)) rfl
theorem kw568 : Cond.selects RX0 yX0_settle yX0_settle ∈ tbl := tbl_c3 (List.mem_of_getElem? (i := 88) (by decide +kernel)) rfl
theorem kw569 : Cond.code yX0_settle cX0_settle 5 none ∈ tbl := tbl_c3 (List.mem_of_getElem? (i := 89) rfl) rfl
theorem kw570 : Cond.methodLink RX3 120 yX3_plannedCell ∈ tbl := tbl_c3 (List.mem_of_getElem? (i := 90) (by decide +kernel)) rfl
theorem kw571 : Cond.methodLink RX3 124 yX3_dredge ∈ tbl := tbl_c3 (List.mem_of_getElem? (i := 91) (by decide +kernel)) rfl
theorem kw573 : Cond.instanceMethod yX3_dredge ∈ tbl := tbl_c3 (List.mem_of_getElem? (i := 93) (by decide +kernel)) rfl
theorem kw574 : Cond.code yX3_dredge cX3_dredge 2 none ∈ tbl := tbl_c3 (List.mem_of_getElem? (i := 94) rfl) rfl
theorem kw575 : Cond.methodLink RX3 193 yX3_dredgeStuff ∈ tbl := tbl_c3 (List.mem_of_getElem? (i := 95) (by decide +kernel)) rfl
theorem kw577 : Cond.instanceMethod yX3_dredgeStuff ∈ tbl := tbl_c3 (List.mem_of_getElem? (i := 97) (by decide +kernel)) rfl
theorem kw578 : Cond.code yX3_dredgeStuff cX3_dredgeStuff 5 none ∈ tbl := tbl_c3 (List.mem_of_getElem? (i := 98) rfl) rfl
theorem kw579 : Cond.methodLink RX3 203 Lib.Math.min.name ∈ tbl := tbl_c3 (List.mem_of_getElem? (i := 99) (by decide +kernel)) rfl
theorem kw580 : Cond.static Lib.Math.min.name ∈ tbl := tbl_c3 (List.mem_of_getElem? (i := 100) (by decide +kernel)) rfl
theorem kw581 : Cond.code Lib.Math.min.name Lib.Math.min.code 2 (some .int) ∈ tbl := tbl_c3 (List.mem_of_getElem? (i := 101) rfl) rfl
theorem kw582 : Cond.methodLink RL 84 yX6_cost ∈ tbl := tbl_c3 (List.mem_of_getElem? (i := 102) (by decide +kernel)) rfl
theorem kw583 : Cond.instanceMethod yX6_cost ∈ tbl := tbl_c3 (List.mem_of_getElem? (i := 103) (by decide +kernel)) rfl
theorem kw584 : Cond.selects RX6 yX6_cost yX6_cost ∈ tbl := tbl_c3 (List.mem_of_getElem? (i := 104) (by decide +kernel)) rfl
theorem kw585 : Cond.code yX6_cost cX6_cost 3 (some .long) ∈ tbl := tbl_c3 (List.mem_of_getElem? (i := 105) rfl) rfl
theorem kw586 : Cond.constantLong RX6 169 (-4000000000000000000) ∈ tbl := tbl_c3 (List.mem_of_getElem? (i := 106) (by decide +kernel)) rfl
theorem kw587 : Cond.constantLong RX6 171 (4000000000000000000) ∈ tbl := tbl_c3 (List.mem_of_getElem? (i := 107) (by decide +kernel)) rfl
theorem kw588 : Cond.methodLink RX6 173 yX3_runCosts ∈ tbl := tbl_c3 (List.mem_of_getElem? (i := 108) (by decide +kernel)) rfl
theorem kw589 : Cond.instanceMethod yX3_runCosts ∈ tbl := tbl_c3 (List.mem_of_getElem? (i := 109) (by decide +kernel)) rfl
theorem kw590 : Cond.selects RX3 yX3_runCosts yX3_runCosts ∈ tbl := tbl_c3 (List.mem_of_getElem? (i := 110) (by decide +kernel)) rfl
theorem kw591 : Cond.code yX3_runCosts cX3_runCosts 7 (some .long) ∈ tbl := tbl_c3 (List.mem_of_getElem? (i := 111) rfl) rfl
theorem kw592 : Cond.methodLink RX3 217 yX3_tideCosts ∈ tbl := tbl_c3 (List.mem_of_getElem? (i := 112) (by decide +kernel)) rfl
theorem kw593 : Cond.instanceMethod yX3_tideCosts ∈ tbl := tbl_c3 (List.mem_of_getElem? (i := 113) (by decide +kernel)) rfl
theorem kw594 : Cond.selects RX3 yX3_tideCosts yX3_tideCosts ∈ tbl := tbl_c3 (List.mem_of_getElem? (i := 114) (by decide +kernel)) rfl
theorem kw595 : Cond.code yX3_tideCosts cX3_tideCosts 1 (some .long) ∈ tbl := tbl_c3 (List.mem_of_getElem? (i := 115) rfl) rfl
theorem kw596 : Cond.methodLink RX3 208 yX0_priceOfLacks ∈ tbl := tbl_c3 (List.mem_of_getElem? (i := 116) (by decide +kernel)) rfl
theorem kw597 : Cond.instanceMethod yX0_priceOfLacks ∈ tbl := tbl_c3 (List.mem_of_getElem? (i := 117) (by decide +kernel)) rfl
theorem kw598 : Cond.selects RX0 yX0_priceOfLacks yX0_priceOfLacks ∈ tbl := tbl_c3 (List.mem_of_getElem? (i := 118) (by decide +kernel)) rfl
theorem kw599 : Cond.code yX0_priceOfLacks cX0_priceOfLacks 4 (some .long) ∈ tbl := tbl_c3 (List.mem_of_getElem? (i := 119) rfl) rfl
theorem kw600 : Cond.methodLink RX0 54 Lib.Math.max.name ∈ tbl := tbl_c3 (List.mem_of_getElem? (i := 120) (by decide +kernel)) rfl
theorem kw601 : Cond.constantLong RX3 215 (2) ∈ tbl := tbl_c3 (List.mem_of_getElem? (i := 121) (by decide +kernel)) rfl
theorem kw602 : Cond.methodLink RL 89 yX6_holds ∈ tbl := tbl_c3 (List.mem_of_getElem? (i := 122) (by decide +kernel)) rfl
theorem kw603 : Cond.instanceMethod yX6_holds ∈ tbl := tbl_c3 (List.mem_of_getElem? (i := 123) (by decide +kernel)) rfl
theorem kw604 : Cond.selects RX6 yX6_holds yX6_holds ∈ tbl := tbl_c3 (List.mem_of_getElem? (i := 124) (by decide +kernel)) rfl
theorem kw605 : Cond.code yX6_holds cX6_holds 3 (some .int) ∈ tbl := tbl_c3 (List.mem_of_getElem? (i := 125) rfl) rfl
theorem kw606 : Cond.methodLink RX6 177 yX3_firstLack ∈ tbl := tbl_c3 (List.mem_of_getElem? (i := 126) (by decide +kernel)) rfl
theorem kw607 : Cond.instanceMethod yX3_firstLack ∈ tbl := tbl_c3 (List.mem_of_getElem? (i := 127) (by decide +kernel)) rfl
theorem kw608 : Cond.selects RX3 yX3_firstLack yX3_firstLack ∈ tbl := tbl_c3 (List.mem_of_getElem? (i := 128) (by decide +kernel)) rfl
theorem kw609 : Cond.code yX3_firstLack cX3_firstLack 4 (some .int) ∈ tbl := tbl_c3 (List.mem_of_getElem? (i := 129) rfl) rfl
theorem kw610 : Cond.methodLink RX3 220 yX0_someLack ∈ tbl := tbl_c3 (List.mem_of_getElem? (i := 130) (by decide +kernel)) rfl
theorem kw611 : Cond.instanceMethod yX0_someLack ∈ tbl := tbl_c3 (List.mem_of_getElem? (i := 131) (by decide +kernel)) rfl
theorem kw612 : Cond.selects RX0 yX0_someLack yX0_someLack ∈ tbl := tbl_c3 (List.mem_of_getElem? (i := 132) (by decide +kernel)) rfl
theorem kw613 : Cond.code yX0_someLack cX0_someLack 2 (some .boolean) ∈ tbl := tbl_c3 (List.mem_of_getElem? (i := 133) rfl) rfl
theorem kw614 : Cond.methodLink RL 93 yX6_alone ∈ tbl := tbl_c3 (List.mem_of_getElem? (i := 134) (by decide +kernel)) rfl
theorem kw615 : Cond.instanceMethod yX6_alone ∈ tbl := tbl_c3 (List.mem_of_getElem? (i := 135) (by decide +kernel)) rfl
theorem kw616 : Cond.selects RX6 yX6_alone yX6_alone ∈ tbl := tbl_c3 (List.mem_of_getElem? (i := 136) (by decide +kernel)) rfl
theorem kw617 : Cond.code yX6_alone cX6_alone 3 (some .int) ∈ tbl := tbl_c3 (List.mem_of_getElem? (i := 137) rfl) rfl
theorem kw618 : Cond.methodLink RL 97 yX6_back ∈ tbl := tbl_c3 (List.mem_of_getElem? (i := 138) (by decide +kernel)) rfl
theorem kw619 : Cond.instanceMethod yX6_back ∈ tbl := tbl_c3 (List.mem_of_getElem? (i := 139) (by decide +kernel)) rfl
theorem kw620 : Cond.selects RX6 yX6_back yX6_back ∈ tbl := tbl_c3 (List.mem_of_getElem? (i := 140) (by decide +kernel)) rfl
theorem kw621 : Cond.code yX6_back cX6_back 7 (some .int) ∈ tbl := tbl_c3 (List.mem_of_getElem? (i := 141) rfl) rfl
theorem kw622 : Cond.methodLink RX6 180 yX0_hasAll ∈ tbl := tbl_c3 (List.mem_of_getElem? (i := 142) (by decide +kernel)) rfl
theorem kw623 : Cond.instanceMethod yX0_hasAll ∈ tbl := tbl_c3 (List.mem_of_getElem? (i := 143) (by decide +kernel)) rfl
theorem kw624 : Cond.selects RX0 yX0_hasAll yX0_hasAll ∈ tbl := tbl_c3 (List.mem_of_getElem? (i := 144) (by decide +kernel)) rfl
theorem kw625 : Cond.code yX0_hasAll cX0_hasAll 2 (some .boolean) ∈ tbl := tbl_c3 (List.mem_of_getElem? (i := 145) rfl) rfl
theorem kw626 : Cond.methodLink RX6 183 yX0_tonsInSet ∈ tbl := tbl_c3 (List.mem_of_getElem? (i := 146) (by decide +kernel)) rfl
theorem kw627 : Cond.instanceMethod yX0_tonsInSet ∈ tbl := tbl_c3 (List.mem_of_getElem? (i := 147) (by decide +kernel)) rfl
theorem kw628 : Cond.selects RX0 yX0_tonsInSet yX0_tonsInSet ∈ tbl := tbl_c3 (List.mem_of_getElem? (i := 148) (by decide +kernel)) rfl
theorem kw629 : Cond.code yX0_tonsInSet cX0_tonsInSet 6 (some .int) ∈ tbl := tbl_c3 (List.mem_of_getElem? (i := 149) rfl) rfl
theorem kw631 : Cond.methodLink RX6 186 yX3_drop ∈ tbl := tbl_c3 (List.mem_of_getElem? (i := 151) (by decide +kernel)) rfl
theorem kw632 : Cond.methodLink RL 102 yX6_bestDrop ∈ tbl := tbl_c3 (List.mem_of_getElem? (i := 152) (by decide +kernel)) rfl
theorem kw633 : Cond.instanceMethod yX6_bestDrop ∈ tbl := tbl_c3 (List.mem_of_getElem? (i := 153) (by decide +kernel)) rfl
theorem kw634 : Cond.selects RX6 yX6_bestDrop yX6_bestDrop ∈ tbl := tbl_c3 (List.mem_of_getElem? (i := 154) (by decide +kernel)) rfl
theorem kw635 : Cond.code yX6_bestDrop cX6_bestDrop 9 (some .int) ∈ tbl := tbl_c3 (List.mem_of_getElem? (i := 155) rfl) rfl
theorem kw636 : Cond.methodLink RL 106 yX6_bestPlan ∈ tbl := tbl_c3 (List.mem_of_getElem? (i := 156) (by decide +kernel)) rfl
theorem kw637 : Cond.instanceMethod yX6_bestPlan ∈ tbl := tbl_c3 (List.mem_of_getElem? (i := 157) (by decide +kernel)) rfl
theorem kw638 : Cond.selects RX6 yX6_bestPlan yX6_bestPlan ∈ tbl := tbl_c3 (List.mem_of_getElem? (i := 158) (by decide +kernel)) rfl
theorem kw639 : Cond.code yX6_bestPlan cX6_bestPlan 9 (some .int) ∈ tbl := tbl_c3 (List.mem_of_getElem? (i := 159) rfl) rfl
theorem kw640 : Cond.methodLink RL 110 yX6_leastCap ∈ tbl := tbl_c3 (List.mem_of_getElem? (i := 160) (by decide +kernel)) rfl
theorem kw641 : Cond.instanceMethod yX6_leastCap ∈ tbl := tbl_c3 (List.mem_of_getElem? (i := 161) (by decide +kernel)) rfl
theorem kw642 : Cond.selects RX6 yX6_leastCap yX6_leastCap ∈ tbl := tbl_c3 (List.mem_of_getElem? (i := 162) (by decide +kernel)) rfl
theorem kw643 : Cond.code yX6_leastCap cX6_leastCap 4 (some .int) ∈ tbl := tbl_c3 (List.mem_of_getElem? (i := 163) rfl) rfl
theorem kw644 : Cond.methodLink RL 114 yX6_wall ∈ tbl := tbl_c3 (List.mem_of_getElem? (i := 164) (by decide +kernel)) rfl
theorem kw645 : Cond.instanceMethod yX6_wall ∈ tbl := tbl_c3 (List.mem_of_getElem? (i := 165) (by decide +kernel)) rfl
theorem kw646 : Cond.selects RX6 yX6_wall yX6_wall ∈ tbl := tbl_c3 (List.mem_of_getElem? (i := 166) (by decide +kernel)) rfl
theorem kw647 : Cond.code yX6_wall cX6_wall 9 (some .int) ∈ tbl := tbl_c3 (List.mem_of_getElem? (i := 167) rfl) rfl
theorem kw648 : Cond.methodLink RL 118 yX6_share ∈ tbl := tbl_c3 (List.mem_of_getElem? (i := 168) (by decide +kernel)) rfl
theorem kw649 : Cond.instanceMethod yX6_share ∈ tbl := tbl_c3 (List.mem_of_getElem? (i := 169) (by decide +kernel)) rfl
theorem kw650 : Cond.selects RX6 yX6_share yX6_share ∈ tbl := tbl_c3 (List.mem_of_getElem? (i := 170) (by decide +kernel)) rfl
theorem kw651 : Cond.code yX6_share cX6_share 4 (some .int) ∈ tbl := tbl_c3 (List.mem_of_getElem? (i := 171) rfl) rfl
theorem kw652 : Cond.methodLink RX6 200 yX4_has ∈ tbl := tbl_c3 (List.mem_of_getElem? (i := 172) (by decide +kernel)) rfl
theorem kw653 : Cond.instanceMethod yX4_has ∈ tbl := tbl_c3 (List.mem_of_getElem? (i := 173) (by decide +kernel)) rfl
theorem kw654 : Cond.selects RX4 yX4_has yX4_has ∈ tbl := tbl_c3 (List.mem_of_getElem? (i := 174) (by decide +kernel)) rfl
theorem kw655 : Cond.code yX4_has cX4_has 2 (some .boolean) ∈ tbl := tbl_c3 (List.mem_of_getElem? (i := 175) rfl) rfl
theorem kw656 : Cond.methodLink RX6 203 yX0_settledInAll ∈ tbl := tbl_c3 (List.mem_of_getElem? (i := 176) (by decide +kernel)) rfl
theorem kw657 : Cond.instanceMethod yX0_settledInAll ∈ tbl := tbl_c3 (List.mem_of_getElem? (i := 177) (by decide +kernel)) rfl
theorem kw658 : Cond.selects RX0 yX0_settledInAll yX0_settledInAll ∈ tbl := tbl_c3 (List.mem_of_getElem? (i := 178) (by decide +kernel)) rfl
theorem kw659 : Cond.code yX0_settledInAll cX0_settledInAll 3 (some .int) ∈ tbl := tbl_c3 (List.mem_of_getElem? (i := 179) rfl) rfl
theorem kw660 : Cond.methodLink RL 122 yX6_row ∈ tbl := tbl_c3 (List.mem_of_getElem? (i := 180) (by decide +kernel)) rfl
theorem kw661 : Cond.instanceMethod yX6_row ∈ tbl := tbl_c3 (List.mem_of_getElem? (i := 181) (by decide +kernel)) rfl
theorem kw662 : Cond.selects RX6 yX6_row yX6_row ∈ tbl := tbl_c3 (List.mem_of_getElem? (i := 182) (by decide +kernel)) rfl
theorem kw663 : Cond.code yX6_row cX6_row 2 (some .int) ∈ tbl := tbl_c3 (List.mem_of_getElem? (i := 183) rfl) rfl
theorem kw664 : Cond.methodLink RL 126 yX6_judge ∈ tbl := tbl_c3 (List.mem_of_getElem? (i := 184) (by decide +kernel)) rfl
theorem kw665 : Cond.instanceMethod yX6_judge ∈ tbl := tbl_c3 (List.mem_of_getElem? (i := 185) (by decide +kernel)) rfl
theorem kw666 : Cond.selects RX6 yX6_judge yX6_judge ∈ tbl := tbl_c3 (List.mem_of_getElem? (i := 186) (by decide +kernel)) rfl
theorem kw667 : Cond.code yX6_judge cX6_judge 6 (some .int) ∈ tbl := tbl_c3 (List.mem_of_getElem? (i := 187) rfl) rfl
theorem kw668 : Cond.methodLink RX6 209 yX6_rowIsOfCells ∈ tbl := tbl_c3 (List.mem_of_getElem? (i := 188) (by decide +kernel)) rfl
theorem kw670 : Cond.instanceMethod yX6_rowIsOfCells ∈ tbl := tbl_c3 (List.mem_of_getElem? (i := 190) (by decide +kernel)) rfl
theorem kw671 : Cond.code yX6_rowIsOfCells cX6_rowIsOfCells 2 (some .boolean) ∈ tbl := tbl_c3 (List.mem_of_getElem? (i := 191) rfl) rfl
theorem kw672 : Cond.methodLink RX6 213 yX3_goBy ∈ tbl := tbl_c3 (List.mem_of_getElem? (i := 192) (by decide +kernel)) rfl
theorem kw673 : Cond.methodLink RX6 216 yX3_tideCosts ∈ tbl := tbl_c3 (List.mem_of_getElem? (i := 193) (by decide +kernel)) rfl
theorem kw674 : Cond.methodLink RX6 223 yX0_feetLacked ∈ tbl := tbl_c3 (List.mem_of_getElem? (i := 194) (by decide +kernel)) rfl
theorem kw675 : Cond.instanceMethod yX0_feetLacked ∈ tbl := tbl_c3 (List.mem_of_getElem? (i := 195) (by decide +kernel)) rfl
theorem kw676 : Cond.selects RX0 yX0_feetLacked yX0_feetLacked ∈ tbl := tbl_c3 (List.mem_of_getElem? (i := 196) (by decide +kernel)) rfl
theorem kw677 : Cond.code yX0_feetLacked cX0_feetLacked 3 (some .int) ∈ tbl := tbl_c3 (List.mem_of_getElem? (i := 197) rfl) rfl
theorem kw678 : Cond.methodLink RL 130 yX6_image ∈ tbl := tbl_c3 (List.mem_of_getElem? (i := 198) (by decide +kernel)) rfl
theorem kw679 : Cond.instanceMethod yX6_image ∈ tbl := tbl_c3 (List.mem_of_getElem? (i := 199) (by decide +kernel)) rfl
theorem kw680 : Cond.selects RX6 yX6_image yX6_image ∈ tbl := tbl_c3 (List.mem_of_getElem? (i := 200) (by decide +kernel)) rfl
theorem kw681 : Cond.code yX6_image cX6_image 1 (some .int) ∈ tbl := tbl_c3 (List.mem_of_getElem? (i := 201) rfl) rfl
theorem kw682 : Cond.methodLink RL 134 yX6_restore ∈ tbl := tbl_c3 (List.mem_of_getElem? (i := 202) (by decide +kernel)) rfl
theorem kw683 : Cond.instanceMethod yX6_restore ∈ tbl := tbl_c3 (List.mem_of_getElem? (i := 203) (by decide +kernel)) rfl
theorem kw684 : Cond.selects RX6 yX6_restore yX6_restore ∈ tbl := tbl_c3 (List.mem_of_getElem? (i := 204) (by decide +kernel)) rfl
theorem kw685 : Cond.code yX6_restore cX6_restore 1 (some .int) ∈ tbl := tbl_c3 (List.mem_of_getElem? (i := 205) rfl) rfl
theorem kw686 : Cond.methodLink RL 138 yX6_count ∈ tbl := tbl_c3 (List.mem_of_getElem? (i := 206) (by decide +kernel)) rfl
theorem kw687 : Cond.instanceMethod yX6_count ∈ tbl := tbl_c3 (List.mem_of_getElem? (i := 207) (by decide +kernel)) rfl
theorem kw688 : Cond.selects RX6 yX6_count yX6_count ∈ tbl := tbl_c3 (List.mem_of_getElem? (i := 208) (by decide +kernel)) rfl
theorem kw689 : Cond.code yX6_count cX6_count 2 (some .int) ∈ tbl := tbl_c3 (List.mem_of_getElem? (i := 209) rfl) rfl
theorem kw690 : Cond.methodLink RX6 227 yX0_tonsInAll ∈ tbl := tbl_c3 (List.mem_of_getElem? (i := 210) (by decide +kernel)) rfl
theorem kw691 : Cond.instanceMethod yX0_tonsInAll ∈ tbl := tbl_c3 (List.mem_of_getElem? (i := 211) (by decide +kernel)) rfl
theorem kw692 : Cond.selects RX0 yX0_tonsInAll yX0_tonsInAll ∈ tbl := tbl_c3 (List.mem_of_getElem? (i := 212) (by decide +kernel)) rfl
theorem kw693 : Cond.code yX0_tonsInAll cX0_tonsInAll 2 (some .int) ∈ tbl := tbl_c3 (List.mem_of_getElem? (i := 213) rfl) rfl
theorem kw694 : Cond.methodLink RX0 66 yX0_tonsInSet ∈ tbl := tbl_c3 (List.mem_of_getElem? (i := 214) (by decide +kernel)) rfl
theorem kw695 : Cond.classLink RL 10 RX7 ∈ tbl := tbl_c3 (List.mem_of_getElem? (i := 215) (by decide +kernel)) rfl
theorem kw696 : Cond.instantiable RX7 55 ∈ tbl := tbl_c3 (List.mem_of_getElem? (i := 216) (by decide +kernel)) rfl
theorem kw697 : Cond.methodLink RL 12 yX7_init ∈ tbl := tbl_c3 (List.mem_of_getElem? (i := 217) (by decide +kernel)) rfl
theorem kw698 : Cond.instanceMethod yX7_init ∈ tbl := tbl_c3 (List.mem_of_getElem? (i := 218) (by decide +kernel)) rfl
theorem kw699 : Cond.code yX7_init cX7_init 1 none ∈ tbl := tbl_c3 (List.mem_of_getElem? (i := 219) rfl) rfl
theorem kw700 : Cond.methodLink RX7 1 objectInit ∈ tbl := tbl_c3 (List.mem_of_getElem? (i := 220) (by decide +kernel)) rfl
theorem kw701 : Cond.fieldLink RX7 111 "HarbourMudModel" "cells" "I" ∈ tbl := tbl_c3 (List.mem_of_getElem? (i := 221) (by decide +kernel)) rfl
theorem kw702 : Cond.fieldLink RX7 7 "HarbourMudModel" "bases" "[I" ∈ tbl := tbl_c3 (List.mem_of_getElem? (i := 222) (by decide +kernel)) rfl
theorem kw703 : Cond.fieldLink RX7 13 "HarbourMudModel" "wanted" "[I" ∈ tbl := tbl_c3 (List.mem_of_getElem? (i := 223) (by decide +kernel)) rfl
theorem kw704 : Cond.fieldLink RX7 16 "HarbourMudModel" "settles" "[I" ∈ tbl := tbl_c3 (List.mem_of_getElem? (i := 224) (by decide +kernel)) rfl
theorem kw705 : Cond.fieldLink RX7 19 "HarbourMudModel" "stirs" "[I" ∈ tbl := tbl_c3 (List.mem_of_getElem? (i := 225) (by decide +kernel)) rfl
theorem kw706 : Cond.fieldLink RX7 22 "HarbourMudModel" "prices" "[I" ∈ tbl := tbl_c3 (List.mem_of_getElem? (i := 226) (by decide +kernel)) rfl
theorem kw707 : Cond.fieldLink RX7 25 "HarbourMudModel" "loose" "[I" ∈ tbl := tbl_c3 (List.mem_of_getElem? (i := 227) (by decide +kernel)) rfl
theorem kw708 : Cond.fieldLink RX7 28 "HarbourMudModel" "settled" "[I" ∈ tbl := tbl_c3 (List.mem_of_getElem? (i := 228) (by decide +kernel)) rfl
theorem kw709 : Cond.fieldLink RX7 132 "HarbourMudModel" "ways" "I" ∈ tbl := tbl_c3 (List.mem_of_getElem? (i := 229) (by decide +kernel)) rfl
theorem kw710 : Cond.fieldLink RX7 31 "HarbourMudModel" "wayFrom" "[I" ∈ tbl := tbl_c3 (List.mem_of_getElem? (i := 230) (by decide +kernel)) rfl
theorem kw711 : Cond.fieldLink RX7 34 "HarbourMudModel" "wayTo" "[I" ∈ tbl := tbl_c3 (List.mem_of_getElem? (i := 231) (by decide +kernel)) rfl
theorem kw712 : Cond.fieldLink RX7 37 "HarbourMudModel" "wayKind" "[I" ∈ tbl := tbl_c3 (List.mem_of_getElem? (i := 232) (by decide +kernel)) rfl
theorem kw713 : Cond.fieldLink RX7 40 "HarbourMudModel" "wayStuff" "[I" ∈ tbl := tbl_c3 (List.mem_of_getElem? (i := 233) (by decide +kernel)) rfl
theorem kw714 : Cond.fieldLink RX7 43 "HarbourMudModel" "wayPart" "[I" ∈ tbl := tbl_c3 (List.mem_of_getElem? (i := 234) (by decide +kernel)) rfl
theorem kw715 : Cond.fieldLink RX7 46 "HarbourMudModel" "isShut" "[Z" ∈ tbl := tbl_c3 (List.mem_of_getElem? (i := 235) (by decide +kernel)) rfl
theorem kw716 : Cond.fieldLink RX7 147 "HarbourMudModel" "rivers" "I" ∈ tbl := tbl_c3 (List.mem_of_getElem? (i := 236) (by decide +kernel)) rfl
theorem kw717 : Cond.fieldLink RX7 50 "HarbourMudModel" "riverCell" "[I" ∈ tbl := tbl_c3 (List.mem_of_getElem? (i := 237) (by decide +kernel)) rfl
theorem kw718 : Cond.fieldLink RX7 53 "HarbourMudModel" "riverStuff" "[I" ∈ tbl := tbl_c3 (List.mem_of_getElem? (i := 238) (by decide +kernel)) rfl
theorem kw719 : Cond.fieldLink RX7 56 "HarbourMudModel" "riverTons" "[I" ∈ tbl := tbl_c3 (List.mem_of_getElem? (i := 239) (by decide +kernel)) rfl
theorem kw720 : Cond.fieldLink RX7 59 "HarbourMudModel" "moon" "[I" ∈ tbl := tbl_c4 (List.mem_of_getElem? (i := 0) (by decide +kernel)) rfl
theorem kw721 : Cond.fieldLink RX7 62 "HarbourMudModel" "moonMany" "I" ∈ tbl := tbl_c4 (List.mem_of_getElem? (i := 1) (by decide +kernel)) rfl
theorem kw722 : Cond.fieldLink RX7 186 "HarbourMudModel" "tide" "I" ∈ tbl := tbl_c4 (List.mem_of_getElem? (i := 2) (by decide +kernel)) rfl
theorem kw723 : Cond.fieldLink RX7 194 "HarbourMudModel" "gone" "I" ∈ tbl := tbl_c4 (List.mem_of_getElem? (i := 3) (by decide +kernel)) rfl
theorem kw724 : Cond.fieldLink RX7 203 "HarbourMudModel" "took" "I" ∈ tbl := tbl_c4 (List.mem_of_getElem? (i := 4) (by decide +kernel)) rfl
theorem kw725 : Cond.fieldLink RX7 170 "HarbourMudModel" "cap" "I" ∈ tbl := tbl_c4 (List.mem_of_getElem? (i := 5) (by decide +kernel)) rfl
theorem kw726 : Cond.fieldLink RX7 66 "HarbourMudModel" "drop" "I" ∈ tbl := tbl_c4 (List.mem_of_getElem? (i := 6) (by decide +kernel)) rfl
theorem kw727 : Cond.fieldLink RX7 173 "HarbourMudModel" "plan" "I" ∈ tbl := tbl_c4 (List.mem_of_getElem? (i := 7) (by decide +kernel)) rfl
theorem kw728 : Cond.fieldLink RX7 176 "HarbourMudModel" "told" "I" ∈ tbl := tbl_c4 (List.mem_of_getElem? (i := 8) (by decide +kernel)) rfl
theorem kw729 : Cond.fieldLink RX7 69 "HarbourMudModel" "fee" "I" ∈ tbl := tbl_c4 (List.mem_of_getElem? (i := 9) (by decide +kernel)) rfl
theorem kw730 : Cond.fieldLink RX7 72 "HarbourMudModel" "text" "[I" ∈ tbl := tbl_c4 (List.mem_of_getElem? (i := 10) (by decide +kernel)) rfl
theorem kw731 : Cond.fieldLink RX7 108 "HarbourMudModel" "textMany" "I" ∈ tbl := tbl_c4 (List.mem_of_getElem? (i := 11) (by decide +kernel)) rfl
theorem kw732 : Cond.fieldLink RX7 75 "HarbourMudModel" "row" "[I" ∈ tbl := tbl_c4 (List.mem_of_getElem? (i := 12) (by decide +kernel)) rfl
theorem kw733 : Cond.fieldLink RX7 261 "HarbourMudModel" "rowMany" "I" ∈ tbl := tbl_c4 (List.mem_of_getElem? (i := 13) (by decide +kernel)) rfl
theorem kw734 : Cond.fieldLink RX7 78 "HarbourMudModel" "refused" "[I" ∈ tbl := tbl_c4 (List.mem_of_getElem? (i := 14) (by decide +kernel)) rfl
theorem kw735 : Cond.fieldLink RX7 81 "HarbourMudModel" "dryRiver" "I" ∈ tbl := tbl_c4 (List.mem_of_getElem? (i := 15) (by decide +kernel)) rfl
theorem kw736 : Cond.fieldLink RX7 84 "HarbourMudModel" "were" "[I" ∈ tbl := tbl_c4 (List.mem_of_getElem? (i := 16) (by decide +kernel)) rfl
theorem kw737 : Cond.fieldLink RX7 197 "HarbourMudModel" "tonsTaken" "I" ∈ tbl := tbl_c4 (List.mem_of_getElem? (i := 17) (by decide +kernel)) rfl
theorem kw738 : Cond.fieldLink RX7 200 "HarbourMudModel" "tonsToSea" "I" ∈ tbl := tbl_c4 (List.mem_of_getElem? (i := 18) (by decide +kernel)) rfl
theorem kw739 : Cond.fieldLink RX7 87 "HarbourMudModel" "savedLoose" "[I" ∈ tbl := tbl_c4 (List.mem_of_getElem? (i := 19) (by decide +kernel)) rfl
theorem kw740 : Cond.fieldLink RX7 90 "HarbourMudModel" "savedSettled" "[I" ∈ tbl := tbl_c4 (List.mem_of_getElem? (i := 20) (by decide +kernel)) rfl
theorem kw741 : Cond.fieldLink RX7 226 "HarbourMudModel" "savedTide" "I" ∈ tbl := tbl_c4 (List.mem_of_getElem? (i := 21) (by decide +kernel)) rfl
theorem kw742 : Cond.fieldLink RX7 229 "HarbourMudModel" "savedGone" "I" ∈ tbl := tbl_c4 (List.mem_of_getElem? (i := 22) (by decide +kernel)) rfl
theorem kw743 : Cond.fieldLink RX7 232 "HarbourMudModel" "savedTook" "I" ∈ tbl := tbl_c4 (List.mem_of_getElem? (i := 23) (by decide +kernel)) rfl
theorem kw744 : Cond.fieldLink RX7 268 "HarbourMudModel" "at" "I" ∈ tbl := tbl_c4 (List.mem_of_getElem? (i := 24) (by decide +kernel)) rfl
theorem kw745 : Cond.fieldLink RX7 271 "HarbourMudModel" "end" "I" ∈ tbl := tbl_c4 (List.mem_of_getElem? (i := 25) (by decide +kernel)) rfl
theorem kw746 : Cond.fieldLink RX7 274 "HarbourMudModel" "isBad" "Z" ∈ tbl := tbl_c4 (List.mem_of_getElem? (i := 26) (by decide +kernel)) rfl
theorem kw747 : Cond.fieldLink RX7 292 "HarbourMudModel" "statements" "I" ∈ tbl := tbl_c4 (List.mem_of_getElem? (i := 27) (by decide +kernel)) rfl
theorem kw748 : Cond.fieldLink RX7 93 "HarbourMudModel" "placeOf" "[I" ∈ tbl := tbl_c4 (List.mem_of_getElem? (i := 28) (by decide +kernel)) rfl
theorem kw749 : Cond.fieldLink RX7 96 "HarbourMudModel" "letterOf" "[I" ∈ tbl := tbl_c4 (List.mem_of_getElem? (i := 29) (by decide +kernel)) rfl
theorem kw750 : Cond.fieldLink RX7 99 "HarbourMudModel" "numbers" "[I" ∈ tbl := tbl_c4 (List.mem_of_getElem? (i := 30) (by decide +kernel)) rfl
theorem kw751 : Cond.fieldLink RX7 102 "HarbourMudModel" "savedMoon" "[I" ∈ tbl := tbl_c4 (List.mem_of_getElem? (i := 31) (by decide +kernel)) rfl
theorem kw752 : Cond.fieldLink RX7 320 "HarbourMudModel" "hasImage" "Z" ∈ tbl := tbl_c4 (List.mem_of_getElem? (i := 32) (by decide +kernel)) rfl
theorem kw753 : Cond.fieldLink RX7 105 "HarbourMudModel" "imaged" "[I" ∈ tbl := tbl_c4 (List.mem_of_getElem? (i := 33) (by decide +kernel)) rfl
theorem kw754 : Cond.fieldLink RX7 314 "HarbourMudModel" "imageAt" "I" ∈ tbl := tbl_c4 (List.mem_of_getElem? (i := 34) (by decide +kernel)) rfl
theorem kw755 : Cond.fieldLink RX7 311 "HarbourMudModel" "isTaking" "Z" ∈ tbl := tbl_c4 (List.mem_of_getElem? (i := 35) (by decide +kernel)) rfl
theorem kw867 : Cond.arrayClass .boolean ∈ tbl := tbl_c4 (List.mem_of_getElem? (i := 147) (by decide +kernel)) rfl
theorem kw868 : Cond.methodLink RL 29 yX7_cell ∈ tbl := tbl_c4 (List.mem_of_getElem? (i := 148) (by decide +kernel)) rfl
theorem kw869 : Cond.instanceMethod yX7_cell ∈ tbl := tbl_c4 (List.mem_of_getElem? (i := 149) (by decide +kernel)) rfl
theorem kw870 : Cond.selects RX7 yX7_cell yX7_cell ∈ tbl := tbl_c4 (List.mem_of_getElem? (i := 150) (by decide +kernel)) rfl
theorem kw871 : Cond.code yX7_cell cX7_cell 3 (some .int) ∈ tbl := tbl_c4 (List.mem_of_getElem? (i := 151) rfl) rfl
theorem kw872 : Cond.methodLink RX7 118 yX7_refuse ∈ tbl := tbl_c4 (List.mem_of_getElem? (i := 152) (by decide +kernel)) rfl
theorem kw874 : Cond.instanceMethod yX7_refuse ∈ tbl := tbl_c4 (List.mem_of_getElem? (i := 154) (by decide +kernel)) rfl
theorem kw875 : Cond.code yX7_refuse cX7_refuse 2 (some .int) ∈ tbl := tbl_c4 (List.mem_of_getElem? (i := 155) rfl) rfl
theorem kw876 : Cond.methodLink RX7 122 yX7_addCell ∈ tbl := tbl_c4 (List.mem_of_getElem? (i := 156) (by decide +kernel)) rfl
theorem kw878 : Cond.instanceMethod yX7_addCell ∈ tbl := tbl_c4 (List.mem_of_getElem? (i := 158) (by decide +kernel)) rfl
theorem kw879 : Cond.code yX7_addCell cX7_addCell 4 none ∈ tbl := tbl_c4 (List.mem_of_getElem? (i := 159) rfl) rfl
theorem kw880 : Cond.methodLink RL 34 yX7_set ∈ tbl := tbl_c4 (List.mem_of_getElem? (i := 160) (by decide +kernel)) rfl
theorem kw881 : Cond.instanceMethod yX7_set ∈ tbl := tbl_c4 (List.mem_of_getElem? (i := 161) (by decide +kernel)) rfl
theorem kw882 : Cond.selects RX7 yX7_set yX7_set ∈ tbl := tbl_c4 (List.mem_of_getElem? (i := 162) (by decide +kernel)) rfl
theorem kw883 : Cond.code yX7_set cX7_set 5 (some .int) ∈ tbl := tbl_c4 (List.mem_of_getElem? (i := 163) rfl) rfl
theorem kw884 : Cond.methodLink RX7 126 yX7_isCell ∈ tbl := tbl_c4 (List.mem_of_getElem? (i := 164) (by decide +kernel)) rfl
theorem kw886 : Cond.instanceMethod yX7_isCell ∈ tbl := tbl_c4 (List.mem_of_getElem? (i := 166) (by decide +kernel)) rfl
theorem kw887 : Cond.code yX7_isCell cX7_isCell 2 (some .boolean) ∈ tbl := tbl_c4 (List.mem_of_getElem? (i := 167) rfl) rfl
theorem kw888 : Cond.methodLink RX7 114 yX7_in ∈ tbl := tbl_c4 (List.mem_of_getElem? (i := 168) (by decide +kernel)) rfl
theorem kw889 : Cond.static yX7_in ∈ tbl := tbl_c4 (List.mem_of_getElem? (i := 169) (by decide +kernel)) rfl
theorem kw890 : Cond.code yX7_in cX7_in 6 (some .boolean) ∈ tbl := tbl_c4 (List.mem_of_getElem? (i := 170) rfl) rfl
theorem kw891 : Cond.constantLong RX7 130 (3) ∈ tbl := tbl_c4 (List.mem_of_getElem? (i := 171) (by decide +kernel)) rfl
theorem kw892 : Cond.methodLink RL 39 yX7_way ∈ tbl := tbl_c4 (List.mem_of_getElem? (i := 172) (by decide +kernel)) rfl
theorem kw893 : Cond.instanceMethod yX7_way ∈ tbl := tbl_c4 (List.mem_of_getElem? (i := 173) (by decide +kernel)) rfl
theorem kw894 : Cond.selects RX7 yX7_way yX7_way ∈ tbl := tbl_c4 (List.mem_of_getElem? (i := 174) (by decide +kernel)) rfl
theorem kw895 : Cond.code yX7_way cX7_way 5 (some .int) ∈ tbl := tbl_c4 (List.mem_of_getElem? (i := 175) rfl) rfl
theorem kw896 : Cond.methodLink RX7 135 yX7_areEnds ∈ tbl := tbl_c4 (List.mem_of_getElem? (i := 176) (by decide +kernel)) rfl
theorem kw898 : Cond.instanceMethod yX7_areEnds ∈ tbl := tbl_c4 (List.mem_of_getElem? (i := 178) (by decide +kernel)) rfl
theorem kw899 : Cond.code yX7_areEnds cX7_areEnds 3 (some .boolean) ∈ tbl := tbl_c4 (List.mem_of_getElem? (i := 179) rfl) rfl
theorem kw900 : Cond.methodLink RX7 139 yX7_partsFrom ∈ tbl := tbl_c4 (List.mem_of_getElem? (i := 180) (by decide +kernel)) rfl
theorem kw902 : Cond.instanceMethod yX7_partsFrom ∈ tbl := tbl_c4 (List.mem_of_getElem? (i := 182) (by decide +kernel)) rfl
theorem kw903 : Cond.code yX7_partsFrom cX7_partsFrom 6 (some .int) ∈ tbl := tbl_c4 (List.mem_of_getElem? (i := 183) rfl) rfl
theorem kw904 : Cond.methodLink RX7 143 yX7_addWay ∈ tbl := tbl_c4 (List.mem_of_getElem? (i := 184) (by decide +kernel)) rfl
theorem kw906 : Cond.instanceMethod yX7_addWay ∈ tbl := tbl_c4 (List.mem_of_getElem? (i := 186) (by decide +kernel)) rfl
theorem kw907 : Cond.code yX7_addWay cX7_addWay 6 none ∈ tbl := tbl_c4 (List.mem_of_getElem? (i := 187) rfl) rfl
theorem kw908 : Cond.methodLink RL 44 yX7_shut ∈ tbl := tbl_c4 (List.mem_of_getElem? (i := 188) (by decide +kernel)) rfl
theorem kw909 : Cond.instanceMethod yX7_shut ∈ tbl := tbl_c4 (List.mem_of_getElem? (i := 189) (by decide +kernel)) rfl
theorem kw910 : Cond.selects RX7 yX7_shut yX7_shut ∈ tbl := tbl_c4 (List.mem_of_getElem? (i := 190) (by decide +kernel)) rfl
theorem kw911 : Cond.code yX7_shut cX7_shut 4 (some .int) ∈ tbl := tbl_c4 (List.mem_of_getElem? (i := 191) rfl) rfl
theorem kw912 : Cond.methodLink RL 48 yX7_river ∈ tbl := tbl_c4 (List.mem_of_getElem? (i := 192) (by decide +kernel)) rfl
theorem kw913 : Cond.instanceMethod yX7_river ∈ tbl := tbl_c4 (List.mem_of_getElem? (i := 193) (by decide +kernel)) rfl
theorem kw914 : Cond.selects RX7 yX7_river yX7_river ∈ tbl := tbl_c4 (List.mem_of_getElem? (i := 194) (by decide +kernel)) rfl
theorem kw915 : Cond.code yX7_river cX7_river 4 (some .int) ∈ tbl := tbl_c4 (List.mem_of_getElem? (i := 195) rfl) rfl
theorem kw916 : Cond.methodLink RX7 150 yX7_isStuff ∈ tbl := tbl_c4 (List.mem_of_getElem? (i := 196) (by decide +kernel)) rfl
theorem kw917 : Cond.static yX7_isStuff ∈ tbl := tbl_c4 (List.mem_of_getElem? (i := 197) (by decide +kernel)) rfl
theorem kw918 : Cond.code yX7_isStuff cX7_isStuff 1 (some .boolean) ∈ tbl := tbl_c4 (List.mem_of_getElem? (i := 198) rfl) rfl
theorem kw919 : Cond.methodLink RX7 153 yX7_addRiver ∈ tbl := tbl_c4 (List.mem_of_getElem? (i := 199) (by decide +kernel)) rfl
theorem kw921 : Cond.instanceMethod yX7_addRiver ∈ tbl := tbl_c4 (List.mem_of_getElem? (i := 201) (by decide +kernel)) rfl
theorem kw922 : Cond.code yX7_addRiver cX7_addRiver 4 none ∈ tbl := tbl_c4 (List.mem_of_getElem? (i := 202) rfl) rfl
theorem kw923 : Cond.methodLink RL 52 yX7_moon ∈ tbl := tbl_c4 (List.mem_of_getElem? (i := 203) (by decide +kernel)) rfl
theorem kw924 : Cond.instanceMethod yX7_moon ∈ tbl := tbl_c4 (List.mem_of_getElem? (i := 204) (by decide +kernel)) rfl
theorem kw925 : Cond.selects RX7 yX7_moon yX7_moon ∈ tbl := tbl_c4 (List.mem_of_getElem? (i := 205) (by decide +kernel)) rfl
theorem kw926 : Cond.code yX7_moon cX7_moon 5 (some .int) ∈ tbl := tbl_c4 (List.mem_of_getElem? (i := 206) rfl) rfl
theorem kw927 : Cond.methodLink RL 57 yX7_put ∈ tbl := tbl_c4 (List.mem_of_getElem? (i := 207) (by decide +kernel)) rfl
theorem kw928 : Cond.instanceMethod yX7_put ∈ tbl := tbl_c4 (List.mem_of_getElem? (i := 208) (by decide +kernel)) rfl
theorem kw929 : Cond.selects RX7 yX7_put yX7_put ∈ tbl := tbl_c4 (List.mem_of_getElem? (i := 209) (by decide +kernel)) rfl
theorem kw930 : Cond.code yX7_put cX7_put 7 (some .int) ∈ tbl := tbl_c4 (List.mem_of_getElem? (i := 210) rfl) rfl
theorem kw931 : Cond.constant RX7 157 (1000000) ∈ tbl := tbl_c4 (List.mem_of_getElem? (i := 211) (by decide +kernel)) rfl
theorem kw932 : Cond.methodLink RL 62 yX7_tons ∈ tbl := tbl_c4 (List.mem_of_getElem? (i := 212) (by decide +kernel)) rfl
theorem kw933 : Cond.instanceMethod yX7_tons ∈ tbl := tbl_c4 (List.mem_of_getElem? (i := 213) (by decide +kernel)) rfl
theorem kw934 : Cond.selects RX7 yX7_tons yX7_tons ∈ tbl := tbl_c4 (List.mem_of_getElem? (i := 214) (by decide +kernel)) rfl
theorem kw935 : Cond.code yX7_tons cX7_tons 4 (some .int) ∈ tbl := tbl_c4 (List.mem_of_getElem? (i := 215) rfl) rfl
theorem kw936 : Cond.methodLink RL 67 yX7_depth ∈ tbl := tbl_c4 (List.mem_of_getElem? (i := 216) (by decide +kernel)) rfl
theorem kw937 : Cond.instanceMethod yX7_depth ∈ tbl := tbl_c4 (List.mem_of_getElem? (i := 217) (by decide +kernel)) rfl
theorem kw938 : Cond.selects RX7 yX7_depth yX7_depth ∈ tbl := tbl_c4 (List.mem_of_getElem? (i := 218) (by decide +kernel)) rfl
theorem kw939 : Cond.code yX7_depth cX7_depth 2 (some .int) ∈ tbl := tbl_c4 (List.mem_of_getElem? (i := 219) rfl) rfl
theorem kw940 : Cond.methodLink RX7 161 yX7_depthOf ∈ tbl := tbl_c4 (List.mem_of_getElem? (i := 220) (by decide +kernel)) rfl
theorem kw942 : Cond.instanceMethod yX7_depthOf ∈ tbl := tbl_c4 (List.mem_of_getElem? (i := 222) (by decide +kernel)) rfl
theorem kw943 : Cond.code yX7_depthOf cX7_depthOf 3 (some .int) ∈ tbl := tbl_c4 (List.mem_of_getElem? (i := 223) rfl) rfl
theorem kw944 : Cond.methodLink RX7 158 yX7_settledIn ∈ tbl := tbl_c4 (List.mem_of_getElem? (i := 224) (by decide +kernel)) rfl
theorem kw946 : Cond.instanceMethod yX7_settledIn ∈ tbl := tbl_c4 (List.mem_of_getElem? (i := 226) (by decide +kernel)) rfl
theorem kw947 : Cond.code yX7_settledIn cX7_settledIn 2 (some .int) ∈ tbl := tbl_c4 (List.mem_of_getElem? (i := 227) rfl) rfl
theorem kw948 : Cond.methodLink RL 71 yX7_lacks ∈ tbl := tbl_c4 (List.mem_of_getElem? (i := 228) (by decide +kernel)) rfl
theorem kw949 : Cond.instanceMethod yX7_lacks ∈ tbl := tbl_c4 (List.mem_of_getElem? (i := 229) (by decide +kernel)) rfl
theorem kw950 : Cond.selects RX7 yX7_lacks yX7_lacks ∈ tbl := tbl_c4 (List.mem_of_getElem? (i := 230) (by decide +kernel)) rfl
theorem kw951 : Cond.code yX7_lacks cX7_lacks 2 (some .int) ∈ tbl := tbl_c4 (List.mem_of_getElem? (i := 231) rfl) rfl
theorem kw952 : Cond.methodLink RX7 164 yX7_lacksOf ∈ tbl := tbl_c4 (List.mem_of_getElem? (i := 232) (by decide +kernel)) rfl
theorem kw954 : Cond.instanceMethod yX7_lacksOf ∈ tbl := tbl_c4 (List.mem_of_getElem? (i := 234) (by decide +kernel)) rfl
theorem kw955 : Cond.code yX7_lacksOf cX7_lacksOf 2 (some .int) ∈ tbl := tbl_c4 (List.mem_of_getElem? (i := 235) rfl) rfl
theorem kw956 : Cond.constant RX7 167 (-1000000000) ∈ tbl := tbl_c4 (List.mem_of_getElem? (i := 236) (by decide +kernel)) rfl
theorem kw957 : Cond.methodLink RL 75 yX7_dredger ∈ tbl := tbl_c4 (List.mem_of_getElem? (i := 237) (by decide +kernel)) rfl
theorem kw958 : Cond.instanceMethod yX7_dredger ∈ tbl := tbl_c4 (List.mem_of_getElem? (i := 238) (by decide +kernel)) rfl
theorem kw959 : Cond.selects RX7 yX7_dredger yX7_dredger ∈ tbl := tbl_c4 (List.mem_of_getElem? (i := 239) (by decide +kernel)) rfl
theorem kw960 : Cond.code yX7_dredger cX7_dredger 4 (some .int) ∈ tbl := tbl_c5 (List.mem_of_getElem? (i := 0) rfl) rfl
theorem kw961 : Cond.constantLong RX7 168 (4) ∈ tbl := tbl_c5 (List.mem_of_getElem? (i := 1) (by decide +kernel)) rfl
theorem kw962 : Cond.methodLink RL 79 yX7_takes ∈ tbl := tbl_c5 (List.mem_of_getElem? (i := 2) (by decide +kernel)) rfl
theorem kw963 : Cond.instanceMethod yX7_takes ∈ tbl := tbl_c5 (List.mem_of_getElem? (i := 3) (by decide +kernel)) rfl
theorem kw964 : Cond.selects RX7 yX7_takes yX7_takes ∈ tbl := tbl_c5 (List.mem_of_getElem? (i := 4) (by decide +kernel)) rfl
theorem kw965 : Cond.code yX7_takes cX7_takes 1 (some .int) ∈ tbl := tbl_c5 (List.mem_of_getElem? (i := 5) rfl) rfl
theorem kw966 : Cond.methodLink RX7 189 yX7_kindAt ∈ tbl := tbl_c5 (List.mem_of_getElem? (i := 6) (by decide +kernel)) rfl
theorem kw968 : Cond.instanceMethod yX7_kindAt ∈ tbl := tbl_c5 (List.mem_of_getElem? (i := 8) (by decide +kernel)) rfl
theorem kw969 : Cond.code yX7_kindAt cX7_kindAt 2 (some .int) ∈ tbl := tbl_c5 (List.mem_of_getElem? (i := 9) rfl) rfl
theorem kw970 : Cond.methodLink RX7 213 yX7_chosen ∈ tbl := tbl_c5 (List.mem_of_getElem? (i := 10) (by decide +kernel)) rfl
theorem kw972 : Cond.instanceMethod yX7_chosen ∈ tbl := tbl_c5 (List.mem_of_getElem? (i := 12) (by decide +kernel)) rfl
theorem kw973 : Cond.code yX7_chosen cX7_chosen 3 (some .int) ∈ tbl := tbl_c5 (List.mem_of_getElem? (i := 13) rfl) rfl
theorem kw974 : Cond.methodLink RX7 179 yX7_lackingMost ∈ tbl := tbl_c5 (List.mem_of_getElem? (i := 14) (by decide +kernel)) rfl
theorem kw976 : Cond.instanceMethod yX7_lackingMost ∈ tbl := tbl_c5 (List.mem_of_getElem? (i := 16) (by decide +kernel)) rfl
theorem kw977 : Cond.code yX7_lackingMost cX7_lackingMost 4 (some .int) ∈ tbl := tbl_c5 (List.mem_of_getElem? (i := 17) rfl) rfl
theorem kw978 : Cond.methodLink RX7 183 yX7_deepest ∈ tbl := tbl_c5 (List.mem_of_getElem? (i := 18) (by decide +kernel)) rfl
theorem kw980 : Cond.instanceMethod yX7_deepest ∈ tbl := tbl_c5 (List.mem_of_getElem? (i := 20) (by decide +kernel)) rfl
theorem kw981 : Cond.code yX7_deepest cX7_deepest 4 (some .int) ∈ tbl := tbl_c5 (List.mem_of_getElem? (i := 21) rfl) rfl
theorem kw982 : Cond.methodLink RL 83 yX7_go ∈ tbl := tbl_c5 (List.mem_of_getElem? (i := 22) (by decide +kernel)) rfl
theorem kw983 : Cond.instanceMethod yX7_go ∈ tbl := tbl_c5 (List.mem_of_getElem? (i := 23) (by decide +kernel)) rfl
theorem kw984 : Cond.selects RX7 yX7_go yX7_go ∈ tbl := tbl_c5 (List.mem_of_getElem? (i := 24) (by decide +kernel)) rfl
theorem kw985 : Cond.code yX7_go cX7_go 3 (some .int) ∈ tbl := tbl_c5 (List.mem_of_getElem? (i := 25) rfl) rfl
theorem kw986 : Cond.methodLink RX7 220 yX7_wrongTides ∈ tbl := tbl_c5 (List.mem_of_getElem? (i := 26) (by decide +kernel)) rfl
theorem kw988 : Cond.instanceMethod yX7_wrongTides ∈ tbl := tbl_c5 (List.mem_of_getElem? (i := 28) (by decide +kernel)) rfl
theorem kw989 : Cond.code yX7_wrongTides cX7_wrongTides 2 (some .int) ∈ tbl := tbl_c5 (List.mem_of_getElem? (i := 29) rfl) rfl
theorem kw990 : Cond.methodLink RX7 223 yX7_passTide ∈ tbl := tbl_c5 (List.mem_of_getElem? (i := 30) (by decide +kernel)) rfl
theorem kw992 : Cond.instanceMethod yX7_passTide ∈ tbl := tbl_c5 (List.mem_of_getElem? (i := 32) (by decide +kernel)) rfl
theorem kw993 : Cond.code yX7_passTide cX7_passTide 1 none ∈ tbl := tbl_c5 (List.mem_of_getElem? (i := 33) rfl) rfl
theorem kw994 : Cond.methodLink RX7 210 yX7_flow ∈ tbl := tbl_c5 (List.mem_of_getElem? (i := 34) (by decide +kernel)) rfl
theorem kw996 : Cond.instanceMethod yX7_flow ∈ tbl := tbl_c5 (List.mem_of_getElem? (i := 36) (by decide +kernel)) rfl
theorem kw997 : Cond.code yX7_flow cX7_flow 5 none ∈ tbl := tbl_c5 (List.mem_of_getElem? (i := 37) rfl) rfl
theorem kw998 : Cond.constantLong RX7 192 (100) ∈ tbl := tbl_c5 (List.mem_of_getElem? (i := 38) (by decide +kernel)) rfl
theorem kw999 : Cond.methodLink RX7 216 yX7_take ∈ tbl := tbl_c5 (List.mem_of_getElem? (i := 39) (by decide +kernel)) rfl
theorem kw1001 : Cond.instanceMethod yX7_take ∈ tbl := tbl_c5 (List.mem_of_getElem? (i := 41) (by decide +kernel)) rfl
theorem kw1002 : Cond.code yX7_take cX7_take 6 none ∈ tbl := tbl_c5 (List.mem_of_getElem? (i := 42) rfl) rfl
theorem kw1003 : Cond.methodLink RL 88 yX7_cost ∈ tbl := tbl_c5 (List.mem_of_getElem? (i := 43) (by decide +kernel)) rfl
theorem kw1004 : Cond.instanceMethod yX7_cost ∈ tbl := tbl_c5 (List.mem_of_getElem? (i := 44) (by decide +kernel)) rfl
theorem kw1005 : Cond.selects RX7 yX7_cost yX7_cost ∈ tbl := tbl_c5 (List.mem_of_getElem? (i := 45) (by decide +kernel)) rfl
theorem kw1006 : Cond.code yX7_cost cX7_cost 2 (some .long) ∈ tbl := tbl_c5 (List.mem_of_getElem? (i := 46) rfl) rfl
theorem kw1007 : Cond.constantLong RX7 244 (-4000000000000000000) ∈ tbl := tbl_c5 (List.mem_of_getElem? (i := 47) (by decide +kernel)) rfl
theorem kw1008 : Cond.methodLink RX7 246 yX7_costOf ∈ tbl := tbl_c5 (List.mem_of_getElem? (i := 48) (by decide +kernel)) rfl
theorem kw1010 : Cond.instanceMethod yX7_costOf ∈ tbl := tbl_c5 (List.mem_of_getElem? (i := 50) (by decide +kernel)) rfl
theorem kw1011 : Cond.code yX7_costOf cX7_costOf 5 (some .long) ∈ tbl := tbl_c5 (List.mem_of_getElem? (i := 51) rfl) rfl
theorem kw1012 : Cond.methodLink RX7 235 yX7_save ∈ tbl := tbl_c5 (List.mem_of_getElem? (i := 52) (by decide +kernel)) rfl
theorem kw1014 : Cond.instanceMethod yX7_save ∈ tbl := tbl_c5 (List.mem_of_getElem? (i := 54) (by decide +kernel)) rfl
theorem kw1015 : Cond.code yX7_save cX7_save 2 none ∈ tbl := tbl_c5 (List.mem_of_getElem? (i := 55) rfl) rfl
theorem kw1016 : Cond.methodLink RX7 238 yX7_costNow ∈ tbl := tbl_c5 (List.mem_of_getElem? (i := 56) (by decide +kernel)) rfl
theorem kw1018 : Cond.instanceMethod yX7_costNow ∈ tbl := tbl_c5 (List.mem_of_getElem? (i := 58) (by decide +kernel)) rfl
theorem kw1019 : Cond.code yX7_costNow cX7_costNow 1 (some .int) ∈ tbl := tbl_c5 (List.mem_of_getElem? (i := 59) rfl) rfl
theorem kw1020 : Cond.methodLink RX7 206 yX7_feetLacking ∈ tbl := tbl_c5 (List.mem_of_getElem? (i := 60) (by decide +kernel)) rfl
theorem kw1022 : Cond.instanceMethod yX7_feetLacking ∈ tbl := tbl_c5 (List.mem_of_getElem? (i := 62) (by decide +kernel)) rfl
theorem kw1023 : Cond.code yX7_feetLacking cX7_feetLacking 5 (some .int) ∈ tbl := tbl_c5 (List.mem_of_getElem? (i := 63) rfl) rfl
theorem kw1024 : Cond.methodLink RX7 241 yX7_putBack ∈ tbl := tbl_c5 (List.mem_of_getElem? (i := 64) (by decide +kernel)) rfl
theorem kw1026 : Cond.instanceMethod yX7_putBack ∈ tbl := tbl_c5 (List.mem_of_getElem? (i := 66) (by decide +kernel)) rfl
theorem kw1027 : Cond.code yX7_putBack cX7_putBack 2 none ∈ tbl := tbl_c5 (List.mem_of_getElem? (i := 67) rfl) rfl
theorem kw1028 : Cond.methodLink RL 92 yX7_holds ∈ tbl := tbl_c5 (List.mem_of_getElem? (i := 68) (by decide +kernel)) rfl
theorem kw1029 : Cond.instanceMethod yX7_holds ∈ tbl := tbl_c5 (List.mem_of_getElem? (i := 69) (by decide +kernel)) rfl
theorem kw1030 : Cond.selects RX7 yX7_holds yX7_holds ∈ tbl := tbl_c5 (List.mem_of_getElem? (i := 70) (by decide +kernel)) rfl
theorem kw1031 : Cond.code yX7_holds cX7_holds 2 (some .int) ∈ tbl := tbl_c5 (List.mem_of_getElem? (i := 71) rfl) rfl
theorem kw1032 : Cond.methodLink RX7 250 yX7_holdsFor ∈ tbl := tbl_c5 (List.mem_of_getElem? (i := 72) (by decide +kernel)) rfl
theorem kw1034 : Cond.instanceMethod yX7_holdsFor ∈ tbl := tbl_c5 (List.mem_of_getElem? (i := 74) (by decide +kernel)) rfl
theorem kw1035 : Cond.code yX7_holdsFor cX7_holdsFor 4 (some .int) ∈ tbl := tbl_c5 (List.mem_of_getElem? (i := 75) rfl) rfl
theorem kw1036 : Cond.methodLink RL 96 yX7_alone ∈ tbl := tbl_c5 (List.mem_of_getElem? (i := 76) (by decide +kernel)) rfl
theorem kw1037 : Cond.instanceMethod yX7_alone ∈ tbl := tbl_c5 (List.mem_of_getElem? (i := 77) (by decide +kernel)) rfl
theorem kw1038 : Cond.selects RX7 yX7_alone yX7_alone ∈ tbl := tbl_c5 (List.mem_of_getElem? (i := 78) (by decide +kernel)) rfl
theorem kw1039 : Cond.code yX7_alone cX7_alone 4 (some .int) ∈ tbl := tbl_c5 (List.mem_of_getElem? (i := 79) rfl) rfl
theorem kw1040 : Cond.methodLink RL 101 yX7_back ∈ tbl := tbl_c5 (List.mem_of_getElem? (i := 80) (by decide +kernel)) rfl
theorem kw1041 : Cond.instanceMethod yX7_back ∈ tbl := tbl_c5 (List.mem_of_getElem? (i := 81) (by decide +kernel)) rfl
theorem kw1042 : Cond.selects RX7 yX7_back yX7_back ∈ tbl := tbl_c5 (List.mem_of_getElem? (i := 82) (by decide +kernel)) rfl
theorem kw1043 : Cond.code yX7_back cX7_back 6 (some .int) ∈ tbl := tbl_c5 (List.mem_of_getElem? (i := 83) rfl) rfl
theorem kw1044 : Cond.methodLink RX7 253 yX7_tonsAfter ∈ tbl := tbl_c5 (List.mem_of_getElem? (i := 84) (by decide +kernel)) rfl
theorem kw1046 : Cond.instanceMethod yX7_tonsAfter ∈ tbl := tbl_c5 (List.mem_of_getElem? (i := 86) (by decide +kernel)) rfl
theorem kw1047 : Cond.code yX7_tonsAfter cX7_tonsAfter 8 (some .int) ∈ tbl := tbl_c5 (List.mem_of_getElem? (i := 87) rfl) rfl
theorem kw1048 : Cond.methodLink RL 105 yX7_bestDrop ∈ tbl := tbl_c5 (List.mem_of_getElem? (i := 88) (by decide +kernel)) rfl
theorem kw1049 : Cond.instanceMethod yX7_bestDrop ∈ tbl := tbl_c5 (List.mem_of_getElem? (i := 89) (by decide +kernel)) rfl
theorem kw1050 : Cond.selects RX7 yX7_bestDrop yX7_bestDrop ∈ tbl := tbl_c5 (List.mem_of_getElem? (i := 90) (by decide +kernel)) rfl
theorem kw1051 : Cond.code yX7_bestDrop cX7_bestDrop 9 (some .int) ∈ tbl := tbl_c5 (List.mem_of_getElem? (i := 91) rfl) rfl
theorem kw1052 : Cond.methodLink RL 109 yX7_bestPlan ∈ tbl := tbl_c5 (List.mem_of_getElem? (i := 92) (by decide +kernel)) rfl
theorem kw1053 : Cond.instanceMethod yX7_bestPlan ∈ tbl := tbl_c5 (List.mem_of_getElem? (i := 93) (by decide +kernel)) rfl
theorem kw1054 : Cond.selects RX7 yX7_bestPlan yX7_bestPlan ∈ tbl := tbl_c5 (List.mem_of_getElem? (i := 94) (by decide +kernel)) rfl
theorem kw1055 : Cond.code yX7_bestPlan cX7_bestPlan 9 (some .int) ∈ tbl := tbl_c5 (List.mem_of_getElem? (i := 95) rfl) rfl
theorem kw1056 : Cond.methodLink RL 113 yX7_leastCap ∈ tbl := tbl_c5 (List.mem_of_getElem? (i := 96) (by decide +kernel)) rfl
theorem kw1057 : Cond.instanceMethod yX7_leastCap ∈ tbl := tbl_c5 (List.mem_of_getElem? (i := 97) (by decide +kernel)) rfl
theorem kw1058 : Cond.selects RX7 yX7_leastCap yX7_leastCap ∈ tbl := tbl_c5 (List.mem_of_getElem? (i := 98) (by decide +kernel)) rfl
theorem kw1059 : Cond.code yX7_leastCap cX7_leastCap 5 (some .int) ∈ tbl := tbl_c5 (List.mem_of_getElem? (i := 99) rfl) rfl
theorem kw1060 : Cond.methodLink RL 117 yX7_wall ∈ tbl := tbl_c5 (List.mem_of_getElem? (i := 100) (by decide +kernel)) rfl
theorem kw1061 : Cond.instanceMethod yX7_wall ∈ tbl := tbl_c5 (List.mem_of_getElem? (i := 101) (by decide +kernel)) rfl
theorem kw1062 : Cond.selects RX7 yX7_wall yX7_wall ∈ tbl := tbl_c5 (List.mem_of_getElem? (i := 102) (by decide +kernel)) rfl
theorem kw1063 : Cond.code yX7_wall cX7_wall 8 (some .int) ∈ tbl := tbl_c5 (List.mem_of_getElem? (i := 103) rfl) rfl
theorem kw1064 : Cond.methodLink RL 121 yX7_share ∈ tbl := tbl_c5 (List.mem_of_getElem? (i := 104) (by decide +kernel)) rfl
theorem kw1065 : Cond.instanceMethod yX7_share ∈ tbl := tbl_c5 (List.mem_of_getElem? (i := 105) (by decide +kernel)) rfl
theorem kw1066 : Cond.selects RX7 yX7_share yX7_share ∈ tbl := tbl_c5 (List.mem_of_getElem? (i := 106) (by decide +kernel)) rfl
theorem kw1067 : Cond.code yX7_share cX7_share 3 (some .int) ∈ tbl := tbl_c5 (List.mem_of_getElem? (i := 107) rfl) rfl
theorem kw1068 : Cond.methodLink RX7 257 yX7_settledAfter ∈ tbl := tbl_c5 (List.mem_of_getElem? (i := 108) (by decide +kernel)) rfl
theorem kw1070 : Cond.instanceMethod yX7_settledAfter ∈ tbl := tbl_c5 (List.mem_of_getElem? (i := 110) (by decide +kernel)) rfl
theorem kw1071 : Cond.code yX7_settledAfter cX7_settledAfter 5 (some .int) ∈ tbl := tbl_c5 (List.mem_of_getElem? (i := 111) rfl) rfl
theorem kw1072 : Cond.methodLink RL 125 yX7_row ∈ tbl := tbl_c5 (List.mem_of_getElem? (i := 112) (by decide +kernel)) rfl
theorem kw1073 : Cond.instanceMethod yX7_row ∈ tbl := tbl_c5 (List.mem_of_getElem? (i := 113) (by decide +kernel)) rfl
theorem kw1074 : Cond.selects RX7 yX7_row yX7_row ∈ tbl := tbl_c5 (List.mem_of_getElem? (i := 114) (by decide +kernel)) rfl
theorem kw1075 : Cond.code yX7_row cX7_row 2 (some .int) ∈ tbl := tbl_c5 (List.mem_of_getElem? (i := 115) rfl) rfl
theorem kw1076 : Cond.methodLink RL 129 yX7_judge ∈ tbl := tbl_c5 (List.mem_of_getElem? (i := 116) (by decide +kernel)) rfl
theorem kw1077 : Cond.instanceMethod yX7_judge ∈ tbl := tbl_c5 (List.mem_of_getElem? (i := 117) (by decide +kernel)) rfl
theorem kw1078 : Cond.selects RX7 yX7_judge yX7_judge ∈ tbl := tbl_c5 (List.mem_of_getElem? (i := 118) (by decide +kernel)) rfl
theorem kw1079 : Cond.code yX7_judge cX7_judge 5 (some .int) ∈ tbl := tbl_c5 (List.mem_of_getElem? (i := 119) rfl) rfl
theorem kw1080 : Cond.constantLong RX7 264 (2) ∈ tbl := tbl_c5 (List.mem_of_getElem? (i := 120) (by decide +kernel)) rfl
theorem kw1081 : Cond.methodLink RL 19 yX7_feed ∈ tbl := tbl_c5 (List.mem_of_getElem? (i := 121) (by decide +kernel)) rfl
theorem kw1082 : Cond.instanceMethod yX7_feed ∈ tbl := tbl_c5 (List.mem_of_getElem? (i := 122) (by decide +kernel)) rfl
theorem kw1083 : Cond.selects RX7 yX7_feed yX7_feed ∈ tbl := tbl_c5 (List.mem_of_getElem? (i := 123) (by decide +kernel)) rfl
theorem kw1084 : Cond.code yX7_feed cX7_feed 5 (some .int) ∈ tbl := tbl_c5 (List.mem_of_getElem? (i := 124) rfl) rfl
theorem kw1085 : Cond.constantLong RX7 266 (255) ∈ tbl := tbl_c5 (List.mem_of_getElem? (i := 125) (by decide +kernel)) rfl
theorem kw1086 : Cond.methodLink RL 24 yX7_coast ∈ tbl := tbl_c5 (List.mem_of_getElem? (i := 126) (by decide +kernel)) rfl
theorem kw1087 : Cond.instanceMethod yX7_coast ∈ tbl := tbl_c5 (List.mem_of_getElem? (i := 127) (by decide +kernel)) rfl
theorem kw1088 : Cond.selects RX7 yX7_coast yX7_coast ∈ tbl := tbl_c5 (List.mem_of_getElem? (i := 128) (by decide +kernel)) rfl
theorem kw1089 : Cond.code yX7_coast cX7_coast 7 (some .int) ∈ tbl := tbl_c5 (List.mem_of_getElem? (i := 129) rfl) rfl
theorem kw1090 : Cond.methodLink RX7 305 yX7_readStatement ∈ tbl := tbl_c5 (List.mem_of_getElem? (i := 130) (by decide +kernel)) rfl
theorem kw1092 : Cond.instanceMethod yX7_readStatement ∈ tbl := tbl_c5 (List.mem_of_getElem? (i := 132) (by decide +kernel)) rfl
theorem kw1093 : Cond.code yX7_readStatement cX7_readStatement 3 none ∈ tbl := tbl_c5 (List.mem_of_getElem? (i := 133) rfl) rfl
theorem kw1094 : Cond.methodLink RX7 278 yX7_here ∈ tbl := tbl_c5 (List.mem_of_getElem? (i := 134) (by decide +kernel)) rfl
theorem kw1096 : Cond.instanceMethod yX7_here ∈ tbl := tbl_c5 (List.mem_of_getElem? (i := 136) (by decide +kernel)) rfl
theorem kw1097 : Cond.code yX7_here cX7_here 1 (some .int) ∈ tbl := tbl_c5 (List.mem_of_getElem? (i := 137) rfl) rfl
theorem kw1098 : Cond.methodLink RX7 285 yX7_takeSign ∈ tbl := tbl_c5 (List.mem_of_getElem? (i := 138) (by decide +kernel)) rfl
theorem kw1100 : Cond.instanceMethod yX7_takeSign ∈ tbl := tbl_c5 (List.mem_of_getElem? (i := 140) (by decide +kernel)) rfl
theorem kw1101 : Cond.code yX7_takeSign cX7_takeSign 2 none ∈ tbl := tbl_c5 (List.mem_of_getElem? (i := 141) rfl) rfl
theorem kw1102 : Cond.methodLink RX7 295 yX7_readNumber ∈ tbl := tbl_c5 (List.mem_of_getElem? (i := 142) (by decide +kernel)) rfl
theorem kw1104 : Cond.instanceMethod yX7_readNumber ∈ tbl := tbl_c5 (List.mem_of_getElem? (i := 144) (by decide +kernel)) rfl
theorem kw1105 : Cond.code yX7_readNumber cX7_readNumber 3 (some .int) ∈ tbl := tbl_c5 (List.mem_of_getElem? (i := 145) rfl) rfl
theorem kw1106 : Cond.methodLink RX7 289 yX7_readDigit ∈ tbl := tbl_c5 (List.mem_of_getElem? (i := 146) (by decide +kernel)) rfl
theorem kw1108 : Cond.instanceMethod yX7_readDigit ∈ tbl := tbl_c5 (List.mem_of_getElem? (i := 148) (by decide +kernel)) rfl
theorem kw1109 : Cond.code yX7_readDigit cX7_readDigit 2 (some .int) ∈ tbl := tbl_c5 (List.mem_of_getElem? (i := 149) rfl) rfl
theorem kw1110 : Cond.constantLong RX7 281 (48) ∈ tbl := tbl_c5 (List.mem_of_getElem? (i := 150) (by decide +kernel)) rfl
theorem kw1111 : Cond.constantLong RX7 283 (57) ∈ tbl := tbl_c5 (List.mem_of_getElem? (i := 151) (by decide +kernel)) rfl
theorem kw1112 : Cond.methodLink RX7 298 yX7_readOf ∈ tbl := tbl_c5 (List.mem_of_getElem? (i := 152) (by decide +kernel)) rfl
theorem kw1114 : Cond.instanceMethod yX7_readOf ∈ tbl := tbl_c5 (List.mem_of_getElem? (i := 154) (by decide +kernel)) rfl
theorem kw1115 : Cond.code yX7_readOf cX7_readOf 4 (some .int) ∈ tbl := tbl_c5 (List.mem_of_getElem? (i := 155) rfl) rfl
theorem kw1116 : Cond.methodLink RX7 308 yX7_comes ∈ tbl := tbl_c5 (List.mem_of_getElem? (i := 156) (by decide +kernel)) rfl
theorem kw1118 : Cond.instanceMethod yX7_comes ∈ tbl := tbl_c5 (List.mem_of_getElem? (i := 158) (by decide +kernel)) rfl
theorem kw1119 : Cond.code yX7_comes cX7_comes 9 (some .boolean) ∈ tbl := tbl_c5 (List.mem_of_getElem? (i := 159) rfl) rfl
theorem kw1120 : Cond.constantLong RX7 301 (99) ∈ tbl := tbl_c5 (List.mem_of_getElem? (i := 160) (by decide +kernel)) rfl
theorem kw1121 : Cond.constantLong RX7 303 (999) ∈ tbl := tbl_c5 (List.mem_of_getElem? (i := 161) (by decide +kernel)) rfl
theorem kw1122 : Cond.methodLink RL 133 yX7_image ∈ tbl := tbl_c5 (List.mem_of_getElem? (i := 162) (by decide +kernel)) rfl
theorem kw1123 : Cond.instanceMethod yX7_image ∈ tbl := tbl_c5 (List.mem_of_getElem? (i := 163) (by decide +kernel)) rfl
theorem kw1124 : Cond.selects RX7 yX7_image yX7_image ∈ tbl := tbl_c5 (List.mem_of_getElem? (i := 164) (by decide +kernel)) rfl
theorem kw1125 : Cond.code yX7_image cX7_image 1 (some .int) ∈ tbl := tbl_c5 (List.mem_of_getElem? (i := 165) rfl) rfl
theorem kw1126 : Cond.methodLink RX7 323 yX7_carryAll ∈ tbl := tbl_c5 (List.mem_of_getElem? (i := 166) (by decide +kernel)) rfl
theorem kw1128 : Cond.instanceMethod yX7_carryAll ∈ tbl := tbl_c5 (List.mem_of_getElem? (i := 168) (by decide +kernel)) rfl
theorem kw1129 : Cond.code yX7_carryAll cX7_carryAll 2 none ∈ tbl := tbl_c5 (List.mem_of_getElem? (i := 169) rfl) rfl
theorem kw1130 : Cond.methodLink RX7 317 yX7_carry ∈ tbl := tbl_c5 (List.mem_of_getElem? (i := 170) (by decide +kernel)) rfl
theorem kw1132 : Cond.instanceMethod yX7_carry ∈ tbl := tbl_c5 (List.mem_of_getElem? (i := 172) (by decide +kernel)) rfl
theorem kw1133 : Cond.code yX7_carry cX7_carry 2 (some .int) ∈ tbl := tbl_c5 (List.mem_of_getElem? (i := 173) rfl) rfl
theorem kw1134 : Cond.methodLink RL 137 yX7_restore ∈ tbl := tbl_c5 (List.mem_of_getElem? (i := 174) (by decide +kernel)) rfl
theorem kw1135 : Cond.instanceMethod yX7_restore ∈ tbl := tbl_c5 (List.mem_of_getElem? (i := 175) (by decide +kernel)) rfl
theorem kw1136 : Cond.selects RX7 yX7_restore yX7_restore ∈ tbl := tbl_c5 (List.mem_of_getElem? (i := 176) (by decide +kernel)) rfl
theorem kw1137 : Cond.code yX7_restore cX7_restore 1 (some .int) ∈ tbl := tbl_c5 (List.mem_of_getElem? (i := 177) rfl) rfl
theorem kw1138 : Cond.methodLink RL 141 yX7_count ∈ tbl := tbl_c5 (List.mem_of_getElem? (i := 178) (by decide +kernel)) rfl
theorem kw1139 : Cond.instanceMethod yX7_count ∈ tbl := tbl_c5 (List.mem_of_getElem? (i := 179) (by decide +kernel)) rfl
theorem kw1140 : Cond.selects RX7 yX7_count yX7_count ∈ tbl := tbl_c5 (List.mem_of_getElem? (i := 180) (by decide +kernel)) rfl
theorem kw1141 : Cond.code yX7_count cX7_count 4 (some .int) ∈ tbl := tbl_c5 (List.mem_of_getElem? (i := 181) rfl) rfl
theorem kw1142 : Cond.constantLong RX7 326 (11) ∈ tbl := tbl_c5 (List.mem_of_getElem? (i := 182) (by decide +kernel)) rfl
theorem kw1143 : Cond.constantLong RX7 328 (16) ∈ tbl := tbl_c5 (List.mem_of_getElem? (i := 183) (by decide +kernel)) rfl
theorem kw1144 : Cond.constantLong RL 13 (4294967295) ∈ tbl := tbl_c5 (List.mem_of_getElem? (i := 184) (by decide +kernel)) rfl
theorem ks0 : Cond.selects RX6 yX6_refuse yX6_refuse ∈ tbl := tbl_s 0 (by decide +kernel) rfl
theorem ks1 : Cond.selects RX1 yX1_readStatement yX1_readStatement ∈ tbl := tbl_s 1 (by decide +kernel) rfl
theorem ks2 : Cond.selects RX1 yX1_byteHere yX1_byteHere ∈ tbl := tbl_s 2 (by decide +kernel) rfl
theorem ks3 : Cond.selects RX1 yX1_readNumber yX1_readNumber ∈ tbl := tbl_s 3 (by decide +kernel) rfl
theorem ks4 : Cond.selects RX1 yX1_digitIsHere yX1_digitIsHere ∈ tbl := tbl_s 4 (by decide +kernel) rfl
theorem ks5 : Cond.selects RX1 yX1_readSign yX1_readSign ∈ tbl := tbl_s 5 (by decide +kernel) rfl
theorem ks6 : Cond.selects RX1 yX1_readDigit yX1_readDigit ∈ tbl := tbl_s 6 (by decide +kernel) rfl
theorem ks7 : Cond.selects RX1 yX1_readKind yX1_readKind ∈ tbl := tbl_s 7 (by decide +kernel) rfl
theorem ks8 : Cond.selects RX1 yX1_readStuff yX1_readStuff ∈ tbl := tbl_s 8 (by decide +kernel) rfl
theorem ks9 : Cond.selects RX1 yX1_readMoon yX1_readMoon ∈ tbl := tbl_s 9 (by decide +kernel) rfl
theorem ks10 : Cond.selects RX1 yX1_giveTo yX1_giveTo ∈ tbl := tbl_s 10 (by decide +kernel) rfl
theorem ks11 : Cond.selects RX6 yX6_refuseIfBelow0 yX6_refuseIfBelow0 ∈ tbl := tbl_s 11 (by decide +kernel) rfl
theorem ks12 : Cond.selects RX6 yX6_whyNoRun yX6_whyNoRun ∈ tbl := tbl_s 12 (by decide +kernel) rfl
theorem ks13 : Cond.selects RX3 yX3_carry yX3_carry ∈ tbl := tbl_s 13 (by decide +kernel) rfl
theorem ks14 : Cond.selects RX3 yX3_bring yX3_bring ∈ tbl := tbl_s 14 (by decide +kernel) rfl
theorem ks15 : Cond.selects RX3 yX3_dredge yX3_dredge ∈ tbl := tbl_s 15 (by decide +kernel) rfl
theorem ks16 : Cond.selects RX3 yX3_dredgeStuff yX3_dredgeStuff ∈ tbl := tbl_s 16 (by decide +kernel) rfl
theorem ks17 : Cond.selects RX6 yX6_rowIsOfCells yX6_rowIsOfCells ∈ tbl := tbl_s 17 (by decide +kernel) rfl
theorem ks18 : Cond.selects RX7 yX7_refuse yX7_refuse ∈ tbl := tbl_s 18 (by decide +kernel) rfl
theorem ks19 : Cond.selects RX7 yX7_addCell yX7_addCell ∈ tbl := tbl_s 19 (by decide +kernel) rfl
theorem ks20 : Cond.selects RX7 yX7_isCell yX7_isCell ∈ tbl := tbl_s 20 (by decide +kernel) rfl
theorem ks21 : Cond.selects RX7 yX7_areEnds yX7_areEnds ∈ tbl := tbl_s 21 (by decide +kernel) rfl
theorem ks22 : Cond.selects RX7 yX7_partsFrom yX7_partsFrom ∈ tbl := tbl_s 22 (by decide +kernel) rfl
theorem ks23 : Cond.selects RX7 yX7_addWay yX7_addWay ∈ tbl := tbl_s 23 (by decide +kernel) rfl
theorem ks24 : Cond.selects RX7 yX7_addRiver yX7_addRiver ∈ tbl := tbl_s 24 (by decide +kernel) rfl
theorem ks25 : Cond.selects RX7 yX7_depthOf yX7_depthOf ∈ tbl := tbl_s 25 (by decide +kernel) rfl
theorem ks26 : Cond.selects RX7 yX7_settledIn yX7_settledIn ∈ tbl := tbl_s 26 (by decide +kernel) rfl
theorem ks27 : Cond.selects RX7 yX7_lacksOf yX7_lacksOf ∈ tbl := tbl_s 27 (by decide +kernel) rfl
theorem ks28 : Cond.selects RX7 yX7_kindAt yX7_kindAt ∈ tbl := tbl_s 28 (by decide +kernel) rfl
theorem ks29 : Cond.selects RX7 yX7_chosen yX7_chosen ∈ tbl := tbl_s 29 (by decide +kernel) rfl
theorem ks30 : Cond.selects RX7 yX7_lackingMost yX7_lackingMost ∈ tbl := tbl_s 30 (by decide +kernel) rfl
theorem ks31 : Cond.selects RX7 yX7_deepest yX7_deepest ∈ tbl := tbl_s 31 (by decide +kernel) rfl
theorem ks32 : Cond.selects RX7 yX7_wrongTides yX7_wrongTides ∈ tbl := tbl_s 32 (by decide +kernel) rfl
theorem ks33 : Cond.selects RX7 yX7_passTide yX7_passTide ∈ tbl := tbl_s 33 (by decide +kernel) rfl
theorem ks34 : Cond.selects RX7 yX7_flow yX7_flow ∈ tbl := tbl_s 34 (by decide +kernel) rfl
theorem ks35 : Cond.selects RX7 yX7_take yX7_take ∈ tbl := tbl_s 35 (by decide +kernel) rfl
theorem ks36 : Cond.selects RX7 yX7_costOf yX7_costOf ∈ tbl := tbl_s 36 (by decide +kernel) rfl
theorem ks37 : Cond.selects RX7 yX7_save yX7_save ∈ tbl := tbl_s 37 (by decide +kernel) rfl
theorem ks38 : Cond.selects RX7 yX7_costNow yX7_costNow ∈ tbl := tbl_s 38 (by decide +kernel) rfl
theorem ks39 : Cond.selects RX7 yX7_feetLacking yX7_feetLacking ∈ tbl := tbl_s 39 (by decide +kernel) rfl
theorem ks40 : Cond.selects RX7 yX7_putBack yX7_putBack ∈ tbl := tbl_s 40 (by decide +kernel) rfl
theorem ks41 : Cond.selects RX7 yX7_holdsFor yX7_holdsFor ∈ tbl := tbl_s 41 (by decide +kernel) rfl
theorem ks42 : Cond.selects RX7 yX7_tonsAfter yX7_tonsAfter ∈ tbl := tbl_s 42 (by decide +kernel) rfl
theorem ks43 : Cond.selects RX7 yX7_settledAfter yX7_settledAfter ∈ tbl := tbl_s 43 (by decide +kernel) rfl
theorem ks44 : Cond.selects RX7 yX7_readStatement yX7_readStatement ∈ tbl := tbl_s 44 (by decide +kernel) rfl
theorem ks45 : Cond.selects RX7 yX7_here yX7_here ∈ tbl := tbl_s 45 (by decide +kernel) rfl
theorem ks46 : Cond.selects RX7 yX7_takeSign yX7_takeSign ∈ tbl := tbl_s 46 (by decide +kernel) rfl
theorem ks47 : Cond.selects RX7 yX7_readNumber yX7_readNumber ∈ tbl := tbl_s 47 (by decide +kernel) rfl
theorem ks48 : Cond.selects RX7 yX7_readDigit yX7_readDigit ∈ tbl := tbl_s 48 (by decide +kernel) rfl
theorem ks49 : Cond.selects RX7 yX7_readOf yX7_readOf ∈ tbl := tbl_s 49 (by decide +kernel) rfl
theorem ks50 : Cond.selects RX7 yX7_comes yX7_comes ∈ tbl := tbl_s 50 (by decide +kernel) rfl
theorem ks51 : Cond.selects RX7 yX7_carryAll yX7_carryAll ∈ tbl := tbl_s 51 (by decide +kernel) rfl
theorem ks52 : Cond.selects RX7 yX7_carry yX7_carry ∈ tbl := tbl_s 52 (by decide +kernel) rfl
set_option maxRecDepth 20000 in
theorem inT0 : ∀ w ∈ u_ws RX0 TX0 8, w ∈ tbl := by decide +kernel
set_option maxRecDepth 20000 in
theorem inT1 : ∀ w ∈ u_ws RX1 TX1 12, w ∈ tbl := by decide +kernel
set_option maxRecDepth 20000 in
theorem inT2 : ∀ w ∈ u_ws RX2 TX2 5, w ∈ tbl := by decide +kernel
set_option maxRecDepth 20000 in
theorem inT3 : ∀ w ∈ u_ws RX3 TX3 12, w ∈ tbl := by decide +kernel
set_option maxRecDepth 20000 in
theorem inT4 : ∀ w ∈ u_ws RX4 TX4 4, w ∈ tbl := by decide +kernel
set_option maxRecDepth 20000 in
theorem inT5 : ∀ w ∈ u_ws RX5 TX5 7, w ∈ tbl := by decide +kernel
set_option maxRecDepth 20000 in
theorem inT6 : ∀ w ∈ u_ws RX6 TX6 8, w ∈ tbl := by decide +kernel
set_option maxRecDepth 20000 in
theorem inT7 : ∀ w ∈ u_ws RX7 TX7 55, w ∈ tbl := by decide +kernel
def nestW : List Cond := [Cond.methodLinkNest RX6 9 yX3_init "HarbourMud", Cond.methodLinkNest RX3 11 yX0_init "HarbourMud", Cond.methodLinkNest RX3 20 yX5_init "HarbourMud", Cond.methodLinkNest RX3 27 yX4_init "HarbourMud", Cond.methodLinkNest RX3 34 yX2_init "HarbourMud", Cond.methodLinkNest RX6 28 yX1_init "HarbourMud", Cond.methodLinkNest RX3 82 yX6_isKind "HarbourMud", Cond.methodLinkNest RX3 85 yX6_isStuff "HarbourMud", Cond.methodLinkNest RX0 47 yX6_depthAbove "HarbourMud", Cond.methodLinkNest RX0 63 yX6_heapOf "HarbourMud", Cond.methodLinkNest RX0 69 yX6_partOf "HarbourMud", Cond.methodLinkNest RX3 154 yX6_heapOf "HarbourMud", Cond.methodLinkNest RX3 161 yX6_partOf "HarbourMud", Cond.methodLinkNest RX0 59 yX6_isStuff "HarbourMud"]
theorem nestW_in : ∀ w ∈ nestW, w ∈ lw_tbl := by
  intro w h
  simp only [nestW, List.mem_cons, List.not_mem_nil, or_false] at h
  rcases h with rfl | rfl | rfl | rfl | rfl | rfl | rfl | rfl | rfl | rfl | rfl | rfl | rfl | rfl
  · exact List.mem_append_right _ (List.mem_of_getElem? (i := 21) (by decide +kernel))
  · exact List.mem_append_right _ (List.mem_of_getElem? (i := 27) (by decide +kernel))
  · exact List.mem_append_right _ (List.mem_of_getElem? (i := 62) (by decide +kernel))
  · exact List.mem_append_right _ (List.mem_of_getElem? (i := 97) (by decide +kernel))
  · exact List.mem_append_right _ (List.mem_of_getElem? (i := 122) (by decide +kernel))
  · exact List.mem_append_right _ (List.mem_of_getElem? (i := 199) (by decide +kernel))
  · exact List.mem_append_right _ (List.mem_of_getElem? (i := 363) (by decide +kernel))
  · exact List.mem_append_right _ (List.mem_of_getElem? (i := 366) (by decide +kernel))
  · exact List.mem_append_right _ (List.mem_of_getElem? (i := 480) (by decide +kernel))
  · exact List.mem_append_right _ (List.mem_of_getElem? (i := 545) (by decide +kernel))
  · exact List.mem_append_right _ (List.mem_of_getElem? (i := 546) (by decide +kernel))
  · exact List.mem_append_right _ (List.mem_of_getElem? (i := 556) (by decide +kernel))
  · exact List.mem_append_right _ (List.mem_of_getElem? (i := 557) (by decide +kernel))
  · exact List.mem_append_right _ (List.mem_of_getElem? (i := 630) (by decide +kernel))
