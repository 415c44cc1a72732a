theorem ymX12_1 : Cond.methodLink RX12 1 Lib.objectInit ∈ xWS := xWS_in (inC6 (List.mem_of_getElem? (i := 171) (by decide +kernel))) (by decide +kernel)
theorem ylX12_7 : Cond.fieldLink RX12 7 (TX12 0).1 (TX12 0).2.1 (TX12 0).2.2.1 ∈ xWS := xWS_in (inC6 (List.mem_of_getElem? (i := 176) (by decide +kernel))) (by decide +kernel)
theorem ylX12_13 : Cond.fieldLink RX12 13 (TX12 1).1 (TX12 1).2.1 (TX12 1).2.2.1 ∈ xWS := xWS_in (inC6 (List.mem_of_getElem? (i := 177) (by decide +kernel))) (by decide +kernel)
theorem ylX12_17 : Cond.fieldLink RX12 17 (TX12 2).1 (TX12 2).2.1 (TX12 2).2.2.1 ∈ xWS := xWS_in (inC6 (List.mem_of_getElem? (i := 178) (by decide +kernel))) (by decide +kernel)
theorem ylX12_20 : Cond.fieldLink RX12 20 (TX12 3).1 (TX12 3).2.1 (TX12 3).2.2.1 ∈ xWS := xWS_in (inC6 (List.mem_of_getElem? (i := 179) (by decide +kernel))) (by decide +kernel)
theorem ylX12_23 : Cond.fieldLink RX12 23 (TX12 4).1 (TX12 4).2.1 (TX12 4).2.2.1 ∈ xWS := xWS_in (inC6 (List.mem_of_getElem? (i := 180) (by decide +kernel))) (by decide +kernel)
theorem ylX12_26 : Cond.fieldLink RX12 26 (TX12 5).1 (TX12 5).2.1 (TX12 5).2.2.1 ∈ xWS := xWS_in (inC6 (List.mem_of_getElem? (i := 181) (by decide +kernel))) (by decide +kernel)
theorem ylX12_29 : Cond.fieldLink RX12 29 (TX12 6).1 (TX12 6).2.1 (TX12 6).2.2.1 ∈ xWS := xWS_in (inC6 (List.mem_of_getElem? (i := 182) (by decide +kernel))) (by decide +kernel)
theorem ylX12_32 : Cond.fieldLink RX12 32 (TX12 7).1 (TX12 7).2.1 (TX12 7).2.2.1 ∈ xWS := xWS_in (inC6 (List.mem_of_getElem? (i := 183) (by decide +kernel))) (by decide +kernel)
theorem ylX12_36 : Cond.fieldLink RX12 36 (TX12 8).1 (TX12 8).2.1 (TX12 8).2.2.1 ∈ xWS := xWS_in (inC6 (List.mem_of_getElem? (i := 184) (by decide +kernel))) (by decide +kernel)
theorem ylX12_39 : Cond.fieldLink RX12 39 (TX12 9).1 (TX12 9).2.1 (TX12 9).2.2.1 ∈ xWS := xWS_in (inC6 (List.mem_of_getElem? (i := 185) (by decide +kernel))) (by decide +kernel)
theorem ylX12_42 : Cond.fieldLink RX12 42 (TX12 10).1 (TX12 10).2.1 (TX12 10).2.2.1 ∈ xWS := xWS_in (inC6 (List.mem_of_getElem? (i := 186) (by decide +kernel))) (by decide +kernel)
theorem ylX12_45 : Cond.fieldLink RX12 45 (TX12 11).1 (TX12 11).2.1 (TX12 11).2.2.1 ∈ xWS := xWS_in (inC6 (List.mem_of_getElem? (i := 187) (by decide +kernel))) (by decide +kernel)
theorem ylX12_48 : Cond.fieldLink RX12 48 (TX12 12).1 (TX12 12).2.1 (TX12 12).2.2.1 ∈ xWS := xWS_in (inC6 (List.mem_of_getElem? (i := 188) (by decide +kernel))) (by decide +kernel)
theorem ylX12_51 : Cond.fieldLink RX12 51 (TX12 13).1 (TX12 13).2.1 (TX12 13).2.2.1 ∈ xWS := xWS_in (inC6 (List.mem_of_getElem? (i := 189) (by decide +kernel))) (by decide +kernel)
theorem ylX12_54 : Cond.fieldLink RX12 54 (TX12 14).1 (TX12 14).2.1 (TX12 14).2.2.1 ∈ xWS := xWS_in (inC6 (List.mem_of_getElem? (i := 190) (by decide +kernel))) (by decide +kernel)
theorem ylX12_57 : Cond.fieldLink RX12 57 (TX12 15).1 (TX12 15).2.1 (TX12 15).2.2.1 ∈ xWS := xWS_in (inC6 (List.mem_of_getElem? (i := 191) (by decide +kernel))) (by decide +kernel)
theorem ylX12_60 : Cond.fieldLink RX12 60 (TX12 16).1 (TX12 16).2.1 (TX12 16).2.2.1 ∈ xWS := xWS_in (inC6 (List.mem_of_getElem? (i := 192) (by decide +kernel))) (by decide +kernel)
theorem ylX12_63 : Cond.fieldLink RX12 63 (TX12 17).1 (TX12 17).2.1 (TX12 17).2.2.1 ∈ xWS := xWS_in (inC6 (List.mem_of_getElem? (i := 193) (by decide +kernel))) (by decide +kernel)
theorem ylX12_66 : Cond.fieldLink RX12 66 (TX12 18).1 (TX12 18).2.1 (TX12 18).2.2.1 ∈ xWS := xWS_in (inC6 (List.mem_of_getElem? (i := 194) (by decide +kernel))) (by decide +kernel)
theorem ylX12_69 : Cond.fieldLink RX12 69 (TX12 19).1 (TX12 19).2.1 (TX12 19).2.2.1 ∈ xWS := xWS_in (inC6 (List.mem_of_getElem? (i := 195) (by decide +kernel))) (by decide +kernel)
theorem ylX12_72 : Cond.fieldLink RX12 72 (TX12 20).1 (TX12 20).2.1 (TX12 20).2.2.1 ∈ xWS := xWS_in (inC6 (List.mem_of_getElem? (i := 196) (by decide +kernel))) (by decide +kernel)
theorem ylX12_75 : Cond.fieldLink RX12 75 (TX12 21).1 (TX12 21).2.1 (TX12 21).2.2.1 ∈ xWS := xWS_in (inC6 (List.mem_of_getElem? (i := 197) (by decide +kernel))) (by decide +kernel)
theorem ylX12_78 : Cond.fieldLink RX12 78 (TX12 22).1 (TX12 22).2.1 (TX12 22).2.2.1 ∈ xWS := xWS_in (inC6 (List.mem_of_getElem? (i := 198) (by decide +kernel))) (by decide +kernel)
theorem ylX12_81 : Cond.fieldLink RX12 81 (TX12 23).1 (TX12 23).2.1 (TX12 23).2.2.1 ∈ xWS := xWS_in (inC6 (List.mem_of_getElem? (i := 199) (by decide +kernel))) (by decide +kernel)
theorem ylX12_84 : Cond.fieldLink RX12 84 (TX12 24).1 (TX12 24).2.1 (TX12 24).2.2.1 ∈ xWS := xWS_in (inC6 (List.mem_of_getElem? (i := 200) (by decide +kernel))) (by decide +kernel)
theorem ylX12_87 : Cond.fieldLink RX12 87 (TX12 25).1 (TX12 25).2.1 (TX12 25).2.2.1 ∈ xWS := xWS_in (inC6 (List.mem_of_getElem? (i := 201) (by decide +kernel))) (by decide +kernel)
theorem ylX12_90 : Cond.fieldLink RX12 90 (TX12 26).1 (TX12 26).2.1 (TX12 26).2.2.1 ∈ xWS := xWS_in (inC6 (List.mem_of_getElem? (i := 202) (by decide +kernel))) (by decide +kernel)
theorem ylX12_93 : Cond.fieldLink RX12 93 (TX12 27).1 (TX12 27).2.1 (TX12 27).2.2.1 ∈ xWS := xWS_in (inC6 (List.mem_of_getElem? (i := 203) (by decide +kernel))) (by decide +kernel)
theorem ylX12_96 : Cond.fieldLink RX12 96 (TX12 28).1 (TX12 28).2.1 (TX12 28).2.2.1 ∈ xWS := xWS_in (inC6 (List.mem_of_getElem? (i := 204) (by decide +kernel))) (by decide +kernel)
theorem ylX12_99 : Cond.fieldLink RX12 99 (TX12 29).1 (TX12 29).2.1 (TX12 29).2.2.1 ∈ xWS := xWS_in (inC6 (List.mem_of_getElem? (i := 205) (by decide +kernel))) (by decide +kernel)
theorem ylX12_102 : Cond.fieldLink RX12 102 (TX12 30).1 (TX12 30).2.1 (TX12 30).2.2.1 ∈ xWS := xWS_in (inC6 (List.mem_of_getElem? (i := 206) (by decide +kernel))) (by decide +kernel)
theorem ylX12_105 : Cond.fieldLink RX12 105 (TX12 31).1 (TX12 31).2.1 (TX12 31).2.2.1 ∈ xWS := xWS_in (inC6 (List.mem_of_getElem? (i := 207) (by decide +kernel))) (by decide +kernel)
theorem ylX12_108 : Cond.fieldLink RX12 108 (TX12 32).1 (TX12 32).2.1 (TX12 32).2.2.1 ∈ xWS := xWS_in (inC6 (List.mem_of_getElem? (i := 208) (by decide +kernel))) (by decide +kernel)
theorem ylX12_111 : Cond.fieldLink RX12 111 (TX12 33).1 (TX12 33).2.1 (TX12 33).2.2.1 ∈ xWS := xWS_in (inC6 (List.mem_of_getElem? (i := 209) (by decide +kernel))) (by decide +kernel)
theorem ylX12_114 : Cond.fieldLink RX12 114 (TX12 34).1 (TX12 34).2.1 (TX12 34).2.2.1 ∈ xWS := xWS_in (inC6 (List.mem_of_getElem? (i := 210) (by decide +kernel))) (by decide +kernel)
theorem ylX12_117 : Cond.fieldLink RX12 117 (TX12 35).1 (TX12 35).2.1 (TX12 35).2.2.1 ∈ xWS := xWS_in (inC6 (List.mem_of_getElem? (i := 211) (by decide +kernel))) (by decide +kernel)
theorem ylX12_121 : Cond.fieldLink RX12 121 (TX12 36).1 (TX12 36).2.1 (TX12 36).2.2.1 ∈ xWS := xWS_in (inC6 (List.mem_of_getElem? (i := 212) (by decide +kernel))) (by decide +kernel)
theorem ylX12_124 : Cond.fieldLink RX12 124 (TX12 37).1 (TX12 37).2.1 (TX12 37).2.2.1 ∈ xWS := xWS_in (inC6 (List.mem_of_getElem? (i := 213) (by decide +kernel))) (by decide +kernel)
theorem ylX12_127 : Cond.fieldLink RX12 127 (TX12 38).1 (TX12 38).2.1 (TX12 38).2.2.1 ∈ xWS := xWS_in (inC6 (List.mem_of_getElem? (i := 214) (by decide +kernel))) (by decide +kernel)
theorem ylX12_130 : Cond.fieldLink RX12 130 (TX12 39).1 (TX12 39).2.1 (TX12 39).2.2.1 ∈ xWS := xWS_in (inC6 (List.mem_of_getElem? (i := 215) (by decide +kernel))) (by decide +kernel)
theorem ylX12_133 : Cond.fieldLink RX12 133 (TX12 40).1 (TX12 40).2.1 (TX12 40).2.2.1 ∈ xWS := xWS_in (inC6 (List.mem_of_getElem? (i := 216) (by decide +kernel))) (by decide +kernel)
theorem ylX12_136 : Cond.fieldLink RX12 136 (TX12 41).1 (TX12 41).2.1 (TX12 41).2.2.1 ∈ xWS := xWS_in (inC6 (List.mem_of_getElem? (i := 217) (by decide +kernel))) (by decide +kernel)
theorem ylX12_140 : Cond.fieldLink RX12 140 (TX12 42).1 (TX12 42).2.1 (TX12 42).2.2.1 ∈ xWS := xWS_in (inC6 (List.mem_of_getElem? (i := 218) (by decide +kernel))) (by decide +kernel)
theorem ylX12_143 : Cond.fieldLink RX12 143 (TX12 43).1 (TX12 43).2.1 (TX12 43).2.2.1 ∈ xWS := xWS_in (inC6 (List.mem_of_getElem? (i := 219) (by decide +kernel))) (by decide +kernel)
theorem ylX12_146 : Cond.fieldLink RX12 146 (TX12 44).1 (TX12 44).2.1 (TX12 44).2.2.1 ∈ xWS := xWS_in (inC6 (List.mem_of_getElem? (i := 220) (by decide +kernel))) (by decide +kernel)
theorem ylX12_150 : Cond.fieldLink RX12 150 (TX12 45).1 (TX12 45).2.1 (TX12 45).2.2.1 ∈ xWS := xWS_in (inC6 (List.mem_of_getElem? (i := 221) (by decide +kernel))) (by decide +kernel)
theorem ylX12_153 : Cond.fieldLink RX12 153 (TX12 46).1 (TX12 46).2.1 (TX12 46).2.2.1 ∈ xWS := xWS_in (inC6 (List.mem_of_getElem? (i := 222) (by decide +kernel))) (by decide +kernel)
theorem ylX12_156 : Cond.fieldLink RX12 156 (TX12 47).1 (TX12 47).2.1 (TX12 47).2.2.1 ∈ xWS := xWS_in (inC6 (List.mem_of_getElem? (i := 223) (by decide +kernel))) (by decide +kernel)
theorem ylX12_159 : Cond.fieldLink RX12 159 (TX12 48).1 (TX12 48).2.1 (TX12 48).2.2.1 ∈ xWS := xWS_in (inC6 (List.mem_of_getElem? (i := 224) (by decide +kernel))) (by decide +kernel)
theorem ylX12_162 : Cond.fieldLink RX12 162 (TX12 49).1 (TX12 49).2.1 (TX12 49).2.2.1 ∈ xWS := xWS_in (inC6 (List.mem_of_getElem? (i := 225) (by decide +kernel))) (by decide +kernel)
theorem ylX12_165 : Cond.fieldLink RX12 165 (TX12 50).1 (TX12 50).2.1 (TX12 50).2.2.1 ∈ xWS := xWS_in (inC6 (List.mem_of_getElem? (i := 226) (by decide +kernel))) (by decide +kernel)
theorem ylX12_168 : Cond.fieldLink RX12 168 (TX12 51).1 (TX12 51).2.1 (TX12 51).2.2.1 ∈ xWS := xWS_in (inC6 (List.mem_of_getElem? (i := 227) (by decide +kernel))) (by decide +kernel)
theorem ylX12_171 : Cond.fieldLink RX12 171 (TX12 52).1 (TX12 52).2.1 (TX12 52).2.2.1 ∈ xWS := xWS_in (inC6 (List.mem_of_getElem? (i := 228) (by decide +kernel))) (by decide +kernel)
theorem ylX12_174 : Cond.fieldLink RX12 174 (TX12 53).1 (TX12 53).2.1 (TX12 53).2.2.1 ∈ xWS := xWS_in (inC6 (List.mem_of_getElem? (i := 229) (by decide +kernel))) (by decide +kernel)
theorem ylX12_177 : Cond.fieldLink RX12 177 (TX12 54).1 (TX12 54).2.1 (TX12 54).2.2.1 ∈ xWS := xWS_in (inC6 (List.mem_of_getElem? (i := 230) (by decide +kernel))) (by decide +kernel)
theorem ylX12_180 : Cond.fieldLink RX12 180 (TX12 55).1 (TX12 55).2.1 (TX12 55).2.2.1 ∈ xWS := xWS_in (inC6 (List.mem_of_getElem? (i := 231) (by decide +kernel))) (by decide +kernel)
theorem ylX12_183 : Cond.fieldLink RX12 183 (TX12 56).1 (TX12 56).2.1 (TX12 56).2.2.1 ∈ xWS := xWS_in (inC6 (List.mem_of_getElem? (i := 232) (by decide +kernel))) (by decide +kernel)
theorem ylX12_186 : Cond.fieldLink RX12 186 (TX12 57).1 (TX12 57).2.1 (TX12 57).2.2.1 ∈ xWS := xWS_in (inC6 (List.mem_of_getElem? (i := 233) (by decide +kernel))) (by decide +kernel)
theorem ylX12_189 : Cond.fieldLink RX12 189 (TX12 58).1 (TX12 58).2.1 (TX12 58).2.2.1 ∈ xWS := xWS_in (inC6 (List.mem_of_getElem? (i := 234) (by decide +kernel))) (by decide +kernel)
theorem ylX12_192 : Cond.fieldLink RX12 192 (TX12 59).1 (TX12 59).2.1 (TX12 59).2.2.1 ∈ xWS := xWS_in (inC6 (List.mem_of_getElem? (i := 235) (by decide +kernel))) (by decide +kernel)
theorem ylX12_195 : Cond.fieldLink RX12 195 (TX12 60).1 (TX12 60).2.1 (TX12 60).2.2.1 ∈ xWS := xWS_in (inC6 (List.mem_of_getElem? (i := 236) (by decide +kernel))) (by decide +kernel)
theorem ylX12_198 : Cond.fieldLink RX12 198 (TX12 61).1 (TX12 61).2.1 (TX12 61).2.2.1 ∈ xWS := xWS_in (inC6 (List.mem_of_getElem? (i := 237) (by decide +kernel))) (by decide +kernel)
theorem ylX12_201 : Cond.fieldLink RX12 201 (TX12 62).1 (TX12 62).2.1 (TX12 62).2.2.1 ∈ xWS := xWS_in (inC6 (List.mem_of_getElem? (i := 238) (by decide +kernel))) (by decide +kernel)
theorem ylX12_204 : Cond.fieldLink RX12 204 (TX12 63).1 (TX12 63).2.1 (TX12 63).2.2.1 ∈ xWS := xWS_in (inC6 (List.mem_of_getElem? (i := 239) (by decide +kernel))) (by decide +kernel)
theorem ylX12_207 : Cond.fieldLink RX12 207 (TX12 64).1 (TX12 64).2.1 (TX12 64).2.2.1 ∈ xWS := xWS_in (inC7 (List.mem_of_getElem? (i := 0) (by decide +kernel))) (by decide +kernel)
theorem ylX12_210 : Cond.fieldLink RX12 210 (TX12 65).1 (TX12 65).2.1 (TX12 65).2.2.1 ∈ xWS := xWS_in (inC7 (List.mem_of_getElem? (i := 1) (by decide +kernel))) (by decide +kernel)
theorem ylX12_213 : Cond.fieldLink RX12 213 (TX12 66).1 (TX12 66).2.1 (TX12 66).2.2.1 ∈ xWS := xWS_in (inC7 (List.mem_of_getElem? (i := 2) (by decide +kernel))) (by decide +kernel)
theorem ylX12_216 : Cond.fieldLink RX12 216 (TX12 67).1 (TX12 67).2.1 (TX12 67).2.2.1 ∈ xWS := xWS_in (inC7 (List.mem_of_getElem? (i := 3) (by decide +kernel))) (by decide +kernel)
theorem ylX12_219 : Cond.fieldLink RX12 219 (TX12 68).1 (TX12 68).2.1 (TX12 68).2.2.1 ∈ xWS := xWS_in (inC7 (List.mem_of_getElem? (i := 4) (by decide +kernel))) (by decide +kernel)
theorem ylX12_222 : Cond.fieldLink RX12 222 (TX12 69).1 (TX12 69).2.1 (TX12 69).2.2.1 ∈ xWS := xWS_in (inC7 (List.mem_of_getElem? (i := 5) (by decide +kernel))) (by decide +kernel)
theorem ylX12_225 : Cond.fieldLink RX12 225 (TX12 70).1 (TX12 70).2.1 (TX12 70).2.2.1 ∈ xWS := xWS_in (inC7 (List.mem_of_getElem? (i := 6) (by decide +kernel))) (by decide +kernel)
theorem ylX12_228 : Cond.fieldLink RX12 228 (TX12 71).1 (TX12 71).2.1 (TX12 71).2.2.1 ∈ xWS := xWS_in (inC7 (List.mem_of_getElem? (i := 7) (by decide +kernel))) (by decide +kernel)
theorem ylX12_231 : Cond.fieldLink RX12 231 (TX12 72).1 (TX12 72).2.1 (TX12 72).2.2.1 ∈ xWS := xWS_in (inC7 (List.mem_of_getElem? (i := 8) (by decide +kernel))) (by decide +kernel)
theorem ylX12_234 : Cond.fieldLink RX12 234 (TX12 73).1 (TX12 73).2.1 (TX12 73).2.2.1 ∈ xWS := xWS_in (inC7 (List.mem_of_getElem? (i := 9) (by decide +kernel))) (by decide +kernel)
theorem ylX12_237 : Cond.fieldLink RX12 237 (TX12 74).1 (TX12 74).2.1 (TX12 74).2.2.1 ∈ xWS := xWS_in (inC7 (List.mem_of_getElem? (i := 10) (by decide +kernel))) (by decide +kernel)
theorem ylX12_240 : Cond.fieldLink RX12 240 (TX12 75).1 (TX12 75).2.1 (TX12 75).2.2.1 ∈ xWS := xWS_in (inC7 (List.mem_of_getElem? (i := 11) (by decide +kernel))) (by decide +kernel)
theorem ylX12_243 : Cond.fieldLink RX12 243 (TX12 76).1 (TX12 76).2.1 (TX12 76).2.2.1 ∈ xWS := xWS_in (inC7 (List.mem_of_getElem? (i := 12) (by decide +kernel))) (by decide +kernel)
theorem ylX12_246 : Cond.fieldLink RX12 246 (TX12 77).1 (TX12 77).2.1 (TX12 77).2.2.1 ∈ xWS := xWS_in (inC7 (List.mem_of_getElem? (i := 13) (by decide +kernel))) (by decide +kernel)
theorem ylX12_249 : Cond.fieldLink RX12 249 (TX12 78).1 (TX12 78).2.1 (TX12 78).2.2.1 ∈ xWS := xWS_in (inC7 (List.mem_of_getElem? (i := 14) (by decide +kernel))) (by decide +kernel)
theorem ylX12_252 : Cond.fieldLink RX12 252 (TX12 79).1 (TX12 79).2.1 (TX12 79).2.2.1 ∈ xWS := xWS_in (inC7 (List.mem_of_getElem? (i := 15) (by decide +kernel))) (by decide +kernel)
theorem ylX12_255 : Cond.fieldLink RX12 255 (TX12 80).1 (TX12 80).2.1 (TX12 80).2.2.1 ∈ xWS := xWS_in (inC7 (List.mem_of_getElem? (i := 16) (by decide +kernel))) (by decide +kernel)
theorem ylX12_258 : Cond.fieldLink RX12 258 (TX12 81).1 (TX12 81).2.1 (TX12 81).2.2.1 ∈ xWS := xWS_in (inC7 (List.mem_of_getElem? (i := 17) (by decide +kernel))) (by decide +kernel)
theorem ylX12_261 : Cond.fieldLink RX12 261 (TX12 82).1 (TX12 82).2.1 (TX12 82).2.2.1 ∈ xWS := xWS_in (inC7 (List.mem_of_getElem? (i := 18) (by decide +kernel))) (by decide +kernel)
theorem ylX12_264 : Cond.fieldLink RX12 264 (TX12 83).1 (TX12 83).2.1 (TX12 83).2.2.1 ∈ xWS := xWS_in (inC7 (List.mem_of_getElem? (i := 19) (by decide +kernel))) (by decide +kernel)
theorem ylX12_267 : Cond.fieldLink RX12 267 (TX12 84).1 (TX12 84).2.1 (TX12 84).2.2.1 ∈ xWS := xWS_in (inC7 (List.mem_of_getElem? (i := 20) (by decide +kernel))) (by decide +kernel)
theorem ylX12_270 : Cond.fieldLink RX12 270 (TX12 85).1 (TX12 85).2.1 (TX12 85).2.2.1 ∈ xWS := xWS_in (inC7 (List.mem_of_getElem? (i := 21) (by decide +kernel))) (by decide +kernel)
theorem ylX12_273 : Cond.fieldLink RX12 273 (TX12 86).1 (TX12 86).2.1 (TX12 86).2.2.1 ∈ xWS := xWS_in (inC7 (List.mem_of_getElem? (i := 22) (by decide +kernel))) (by decide +kernel)
theorem ymX12_276 : Cond.methodLink RX12 276 yX12_isDefault ∈ xWS := xWS_in (inC6 (List.mem_of_getElem? (i := 172) (by decide +kernel))) (by decide +kernel)
set_option maxRecDepth 100000 in
theorem eX12_init : xCaI yX12_init cX12_init 2 0 := ⟨xWS_in (inC6 (List.mem_of_getElem? (i := 170) rfl)) rfl, xWS_in (inC6 (List.mem_of_getElem? (i := 169) (by decide +kernel))) (by decide +kernel), xWS_in (inC1 (List.mem_of_getElem? (i := 17) (by decide +kernel))) (by decide +kernel), rfl, by decide +kernel, by decide +kernel, by decide +kernel, by decide⟩

def xcs (T : xTb) (M : xMg) (S : xSt) : List va_E := T.2.2.2.map (xct T M S)
theorem xcs_ywl {T : xTb} {M : xMg} {a N : Nat} (hT : T.2.2.2 = List.range N) (hM : ∀ k, M.2.1 k = a + k) (S : xSt) : xwl T M S = ywl a (xcs T M S) := by
  apply List.ext_getElem?
  intro i
  rw [ywl_get]
  unfold xwl xcs
  rw [hT]
  simp only [List.getElem?_map]
  cases h : (List.range N)[i]? with
  | none => rfl
  | some k =>
    have : k = i := by
      obtain ⟨l1, e1⟩ := List.getElem?_eq_some_iff.mp h
      rw [List.getElem_range] at e1
      exact e1.symm
    subst this
    simp [hM]
/-- the world without its size -/
def vW (M : xMg) (a : Nat) (H0 : Heap) (cs : List va_E) (H : Heap) (locs : List Loc) : Prop := va_P M.1 vwCl (ywl a cs) H ∧ va_S (fun q => a ≤ q) H0 H locs
def vAt (Γ : xGm) (M : xMg) (a : Nat) (kc ks pc : Nat) (L : Nat → Option Value) (st : List Value) (cs : List va_E) : Prop :=
  ∀ (ls : Array Slot) (H : Heap) (locs : List Loc), xl ls Γ.2.2.2 L → vW M a Γ.1.2.2.2.2.1.heap cs H locs →
    W Γ.1.1 Γ.1.2.1 Γ.1.2.2.1 Γ.1.2.2.2.1 Γ.1.2.2.2.2.1 Γ.1.2.2.2.2.2.1 Γ.1.2.2.2.2.2.2.1 Γ.1.2.2.2.2.2.2.2.1 Γ.1.2.2.2.2.2.2.2.2.1 Γ.1.2.2.2.2.2.2.2.2.2 H locs kc ks Γ.2.1 (F0 Γ.1.2.2.2.2.2.1 pc ls st)
def vB (M : xMg) (a : Nat) (cs : List va_E) (U : State) : Prop := va_P M.1 vwCl (ywl a cs) U.heap ∧ va_K M.1 vwCl (xty M) U
def vMet (l : Launch) (y : MethodName) (cc : ByteArray) (mL d mc ms : Nat) (M : xMg) (a : Nat) (av : List Value) (cs cs' : List va_E) : Prop :=
  Met l y (Cond.code y cc mL none :: xWS) (xrm2 d mc ms) (va_Pc av (fun U => yB M a [] cs U)) (va_Qv (fun (_ : Unit) => True) (fun _ t => vB M a cs' t) (fun q => a ≤ q)) mc ms (fun q => a ≤ q)
section VR
variable {Γ : xGm} {M : xMg} {a kc ks pc : Nat} {R : Room} {cc : ByteArray} {own : String} {L : Nat → Option Value} {st : List Value} {cs : List va_E}
theorem v_of (k : vAt Γ M a kc ks pc L st cs) : yAt Γ M a [] kc ks pc L st cs := fun ls H locs hl hw => k ls H locs hl ⟨hw.2.1, hw.2.2.2⟩
theorem v_iconst (o : yOk Γ M a [] R cc own) {n : Int} {v : Int32} (hd : decode cc pc = .ok (.iconst n, 1)) (hv : Int32.ofInt n = v) (k : vAt Γ M a kc ks (pc + 1) L (.int v :: st) cs) : vAt Γ M a kc ks pc L st cs :=
  fun ls H locs hl hw => lv_iconst o.1.1 o.1.2.1 hd hv (k ls H locs hl hw)
theorem v_aload_n (o : yOk Γ M a [] R cc own) {q : Fin 4} {i : Nat} {x : Nat} (hd : decode cc pc = .ok (.aload_n q, 1)) (hi : (q : Nat) = i) (hx : L i = some (.ref x)) (k : vAt Γ M a kc ks (pc + 1) L (.ref x :: st) cs) : vAt Γ M a kc ks pc L st cs :=
  fun ls H locs hl hw => lv_aload_n o.1.1 o.1.2.1 hd hi (hl.2.2 _ _ hx) (k ls H locs hl hw)
theorem v_iload_n (o : yOk Γ M a [] R cc own) {q : Fin 4} {i : Nat} {x : Int32} (hd : decode cc pc = .ok (.iload_n q, 1)) (hi : (q : Nat) = i) (hx : L i = some (.int x)) (k : vAt Γ M a kc ks (pc + 1) L (.int x :: st) cs) : vAt Γ M a kc ks pc L st cs :=
  fun ls H locs hl hw => lv_iload_n o.1.1 o.1.2.1 hd hi (hl.2.2 _ _ hx) (k ls H locs hl hw)
theorem v_istore_n (o : yOk Γ M a [] R cc own) {q : Fin 4} {i : Nat} {x : Int32} (hd : decode cc pc = .ok (.istore_n q, 1)) (hi : (q : Nat) = i) (hn : i < Γ.2.2.2) (k : vAt Γ M a kc ks (pc + 1) (xup L i (.int x)) st cs) : vAt Γ M a kc ks pc L (.int x :: st) cs :=
  fun ls H locs hl hw => lv_istore_n o.1.1 o.1.2.1 hd hi (x_has hl) hn rfl (fun ls' h' => k ls' H locs (x_st1 hl h') hw)
theorem v_iinc (o : yOk Γ M a [] R cc own) {i : Nat} {n : Int} {x v : Int32} (hd : decode cc pc = .ok (.iinc i n, 3)) (hx : L i = some (.int x)) (hv : x + Int32.ofInt n = v) (hn : i < Γ.2.2.2) (k : vAt Γ M a kc ks (pc + 3) (xup L i (.int v)) st cs) : vAt Γ M a kc ks pc L st cs := by
  intro ls H locs hl hw
  obtain ⟨kk, hk⟩ := List.getElem?_of_mem (x_in hl hx)
  exact lv_iinc o.1.1 o.1.2.1 hd (x_has hl) hk hv hn rfl (fun ls' h' => k ls' H locs (x_st1 hl h') hw)
theorem v_goto (o : yOk Γ M a [] R cc own) {off : Int} {tgt : Nat} (hd : decode cc pc = .ok (.goto off, 3)) (ht : (pc : Int) + off = (tgt : Int)) (k : vAt Γ M a kc ks tgt L st cs) : vAt Γ M a kc ks pc L st cs :=
  fun ls H locs hl hw => lv_goto o.1.1 o.1.2.1 hd ht (k ls H locs hl hw)
theorem v_icmp_ge (o : yOk Γ M a [] R cc own) {x y : Int32} {off : Int} {tgt : Nat} (hd : decode cc pc = .ok (.if_icmp .ge off, 3)) (ht : (pc : Int) + off = (tgt : Int)) (kt : y ≤ x → vAt Γ M a kc ks tgt L st cs) (kf : ¬ y ≤ x → vAt Γ M a kc ks (pc + 3) L st cs) : vAt Γ M a kc ks pc L (.int y :: .int x :: st) cs :=
  fun ls H locs hl hw => lv_icmp_ge o.1.1 o.1.2.1 hd ht (fun h => kt h ls H locs hl hw) (fun h => kf h ls H locs hl hw)
theorem v_callV {T : xTb} {S S' : xSt} {y : MethodName} {cc' : ByteArray} {mL d' n idx b c N N2 : Nat} {ret : Option FieldType} {Tt : u_T} {tt : Nat → FieldType} {As rest : List Value} (o : yOk Γ M a [] R cc own) (hT : xTok T) (hT2 : T.2.2.2 = List.range N2) (hMa : ∀ k, M.2.1 k = a + k) (hM : xMV Γ.1.2.1 y cc' mL ret d' T M (fun q => a ≤ q) (.ref (M.2.1 b) :: As) S S') (hy : xCal y cc' mL ret n) (hlk : Cond.methodLink own idx y ∈ xWS) (hcl : xCls c y.cls Tt N tt) (hb : T.1 b = c) (hR : d' + 1 ≤ R.frames ∧ 8 + (mL + 11) + 64 * d' ≤ R.locals ∧ kc ≤ R.cells ∧ ks ≤ R.slots) (hn : As.length = n) (hst : st = As.reverse ++ .ref (M.2.1 b) :: rest) (hcat : (rest.map fun v => v.category).sum ≤ 8) (hd : decode cc pc = .ok (.invokevirtual idx, 3)) (k : vAt Γ M a kc ks (pc + 3) L rest (xcs T M S')) : vAt Γ M a kc ks pc L st (xcs T M S) := by
  intro ls H locs hl' hw
  obtain ⟨w2, w4⟩ := hw
  have hts := o.1.2.2.2.2
  have hRR := o.2.2.2.1
  rw [← xcs_ywl hT2 hMa S] at w2
  have hD : va_D (fun q => a ≤ q) (xwl T M S) := by rw [xcs_ywl hT2 hMa S]; exact ywl_D a _
  obtain ⟨y1, y2, y3, y4, y5, y6, y7, y8⟩ := hy
  have hc : CallW Γ.1.2.2.2.1 Γ.1.2.2.2.2.1 Γ.1.2.2.2.2.2.2.1 own y.cls idx y cc' mL ret (Cond.code y cc' mL ret :: xWS) (xrm d') 0 0 n := by
    refine cwV n hts (fun w hw => ?_) rfl rfl rfl ⟨rfl, y5, y6, y7⟩ ⟨by rw [hRR]; exact hR.1, by rw [hRR]; exact hR.2.1⟩
    have hm : w ∈ xWS := by
      rcases List.mem_append.mp hw with h | h
      · rcases List.mem_cons.mp h with rfl | h
        · exact hlk
        rcases List.mem_cons.mp h with rfl | h
        · exact y2
        rcases List.mem_cons.mp h with rfl | h
        · exact y3
        rcases List.mem_cons.mp h with rfl | h
        · exact y4
        cases h
      · rcases List.mem_cons.mp h with rfl | h
        · exact y1
        · exact h
    exact ⟨hm, xWS_good hm⟩
  refine va_callv (va_runV (As := As) (rest := rest) o.1 hM hc (z_preV hT o.2.1 w2 hD hcl hb) rfl hn hl'.1 hst (lv_room hcat) hd ⟨by rw [hRR]; exact hR.2.2.1, by rw [hRR]; exact hR.2.2.2⟩) w4 (fun q _ h => h) (fun q h => h) (fun u t H1 locs1 ht hvm hw1 hB hz1 hk1 hS1 => ?_)
  subst hw1
  obtain ⟨hP1, hK1, hD1⟩ := hB
  rw [ht, xcs_ywl hT2 hMa] at hP1
  exact k ls H1 locs1 hl' ⟨hP1, hS1⟩
theorem v_to {l : List (Nat × Value)} (h : xall L l) (k : vAt Γ M a kc ks pc (xlv l) st cs) : vAt Γ M a kc ks pc L st cs :=
  fun ls H locs hl hw => k ls H locs ⟨hl.1, hl.2.1, fun i v hi => hl.2.2 i v (xall_get h hi)⟩ hw
theorem v_vreturn (o : yOk Γ M a [] R cc own) (hlk : Γ.1.2.2.2.2.2.2.2.2.1.locks = false) (hQ : Γ.2.1 = MQ Γ.1.2.2.2.2.2.2.2.1 (va_Qv (fun (_ : Unit) => True) (fun _ t => vB M a cs t) (fun q => a ≤ q)) Γ.1.2.2.2.2.2.2.1 Γ.1.2.2.2.2.1 kc ks (fun q => a ≤ q)) (hr : Γ.1.2.2.2.2.2.2.2.2.1.sig.returnType = none) (hd : decode cc pc = .ok (.return_, 1)) : vAt Γ M a kc ks pc L [] cs := by
  intro ls H locs hl hw
  have h := W.vret (p := Γ.1.1) (l := Γ.1.2.1) (e := Γ.1.2.2.1) (R := Γ.1.2.2.2.1) (s := Γ.1.2.2.2.2.1) (m := Γ.1.2.2.2.2.2.1) (args := Γ.1.2.2.2.2.2.2.1) (below := Γ.1.2.2.2.2.2.2.2.1) (meth := Γ.1.2.2.2.2.2.2.2.2.1) (c := Γ.1.2.2.2.2.2.2.2.2.2) (H := H) (locs := locs) (cells := kc) (slots := ks) (ls := ls) (Qc := va_Qv (fun (_ : Unit) => True) (fun _ t => vB M a cs t) (fun q => a ≤ q)) (free := fun q => a ≤ q) o.1.1 o.1.2.1 hr
    (fun t ht hW => ⟨⟨(), rfl, trivial, by rw [ht]; exact hw.1, va_K.moved hW.alike o.2.1⟩, hw.2.F ht⟩) hw.2.2.2 hd hlk
  rw [← hQ] at h
  exact h
theorem v_met {l : Launch} {y : MethodName} {mL d mc ms : Nat} {av : List Value} {cs' : List va_E} {x : va_E} (hy : plainFor y = true) (hnm : y.name = "<init>") (hav : (lg_sl av).length ≤ mL)
    (body : ∀ (Γ : xGm), Γ.2.2.2 = mL → Γ.1.2.1 = l → Γ.1.2.2.2.2.2.2.2.2.1.locks = false → Γ.1.2.2.2.2.2.2.2.2.1.name = "<init>" → Γ.2.1 = MQ Γ.1.2.2.2.2.2.2.2.1 (va_Qv (fun (_ : Unit) => True) (fun _ t => vB M a cs' t) (fun q => a ≤ q)) Γ.1.2.2.2.2.2.2.1 Γ.1.2.2.2.2.1 mc ms (fun q => a ≤ q) → Γ.1.2.2.2.2.2.2.2.2.1.sig.returnType = none → yOk Γ M a [] (xrm2 d mc ms) cc y.cls → yAt Γ M a [] 0 0 0 (xarg av) [] [x]) :
    vMet l y cc mL d mc ms M a av [x] cs' := by
  refine va_MetF (cc := cc) (maxL := mL) (ret := none) hy rfl ?_
  intro p e s m args below meth c s₁ B hml hv
  obtain ⟨rfl, hz, hP, hX, hK, hAO⟩ := hv
  have hts := atoms_spec (ws := Cond.code y cc mL none :: xWS) B.pre
  have hown : s.vm.findClass y.cls = some m.cls := findClass_of_methodNamed B.named
  have hin : meth.name = "<init>" := ((name_of_methodNamed B.named B.method).1).trans hnm
  rw [lg_entry_eq]
  have hl := lv_entry av (n := mL) hav
  have h := body ((p, l, e, (headSpec (Cond.code y cc mL none :: xWS) (xrm2 d mc ms)).room, s, m, av.toArray, below, meth, c), MQ below (va_Qv (fun (_ : Unit) => True) (fun _ t => vB M a cs' t) (fun q => a ≤ q)) av.toArray s mc ms (fun q => a ≤ q), (fun q => a ≤ q), mL) rfl rfl B.notSynchronized hin rfl B.returns ⟨⟨B.exec, B.bytes, hml, hown, fun w hw => hts w (List.mem_cons_of_mem _ hw)⟩, hK, (fun q h => absurd h List.not_mem_nil), rfl, (by show a ≤ s.heap.size; rw [hz]; exact Nat.le_add_right _ _), hAO⟩
  exact h _ _ _ ⟨hl.1, hl.2.1, fun i v hi => hl.2.2 (i, v) (x_lookup hi)⟩ ⟨hz, hP, hX, va_S.rf⟩
end VR
/-- the reference's state ahead of its constructor's two calls -/
def mS0 : xSt := (fun k => if k = 0 then (fun j => [0, 0, 0, 0, 0, 0, 0, 0, 0, (-1), 0, (-1), (-1), 0, 0, 0, 0, 0, 0, 0, 0, 0, 0, 0, 0, 0, 0, 0, 0, 0, 0, 0, 0, 0, 0, 0, 0, 0, 0, 0, 1, 0, 0, 0, 0, 0, 0, 0, 0, 0, 0, 0, 0, 0, 0, 0, 0, 0, 0, 0, 0, 0, 0, 0, 0, 0, 0, 0, 0, (-1), 0, 0, 0, 0, 0, 0, 0, 0, 0, 0, 0, 0, 0, 0, 0, 0, 0].getD j 0) else if k = 19 then (upd (upd (upd (upd (fun _ => 0) 0 (-1)) 1 (-1)) 2 (-1)) 3 (-1)) else (fun _ => 0), fun k => if k = 0 then (fun j => [0, 0, 0, 0, 0, 0, 0, 0, 0, 0, 0, 0, 0, 0, 0, 0, 0, 0, 0, 0, 0, 0, 0, 0, 0, 0, 0, 0, 0, 0, 0, 0, 0, 0, 0, 0, 0, 0, 0, 0, 0, 0, 0, 0, 0, 0, 0, 0, 0, 0, 0, 0, 0, 0, 0, 0, 0, 0, 0, 0, 0, 0, 0, 0, 0, 0, 1, 0, 0, 0, 0, 0, 0, 0, 0, 0, 0, 0, 0, 0, 0, 0, 0, 0, 0, 0, 0].getD j 0) else (fun _ => 0), fun _ _ => 0)
def mDef : Nat → Value := fun i => [.null, .int 0, .int 0, .int 0, .int 0, .int 0, .int 0, .long 0, .int 0, .int 0, .int 0, .int 0, .int 0, .int 0, .null, .null, .null, .null, .null, .null, .null, .null, .null, .null, .null, .null, .null, .null, .null, .null, .null, .null, .null, .null, .null, .null, .null, .null, .null, .int 0, .int 0, .int 0, .null, .null, .null, .null, .null, .int 0, .int 0, .null, .int 0, .int 0, .int 0, .null, .null, .null, .null, .null, .null, .null, .null, .null, .null, .null, .int 0, .int 0, .long 0, .null, .null, .int 0, .int 0, .int 0, .null, .int 0, .int 0, .int 0, .null, .null, .null, .null, .null, .null, .null, .int 0, .null, .null, .int 0].getD i .null
def mFin (a : Nat) : Nat → Value := fun i => [.ref (a + 1), .int 0, .int 0, .int 0, .int 0, .int 0, .int 0, .long 0, .int 0, .int (-1), .int 0, .int (-1), .int (-1), .int 0, .ref (a + 2), .ref (a + 3), .ref (a + 4), .ref (a + 5), .ref (a + 6), .ref (a + 7), .ref (a + 8), .ref (a + 9), .ref (a + 10), .ref (a + 11), .ref (a + 12), .ref (a + 13), .ref (a + 14), .ref (a + 15), .ref (a + 16), .ref (a + 17), .ref (a + 18), .ref (a + 19), .ref (a + 20), .ref (a + 21), .ref (a + 22), .ref (a + 23), .ref (a + 24), .ref (a + 25), .ref (a + 26), .int 0, .int 1, .int 0, .ref (a + 27), .ref (a + 28), .ref (a + 29), .ref (a + 30), .ref (a + 31), .int 0, .int 0, .ref (a + 32), .int 0, .int 0, .int 0, .ref (a + 33), .ref (a + 34), .ref (a + 35), .ref (a + 36), .ref (a + 37), .ref (a + 38), .ref (a + 39), .ref (a + 40), .ref (a + 41), .ref (a + 42), .ref (a + 43), .int 0, .int 0, .long 1, .ref (a + 44), .ref (a + 45), .int (-1), .int 0, .int 0, .ref (a + 46), .int 0, .int 0, .int 0, .ref (a + 47), .ref (a + 48), .ref (a + 49), .ref (a + 50), .ref (a + 51), .ref (a + 52), .ref (a + 53), .int 0, .ref (a + 54), .ref (a + 55), .int 0].getD i .null
def mF (a J : Nat) : List Value := (List.range 87).map (fun i => if i < J then mFin a i else mDef i)
theorem mF_len (a J : Nat) : (mF a J).length = 87 := by simp [mF]
theorem mF_set (a J : Nat) (hJ : J < 87) : (mF a J).set J (mFin a J) = mF a (J + 1) := by
  apply List.ext_getElem?
  intro i
  by_cases h : i = J
  · subst h
    rw [List.getElem?_set_self (by rw [mF_len]; exact hJ)]
    simp [mF, hJ]
  · rw [List.getElem?_set_ne (Ne.symm h)]
    simp only [mF, List.getElem?_map]
    cases hq : (List.range 87)[i]? with
    | none => rfl
    | some q =>
      have : q = i := by
        obtain ⟨l1, e1⟩ := List.getElem?_eq_some_iff.mp hq
        rw [List.getElem_range] at e1
        exact e1.symm
      subst this
      by_cases h2 : q < J
      · simp [h2, Nat.lt_succ_of_lt h2]
      · have : ¬ q < J + 1 := by omega
        simp [h2, this]
def mCells (M : xMg) (sf : Nat → Int32) : List va_E := [yI M 1800, yI M 2, yI M 12, yI M 12, yI M 2, yI M 16, yI M 16, yI M 2, yI M 96, yI M 2, yI M 12, yI M 12, yI M 48, yI M 48, yI M 72, yI M 2, yI M 2, yI M 6, .inl (M.2.2.1, 4, .inl sf), yI M 4, yI M 3200, yI M 3200, yJ M 12, yJ M 16, yJ M 12, yJ M 12, yI M 20, yI M 20, yZ M 20, yI M 20, yI M 20, yI M 500, yI M 6, yI M 22, yI M 22, yI M 176, yI M 22, yI M 22, yI M 1056, yI M 132, yI M 132, yI M 22, yI M 5280, yJ M 500, yI M 12, yI M 6, yI M 6, yI M 6, yI M 6, yI M 6, yI M 6, yI M 6, yI M 6, yI M 61, yI M 110]
def mC (M : xMg) (a : Nat) (sf : Nat → Int32) (J n : Nat) : List va_E := .inr (12, mF a J) :: (mCells M sf).take n
theorem mC_put {M : xMg} {a J n : Nat} {sf : Nat → Int32} {v : Value} (hJ : J < 87) (hv : mFin a J = v) : (mC M a sf J n).set 0 (.inr (12, (mF a J).set J v)) = mC M a sf (J + 1) n := by
  subst hv
  rw [mF_set a J hJ]
  rfl
theorem mC_len {M : xMg} {a J n : Nat} {sf : Nat → Int32} (h : n ≤ 55) : (mC M a sf J n).length = n + 1 := by
  have e : (mCells M sf).length = 55 := rfl
  show ((mCells M sf).take n).length + 1 = n + 1
  rw [List.length_take, e, Nat.min_eq_left h]
theorem mC_new {M : xMg} {a J n : Nat} {sf : Nat → Int32} {x : va_E} (h : (mCells M sf)[n]? = some x) : mC M a sf J n ++ [x] = mC M a sf J (n + 1) := by
  show .inr (12, mF a J) :: ((mCells M sf).take n ++ [x]) = .inr (12, mF a J) :: (mCells M sf).take (n + 1)
  rw [List.take_succ, h]
  rfl
set_option maxRecDepth 100000 in
theorem mC_0 {M : xMg} {a : Nat} : [.inr (12, [.null, .int 0, .int 0, .int 0, .int 0, .int 0, .int 0, .long 0, .int 0, .int 0, .int 0, .int 0, .int 0, .int 0, .null, .null, .null, .null, .null, .null, .null, .null, .null, .null, .null, .null, .null, .null, .null, .null, .null, .null, .null, .null, .null, .null, .null, .null, .null, .int 0, .int 0, .int 0, .null, .null, .null, .null, .null, .int 0, .int 0, .null, .int 0, .int 0, .int 0, .null, .null, .null, .null, .null, .null, .null, .null, .null, .null, .null, .int 0, .int 0, .long 0, .null, .null, .int 0, .int 0, .int 0, .null, .int 0, .int 0, .int 0, .null, .null, .null, .null, .null, .null, .null, .int 0, .null, .null, .int 0])] = mC M a (fun _ => 0) 0 0 := rfl
def mS1 : xSt := (fX12_isDefault 0 0 mS0).getD mS0
def mS2 : xSt := (fX12_isDefault 0 1 mS1).getD mS1
theorem mS1_eq : fX12_isDefault 0 0 mS0 = some mS1 := rfl
theorem mS2_eq : fX12_isDefault 0 1 mS1 = some mS2 := rfl
set_option maxRecDepth 100000 in
theorem mFx (M : xMg) (a : Nat) : ∀ i, i < 87 → mFin a i = xfv tM (M.1, (fun k => a + k), M.2.2) mS0 0 i
  | 0, _ => rfl
  | 1, _ => rfl
  | 2, _ => rfl
  | 3, _ => rfl
  | 4, _ => rfl
  | 5, _ => rfl
  | 6, _ => rfl
  | 7, _ => rfl
  | 8, _ => rfl
  | 9, _ => rfl
  | 10, _ => rfl
  | 11, _ => rfl
  | 12, _ => rfl
  | 13, _ => rfl
  | 14, _ => rfl
  | 15, _ => rfl
  | 16, _ => rfl
  | 17, _ => rfl
  | 18, _ => rfl
  | 19, _ => rfl
  | 20, _ => rfl
  | 21, _ => rfl
  | 22, _ => rfl
  | 23, _ => rfl
  | 24, _ => rfl
  | 25, _ => rfl
  | 26, _ => rfl
  | 27, _ => rfl
  | 28, _ => rfl
  | 29, _ => rfl
  | 30, _ => rfl
  | 31, _ => rfl
  | 32, _ => rfl
  | 33, _ => rfl
  | 34, _ => rfl
  | 35, _ => rfl
  | 36, _ => rfl
  | 37, _ => rfl
  | 38, _ => rfl
  | 39, _ => rfl
  | 40, _ => rfl
  | 41, _ => rfl
  | 42, _ => rfl
  | 43, _ => rfl
  | 44, _ => rfl
  | 45, _ => rfl
  | 46, _ => rfl
  | 47, _ => rfl
  | 48, _ => rfl
  | 49, _ => rfl
  | 50, _ => rfl
  | 51, _ => rfl
  | 52, _ => rfl
  | 53, _ => rfl
  | 54, _ => rfl
  | 55, _ => rfl
  | 56, _ => rfl
  | 57, _ => rfl
  | 58, _ => rfl
  | 59, _ => rfl
  | 60, _ => rfl
  | 61, _ => rfl
  | 62, _ => rfl
  | 63, _ => rfl
  | 64, _ => rfl
  | 65, _ => rfl
  | 66, _ => rfl
  | 67, _ => rfl
  | 68, _ => rfl
  | 69, _ => rfl
  | 70, _ => rfl
  | 71, _ => rfl
  | 72, _ => rfl
  | 73, _ => rfl
  | 74, _ => rfl
  | 75, _ => rfl
  | 76, _ => rfl
  | 77, _ => rfl
  | 78, _ => rfl
  | 79, _ => rfl
  | 80, _ => rfl
  | 81, _ => rfl
  | 82, _ => rfl
  | 83, _ => rfl
  | 84, _ => rfl
  | 85, _ => rfl
  | 86, _ => rfl
  | i + 87, h => absurd h (by omega)
set_option maxRecDepth 100000 in
set_option maxHeartbeats 8000000 in
theorem mS0_cs {M : xMg} {a : Nat} (hMa : ∀ k, M.2.1 k = a + k) : mC M a (upd (upd (upd (upd (fun _ => 0) 0 (-1)) 1 (-1)) 2 (-1)) 3 (-1)) 87 55 = xcs tM M mS0 := by
  have e : M = (M.1, (fun k => a + k), M.2.2) := by
    have : M.2.1 = fun k => a + k := funext hMa
    rw [← this]
  have e1 : xcs tM M mS0 = xcs tM (M.1, (fun k => a + k), M.2.2) mS0 := by rw [← e]
  rw [e1]
  have e2 : mF a 87 = (List.range 87).map (xfv tM (M.1, (fun k => a + k), M.2.2) mS0 0) := by
    unfold mF
    apply List.map_congr_left
    intro i hi
    have h := List.mem_range.mp hi
    rw [if_pos h]
    exact mFx M a i h
  unfold mC
  rw [e2]
  rfl
set_option maxHeartbeats 8000000 in
set_option maxRecDepth 100000 in
theorem yX12_init_ok (l : Launch) (M : xMg) (a : Nat) (hMa : ∀ k, M.2.1 k = a + k) : vMet l yX12_init cX12_init 2 2 55 16845 M a [.ref a] [.inr (12, [.null, .int 0, .int 0, .int 0, .int 0, .int 0, .int 0, .long 0, .int 0, .int 0, .int 0, .int 0, .int 0, .int 0, .null, .null, .null, .null, .null, .null, .null, .null, .null, .null, .null, .null, .null, .null, .null, .null, .null, .null, .null, .null, .null, .null, .null, .null, .null, .int 0, .int 0, .int 0, .null, .null, .null, .null, .null, .int 0, .int 0, .null, .int 0, .int 0, .int 0, .null, .null, .null, .null, .null, .null, .null, .null, .null, .null, .null, .int 0, .int 0, .long 0, .null, .null, .int 0, .int 0, .int 0, .null, .int 0, .int 0, .int 0, .null, .null, .null, .null, .null, .null, .null, .int 0, .null, .null, .int 0])] (xcs tM M mS2) := by
  refine v_met (plainFor_of_name (by decide)) rfl (Nat.le_of_ble_eq_true rfl) (fun Γ hnL hl hlk hin hQ hret o => ?_)
  subst hl
  have o : yOk Γ M a _ (xrm2 2 55 16845) cX12_init RX12 := o
  refine y_to (l := [(0, .ref a)]) ⟨rfl, trivial⟩ ?_
  refine y_aload_n (pc := 0) o dX12_init_0 rfl rfl ?_
  refine y_objInit (pc := 1) o ymX12_1 w_oi1 w_oi2 ⟨Nat.le_of_ble_eq_true rfl, Nat.le_of_ble_eq_true rfl⟩ (Nat.le_of_ble_eq_true rfl) dX12_init_1 ?_
  refine y_cs (cs' := mC M a (fun _ => 0) 0 0) mC_0 ?_
  refine y_aload_n (pc := 4) o dX12_init_4 rfl rfl ?_
  refine y_sipush (pc := 5) (v := 1800) o dX12_init_5 (by decide +kernel) ?_
  refine y_newI (pc := 8) (N' := 1800) (p := 1) (cs' := mC M a (fun _ => 0) 0 1) o ar_int (by decide) rfl (by decide) ⟨Nat.le_of_ble_eq_true rfl, Nat.le_of_ble_eq_true rfl⟩ dX12_init_8 (mC_len (by decide)) (mC_new rfl) ?_
  refine y_putFE (pc := 10) (p := 0) (j := 0) (fs := mF a 0) (cs' := mC M a (fun _ => 0) 1 1) o hin clX12 (by decide) ylX12_7 rfl rfl rfl (by rw [mF_len]; decide) rfl rfl dX12_init_10 (mC_put (by decide) rfl) ?_
  refine y_aload_n (pc := 13) o dX12_init_13 rfl rfl ?_
  refine y_iconst (pc := 14) o dX12_init_14 ic_0 ?_
  refine y_putNE (pc := 15) (p := 0) (j := 1) (fs := mF a 1) (cs' := mC M a (fun _ => 0) 2 1) o clX12 (by decide) ylX12_13 rfl rfl (by rw [mF_len]; decide) rfl rfl dX12_init_15 (mC_put (by decide) rfl) ?_
  refine y_aload_n (pc := 18) o dX12_init_18 rfl rfl ?_
  refine y_iconst (pc := 19) o dX12_init_19 ic_0 ?_
  refine y_putNE (pc := 20) (p := 0) (j := 2) (fs := mF a 2) (cs' := mC M a (fun _ => 0) 3 1) o clX12 (by decide) ylX12_17 rfl rfl (by rw [mF_len]; decide) rfl rfl dX12_init_20 (mC_put (by decide) rfl) ?_
  refine y_aload_n (pc := 23) o dX12_init_23 rfl rfl ?_
  refine y_iconst (pc := 24) o dX12_init_24 ic_0 ?_
  refine y_putNE (pc := 25) (p := 0) (j := 3) (fs := mF a 3) (cs' := mC M a (fun _ => 0) 4 1) o clX12 (by decide) ylX12_20 rfl rfl (by rw [mF_len]; decide) rfl rfl dX12_init_25 (mC_put (by decide) rfl) ?_
  refine y_aload_n (pc := 28) o dX12_init_28 rfl rfl ?_
  refine y_iconst (pc := 29) o dX12_init_29 ic_0 ?_
  refine y_putNE (pc := 30) (p := 0) (j := 4) (fs := mF a 4) (cs' := mC M a (fun _ => 0) 5 1) o clX12 (by decide) ylX12_23 rfl rfl (by rw [mF_len]; decide) rfl rfl dX12_init_30 (mC_put (by decide) rfl) ?_
  refine y_aload_n (pc := 33) o dX12_init_33 rfl rfl ?_
  refine y_iconst (pc := 34) o dX12_init_34 ic_0 ?_
  refine y_putNE (pc := 35) (p := 0) (j := 5) (fs := mF a 5) (cs' := mC M a (fun _ => 0) 6 1) o clX12 (by decide) ylX12_26 rfl rfl (by rw [mF_len]; decide) rfl rfl dX12_init_35 (mC_put (by decide) rfl) ?_
  refine y_aload_n (pc := 38) o dX12_init_38 rfl rfl ?_
  refine y_iconst (pc := 39) o dX12_init_39 ic_0 ?_
  refine y_putNE (pc := 40) (p := 0) (j := 6) (fs := mF a 6) (cs' := mC M a (fun _ => 0) 7 1) o clX12 (by decide) ylX12_29 rfl rfl (by rw [mF_len]; decide) rfl rfl dX12_init_40 (mC_put (by decide) rfl) ?_
  refine y_aload_n (pc := 43) o dX12_init_43 rfl rfl ?_
  refine y_lconst (pc := 44) (v := 0) o dX12_init_44 rfl ?_
  refine y_putNE (pc := 45) (p := 0) (j := 7) (fs := mF a 7) (cs' := mC M a (fun _ => 0) 8 1) o clX12 (by decide) ylX12_32 rfl rfl (by rw [mF_len]; decide) rfl rfl dX12_init_45 (mC_put (by decide) rfl) ?_
  refine y_aload_n (pc := 48) o dX12_init_48 rfl rfl ?_
  refine y_iconst (pc := 49) o dX12_init_49 ic_0 ?_
  refine y_putNE (pc := 50) (p := 0) (j := 8) (fs := mF a 8) (cs' := mC M a (fun _ => 0) 9 1) o clX12 (by decide) ylX12_36 rfl rfl (by rw [mF_len]; decide) rfl rfl dX12_init_50 (mC_put (by decide) rfl) ?_
  refine y_aload_n (pc := 53) o dX12_init_53 rfl rfl ?_
  refine y_iconst (pc := 54) o dX12_init_54 ic_m1 ?_
  refine y_putNE (pc := 55) (p := 0) (j := 9) (fs := mF a 9) (cs' := mC M a (fun _ => 0) 10 1) o clX12 (by decide) ylX12_39 rfl rfl (by rw [mF_len]; decide) rfl rfl dX12_init_55 (mC_put (by decide) rfl) ?_
  refine y_aload_n (pc := 58) o dX12_init_58 rfl rfl ?_
  refine y_iconst (pc := 59) o dX12_init_59 ic_0 ?_
  refine y_putNE (pc := 60) (p := 0) (j := 10) (fs := mF a 10) (cs' := mC M a (fun _ => 0) 11 1) o clX12 (by decide) ylX12_42 rfl rfl (by rw [mF_len]; decide) rfl rfl dX12_init_60 (mC_put (by decide) rfl) ?_
  refine y_aload_n (pc := 63) o dX12_init_63 rfl rfl ?_
  refine y_iconst (pc := 64) o dX12_init_64 ic_m1 ?_
  refine y_putNE (pc := 65) (p := 0) (j := 11) (fs := mF a 11) (cs' := mC M a (fun _ => 0) 12 1) o clX12 (by decide) ylX12_45 rfl rfl (by rw [mF_len]; decide) rfl rfl dX12_init_65 (mC_put (by decide) rfl) ?_
  refine y_aload_n (pc := 68) o dX12_init_68 rfl rfl ?_
  refine y_iconst (pc := 69) o dX12_init_69 ic_m1 ?_
  refine y_putNE (pc := 70) (p := 0) (j := 12) (fs := mF a 12) (cs' := mC M a (fun _ => 0) 13 1) o clX12 (by decide) ylX12_48 rfl rfl (by rw [mF_len]; decide) rfl rfl dX12_init_70 (mC_put (by decide) rfl) ?_
  refine y_aload_n (pc := 73) o dX12_init_73 rfl rfl ?_
  refine y_iconst (pc := 74) o dX12_init_74 ic_0 ?_
  refine y_putNE (pc := 75) (p := 0) (j := 13) (fs := mF a 13) (cs' := mC M a (fun _ => 0) 14 1) o clX12 (by decide) ylX12_51 rfl rfl (by rw [mF_len]; decide) rfl rfl dX12_init_75 (mC_put (by decide) rfl) ?_
  refine y_aload_n (pc := 78) o dX12_init_78 rfl rfl ?_
  refine y_iconst (pc := 79) o dX12_init_79 ic_2 ?_
  refine y_newI (pc := 80) (N' := 2) (p := 2) (cs' := mC M a (fun _ => 0) 14 2) o ar_int (by decide) rfl (by decide) ⟨Nat.le_of_ble_eq_true rfl, Nat.le_of_ble_eq_true rfl⟩ dX12_init_80 (mC_len (by decide)) (mC_new rfl) ?_
  refine y_putFE (pc := 82) (p := 0) (j := 14) (fs := mF a 14) (cs' := mC M a (fun _ => 0) 15 2) o hin clX12 (by decide) ylX12_54 rfl rfl rfl (by rw [mF_len]; decide) rfl rfl dX12_init_82 (mC_put (by decide) rfl) ?_
  refine y_aload_n (pc := 85) o dX12_init_85 rfl rfl ?_
  refine y_bipush (pc := 86) (v := 12) o dX12_init_86 (by decide +kernel) ?_
  refine y_newI (pc := 88) (N' := 12) (p := 3) (cs' := mC M a (fun _ => 0) 15 3) o ar_int (by decide) rfl (by decide) ⟨Nat.le_of_ble_eq_true rfl, Nat.le_of_ble_eq_true rfl⟩ dX12_init_88 (mC_len (by decide)) (mC_new rfl) ?_
  refine y_putFE (pc := 90) (p := 0) (j := 15) (fs := mF a 15) (cs' := mC M a (fun _ => 0) 16 3) o hin clX12 (by decide) ylX12_57 rfl rfl rfl (by rw [mF_len]; decide) rfl rfl dX12_init_90 (mC_put (by decide) rfl) ?_
  refine y_aload_n (pc := 93) o dX12_init_93 rfl rfl ?_
  refine y_bipush (pc := 94) (v := 12) o dX12_init_94 (by decide +kernel) ?_
  refine y_newI (pc := 96) (N' := 12) (p := 4) (cs' := mC M a (fun _ => 0) 16 4) o ar_int (by decide) rfl (by decide) ⟨Nat.le_of_ble_eq_true rfl, Nat.le_of_ble_eq_true rfl⟩ dX12_init_96 (mC_len (by decide)) (mC_new rfl) ?_
  refine y_putFE (pc := 98) (p := 0) (j := 16) (fs := mF a 16) (cs' := mC M a (fun _ => 0) 17 4) o hin clX12 (by decide) ylX12_60 rfl rfl rfl (by rw [mF_len]; decide) rfl rfl dX12_init_98 (mC_put (by decide) rfl) ?_
  refine y_aload_n (pc := 101) o dX12_init_101 rfl rfl ?_
  refine y_iconst (pc := 102) o dX12_init_102 ic_2 ?_
  refine y_newI (pc := 103) (N' := 2) (p := 5) (cs' := mC M a (fun _ => 0) 17 5) o ar_int (by decide) rfl (by decide) ⟨Nat.le_of_ble_eq_true rfl, Nat.le_of_ble_eq_true rfl⟩ dX12_init_103 (mC_len (by decide)) (mC_new rfl) ?_
  refine y_putFE (pc := 105) (p := 0) (j := 17) (fs := mF a 17) (cs' := mC M a (fun _ => 0) 18 5) o hin clX12 (by decide) ylX12_63 rfl rfl rfl (by rw [mF_len]; decide) rfl rfl dX12_init_105 (mC_put (by decide) rfl) ?_
  refine y_aload_n (pc := 108) o dX12_init_108 rfl rfl ?_
  refine y_bipush (pc := 109) (v := 16) o dX12_init_109 (by decide +kernel) ?_
  refine y_newI (pc := 111) (N' := 16) (p := 6) (cs' := mC M a (fun _ => 0) 18 6) o ar_int (by decide) rfl (by decide) ⟨Nat.le_of_ble_eq_true rfl, Nat.le_of_ble_eq_true rfl⟩ dX12_init_111 (mC_len (by decide)) (mC_new rfl) ?_
  refine y_putFE (pc := 113) (p := 0) (j := 18) (fs := mF a 18) (cs' := mC M a (fun _ => 0) 19 6) o hin clX12 (by decide) ylX12_66 rfl rfl rfl (by rw [mF_len]; decide) rfl rfl dX12_init_113 (mC_put (by decide) rfl) ?_
  refine y_aload_n (pc := 116) o dX12_init_116 rfl rfl ?_
  refine y_bipush (pc := 117) (v := 16) o dX12_init_117 (by decide +kernel) ?_
  refine y_newI (pc := 119) (N' := 16) (p := 7) (cs' := mC M a (fun _ => 0) 19 7) o ar_int (by decide) rfl (by decide) ⟨Nat.le_of_ble_eq_true rfl, Nat.le_of_ble_eq_true rfl⟩ dX12_init_119 (mC_len (by decide)) (mC_new rfl) ?_
  refine y_putFE (pc := 121) (p := 0) (j := 19) (fs := mF a 19) (cs' := mC M a (fun _ => 0) 20 7) o hin clX12 (by decide) ylX12_69 rfl rfl rfl (by rw [mF_len]; decide) rfl rfl dX12_init_121 (mC_put (by decide) rfl) ?_
  refine y_aload_n (pc := 124) o dX12_init_124 rfl rfl ?_
  refine y_iconst (pc := 125) o dX12_init_125 ic_2 ?_
  refine y_newI (pc := 126) (N' := 2) (p := 8) (cs' := mC M a (fun _ => 0) 20 8) o ar_int (by decide) rfl (by decide) ⟨Nat.le_of_ble_eq_true rfl, Nat.le_of_ble_eq_true rfl⟩ dX12_init_126 (mC_len (by decide)) (mC_new rfl) ?_
  refine y_putFE (pc := 128) (p := 0) (j := 20) (fs := mF a 20) (cs' := mC M a (fun _ => 0) 21 8) o hin clX12 (by decide) ylX12_72 rfl rfl rfl (by rw [mF_len]; decide) rfl rfl dX12_init_128 (mC_put (by decide) rfl) ?_
  refine y_aload_n (pc := 131) o dX12_init_131 rfl rfl ?_
  refine y_bipush (pc := 132) (v := 96) o dX12_init_132 (by decide +kernel) ?_
  refine y_newI (pc := 134) (N' := 96) (p := 9) (cs' := mC M a (fun _ => 0) 21 9) o ar_int (by decide) rfl (by decide) ⟨Nat.le_of_ble_eq_true rfl, Nat.le_of_ble_eq_true rfl⟩ dX12_init_134 (mC_len (by decide)) (mC_new rfl) ?_
  refine y_putFE (pc := 136) (p := 0) (j := 21) (fs := mF a 21) (cs' := mC M a (fun _ => 0) 22 9) o hin clX12 (by decide) ylX12_75 rfl rfl rfl (by rw [mF_len]; decide) rfl rfl dX12_init_136 (mC_put (by decide) rfl) ?_
  refine y_aload_n (pc := 139) o dX12_init_139 rfl rfl ?_
  refine y_iconst (pc := 140) o dX12_init_140 ic_2 ?_
  refine y_newI (pc := 141) (N' := 2) (p := 10) (cs' := mC M a (fun _ => 0) 22 10) o ar_int (by decide) rfl (by decide) ⟨Nat.le_of_ble_eq_true rfl, Nat.le_of_ble_eq_true rfl⟩ dX12_init_141 (mC_len (by decide)) (mC_new rfl) ?_
  refine y_putFE (pc := 143) (p := 0) (j := 22) (fs := mF a 22) (cs' := mC M a (fun _ => 0) 23 10) o hin clX12 (by decide) ylX12_78 rfl rfl rfl (by rw [mF_len]; decide) rfl rfl dX12_init_143 (mC_put (by decide) rfl) ?_
  refine y_aload_n (pc := 146) o dX12_init_146 rfl rfl ?_
  refine y_bipush (pc := 147) (v := 12) o dX12_init_147 (by decide +kernel) ?_
  refine y_newI (pc := 149) (N' := 12) (p := 11) (cs' := mC M a (fun _ => 0) 23 11) o ar_int (by decide) rfl (by decide) ⟨Nat.le_of_ble_eq_true rfl, Nat.le_of_ble_eq_true rfl⟩ dX12_init_149 (mC_len (by decide)) (mC_new rfl) ?_
  refine y_putFE (pc := 151) (p := 0) (j := 23) (fs := mF a 23) (cs' := mC M a (fun _ => 0) 24 11) o hin clX12 (by decide) ylX12_81 rfl rfl rfl (by rw [mF_len]; decide) rfl rfl dX12_init_151 (mC_put (by decide) rfl) ?_
  refine y_aload_n (pc := 154) o dX12_init_154 rfl rfl ?_
  refine y_bipush (pc := 155) (v := 12) o dX12_init_155 (by decide +kernel) ?_
  refine y_newI (pc := 157) (N' := 12) (p := 12) (cs' := mC M a (fun _ => 0) 24 12) o ar_int (by decide) rfl (by decide) ⟨Nat.le_of_ble_eq_true rfl, Nat.le_of_ble_eq_true rfl⟩ dX12_init_157 (mC_len (by decide)) (mC_new rfl) ?_
  refine y_putFE (pc := 159) (p := 0) (j := 24) (fs := mF a 24) (cs' := mC M a (fun _ => 0) 25 12) o hin clX12 (by decide) ylX12_84 rfl rfl rfl (by rw [mF_len]; decide) rfl rfl dX12_init_159 (mC_put (by decide) rfl) ?_
  refine y_aload_n (pc := 162) o dX12_init_162 rfl rfl ?_
  refine y_bipush (pc := 163) (v := 48) o dX12_init_163 (by decide +kernel) ?_
  refine y_newI (pc := 165) (N' := 48) (p := 13) (cs' := mC M a (fun _ => 0) 25 13) o ar_int (by decide) rfl (by decide) ⟨Nat.le_of_ble_eq_true rfl, Nat.le_of_ble_eq_true rfl⟩ dX12_init_165 (mC_len (by decide)) (mC_new rfl) ?_
  refine y_putFE (pc := 167) (p := 0) (j := 25) (fs := mF a 25) (cs' := mC M a (fun _ => 0) 26 13) o hin clX12 (by decide) ylX12_87 rfl rfl rfl (by rw [mF_len]; decide) rfl rfl dX12_init_167 (mC_put (by decide) rfl) ?_
  refine y_aload_n (pc := 170) o dX12_init_170 rfl rfl ?_
  refine y_bipush (pc := 171) (v := 48) o dX12_init_171 (by decide +kernel) ?_
  refine y_newI (pc := 173) (N' := 48) (p := 14) (cs' := mC M a (fun _ => 0) 26 14) o ar_int (by decide) rfl (by decide) ⟨Nat.le_of_ble_eq_true rfl, Nat.le_of_ble_eq_true rfl⟩ dX12_init_173 (mC_len (by decide)) (mC_new rfl) ?_
  refine y_putFE (pc := 175) (p := 0) (j := 26) (fs := mF a 26) (cs' := mC M a (fun _ => 0) 27 14) o hin clX12 (by decide) ylX12_90 rfl rfl rfl (by rw [mF_len]; decide) rfl rfl dX12_init_175 (mC_put (by decide) rfl) ?_
  refine y_aload_n (pc := 178) o dX12_init_178 rfl rfl ?_
  refine y_bipush (pc := 179) (v := 72) o dX12_init_179 (by decide +kernel) ?_
  refine y_newI (pc := 181) (N' := 72) (p := 15) (cs' := mC M a (fun _ => 0) 27 15) o ar_int (by decide) rfl (by decide) ⟨Nat.le_of_ble_eq_true rfl, Nat.le_of_ble_eq_true rfl⟩ dX12_init_181 (mC_len (by decide)) (mC_new rfl) ?_
  refine y_putFE (pc := 183) (p := 0) (j := 27) (fs := mF a 27) (cs' := mC M a (fun _ => 0) 28 15) o hin clX12 (by decide) ylX12_93 rfl rfl rfl (by rw [mF_len]; decide) rfl rfl dX12_init_183 (mC_put (by decide) rfl) ?_
  refine y_aload_n (pc := 186) o dX12_init_186 rfl rfl ?_
  refine y_iconst (pc := 187) o dX12_init_187 ic_2 ?_
  refine y_newI (pc := 188) (N' := 2) (p := 16) (cs' := mC M a (fun _ => 0) 28 16) o ar_int (by decide) rfl (by decide) ⟨Nat.le_of_ble_eq_true rfl, Nat.le_of_ble_eq_true rfl⟩ dX12_init_188 (mC_len (by decide)) (mC_new rfl) ?_
  refine y_putFE (pc := 190) (p := 0) (j := 28) (fs := mF a 28) (cs' := mC M a (fun _ => 0) 29 16) o hin clX12 (by decide) ylX12_96 rfl rfl rfl (by rw [mF_len]; decide) rfl rfl dX12_init_190 (mC_put (by decide) rfl) ?_
  refine y_aload_n (pc := 193) o dX12_init_193 rfl rfl ?_
  refine y_iconst (pc := 194) o dX12_init_194 ic_2 ?_
  refine y_newI (pc := 195) (N' := 2) (p := 17) (cs' := mC M a (fun _ => 0) 29 17) o ar_int (by decide) rfl (by decide) ⟨Nat.le_of_ble_eq_true rfl, Nat.le_of_ble_eq_true rfl⟩ dX12_init_195 (mC_len (by decide)) (mC_new rfl) ?_
  refine y_putFE (pc := 197) (p := 0) (j := 29) (fs := mF a 29) (cs' := mC M a (fun _ => 0) 30 17) o hin clX12 (by decide) ylX12_99 rfl rfl rfl (by rw [mF_len]; decide) rfl rfl dX12_init_197 (mC_put (by decide) rfl) ?_
  refine y_aload_n (pc := 200) o dX12_init_200 rfl rfl ?_
  refine y_bipush (pc := 201) (v := 6) o dX12_init_201 (by decide +kernel) ?_
  refine y_newI (pc := 203) (N' := 6) (p := 18) (cs' := mC M a (fun _ => 0) 30 18) o ar_int (by decide) rfl (by decide) ⟨Nat.le_of_ble_eq_true rfl, Nat.le_of_ble_eq_true rfl⟩ dX12_init_203 (mC_len (by decide)) (mC_new rfl) ?_
  refine y_putFE (pc := 205) (p := 0) (j := 30) (fs := mF a 30) (cs' := mC M a (fun _ => 0) 31 18) o hin clX12 (by decide) ylX12_102 rfl rfl rfl (by rw [mF_len]; decide) rfl rfl dX12_init_205 (mC_put (by decide) rfl) ?_
  refine y_aload_n (pc := 208) o dX12_init_208 rfl rfl ?_
  refine y_iconst (pc := 209) o dX12_init_209 ic_4 ?_
  refine y_newI (pc := 210) (N' := 4) (p := 19) (cs' := mC M a (fun _ => 0) 31 19) o ar_int (by decide) rfl (by decide) ⟨Nat.le_of_ble_eq_true rfl, Nat.le_of_ble_eq_true rfl⟩ dX12_init_210 (mC_len (by decide)) (mC_new rfl) ?_
  refine y_putFE (pc := 212) (p := 0) (j := 31) (fs := mF a 31) (cs' := mC M a (fun _ => 0) 32 19) o hin clX12 (by decide) ylX12_105 rfl rfl rfl (by rw [mF_len]; decide) rfl rfl dX12_init_212 (mC_put (by decide) rfl) ?_
  refine y_aload_n (pc := 215) o dX12_init_215 rfl rfl ?_
  refine y_iconst (pc := 216) o dX12_init_216 ic_4 ?_
  refine y_newI (pc := 217) (N' := 4) (p := 20) (cs' := mC M a (fun _ => 0) 32 20) o ar_int (by decide) rfl (by decide) ⟨Nat.le_of_ble_eq_true rfl, Nat.le_of_ble_eq_true rfl⟩ dX12_init_217 (mC_len (by decide)) (mC_new rfl) ?_
  refine y_putFE (pc := 219) (p := 0) (j := 32) (fs := mF a 32) (cs' := mC M a (fun _ => 0) 33 20) o hin clX12 (by decide) ylX12_108 rfl rfl rfl (by rw [mF_len]; decide) rfl rfl dX12_init_219 (mC_put (by decide) rfl) ?_
  refine y_aload_n (pc := 222) o dX12_init_222 rfl rfl ?_
  refine y_sipush (pc := 223) (v := 3200) o dX12_init_223 (by decide +kernel) ?_
  refine y_newI (pc := 226) (N' := 3200) (p := 21) (cs' := mC M a (fun _ => 0) 33 21) o ar_int (by decide) rfl (by decide) ⟨Nat.le_of_ble_eq_true rfl, Nat.le_of_ble_eq_true rfl⟩ dX12_init_226 (mC_len (by decide)) (mC_new rfl) ?_
  refine y_putFE (pc := 228) (p := 0) (j := 33) (fs := mF a 33) (cs' := mC M a (fun _ => 0) 34 21) o hin clX12 (by decide) ylX12_111 rfl rfl rfl (by rw [mF_len]; decide) rfl rfl dX12_init_228 (mC_put (by decide) rfl) ?_
  refine y_aload_n (pc := 231) o dX12_init_231 rfl rfl ?_
  refine y_sipush (pc := 232) (v := 3200) o dX12_init_232 (by decide +kernel) ?_
  refine y_newI (pc := 235) (N' := 3200) (p := 22) (cs' := mC M a (fun _ => 0) 34 22) o ar_int (by decide) rfl (by decide) ⟨Nat.le_of_ble_eq_true rfl, Nat.le_of_ble_eq_true rfl⟩ dX12_init_235 (mC_len (by decide)) (mC_new rfl) ?_
  refine y_putFE (pc := 237) (p := 0) (j := 34) (fs := mF a 34) (cs' := mC M a (fun _ => 0) 35 22) o hin clX12 (by decide) ylX12_114 rfl rfl rfl (by rw [mF_len]; decide) rfl rfl dX12_init_237 (mC_put (by decide) rfl) ?_
  refine y_aload_n (pc := 240) o dX12_init_240 rfl rfl ?_
  refine y_bipush (pc := 241) (v := 12) o dX12_init_241 (by decide +kernel) ?_
  refine y_newJ (pc := 243) (N' := 12) (p := 23) (cs' := mC M a (fun _ => 0) 35 23) o ar_long (by decide) rfl (by decide) ⟨Nat.le_of_ble_eq_true rfl, Nat.le_of_ble_eq_true rfl⟩ dX12_init_243 (mC_len (by decide)) (mC_new rfl) ?_
  refine y_putFE (pc := 245) (p := 0) (j := 35) (fs := mF a 35) (cs' := mC M a (fun _ => 0) 36 23) o hin clX12 (by decide) ylX12_117 rfl rfl rfl (by rw [mF_len]; decide) rfl rfl dX12_init_245 (mC_put (by decide) rfl) ?_
  refine y_aload_n (pc := 248) o dX12_init_248 rfl rfl ?_
  refine y_bipush (pc := 249) (v := 16) o dX12_init_249 (by decide +kernel) ?_
  refine y_newJ (pc := 251) (N' := 16) (p := 24) (cs' := mC M a (fun _ => 0) 36 24) o ar_long (by decide) rfl (by decide) ⟨Nat.le_of_ble_eq_true rfl, Nat.le_of_ble_eq_true rfl⟩ dX12_init_251 (mC_len (by decide)) (mC_new rfl) ?_
  refine y_putFE (pc := 253) (p := 0) (j := 36) (fs := mF a 36) (cs' := mC M a (fun _ => 0) 37 24) o hin clX12 (by decide) ylX12_121 rfl rfl rfl (by rw [mF_len]; decide) rfl rfl dX12_init_253 (mC_put (by decide) rfl) ?_
  refine y_aload_n (pc := 256) o dX12_init_256 rfl rfl ?_
  refine y_bipush (pc := 257) (v := 12) o dX12_init_257 (by decide +kernel) ?_
  refine y_newJ (pc := 259) (N' := 12) (p := 25) (cs' := mC M a (fun _ => 0) 37 25) o ar_long (by decide) rfl (by decide) ⟨Nat.le_of_ble_eq_true rfl, Nat.le_of_ble_eq_true rfl⟩ dX12_init_259 (mC_len (by decide)) (mC_new rfl) ?_
  refine y_putFE (pc := 261) (p := 0) (j := 37) (fs := mF a 37) (cs' := mC M a (fun _ => 0) 38 25) o hin clX12 (by decide) ylX12_124 rfl rfl rfl (by rw [mF_len]; decide) rfl rfl dX12_init_261 (mC_put (by decide) rfl) ?_
  refine y_aload_n (pc := 264) o dX12_init_264 rfl rfl ?_
  refine y_bipush (pc := 265) (v := 12) o dX12_init_265 (by decide +kernel) ?_
  refine y_newJ (pc := 267) (N' := 12) (p := 26) (cs' := mC M a (fun _ => 0) 38 26) o ar_long (by decide) rfl (by decide) ⟨Nat.le_of_ble_eq_true rfl, Nat.le_of_ble_eq_true rfl⟩ dX12_init_267 (mC_len (by decide)) (mC_new rfl) ?_
  refine y_putFE (pc := 269) (p := 0) (j := 38) (fs := mF a 38) (cs' := mC M a (fun _ => 0) 39 26) o hin clX12 (by decide) ylX12_127 rfl rfl rfl (by rw [mF_len]; decide) rfl rfl dX12_init_269 (mC_put (by decide) rfl) ?_
  refine y_aload_n (pc := 272) o dX12_init_272 rfl rfl ?_
  refine y_iconst (pc := 273) o dX12_init_273 ic_0 ?_
  refine y_putNE (pc := 274) (p := 0) (j := 39) (fs := mF a 39) (cs' := mC M a (fun _ => 0) 40 26) o clX12 (by decide) ylX12_130 rfl rfl (by rw [mF_len]; decide) rfl rfl dX12_init_274 (mC_put (by decide) rfl) ?_
  refine y_aload_n (pc := 277) o dX12_init_277 rfl rfl ?_
  refine y_iconst (pc := 278) o dX12_init_278 ic_1 ?_
  refine y_putNE (pc := 279) (p := 0) (j := 40) (fs := mF a 40) (cs' := mC M a (fun _ => 0) 41 26) o clX12 (by decide) ylX12_133 rfl rfl (by rw [mF_len]; decide) rfl rfl dX12_init_279 (mC_put (by decide) rfl) ?_
  refine y_aload_n (pc := 282) o dX12_init_282 rfl rfl ?_
  refine y_iconst (pc := 283) o dX12_init_283 ic_0 ?_
  refine y_putNE (pc := 284) (p := 0) (j := 41) (fs := mF a 41) (cs' := mC M a (fun _ => 0) 42 26) o clX12 (by decide) ylX12_136 rfl rfl (by rw [mF_len]; decide) rfl rfl dX12_init_284 (mC_put (by decide) rfl) ?_
  refine y_aload_n (pc := 287) o dX12_init_287 rfl rfl ?_
  refine y_bipush (pc := 288) (v := 20) o dX12_init_288 (by decide +kernel) ?_
  refine y_newI (pc := 290) (N' := 20) (p := 27) (cs' := mC M a (fun _ => 0) 42 27) o ar_int (by decide) rfl (by decide) ⟨Nat.le_of_ble_eq_true rfl, Nat.le_of_ble_eq_true rfl⟩ dX12_init_290 (mC_len (by decide)) (mC_new rfl) ?_
  refine y_putFE (pc := 292) (p := 0) (j := 42) (fs := mF a 42) (cs' := mC M a (fun _ => 0) 43 27) o hin clX12 (by decide) ylX12_140 rfl rfl rfl (by rw [mF_len]; decide) rfl rfl dX12_init_292 (mC_put (by decide) rfl) ?_
  refine y_aload_n (pc := 295) o dX12_init_295 rfl rfl ?_
  refine y_bipush (pc := 296) (v := 20) o dX12_init_296 (by decide +kernel) ?_
  refine y_newI (pc := 298) (N' := 20) (p := 28) (cs' := mC M a (fun _ => 0) 43 28) o ar_int (by decide) rfl (by decide) ⟨Nat.le_of_ble_eq_true rfl, Nat.le_of_ble_eq_true rfl⟩ dX12_init_298 (mC_len (by decide)) (mC_new rfl) ?_
  refine y_putFE (pc := 300) (p := 0) (j := 43) (fs := mF a 43) (cs' := mC M a (fun _ => 0) 44 28) o hin clX12 (by decide) ylX12_143 rfl rfl rfl (by rw [mF_len]; decide) rfl rfl dX12_init_300 (mC_put (by decide) rfl) ?_
  refine y_aload_n (pc := 303) o dX12_init_303 rfl rfl ?_
  refine y_bipush (pc := 304) (v := 20) o dX12_init_304 (by decide +kernel) ?_
  refine y_newZ (pc := 306) (N' := 20) (p := 29) (cs' := mC M a (fun _ => 0) 44 29) o ar_boolean (by decide) rfl (by decide) ⟨Nat.le_of_ble_eq_true rfl, Nat.le_of_ble_eq_true rfl⟩ dX12_init_306 (mC_len (by decide)) (mC_new rfl) ?_
  refine y_putFE (pc := 308) (p := 0) (j := 44) (fs := mF a 44) (cs' := mC M a (fun _ => 0) 45 29) o hin clX12 (by decide) ylX12_146 rfl rfl rfl (by rw [mF_len]; decide) rfl rfl dX12_init_308 (mC_put (by decide) rfl) ?_
  refine y_aload_n (pc := 311) o dX12_init_311 rfl rfl ?_
  refine y_bipush (pc := 312) (v := 20) o dX12_init_312 (by decide +kernel) ?_
  refine y_newI (pc := 314) (N' := 20) (p := 30) (cs' := mC M a (fun _ => 0) 45 30) o ar_int (by decide) rfl (by decide) ⟨Nat.le_of_ble_eq_true rfl, Nat.le_of_ble_eq_true rfl⟩ dX12_init_314 (mC_len (by decide)) (mC_new rfl) ?_
  refine y_putFE (pc := 316) (p := 0) (j := 45) (fs := mF a 45) (cs' := mC M a (fun _ => 0) 46 30) o hin clX12 (by decide) ylX12_150 rfl rfl rfl (by rw [mF_len]; decide) rfl rfl dX12_init_316 (mC_put (by decide) rfl) ?_
  refine y_aload_n (pc := 319) o dX12_init_319 rfl rfl ?_
  refine y_bipush (pc := 320) (v := 20) o dX12_init_320 (by decide +kernel) ?_
  refine y_newI (pc := 322) (N' := 20) (p := 31) (cs' := mC M a (fun _ => 0) 46 31) o ar_int (by decide) rfl (by decide) ⟨Nat.le_of_ble_eq_true rfl, Nat.le_of_ble_eq_true rfl⟩ dX12_init_322 (mC_len (by decide)) (mC_new rfl) ?_
  refine y_putFE (pc := 324) (p := 0) (j := 46) (fs := mF a 46) (cs' := mC M a (fun _ => 0) 47 31) o hin clX12 (by decide) ylX12_153 rfl rfl rfl (by rw [mF_len]; decide) rfl rfl dX12_init_324 (mC_put (by decide) rfl) ?_
  refine y_aload_n (pc := 327) o dX12_init_327 rfl rfl ?_
  refine y_iconst (pc := 328) o dX12_init_328 ic_0 ?_
  refine y_putNE (pc := 329) (p := 0) (j := 47) (fs := mF a 47) (cs' := mC M a (fun _ => 0) 48 31) o clX12 (by decide) ylX12_156 rfl rfl (by rw [mF_len]; decide) rfl rfl dX12_init_329 (mC_put (by decide) rfl) ?_
  refine y_aload_n (pc := 332) o dX12_init_332 rfl rfl ?_
  refine y_iconst (pc := 333) o dX12_init_333 ic_0 ?_
  refine y_putNE (pc := 334) (p := 0) (j := 48) (fs := mF a 48) (cs' := mC M a (fun _ => 0) 49 31) o clX12 (by decide) ylX12_159 rfl rfl (by rw [mF_len]; decide) rfl rfl dX12_init_334 (mC_put (by decide) rfl) ?_
  refine y_aload_n (pc := 337) o dX12_init_337 rfl rfl ?_
  refine y_sipush (pc := 338) (v := 500) o dX12_init_338 (by decide +kernel) ?_
  refine y_newI (pc := 341) (N' := 500) (p := 32) (cs' := mC M a (fun _ => 0) 49 32) o ar_int (by decide) rfl (by decide) ⟨Nat.le_of_ble_eq_true rfl, Nat.le_of_ble_eq_true rfl⟩ dX12_init_341 (mC_len (by decide)) (mC_new rfl) ?_
  refine y_putFE (pc := 343) (p := 0) (j := 49) (fs := mF a 49) (cs' := mC M a (fun _ => 0) 50 32) o hin clX12 (by decide) ylX12_162 rfl rfl rfl (by rw [mF_len]; decide) rfl rfl dX12_init_343 (mC_put (by decide) rfl) ?_
  refine y_aload_n (pc := 346) o dX12_init_346 rfl rfl ?_
  refine y_iconst (pc := 347) o dX12_init_347 ic_0 ?_
  refine y_putNE (pc := 348) (p := 0) (j := 50) (fs := mF a 50) (cs' := mC M a (fun _ => 0) 51 32) o clX12 (by decide) ylX12_165 rfl rfl (by rw [mF_len]; decide) rfl rfl dX12_init_348 (mC_put (by decide) rfl) ?_
  refine y_aload_n (pc := 351) o dX12_init_351 rfl rfl ?_
  refine y_iconst (pc := 352) o dX12_init_352 ic_0 ?_
  refine y_putNE (pc := 353) (p := 0) (j := 51) (fs := mF a 51) (cs' := mC M a (fun _ => 0) 52 32) o clX12 (by decide) ylX12_168 rfl rfl (by rw [mF_len]; decide) rfl rfl dX12_init_353 (mC_put (by decide) rfl) ?_
  refine y_aload_n (pc := 356) o dX12_init_356 rfl rfl ?_
  refine y_iconst (pc := 357) o dX12_init_357 ic_0 ?_
  refine y_putNE (pc := 358) (p := 0) (j := 52) (fs := mF a 52) (cs' := mC M a (fun _ => 0) 53 32) o clX12 (by decide) ylX12_171 rfl rfl (by rw [mF_len]; decide) rfl rfl dX12_init_358 (mC_put (by decide) rfl) ?_
  refine y_aload_n (pc := 361) o dX12_init_361 rfl rfl ?_
  refine y_bipush (pc := 362) (v := 6) o dX12_init_362 (by decide +kernel) ?_
  refine y_newI (pc := 364) (N' := 6) (p := 33) (cs' := mC M a (fun _ => 0) 53 33) o ar_int (by decide) rfl (by decide) ⟨Nat.le_of_ble_eq_true rfl, Nat.le_of_ble_eq_true rfl⟩ dX12_init_364 (mC_len (by decide)) (mC_new rfl) ?_
  refine y_putFE (pc := 366) (p := 0) (j := 53) (fs := mF a 53) (cs' := mC M a (fun _ => 0) 54 33) o hin clX12 (by decide) ylX12_174 rfl rfl rfl (by rw [mF_len]; decide) rfl rfl dX12_init_366 (mC_put (by decide) rfl) ?_
  refine y_aload_n (pc := 369) o dX12_init_369 rfl rfl ?_
  refine y_bipush (pc := 370) (v := 22) o dX12_init_370 (by decide +kernel) ?_
  refine y_newI (pc := 372) (N' := 22) (p := 34) (cs' := mC M a (fun _ => 0) 54 34) o ar_int (by decide) rfl (by decide) ⟨Nat.le_of_ble_eq_true rfl, Nat.le_of_ble_eq_true rfl⟩ dX12_init_372 (mC_len (by decide)) (mC_new rfl) ?_
  refine y_putFE (pc := 374) (p := 0) (j := 54) (fs := mF a 54) (cs' := mC M a (fun _ => 0) 55 34) o hin clX12 (by decide) ylX12_177 rfl rfl rfl (by rw [mF_len]; decide) rfl rfl dX12_init_374 (mC_put (by decide) rfl) ?_
  refine y_aload_n (pc := 377) o dX12_init_377 rfl rfl ?_
  refine y_bipush (pc := 378) (v := 22) o dX12_init_378 (by decide +kernel) ?_
  refine y_newI (pc := 380) (N' := 22) (p := 35) (cs' := mC M a (fun _ => 0) 55 35) o ar_int (by decide) rfl (by decide) ⟨Nat.le_of_ble_eq_true rfl, Nat.le_of_ble_eq_true rfl⟩ dX12_init_380 (mC_len (by decide)) (mC_new rfl) ?_
  refine y_putFE (pc := 382) (p := 0) (j := 55) (fs := mF a 55) (cs' := mC M a (fun _ => 0) 56 35) o hin clX12 (by decide) ylX12_180 rfl rfl rfl (by rw [mF_len]; decide) rfl rfl dX12_init_382 (mC_put (by decide) rfl) ?_
  refine y_aload_n (pc := 385) o dX12_init_385 rfl rfl ?_
  refine y_sipush (pc := 386) (v := 176) o dX12_init_386 (by decide +kernel) ?_
  refine y_newI (pc := 389) (N' := 176) (p := 36) (cs' := mC M a (fun _ => 0) 56 36) o ar_int (by decide) rfl (by decide) ⟨Nat.le_of_ble_eq_true rfl, Nat.le_of_ble_eq_true rfl⟩ dX12_init_389 (mC_len (by decide)) (mC_new rfl) ?_
  refine y_putFE (pc := 391) (p := 0) (j := 56) (fs := mF a 56) (cs' := mC M a (fun _ => 0) 57 36) o hin clX12 (by decide) ylX12_183 rfl rfl rfl (by rw [mF_len]; decide) rfl rfl dX12_init_391 (mC_put (by decide) rfl) ?_
  refine y_aload_n (pc := 394) o dX12_init_394 rfl rfl ?_
  refine y_bipush (pc := 395) (v := 22) o dX12_init_395 (by decide +kernel) ?_
  refine y_newI (pc := 397) (N' := 22) (p := 37) (cs' := mC M a (fun _ => 0) 57 37) o ar_int (by decide) rfl (by decide) ⟨Nat.le_of_ble_eq_true rfl, Nat.le_of_ble_eq_true rfl⟩ dX12_init_397 (mC_len (by decide)) (mC_new rfl) ?_
  refine y_putFE (pc := 399) (p := 0) (j := 57) (fs := mF a 57) (cs' := mC M a (fun _ => 0) 58 37) o hin clX12 (by decide) ylX12_186 rfl rfl rfl (by rw [mF_len]; decide) rfl rfl dX12_init_399 (mC_put (by decide) rfl) ?_
  refine y_aload_n (pc := 402) o dX12_init_402 rfl rfl ?_
  refine y_bipush (pc := 403) (v := 22) o dX12_init_403 (by decide +kernel) ?_
  refine y_newI (pc := 405) (N' := 22) (p := 38) (cs' := mC M a (fun _ => 0) 58 38) o ar_int (by decide) rfl (by decide) ⟨Nat.le_of_ble_eq_true rfl, Nat.le_of_ble_eq_true rfl⟩ dX12_init_405 (mC_len (by decide)) (mC_new rfl) ?_
  refine y_putFE (pc := 407) (p := 0) (j := 58) (fs := mF a 58) (cs' := mC M a (fun _ => 0) 59 38) o hin clX12 (by decide) ylX12_189 rfl rfl rfl (by rw [mF_len]; decide) rfl rfl dX12_init_407 (mC_put (by decide) rfl) ?_
  refine y_aload_n (pc := 410) o dX12_init_410 rfl rfl ?_
  refine y_sipush (pc := 411) (v := 1056) o dX12_init_411 (by decide +kernel) ?_
  refine y_newI (pc := 414) (N' := 1056) (p := 39) (cs' := mC M a (fun _ => 0) 59 39) o ar_int (by decide) rfl (by decide) ⟨Nat.le_of_ble_eq_true rfl, Nat.le_of_ble_eq_true rfl⟩ dX12_init_414 (mC_len (by decide)) (mC_new rfl) ?_
  refine y_putFE (pc := 416) (p := 0) (j := 59) (fs := mF a 59) (cs' := mC M a (fun _ => 0) 60 39) o hin clX12 (by decide) ylX12_192 rfl rfl rfl (by rw [mF_len]; decide) rfl rfl dX12_init_416 (mC_put (by decide) rfl) ?_
  refine y_aload_n (pc := 419) o dX12_init_419 rfl rfl ?_
  refine y_sipush (pc := 420) (v := 132) o dX12_init_420 (by decide +kernel) ?_
  refine y_newI (pc := 423) (N' := 132) (p := 40) (cs' := mC M a (fun _ => 0) 60 40) o ar_int (by decide) rfl (by decide) ⟨Nat.le_of_ble_eq_true rfl, Nat.le_of_ble_eq_true rfl⟩ dX12_init_423 (mC_len (by decide)) (mC_new rfl) ?_
  refine y_putFE (pc := 425) (p := 0) (j := 60) (fs := mF a 60) (cs' := mC M a (fun _ => 0) 61 40) o hin clX12 (by decide) ylX12_195 rfl rfl rfl (by rw [mF_len]; decide) rfl rfl dX12_init_425 (mC_put (by decide) rfl) ?_
  refine y_aload_n (pc := 428) o dX12_init_428 rfl rfl ?_
  refine y_sipush (pc := 429) (v := 132) o dX12_init_429 (by decide +kernel) ?_
  refine y_newI (pc := 432) (N' := 132) (p := 41) (cs' := mC M a (fun _ => 0) 61 41) o ar_int (by decide) rfl (by decide) ⟨Nat.le_of_ble_eq_true rfl, Nat.le_of_ble_eq_true rfl⟩ dX12_init_432 (mC_len (by decide)) (mC_new rfl) ?_
  refine y_putFE (pc := 434) (p := 0) (j := 61) (fs := mF a 61) (cs' := mC M a (fun _ => 0) 62 41) o hin clX12 (by decide) ylX12_198 rfl rfl rfl (by rw [mF_len]; decide) rfl rfl dX12_init_434 (mC_put (by decide) rfl) ?_
  refine y_aload_n (pc := 437) o dX12_init_437 rfl rfl ?_
  refine y_bipush (pc := 438) (v := 22) o dX12_init_438 (by decide +kernel) ?_
  refine y_newI (pc := 440) (N' := 22) (p := 42) (cs' := mC M a (fun _ => 0) 62 42) o ar_int (by decide) rfl (by decide) ⟨Nat.le_of_ble_eq_true rfl, Nat.le_of_ble_eq_true rfl⟩ dX12_init_440 (mC_len (by decide)) (mC_new rfl) ?_
  refine y_putFE (pc := 442) (p := 0) (j := 62) (fs := mF a 62) (cs' := mC M a (fun _ => 0) 63 42) o hin clX12 (by decide) ylX12_201 rfl rfl rfl (by rw [mF_len]; decide) rfl rfl dX12_init_442 (mC_put (by decide) rfl) ?_
  refine y_aload_n (pc := 445) o dX12_init_445 rfl rfl ?_
  refine y_sipush (pc := 446) (v := 5280) o dX12_init_446 (by decide +kernel) ?_
  refine y_newI (pc := 449) (N' := 5280) (p := 43) (cs' := mC M a (fun _ => 0) 63 43) o ar_int (by decide) rfl (by decide) ⟨Nat.le_of_ble_eq_true rfl, Nat.le_of_ble_eq_true rfl⟩ dX12_init_449 (mC_len (by decide)) (mC_new rfl) ?_
  refine y_putFE (pc := 451) (p := 0) (j := 63) (fs := mF a 63) (cs' := mC M a (fun _ => 0) 64 43) o hin clX12 (by decide) ylX12_204 rfl rfl rfl (by rw [mF_len]; decide) rfl rfl dX12_init_451 (mC_put (by decide) rfl) ?_
  refine y_aload_n (pc := 454) o dX12_init_454 rfl rfl ?_
  refine y_iconst (pc := 455) o dX12_init_455 ic_0 ?_
  refine y_putNE (pc := 456) (p := 0) (j := 64) (fs := mF a 64) (cs' := mC M a (fun _ => 0) 65 43) o clX12 (by decide) ylX12_207 rfl rfl (by rw [mF_len]; decide) rfl rfl dX12_init_456 (mC_put (by decide) rfl) ?_
  refine y_aload_n (pc := 459) o dX12_init_459 rfl rfl ?_
  refine y_iconst (pc := 460) o dX12_init_460 ic_0 ?_
  refine y_putNE (pc := 461) (p := 0) (j := 65) (fs := mF a 65) (cs' := mC M a (fun _ => 0) 66 43) o clX12 (by decide) ylX12_210 rfl rfl (by rw [mF_len]; decide) rfl rfl dX12_init_461 (mC_put (by decide) rfl) ?_
  refine y_aload_n (pc := 464) o dX12_init_464 rfl rfl ?_
  refine y_lconst (pc := 465) (v := 1) o dX12_init_465 rfl ?_
  refine y_putNE (pc := 466) (p := 0) (j := 66) (fs := mF a 66) (cs' := mC M a (fun _ => 0) 67 43) o clX12 (by decide) ylX12_213 rfl rfl (by rw [mF_len]; decide) rfl rfl dX12_init_466 (mC_put (by decide) rfl) ?_
  refine y_aload_n (pc := 469) o dX12_init_469 rfl rfl ?_
  refine y_sipush (pc := 470) (v := 500) o dX12_init_470 (by decide +kernel) ?_
  refine y_newJ (pc := 473) (N' := 500) (p := 44) (cs' := mC M a (fun _ => 0) 67 44) o ar_long (by decide) rfl (by decide) ⟨Nat.le_of_ble_eq_true rfl, Nat.le_of_ble_eq_true rfl⟩ dX12_init_473 (mC_len (by decide)) (mC_new rfl) ?_
  refine y_putFE (pc := 475) (p := 0) (j := 67) (fs := mF a 67) (cs' := mC M a (fun _ => 0) 68 44) o hin clX12 (by decide) ylX12_216 rfl rfl rfl (by rw [mF_len]; decide) rfl rfl dX12_init_475 (mC_put (by decide) rfl) ?_
  refine y_aload_n (pc := 478) o dX12_init_478 rfl rfl ?_
  refine y_bipush (pc := 479) (v := 12) o dX12_init_479 (by decide +kernel) ?_
  refine y_newI (pc := 481) (N' := 12) (p := 45) (cs' := mC M a (fun _ => 0) 68 45) o ar_int (by decide) rfl (by decide) ⟨Nat.le_of_ble_eq_true rfl, Nat.le_of_ble_eq_true rfl⟩ dX12_init_481 (mC_len (by decide)) (mC_new rfl) ?_
  refine y_putFE (pc := 483) (p := 0) (j := 68) (fs := mF a 68) (cs' := mC M a (fun _ => 0) 69 45) o hin clX12 (by decide) ylX12_219 rfl rfl rfl (by rw [mF_len]; decide) rfl rfl dX12_init_483 (mC_put (by decide) rfl) ?_
  refine y_aload_n (pc := 486) o dX12_init_486 rfl rfl ?_
  refine y_iconst (pc := 487) o dX12_init_487 ic_m1 ?_
  refine y_putNE (pc := 488) (p := 0) (j := 69) (fs := mF a 69) (cs' := mC M a (fun _ => 0) 70 45) o clX12 (by decide) ylX12_222 rfl rfl (by rw [mF_len]; decide) rfl rfl dX12_init_488 (mC_put (by decide) rfl) ?_
  refine y_aload_n (pc := 491) o dX12_init_491 rfl rfl ?_
  refine y_iconst (pc := 492) o dX12_init_492 ic_0 ?_
  refine y_putNE (pc := 493) (p := 0) (j := 70) (fs := mF a 70) (cs' := mC M a (fun _ => 0) 71 45) o clX12 (by decide) ylX12_225 rfl rfl (by rw [mF_len]; decide) rfl rfl dX12_init_493 (mC_put (by decide) rfl) ?_
  refine y_aload_n (pc := 496) o dX12_init_496 rfl rfl ?_
  refine y_iconst (pc := 497) o dX12_init_497 ic_0 ?_
  refine y_putNE (pc := 498) (p := 0) (j := 71) (fs := mF a 71) (cs' := mC M a (fun _ => 0) 72 45) o clX12 (by decide) ylX12_228 rfl rfl (by rw [mF_len]; decide) rfl rfl dX12_init_498 (mC_put (by decide) rfl) ?_
  refine y_aload_n (pc := 501) o dX12_init_501 rfl rfl ?_
  refine y_bipush (pc := 502) (v := 6) o dX12_init_502 (by decide +kernel) ?_
  refine y_newI (pc := 504) (N' := 6) (p := 46) (cs' := mC M a (fun _ => 0) 72 46) o ar_int (by decide) rfl (by decide) ⟨Nat.le_of_ble_eq_true rfl, Nat.le_of_ble_eq_true rfl⟩ dX12_init_504 (mC_len (by decide)) (mC_new rfl) ?_
  refine y_putFE (pc := 506) (p := 0) (j := 72) (fs := mF a 72) (cs' := mC M a (fun _ => 0) 73 46) o hin clX12 (by decide) ylX12_231 rfl rfl rfl (by rw [mF_len]; decide) rfl rfl dX12_init_506 (mC_put (by decide) rfl) ?_
  refine y_aload_n (pc := 509) o dX12_init_509 rfl rfl ?_
  refine y_iconst (pc := 510) o dX12_init_510 ic_0 ?_
  refine y_putNE (pc := 511) (p := 0) (j := 73) (fs := mF a 73) (cs' := mC M a (fun _ => 0) 74 46) o clX12 (by decide) ylX12_234 rfl rfl (by rw [mF_len]; decide) rfl rfl dX12_init_511 (mC_put (by decide) rfl) ?_
  refine y_aload_n (pc := 514) o dX12_init_514 rfl rfl ?_
  refine y_iconst (pc := 515) o dX12_init_515 ic_0 ?_
  refine y_putNE (pc := 516) (p := 0) (j := 74) (fs := mF a 74) (cs' := mC M a (fun _ => 0) 75 46) o clX12 (by decide) ylX12_237 rfl rfl (by rw [mF_len]; decide) rfl rfl dX12_init_516 (mC_put (by decide) rfl) ?_
  refine y_aload_n (pc := 519) o dX12_init_519 rfl rfl ?_
  refine y_iconst (pc := 520) o dX12_init_520 ic_0 ?_
  refine y_putNE (pc := 521) (p := 0) (j := 75) (fs := mF a 75) (cs' := mC M a (fun _ => 0) 76 46) o clX12 (by decide) ylX12_240 rfl rfl (by rw [mF_len]; decide) rfl rfl dX12_init_521 (mC_put (by decide) rfl) ?_
  refine y_aload_n (pc := 524) o dX12_init_524 rfl rfl ?_
  refine y_bipush (pc := 525) (v := 6) o dX12_init_525 (by decide +kernel) ?_
  refine y_newI (pc := 527) (N' := 6) (p := 47) (cs' := mC M a (fun _ => 0) 76 47) o ar_int (by decide) rfl (by decide) ⟨Nat.le_of_ble_eq_true rfl, Nat.le_of_ble_eq_true rfl⟩ dX12_init_527 (mC_len (by decide)) (mC_new rfl) ?_
  refine y_putFE (pc := 529) (p := 0) (j := 76) (fs := mF a 76) (cs' := mC M a (fun _ => 0) 77 47) o hin clX12 (by decide) ylX12_243 rfl rfl rfl (by rw [mF_len]; decide) rfl rfl dX12_init_529 (mC_put (by decide) rfl) ?_
  refine y_aload_n (pc := 532) o dX12_init_532 rfl rfl ?_
  refine y_bipush (pc := 533) (v := 6) o dX12_init_533 (by decide +kernel) ?_
  refine y_newI (pc := 535) (N' := 6) (p := 48) (cs' := mC M a (fun _ => 0) 77 48) o ar_int (by decide) rfl (by decide) ⟨Nat.le_of_ble_eq_true rfl, Nat.le_of_ble_eq_true rfl⟩ dX12_init_535 (mC_len (by decide)) (mC_new rfl) ?_
  refine y_putFE (pc := 537) (p := 0) (j := 77) (fs := mF a 77) (cs' := mC M a (fun _ => 0) 78 48) o hin clX12 (by decide) ylX12_246 rfl rfl rfl (by rw [mF_len]; decide) rfl rfl dX12_init_537 (mC_put (by decide) rfl) ?_
  refine y_aload_n (pc := 540) o dX12_init_540 rfl rfl ?_
  refine y_bipush (pc := 541) (v := 6) o dX12_init_541 (by decide +kernel) ?_
  refine y_newI (pc := 543) (N' := 6) (p := 49) (cs' := mC M a (fun _ => 0) 78 49) o ar_int (by decide) rfl (by decide) ⟨Nat.le_of_ble_eq_true rfl, Nat.le_of_ble_eq_true rfl⟩ dX12_init_543 (mC_len (by decide)) (mC_new rfl) ?_
  refine y_putFE (pc := 545) (p := 0) (j := 78) (fs := mF a 78) (cs' := mC M a (fun _ => 0) 79 49) o hin clX12 (by decide) ylX12_249 rfl rfl rfl (by rw [mF_len]; decide) rfl rfl dX12_init_545 (mC_put (by decide) rfl) ?_
  refine y_aload_n (pc := 548) o dX12_init_548 rfl rfl ?_
  refine y_bipush (pc := 549) (v := 6) o dX12_init_549 (by decide +kernel) ?_
  refine y_newI (pc := 551) (N' := 6) (p := 50) (cs' := mC M a (fun _ => 0) 79 50) o ar_int (by decide) rfl (by decide) ⟨Nat.le_of_ble_eq_true rfl, Nat.le_of_ble_eq_true rfl⟩ dX12_init_551 (mC_len (by decide)) (mC_new rfl) ?_
  refine y_putFE (pc := 553) (p := 0) (j := 79) (fs := mF a 79) (cs' := mC M a (fun _ => 0) 80 50) o hin clX12 (by decide) ylX12_252 rfl rfl rfl (by rw [mF_len]; decide) rfl rfl dX12_init_553 (mC_put (by decide) rfl) ?_
  refine y_aload_n (pc := 556) o dX12_init_556 rfl rfl ?_
  refine y_bipush (pc := 557) (v := 6) o dX12_init_557 (by decide +kernel) ?_
  refine y_newI (pc := 559) (N' := 6) (p := 51) (cs' := mC M a (fun _ => 0) 80 51) o ar_int (by decide) rfl (by decide) ⟨Nat.le_of_ble_eq_true rfl, Nat.le_of_ble_eq_true rfl⟩ dX12_init_559 (mC_len (by decide)) (mC_new rfl) ?_
  refine y_putFE (pc := 561) (p := 0) (j := 80) (fs := mF a 80) (cs' := mC M a (fun _ => 0) 81 51) o hin clX12 (by decide) ylX12_255 rfl rfl rfl (by rw [mF_len]; decide) rfl rfl dX12_init_561 (mC_put (by decide) rfl) ?_
  refine y_aload_n (pc := 564) o dX12_init_564 rfl rfl ?_
  refine y_bipush (pc := 565) (v := 6) o dX12_init_565 (by decide +kernel) ?_
  refine y_newI (pc := 567) (N' := 6) (p := 52) (cs' := mC M a (fun _ => 0) 81 52) o ar_int (by decide) rfl (by decide) ⟨Nat.le_of_ble_eq_true rfl, Nat.le_of_ble_eq_true rfl⟩ dX12_init_567 (mC_len (by decide)) (mC_new rfl) ?_
  refine y_putFE (pc := 569) (p := 0) (j := 81) (fs := mF a 81) (cs' := mC M a (fun _ => 0) 82 52) o hin clX12 (by decide) ylX12_258 rfl rfl rfl (by rw [mF_len]; decide) rfl rfl dX12_init_569 (mC_put (by decide) rfl) ?_
  refine y_aload_n (pc := 572) o dX12_init_572 rfl rfl ?_
  refine y_bipush (pc := 573) (v := 6) o dX12_init_573 (by decide +kernel) ?_
  refine y_newI (pc := 575) (N' := 6) (p := 53) (cs' := mC M a (fun _ => 0) 82 53) o ar_int (by decide) rfl (by decide) ⟨Nat.le_of_ble_eq_true rfl, Nat.le_of_ble_eq_true rfl⟩ dX12_init_575 (mC_len (by decide)) (mC_new rfl) ?_
  refine y_putFE (pc := 577) (p := 0) (j := 82) (fs := mF a 82) (cs' := mC M a (fun _ => 0) 83 53) o hin clX12 (by decide) ylX12_261 rfl rfl rfl (by rw [mF_len]; decide) rfl rfl dX12_init_577 (mC_put (by decide) rfl) ?_
  refine y_aload_n (pc := 580) o dX12_init_580 rfl rfl ?_
  refine y_iconst (pc := 581) o dX12_init_581 ic_0 ?_
  refine y_putNE (pc := 582) (p := 0) (j := 83) (fs := mF a 83) (cs' := mC M a (fun _ => 0) 84 53) o clX12 (by decide) ylX12_264 rfl rfl (by rw [mF_len]; decide) rfl rfl dX12_init_582 (mC_put (by decide) rfl) ?_
  refine y_aload_n (pc := 585) o dX12_init_585 rfl rfl ?_
  refine y_bipush (pc := 586) (v := 61) o dX12_init_586 (by decide +kernel) ?_
  refine y_newI (pc := 588) (N' := 61) (p := 54) (cs' := mC M a (fun _ => 0) 84 54) o ar_int (by decide) rfl (by decide) ⟨Nat.le_of_ble_eq_true rfl, Nat.le_of_ble_eq_true rfl⟩ dX12_init_588 (mC_len (by decide)) (mC_new rfl) ?_
  refine y_putFE (pc := 590) (p := 0) (j := 84) (fs := mF a 84) (cs' := mC M a (fun _ => 0) 85 54) o hin clX12 (by decide) ylX12_267 rfl rfl rfl (by rw [mF_len]; decide) rfl rfl dX12_init_590 (mC_put (by decide) rfl) ?_
  refine y_aload_n (pc := 593) o dX12_init_593 rfl rfl ?_
  refine y_bipush (pc := 594) (v := 110) o dX12_init_594 (by decide +kernel) ?_
  refine y_newI (pc := 596) (N' := 110) (p := 55) (cs' := mC M a (fun _ => 0) 85 55) o ar_int (by decide) rfl (by decide) ⟨Nat.le_of_ble_eq_true rfl, Nat.le_of_ble_eq_true rfl⟩ dX12_init_596 (mC_len (by decide)) (mC_new rfl) ?_
  refine y_putFE (pc := 598) (p := 0) (j := 85) (fs := mF a 85) (cs' := mC M a (fun _ => 0) 86 55) o hin clX12 (by decide) ylX12_270 rfl rfl rfl (by rw [mF_len]; decide) rfl rfl dX12_init_598 (mC_put (by decide) rfl) ?_
  refine y_aload_n (pc := 601) o dX12_init_601 rfl rfl ?_
  refine y_iconst (pc := 602) o dX12_init_602 ic_0 ?_
  refine y_putNE (pc := 603) (p := 0) (j := 86) (fs := mF a 86) (cs' := mC M a (fun _ => 0) 87 55) o clX12 (by decide) ylX12_273 rfl rfl (by rw [mF_len]; decide) rfl rfl dX12_init_603 (mC_put (by decide) rfl) ?_
  refine y_iconst (pc := 606) o dX12_init_606 ic_0 ?_
  refine y_istore_n (pc := 607) o dX12_init_607 rfl (by omega) ?_
  refine y_to (l := [(0, .ref a), (1, .int 0)]) ⟨rfl, rfl, trivial⟩ ?_
  refine y_iload_n (pc := 608) o dX12_init_608 rfl rfl ?_
  refine y_iconst (pc := 609) o dX12_init_609 ic_4 ?_
  refine y_icmp_ge (pc := 610) (tgt := 626) o dX12_init_610 (by decide) (fun c => absurd c (by decide)) (fun _ => ?_)
  refine y_aload_n (pc := 613) o dX12_init_613 rfl rfl ?_
  refine y_get (pc := 614) (p := 0) (j := 31) (fs := mF a 87) (v := .ref (a + 19)) o clX12 (by decide) ylX12_105 rfl rfl dX12_init_614 ?_
  refine y_iload_n (pc := 617) o dX12_init_617 rfl rfl ?_
  refine y_iconst (pc := 618) o dX12_init_618 ic_m1 ?_
  refine y_iastore (pc := 619) (p := 19) (n := 4) (f := fun _ => 0) (cs' := mC M a (upd (fun _ => 0) 0 (-1)) 87 55) o rfl (vp_in_nI (n := 0) (by decide) (by decide)) dX12_init_619 rfl ?_
  refine y_iinc (pc := 620) (v := 1) o dX12_init_620 rfl (by decide) (by omega) ?_
  refine y_goto (pc := 623) (tgt := 608) o dX12_init_623 (by decide) ?_
  refine y_to (l := [(0, .ref a), (1, .int 1)]) ⟨rfl, rfl, trivial⟩ ?_
  refine y_iload_n (pc := 608) o dX12_init_608 rfl rfl ?_
  refine y_iconst (pc := 609) o dX12_init_609 ic_4 ?_
  refine y_icmp_ge (pc := 610) (tgt := 626) o dX12_init_610 (by decide) (fun c => absurd c (by decide)) (fun _ => ?_)
  refine y_aload_n (pc := 613) o dX12_init_613 rfl rfl ?_
  refine y_get (pc := 614) (p := 0) (j := 31) (fs := mF a 87) (v := .ref (a + 19)) o clX12 (by decide) ylX12_105 rfl rfl dX12_init_614 ?_
  refine y_iload_n (pc := 617) o dX12_init_617 rfl rfl ?_
  refine y_iconst (pc := 618) o dX12_init_618 ic_m1 ?_
  refine y_iastore (pc := 619) (p := 19) (n := 4) (f := upd (fun _ => 0) 0 (-1)) (cs' := mC M a (upd (upd (fun _ => 0) 0 (-1)) 1 (-1)) 87 55) o rfl (vp_in_nI (n := 1) (by decide) (by decide)) dX12_init_619 rfl ?_
  refine y_iinc (pc := 620) (v := 2) o dX12_init_620 rfl (by decide) (by omega) ?_
  refine y_goto (pc := 623) (tgt := 608) o dX12_init_623 (by decide) ?_
  refine y_to (l := [(0, .ref a), (1, .int 2)]) ⟨rfl, rfl, trivial⟩ ?_
  refine y_iload_n (pc := 608) o dX12_init_608 rfl rfl ?_
  refine y_iconst (pc := 609) o dX12_init_609 ic_4 ?_
  refine y_icmp_ge (pc := 610) (tgt := 626) o dX12_init_610 (by decide) (fun c => absurd c (by decide)) (fun _ => ?_)
  refine y_aload_n (pc := 613) o dX12_init_613 rfl rfl ?_
  refine y_get (pc := 614) (p := 0) (j := 31) (fs := mF a 87) (v := .ref (a + 19)) o clX12 (by decide) ylX12_105 rfl rfl dX12_init_614 ?_
  refine y_iload_n (pc := 617) o dX12_init_617 rfl rfl ?_
  refine y_iconst (pc := 618) o dX12_init_618 ic_m1 ?_
  refine y_iastore (pc := 619) (p := 19) (n := 4) (f := upd (upd (fun _ => 0) 0 (-1)) 1 (-1)) (cs' := mC M a (upd (upd (upd (fun _ => 0) 0 (-1)) 1 (-1)) 2 (-1)) 87 55) o rfl (vp_in_nI (n := 2) (by decide) (by decide)) dX12_init_619 rfl ?_
  refine y_iinc (pc := 620) (v := 3) o dX12_init_620 rfl (by decide) (by omega) ?_
  refine y_goto (pc := 623) (tgt := 608) o dX12_init_623 (by decide) ?_
  refine y_to (l := [(0, .ref a), (1, .int 3)]) ⟨rfl, rfl, trivial⟩ ?_
  refine y_iload_n (pc := 608) o dX12_init_608 rfl rfl ?_
  refine y_iconst (pc := 609) o dX12_init_609 ic_4 ?_
  refine y_icmp_ge (pc := 610) (tgt := 626) o dX12_init_610 (by decide) (fun c => absurd c (by decide)) (fun _ => ?_)
  refine y_aload_n (pc := 613) o dX12_init_613 rfl rfl ?_
  refine y_get (pc := 614) (p := 0) (j := 31) (fs := mF a 87) (v := .ref (a + 19)) o clX12 (by decide) ylX12_105 rfl rfl dX12_init_614 ?_
  refine y_iload_n (pc := 617) o dX12_init_617 rfl rfl ?_
  refine y_iconst (pc := 618) o dX12_init_618 ic_m1 ?_
  refine y_iastore (pc := 619) (p := 19) (n := 4) (f := upd (upd (upd (fun _ => 0) 0 (-1)) 1 (-1)) 2 (-1)) (cs' := mC M a (upd (upd (upd (upd (fun _ => 0) 0 (-1)) 1 (-1)) 2 (-1)) 3 (-1)) 87 55) o rfl (vp_in_nI (n := 3) (by decide) (by decide)) dX12_init_619 rfl ?_
  refine y_iinc (pc := 620) (v := 4) o dX12_init_620 rfl (by decide) (by omega) ?_
  refine y_goto (pc := 623) (tgt := 608) o dX12_init_623 (by decide) ?_
  refine y_to (l := [(0, .ref a), (1, .int 4)]) ⟨rfl, rfl, trivial⟩ ?_
  refine y_iload_n (pc := 608) o dX12_init_608 rfl rfl ?_
  refine y_iconst (pc := 609) o dX12_init_609 ic_4 ?_
  refine y_icmp_ge (pc := 610) (tgt := 626) o dX12_init_610 (by decide) (fun _ => ?_) (fun c => absurd (by decide) c)
  refine y_cs (cs' := xcs tM M mS0) (mS0_cs hMa) ?_
  refine v_of ?_
  refine v_iconst (pc := 626) o dX12_init_626 ic_0 ?_
  refine v_istore_n (pc := 627) o dX12_init_627 rfl (by omega) ?_
  refine v_to (l := [(0, .ref a), (1, .int 0)]) ⟨rfl, rfl, trivial⟩ ?_
  refine v_iload_n (pc := 628) o dX12_init_628 rfl rfl ?_
  refine v_iconst (pc := 629) o dX12_init_629 ic_2 ?_
  refine v_icmp_ge (pc := 630) (tgt := 644) o dX12_init_630 (by decide) (fun c => absurd c (by decide)) (fun _ => ?_)
  refine v_aload_n (pc := 633) (x := M.2.1 0) o dX12_init_633 rfl (by rw [hMa 0]; rfl) ?_
  refine v_iload_n (pc := 634) o dX12_init_634 rfl rfl ?_
  refine v_callV (pc := 635) (T := tM) (N2 := 56) (S := mS0) (S' := mS1) (As := [.int 0]) (b := 0) (rest := []) o tM_ok rfl hMa (tX12_isDefault _ M _ 0 0 mS0 mS1 mS1_eq) eX12_isDefault ymX12_276 clX12 rfl ⟨Nat.le_of_ble_eq_true rfl, Nat.le_of_ble_eq_true rfl, Nat.le_of_ble_eq_true rfl, Nat.le_of_ble_eq_true rfl⟩ rfl rfl (Nat.le_of_ble_eq_true rfl) dX12_init_635 ?_
  refine v_iinc (pc := 638) (v := 1) o dX12_init_638 rfl (by decide) (by omega) ?_
  refine v_goto (pc := 641) (tgt := 628) o dX12_init_641 (by decide) ?_
  refine v_to (l := [(0, .ref a), (1, .int 1)]) ⟨rfl, rfl, trivial⟩ ?_
  refine v_iload_n (pc := 628) o dX12_init_628 rfl rfl ?_
  refine v_iconst (pc := 629) o dX12_init_629 ic_2 ?_
  refine v_icmp_ge (pc := 630) (tgt := 644) o dX12_init_630 (by decide) (fun c => absurd c (by decide)) (fun _ => ?_)
  refine v_aload_n (pc := 633) (x := M.2.1 0) o dX12_init_633 rfl (by rw [hMa 0]; rfl) ?_
  refine v_iload_n (pc := 634) o dX12_init_634 rfl rfl ?_
  refine v_callV (pc := 635) (T := tM) (N2 := 56) (S := mS1) (S' := mS2) (As := [.int 1]) (b := 0) (rest := []) o tM_ok rfl hMa (tX12_isDefault _ M _ 0 1 mS1 mS2 mS2_eq) eX12_isDefault ymX12_276 clX12 rfl ⟨Nat.le_of_ble_eq_true rfl, Nat.le_of_ble_eq_true rfl, Nat.le_of_ble_eq_true rfl, Nat.le_of_ble_eq_true rfl⟩ rfl rfl (Nat.le_of_ble_eq_true rfl) dX12_init_635 ?_
  refine v_iinc (pc := 638) (v := 2) o dX12_init_638 rfl (by decide) (by omega) ?_
  refine v_goto (pc := 641) (tgt := 628) o dX12_init_641 (by decide) ?_
  refine v_to (l := [(0, .ref a), (1, .int 2)]) ⟨rfl, rfl, trivial⟩ ?_
  refine v_iload_n (pc := 628) o dX12_init_628 rfl rfl ?_
  refine v_iconst (pc := 629) o dX12_init_629 ic_2 ?_
  refine v_icmp_ge (pc := 630) (tgt := 644) o dX12_init_630 (by decide) (fun _ => ?_) (fun c => absurd (by decide) c)
  exact v_vreturn (pc := 644) o hlk hQ hret dX12_init_644
