/-! the literals by their places -/
theorem sr_X7_64 : (RX7, 64, "rally") ∈ sRefs := List.mem_of_getElem? (i := 0) rfl
theorem sw_X7_64 : (RX7, 64, ([114, 97, 108, 108, 121] : List Int32)) ∈ sWords := List.mem_of_getElem? (i := 0) rfl
theorem sr_X7_70 : (RX7, 70, "won") ∈ sRefs := List.mem_of_getElem? (i := 1) rfl
theorem sw_X7_70 : (RX7, 70, ([119, 111, 110] : List Int32)) ∈ sWords := List.mem_of_getElem? (i := 1) rfl
theorem sr_X7_72 : (RX7, 72, "lost") ∈ sRefs := List.mem_of_getElem? (i := 2) rfl
theorem sw_X7_72 : (RX7, 72, ([108, 111, 115, 116] : List Int32)) ∈ sWords := List.mem_of_getElem? (i := 2) rfl
theorem sr_X7_74 : (RX7, 74, "dead") ∈ sRefs := List.mem_of_getElem? (i := 3) rfl
theorem sw_X7_74 : (RX7, 74, ([100, 101, 97, 100] : List Int32)) ∈ sWords := List.mem_of_getElem? (i := 3) rfl
theorem sr_X7_76 : (RX7, 76, "games") ∈ sRefs := List.mem_of_getElem? (i := 4) rfl
theorem sw_X7_76 : (RX7, 76, ([103, 97, 109, 101, 115] : List Int32)) ∈ sWords := List.mem_of_getElem? (i := 4) rfl
theorem sr_X7_78 : (RX7, 78, "club") ∈ sRefs := List.mem_of_getElem? (i := 5) rfl
theorem sw_X7_78 : (RX7, 78, ([99, 108, 117, 98] : List Int32)) ∈ sWords := List.mem_of_getElem? (i := 5) rfl
theorem sr_X7_80 : (RX7, 80, "even") ∈ sRefs := List.mem_of_getElem? (i := 6) rfl
theorem sw_X7_80 : (RX7, 80, ([101, 118, 101, 110] : List Int32)) ∈ sWords := List.mem_of_getElem? (i := 6) rfl
theorem sr_X7_82 : (RX7, 82, "style") ∈ sRefs := List.mem_of_getElem? (i := 7) rfl
theorem sw_X7_82 : (RX7, 82, ([115, 116, 121, 108, 101] : List Int32)) ∈ sWords := List.mem_of_getElem? (i := 7) rfl
theorem sr_X7_84 : (RX7, 84, "if") ∈ sRefs := List.mem_of_getElem? (i := 8) rfl
theorem sw_X7_84 : (RX7, 84, ([105, 102] : List Int32)) ∈ sWords := List.mem_of_getElem? (i := 8) rfl
theorem sr_X7_86 : (RX7, 86, "or") ∈ sRefs := List.mem_of_getElem? (i := 9) rfl
theorem sw_X7_86 : (RX7, 86, ([111, 114] : List Int32)) ∈ sWords := List.mem_of_getElem? (i := 9) rfl
theorem sr_X7_88 : (RX7, 88, "and") ∈ sRefs := List.mem_of_getElem? (i := 10) rfl
theorem sw_X7_88 : (RX7, 88, ([97, 110, 100] : List Int32)) ∈ sWords := List.mem_of_getElem? (i := 10) rfl
theorem sr_X7_90 : (RX7, 90, "not") ∈ sRefs := List.mem_of_getElem? (i := 11) rfl
theorem sw_X7_90 : (RX7, 90, ([110, 111, 116] : List Int32)) ∈ sWords := List.mem_of_getElem? (i := 11) rfl
theorem sr_X7_92 : (RX7, 92, "serving") ∈ sRefs := List.mem_of_getElem? (i := 12) rfl
theorem sw_X7_92 : (RX7, 92, ([115, 101, 114, 118, 105, 110, 103] : List Int32)) ∈ sWords := List.mem_of_getElem? (i := 12) rfl
theorem sr_X7_94 : (RX7, 94, "off") ∈ sRefs := List.mem_of_getElem? (i := 13) rfl
theorem sw_X7_94 : (RX7, 94, ([111, 102, 102] : List Int32)) ∈ sWords := List.mem_of_getElem? (i := 13) rfl
theorem sr_X7_96 : (RX7, 96, "mine") ∈ sRefs := List.mem_of_getElem? (i := 14) rfl
theorem sw_X7_96 : (RX7, 96, ([109, 105, 110, 101] : List Int32)) ∈ sWords := List.mem_of_getElem? (i := 14) rfl
theorem sr_X7_98 : (RX7, 98, "his") ∈ sRefs := List.mem_of_getElem? (i := 15) rfl
theorem sw_X7_98 : (RX7, 98, ([104, 105, 115] : List Int32)) ∈ sWords := List.mem_of_getElem? (i := 15) rfl
theorem sr_X7_100 : (RX7, 100, "line") ∈ sRefs := List.mem_of_getElem? (i := 16) rfl
theorem sw_X7_100 : (RX7, 100, ([108, 105, 110, 101] : List Int32)) ∈ sWords := List.mem_of_getElem? (i := 16) rfl
theorem sr_X7_102 : (RX7, 102, "chases") ∈ sRefs := List.mem_of_getElem? (i := 17) rfl
theorem sw_X7_102 : (RX7, 102, ([99, 104, 97, 115, 101, 115] : List Int32)) ∈ sWords := List.mem_of_getElem? (i := 17) rfl
theorem sr_X11_73 : (RX11, 73, "the text of the court is wrong") ∈ sRefs := List.mem_of_getElem? (i := 18) rfl
theorem sr_X11_83 : (RX11, 83, "there are 12 texts of the court") ∈ sRefs := List.mem_of_getElem? (i := 19) rfl
theorem sr_X11_96 : (RX11, 96, "the text of the rule is wrong") ∈ sRefs := List.mem_of_getElem? (i := 20) rfl
theorem sr_X11_107 : (RX11, 107, "there are 6 rules") ∈ sRefs := List.mem_of_getElem? (i := 21) rfl
theorem sr_X11_119 : (RX11, 119, "there is no such style") ∈ sRefs := List.mem_of_getElem? (i := 22) rfl
theorem sr_X11_331 : (RX11, 331, "there is no such thing to tell") ∈ sRefs := List.mem_of_getElem? (i := 23) rfl
theorem sr_X11_323 : (RX11, 323, "there is no such player") ∈ sRefs := List.mem_of_getElem? (i := 24) rfl
theorem sr_X11_133 : (RX11, 133, "there is no such rule") ∈ sRefs := List.mem_of_getElem? (i := 25) rfl
theorem sr_X11_145 : (RX11, 145, "there are no such points") ∈ sRefs := List.mem_of_getElem? (i := 26) rfl
theorem sr_X11_151 : (RX11, 151, "games are 0 to 6") ∈ sRefs := List.mem_of_getElem? (i := 27) rfl
theorem sr_X11_159 : (RX11, 159, "a handicap is 0 to 3") ∈ sRefs := List.mem_of_getElem? (i := 28) rfl
theorem sr_X11_325 : (RX11, 325, "there is no such line") ∈ sRefs := List.mem_of_getElem? (i := 29) rfl
theorem sr_X11_174 : (RX11, 174, "a rally is won, lost or dead") ∈ sRefs := List.mem_of_getElem? (i := 30) rfl
theorem sr_X11_336 : (RX11, 336, "the set is over") ∈ sRefs := List.mem_of_getElem? (i := 31) rfl
theorem sr_X11_327 : (RX11, 327, "rallies are 0 to 30") ∈ sRefs := List.mem_of_getElem? (i := 32) rfl
theorem sr_X11_248 : (RX11, 248, "millionths are 0 to 500000") ∈ sRefs := List.mem_of_getElem? (i := 33) rfl
theorem sr_X11_339 : (RX11, 339, "it is no log") ∈ sRefs := List.mem_of_getElem? (i := 34) rfl
theorem sr_X11_296 : (RX11, 296, "rallies are 0 to 200") ∈ sRefs := List.mem_of_getElem? (i := 35) rfl
theorem sr_X12_190 : (RX12, 190, "style") ∈ sRefs := List.mem_of_getElem? (i := 36) rfl
theorem sw_X12_190 : (RX12, 190, ([115, 116, 121, 108, 101] : List Int32)) ∈ sWords := List.mem_of_getElem? (i := 36) rfl
theorem sr_X12_192 : (RX12, 192, "if") ∈ sRefs := List.mem_of_getElem? (i := 37) rfl
theorem sw_X12_192 : (RX12, 192, ([105, 102] : List Int32)) ∈ sWords := List.mem_of_getElem? (i := 37) rfl
theorem sr_X12_171 : (RX12, 171, "not") ∈ sRefs := List.mem_of_getElem? (i := 38) rfl
theorem sw_X12_171 : (RX12, 171, ([110, 111, 116] : List Int32)) ∈ sWords := List.mem_of_getElem? (i := 38) rfl
theorem sr_X12_157 : (RX12, 157, "serving") ∈ sRefs := List.mem_of_getElem? (i := 39) rfl
theorem sw_X12_157 : (RX12, 157, ([115, 101, 114, 118, 105, 110, 103] : List Int32)) ∈ sWords := List.mem_of_getElem? (i := 39) rfl
theorem sr_X12_163 : (RX12, 163, "off") ∈ sRefs := List.mem_of_getElem? (i := 40) rfl
theorem sw_X12_163 : (RX12, 163, ([111, 102, 102] : List Int32)) ∈ sWords := List.mem_of_getElem? (i := 40) rfl
theorem sr_X12_146 : (RX12, 146, "mine") ∈ sRefs := List.mem_of_getElem? (i := 41) rfl
theorem sw_X12_146 : (RX12, 146, ([109, 105, 110, 101] : List Int32)) ∈ sWords := List.mem_of_getElem? (i := 41) rfl
theorem sr_X12_148 : (RX12, 148, "his") ∈ sRefs := List.mem_of_getElem? (i := 42) rfl
theorem sw_X12_148 : (RX12, 148, ([104, 105, 115] : List Int32)) ∈ sWords := List.mem_of_getElem? (i := 42) rfl
theorem sr_X12_150 : (RX12, 150, "line") ∈ sRefs := List.mem_of_getElem? (i := 43) rfl
theorem sw_X12_150 : (RX12, 150, ([108, 105, 110, 101] : List Int32)) ∈ sWords := List.mem_of_getElem? (i := 43) rfl
theorem sr_X12_152 : (RX12, 152, "chases") ∈ sRefs := List.mem_of_getElem? (i := 44) rfl
theorem sw_X12_152 : (RX12, 152, ([99, 104, 97, 115, 101, 115] : List Int32)) ∈ sWords := List.mem_of_getElem? (i := 44) rfl
theorem sr_X12_123 : (RX12, 123, "games") ∈ sRefs := List.mem_of_getElem? (i := 45) rfl
theorem sw_X12_123 : (RX12, 123, ([103, 97, 109, 101, 115] : List Int32)) ∈ sWords := List.mem_of_getElem? (i := 45) rfl
theorem sr_X12_183 : (RX12, 183, "and") ∈ sRefs := List.mem_of_getElem? (i := 46) rfl
theorem sw_X12_183 : (RX12, 183, ([97, 110, 100] : List Int32)) ∈ sWords := List.mem_of_getElem? (i := 46) rfl
theorem sr_X12_188 : (RX12, 188, "or") ∈ sRefs := List.mem_of_getElem? (i := 47) rfl
theorem sw_X12_188 : (RX12, 188, ([111, 114] : List Int32)) ∈ sWords := List.mem_of_getElem? (i := 47) rfl
theorem sr_X12_107 : (RX12, 107, "rally") ∈ sRefs := List.mem_of_getElem? (i := 48) rfl
theorem sw_X12_107 : (RX12, 107, ([114, 97, 108, 108, 121] : List Int32)) ∈ sWords := List.mem_of_getElem? (i := 48) rfl
theorem sr_X12_117 : (RX12, 117, "won") ∈ sRefs := List.mem_of_getElem? (i := 49) rfl
theorem sw_X12_117 : (RX12, 117, ([119, 111, 110] : List Int32)) ∈ sWords := List.mem_of_getElem? (i := 49) rfl
theorem sr_X12_119 : (RX12, 119, "lost") ∈ sRefs := List.mem_of_getElem? (i := 50) rfl
theorem sw_X12_119 : (RX12, 119, ([108, 111, 115, 116] : List Int32)) ∈ sWords := List.mem_of_getElem? (i := 50) rfl
theorem sr_X12_121 : (RX12, 121, "dead") ∈ sRefs := List.mem_of_getElem? (i := 51) rfl
theorem sw_X12_121 : (RX12, 121, ([100, 101, 97, 100] : List Int32)) ∈ sWords := List.mem_of_getElem? (i := 51) rfl
theorem sr_X12_125 : (RX12, 125, "club") ∈ sRefs := List.mem_of_getElem? (i := 52) rfl
theorem sw_X12_125 : (RX12, 125, ([99, 108, 117, 98] : List Int32)) ∈ sWords := List.mem_of_getElem? (i := 52) rfl
theorem sr_X12_127 : (RX12, 127, "even") ∈ sRefs := List.mem_of_getElem? (i := 53) rfl
theorem sw_X12_127 : (RX12, 127, ([101, 118, 101, 110] : List Int32)) ∈ sWords := List.mem_of_getElem? (i := 53) rfl

