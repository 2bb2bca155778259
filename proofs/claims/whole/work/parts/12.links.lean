set_option maxRecDepth 100000 in
theorem ii_Lw : Cond.initialized "PowerBondsLaw" ∈ G := G_at (i := 78) (by decide +kernel) rfl
set_option maxRecDepth 100000 in
theorem ii_Pb : Cond.initialized "PowerBonds" ∈ G := G_at (i := 79) (by decide +kernel) rfl
set_option maxRecDepth 100000 in
theorem ii_Ma : Cond.initialized "PowerBonds$Machine" ∈ G := G_at (i := 80) (by decide +kernel) rfl
set_option maxRecDepth 100000 in
theorem ii_Pa : Cond.initialized "PowerBonds$Part" ∈ G := G_at (i := 81) (by decide +kernel) rfl
set_option maxRecDepth 100000 in
theorem ii_An : Cond.initialized "PowerBonds$Answer" ∈ G := G_at (i := 82) (by decide +kernel) rfl
set_option maxRecDepth 100000 in
theorem ii_Lu : Cond.initialized "PowerBonds$LineUps" ∈ G := G_at (i := 83) (by decide +kernel) rfl
set_option maxRecDepth 100000 in
theorem ii_Ta : Cond.initialized "PowerBonds$Tape" ∈ G := G_at (i := 84) (by decide +kernel) rfl
set_option maxRecDepth 100000 in
theorem ii_Sh : Cond.initialized "PowerBonds$Sheet" ∈ G := G_at (i := 85) (by decide +kernel) rfl
set_option maxRecDepth 100000 in
theorem ii_Sl : Cond.initialized "PowerBonds$Slot" ∈ G := G_at (i := 86) (by decide +kernel) rfl
set_option maxRecDepth 100000 in
theorem ii_Mo : Cond.initialized "PowerBondsModel" ∈ G := G_at (i := 87) (by decide +kernel) rfl
set_option maxRecDepth 100000 in
theorem ii_Jm : Cond.initialized "java/lang/Math" ∈ G := G_at (i := 88) (by decide +kernel) rfl
set_option maxRecDepth 100000 in
theorem ii_Ji : Cond.initialized "java/lang/Integer" ∈ G := G_at (i := 89) (by decide +kernel) rfl
set_option maxRecDepth 100000 in
theorem ii_Ja : Cond.initialized "java/util/Arrays" ∈ G := G_at (i := 90) (by decide +kernel) rfl
set_option maxRecDepth 100000 in
theorem ii_Tx : Cond.initialized "PowerBonds$Text" ∈ G := G_at (i := 91) (by decide +kernel) rfl
set_option maxRecDepth 100000 in
theorem ii_Js : Cond.initialized "java/lang/String" ∈ G := G_at (i := 92) (by decide +kernel) rfl
set_option maxRecDepth 100000 in
theorem ii_Jl : Cond.initialized "java/lang/StringLatin1" ∈ G := G_at (i := 93) (by decide +kernel) rfl
set_option maxRecDepth 100000 in
theorem ii_Jp : Cond.initialized "jdk/internal/util/Preconditions" ∈ G := G_at (i := 94) (by decide +kernel) rfl
set_option maxRecDepth 100000 in
theorem ii_Ju : Cond.initialized "java/lang/StringUTF16" ∈ G := G_at (i := 95) (by decide +kernel) rfl
set_option maxRecDepth 100000 in
theorem ii_Jy : Cond.initialized "java/lang/System" ∈ G := G_at (i := 96) (by decide +kernel) rfl
set_option maxRecDepth 100000 in
theorem cl_Lw_7 : Cond.classLink "PowerBondsLaw" 7 "PowerBonds" ∈ G := G_at (i := 97) (by decide +kernel) rfl
set_option maxRecDepth 100000 in
theorem in_Pb : Cond.instantiable "PowerBonds" 13 ∈ G := G_at (i := 98) (by decide +kernel) rfl
set_option maxRecDepth 100000 in
theorem ml_Lw_9 : Cond.methodLink "PowerBondsLaw" 9 M_Pb_init.1 ∈ G := G_at (i := 99) (by decide +kernel) rfl
set_option maxRecDepth 100000 in
theorem ml_Pb_1 : Cond.methodLink "PowerBonds" 1 Lib.objectInit ∈ G := G_at (i := 102) (by decide +kernel) rfl
set_option maxRecDepth 100000 in
theorem cl_Pb_7 : Cond.classLink "PowerBonds" 7 "PowerBonds$Machine" ∈ G := G_at (i := 105) (by decide +kernel) rfl
set_option maxRecDepth 100000 in
theorem in_Ma : Cond.instantiable "PowerBonds$Machine" 8 ∈ G := G_at (i := 106) (by decide +kernel) rfl
set_option maxRecDepth 100000 in
theorem ml_Pb_9 : Cond.methodLink "PowerBonds" 9 M_Ma_init.1 ∈ G := G_at (i := 107) (by decide +kernel) rfl
set_option maxRecDepth 100000 in
theorem ml_Ma_3 : Cond.methodLink "PowerBonds$Machine" 3 Lib.objectInit ∈ G := G_at (i := 110) (by decide +kernel) rfl
set_option maxRecDepth 100000 in
theorem cl_Ma_9 : Cond.classLink "PowerBonds$Machine" 9 "PowerBonds$Part" ∈ G := G_at (i := 111) (by decide +kernel) rfl
set_option maxRecDepth 100000 in
theorem cl_Ma_24 : Cond.classLink "PowerBonds$Machine" 24 "PowerBonds$Text" ∈ G := G_at (i := 113) (by decide +kernel) rfl
set_option maxRecDepth 100000 in
theorem in_Pa : Cond.instantiable "PowerBonds$Part" 5 ∈ G := G_at (i := 115) (by decide +kernel) rfl
set_option maxRecDepth 100000 in
theorem mn_Ma_30 : Cond.methodLinkNest "PowerBonds$Machine" 30 M_Pa_init.1 "PowerBonds" ∈ Gn := Gn_at (i := 116) (by decide +kernel) rfl
set_option maxRecDepth 100000 in
theorem ml_Pa_3 : Cond.methodLink "PowerBonds$Part" 3 Lib.objectInit ∈ G := G_at (i := 119) (by decide +kernel) rfl
set_option maxRecDepth 100000 in
theorem fl_Pa_9 : FL "PowerBonds$Part" 9 3 0 := ⟨⟨by decide, by decide⟩, G_at (i := 120) (by decide +kernel) rfl⟩
set_option maxRecDepth 100000 in
theorem fl_Pb_93 : FL "PowerBonds" 93 3 0 := ⟨⟨by decide, by decide⟩, G_at (i := 121) (by decide +kernel) rfl⟩
set_option maxRecDepth 100000 in
theorem fl_Lu_62 : FL "PowerBonds$LineUps" 62 3 0 := ⟨⟨by decide, by decide⟩, G_at (i := 122) (by decide +kernel) rfl⟩
set_option maxRecDepth 100000 in
theorem fl_An_63 : FL "PowerBonds$Answer" 63 3 0 := ⟨⟨by decide, by decide⟩, G_at (i := 123) (by decide +kernel) rfl⟩
set_option maxRecDepth 100000 in
theorem fl_Ma_56 : FL "PowerBonds$Machine" 56 3 0 := ⟨⟨by decide, by decide⟩, G_at (i := 124) (by decide +kernel) rfl⟩
set_option maxRecDepth 100000 in
theorem fl_Pa_15 : FL "PowerBonds$Part" 15 3 1 := ⟨⟨by decide, by decide⟩, G_at (i := 125) (by decide +kernel) rfl⟩
set_option maxRecDepth 100000 in
theorem fl_Pb_96 : FL "PowerBonds" 96 3 1 := ⟨⟨by decide, by decide⟩, G_at (i := 126) (by decide +kernel) rfl⟩
set_option maxRecDepth 100000 in
theorem fl_An_91 : FL "PowerBonds$Answer" 91 3 1 := ⟨⟨by decide, by decide⟩, G_at (i := 127) (by decide +kernel) rfl⟩
set_option maxRecDepth 100000 in
theorem fl_Lu_78 : FL "PowerBonds$LineUps" 78 3 1 := ⟨⟨by decide, by decide⟩, G_at (i := 128) (by decide +kernel) rfl⟩
set_option maxRecDepth 100000 in
theorem fl_Ma_89 : FL "PowerBonds$Machine" 89 3 1 := ⟨⟨by decide, by decide⟩, G_at (i := 129) (by decide +kernel) rfl⟩
set_option maxRecDepth 100000 in
theorem fl_Pa_25 : FL "PowerBonds$Part" 25 3 2 := ⟨⟨by decide, by decide⟩, G_at (i := 130) (by decide +kernel) rfl⟩
set_option maxRecDepth 100000 in
theorem fl_Pb_326 : FL "PowerBonds" 326 3 2 := ⟨⟨by decide, by decide⟩, G_at (i := 131) (by decide +kernel) rfl⟩
set_option maxRecDepth 100000 in
theorem fl_Pa_28 : FL "PowerBonds$Part" 28 3 3 := ⟨⟨by decide, by decide⟩, G_at (i := 132) (by decide +kernel) rfl⟩
set_option maxRecDepth 100000 in
theorem fl_Pa_22 : FL "PowerBonds$Part" 22 3 4 := ⟨⟨by decide, by decide⟩, G_at (i := 133) (by decide +kernel) rfl⟩
set_option maxRecDepth 100000 in
theorem fl_Pb_103 : FL "PowerBonds" 103 3 4 := ⟨⟨by decide, by decide⟩, G_at (i := 134) (by decide +kernel) rfl⟩
set_option maxRecDepth 100000 in
theorem fl_An_101 : FL "PowerBonds$Answer" 101 3 4 := ⟨⟨by decide, by decide⟩, G_at (i := 135) (by decide +kernel) rfl⟩
set_option maxRecDepth 100000 in
theorem fl_Ma_59 : FL "PowerBonds$Machine" 59 3 4 := ⟨⟨by decide, by decide⟩, G_at (i := 136) (by decide +kernel) rfl⟩
set_option maxRecDepth 100000 in
theorem ac_int : Cond.arrayClass .int ∈ G := G_at (i := 148) (by decide +kernel) rfl
set_option maxRecDepth 100000 in
theorem fl_Ma_11 : FL "PowerBonds$Machine" 11 2 0 := ⟨⟨by decide, by decide⟩, G_at (i := 149) (by decide +kernel) rfl⟩
set_option maxRecDepth 100000 in
theorem fl_Pb_80 : FL "PowerBonds" 80 2 0 := ⟨⟨by decide, by decide⟩, G_at (i := 150) (by decide +kernel) rfl⟩
set_option maxRecDepth 100000 in
theorem fl_Lu_58 : FL "PowerBonds$LineUps" 58 2 0 := ⟨⟨by decide, by decide⟩, G_at (i := 151) (by decide +kernel) rfl⟩
set_option maxRecDepth 100000 in
theorem fl_An_56 : FL "PowerBonds$Answer" 56 2 0 := ⟨⟨by decide, by decide⟩, G_at (i := 152) (by decide +kernel) rfl⟩
set_option maxRecDepth 100000 in
theorem fl_Ma_17 : FL "PowerBonds$Machine" 17 2 1 := ⟨⟨by decide, by decide⟩, G_at (i := 153) (by decide +kernel) rfl⟩
set_option maxRecDepth 100000 in
theorem fl_Lu_30 : FL "PowerBonds$LineUps" 30 2 1 := ⟨⟨by decide, by decide⟩, G_at (i := 154) (by decide +kernel) rfl⟩
set_option maxRecDepth 100000 in
theorem fl_Pb_130 : FL "PowerBonds" 130 2 1 := ⟨⟨by decide, by decide⟩, G_at (i := 155) (by decide +kernel) rfl⟩
set_option maxRecDepth 100000 in
theorem fl_An_111 : FL "PowerBonds$Answer" 111 2 1 := ⟨⟨by decide, by decide⟩, G_at (i := 156) (by decide +kernel) rfl⟩
set_option maxRecDepth 100000 in
theorem fl_Ma_21 : FL "PowerBonds$Machine" 21 2 2 := ⟨⟨by decide, by decide⟩, G_at (i := 157) (by decide +kernel) rfl⟩
set_option maxRecDepth 100000 in
theorem fl_Lu_27 : FL "PowerBonds$LineUps" 27 2 2 := ⟨⟨by decide, by decide⟩, G_at (i := 158) (by decide +kernel) rfl⟩
set_option maxRecDepth 100000 in
theorem fl_Pb_133 : FL "PowerBonds" 133 2 2 := ⟨⟨by decide, by decide⟩, G_at (i := 159) (by decide +kernel) rfl⟩
set_option maxRecDepth 100000 in
theorem fl_An_108 : FL "PowerBonds$Answer" 108 2 2 := ⟨⟨by decide, by decide⟩, G_at (i := 160) (by decide +kernel) rfl⟩
set_option maxRecDepth 100000 in
theorem fl_Ma_26 : FL "PowerBonds$Machine" 26 2 3 := ⟨⟨by decide, by decide⟩, G_at (i := 161) (by decide +kernel) rfl⟩
set_option maxRecDepth 100000 in
theorem fl_Pb_208 : FL "PowerBonds" 208 2 3 := ⟨⟨by decide, by decide⟩, G_at (i := 162) (by decide +kernel) rfl⟩
set_option maxRecDepth 100000 in
theorem fl_Lu_18 : FL "PowerBonds$LineUps" 18 2 4 := ⟨⟨by decide, by decide⟩, G_at (i := 163) (by decide +kernel) rfl⟩
set_option maxRecDepth 100000 in
theorem fl_Ma_31 : FL "PowerBonds$Machine" 31 2 4 := ⟨⟨by decide, by decide⟩, G_at (i := 164) (by decide +kernel) rfl⟩
set_option maxRecDepth 100000 in
theorem fl_Pb_75 : FL "PowerBonds" 75 2 4 := ⟨⟨by decide, by decide⟩, G_at (i := 165) (by decide +kernel) rfl⟩
set_option maxRecDepth 100000 in
theorem fl_An_53 : FL "PowerBonds$Answer" 53 2 4 := ⟨⟨by decide, by decide⟩, G_at (i := 166) (by decide +kernel) rfl⟩
set_option maxRecDepth 100000 in
theorem fl_Lu_24 : FL "PowerBonds$LineUps" 24 2 5 := ⟨⟨by decide, by decide⟩, G_at (i := 167) (by decide +kernel) rfl⟩
set_option maxRecDepth 100000 in
theorem fl_Ma_39 : FL "PowerBonds$Machine" 39 2 5 := ⟨⟨by decide, by decide⟩, G_at (i := 168) (by decide +kernel) rfl⟩
set_option maxRecDepth 100000 in
theorem fl_An_46 : FL "PowerBonds$Answer" 46 2 5 := ⟨⟨by decide, by decide⟩, G_at (i := 169) (by decide +kernel) rfl⟩
set_option maxRecDepth 100000 in
theorem fl_Pb_127 : FL "PowerBonds" 127 2 5 := ⟨⟨by decide, by decide⟩, G_at (i := 170) (by decide +kernel) rfl⟩
set_option maxRecDepth 100000 in
theorem fl_Ma_42 : FL "PowerBonds$Machine" 42 2 6 := ⟨⟨by decide, by decide⟩, G_at (i := 171) (by decide +kernel) rfl⟩
set_option maxRecDepth 100000 in
theorem fl_Pb_205 : FL "PowerBonds" 205 2 6 := ⟨⟨by decide, by decide⟩, G_at (i := 172) (by decide +kernel) rfl⟩
set_option maxRecDepth 100000 in
theorem fl_Ma_45 : FL "PowerBonds$Machine" 45 2 7 := ⟨⟨by decide, by decide⟩, G_at (i := 173) (by decide +kernel) rfl⟩
set_option maxRecDepth 100000 in
theorem fl_Pb_182 : FL "PowerBonds" 182 2 7 := ⟨⟨by decide, by decide⟩, G_at (i := 174) (by decide +kernel) rfl⟩
set_option maxRecDepth 100000 in
theorem cl_Pb_22 : Cond.classLink "PowerBonds" 22 "PowerBonds$Answer" ∈ G := G_at (i := 192) (by decide +kernel) rfl
set_option maxRecDepth 100000 in
theorem in_An : Cond.instantiable "PowerBonds$Answer" 5 ∈ G := G_at (i := 193) (by decide +kernel) rfl
set_option maxRecDepth 100000 in
theorem mn_Pb_24 : Cond.methodLinkNest "PowerBonds" 24 M_An_init.1 "PowerBonds" ∈ Gn := Gn_at (i := 194) (by decide +kernel) rfl
set_option maxRecDepth 100000 in
theorem ml_An_3 : Cond.methodLink "PowerBonds$Answer" 3 Lib.objectInit ∈ G := G_at (i := 197) (by decide +kernel) rfl
set_option maxRecDepth 100000 in
theorem cl_An_18 : Cond.classLink "PowerBonds$Answer" 18 "[[J" ∈ G := G_at (i := 198) (by decide +kernel) rfl
set_option maxRecDepth 100000 in
theorem fl_An_9 : FL "PowerBonds$Answer" 9 0 0 := ⟨⟨by decide, by decide⟩, G_at (i := 200) (by decide +kernel) rfl⟩
set_option maxRecDepth 100000 in
theorem fl_Ma_97 : FL "PowerBonds$Machine" 97 0 0 := ⟨⟨by decide, by decide⟩, G_at (i := 201) (by decide +kernel) rfl⟩
set_option maxRecDepth 100000 in
theorem fl_Pb_231 : FL "PowerBonds" 231 0 0 := ⟨⟨by decide, by decide⟩, G_at (i := 202) (by decide +kernel) rfl⟩
set_option maxRecDepth 100000 in
theorem fl_An_15 : FL "PowerBonds$Answer" 15 0 1 := ⟨⟨by decide, by decide⟩, G_at (i := 203) (by decide +kernel) rfl⟩
set_option maxRecDepth 100000 in
theorem fl_Ma_92 : FL "PowerBonds$Machine" 92 0 1 := ⟨⟨by decide, by decide⟩, G_at (i := 204) (by decide +kernel) rfl⟩
set_option maxRecDepth 100000 in
theorem fl_Pb_234 : FL "PowerBonds" 234 0 1 := ⟨⟨by decide, by decide⟩, G_at (i := 205) (by decide +kernel) rfl⟩
set_option maxRecDepth 100000 in
theorem fl_An_20 : FL "PowerBonds$Answer" 20 0 2 := ⟨⟨by decide, by decide⟩, G_at (i := 206) (by decide +kernel) rfl⟩
set_option maxRecDepth 100000 in
theorem fl_An_38 : FL "PowerBonds$Answer" 38 0 3 := ⟨⟨by decide, by decide⟩, G_at (i := 207) (by decide +kernel) rfl⟩
set_option maxRecDepth 100000 in
theorem fl_An_42 : FL "PowerBonds$Answer" 42 0 4 := ⟨⟨by decide, by decide⟩, G_at (i := 208) (by decide +kernel) rfl⟩
set_option maxRecDepth 100000 in
theorem ac_long : Cond.arrayClass .long ∈ G := G_at (i := 220) (by decide +kernel) rfl
set_option maxRecDepth 100000 in
theorem cl_Pb_32 : Cond.classLink "PowerBonds" 32 "PowerBonds$LineUps" ∈ G := G_at (i := 221) (by decide +kernel) rfl
set_option maxRecDepth 100000 in
theorem in_Lu : Cond.instantiable "PowerBonds$LineUps" 5 ∈ G := G_at (i := 222) (by decide +kernel) rfl
set_option maxRecDepth 100000 in
theorem mn_Pb_34 : Cond.methodLinkNest "PowerBonds" 34 M_Lu_init.1 "PowerBonds" ∈ Gn := Gn_at (i := 223) (by decide +kernel) rfl
set_option maxRecDepth 100000 in
theorem ml_Lu_3 : Cond.methodLink "PowerBonds$LineUps" 3 Lib.objectInit ∈ G := G_at (i := 226) (by decide +kernel) rfl
set_option maxRecDepth 100000 in
theorem fl_Lu_9 : FL "PowerBonds$LineUps" 9 1 0 := ⟨⟨by decide, by decide⟩, G_at (i := 227) (by decide +kernel) rfl⟩
set_option maxRecDepth 100000 in
theorem fl_Lu_15 : FL "PowerBonds$LineUps" 15 1 1 := ⟨⟨by decide, by decide⟩, G_at (i := 228) (by decide +kernel) rfl⟩
set_option maxRecDepth 100000 in
theorem fl_Lu_37 : FL "PowerBonds$LineUps" 37 1 2 := ⟨⟨by decide, by decide⟩, G_at (i := 229) (by decide +kernel) rfl⟩
set_option maxRecDepth 100000 in
theorem fl_Pb_162 : FL "PowerBonds" 162 1 2 := ⟨⟨by decide, by decide⟩, G_at (i := 230) (by decide +kernel) rfl⟩
set_option maxRecDepth 100000 in
theorem fl_Lu_40 : FL "PowerBonds$LineUps" 40 1 3 := ⟨⟨by decide, by decide⟩, G_at (i := 231) (by decide +kernel) rfl⟩
set_option maxRecDepth 100000 in
theorem fl_Pb_166 : FL "PowerBonds" 166 1 3 := ⟨⟨by decide, by decide⟩, G_at (i := 232) (by decide +kernel) rfl⟩
set_option maxRecDepth 100000 in
theorem fl_Lu_43 : FL "PowerBonds$LineUps" 43 1 4 := ⟨⟨by decide, by decide⟩, G_at (i := 233) (by decide +kernel) rfl⟩
set_option maxRecDepth 100000 in
theorem fl_Pb_169 : FL "PowerBonds" 169 1 4 := ⟨⟨by decide, by decide⟩, G_at (i := 234) (by decide +kernel) rfl⟩
set_option maxRecDepth 100000 in
theorem cl_Pb_39 : Cond.classLink "PowerBonds" 39 "PowerBonds$Tape" ∈ G := G_at (i := 246) (by decide +kernel) rfl
set_option maxRecDepth 100000 in
theorem in_Ta : Cond.instantiable "PowerBonds$Tape" 9 ∈ G := G_at (i := 247) (by decide +kernel) rfl
set_option maxRecDepth 100000 in
theorem mn_Pb_41 : Cond.methodLinkNest "PowerBonds" 41 M_Ta_init.1 "PowerBonds" ∈ Gn := Gn_at (i := 248) (by decide +kernel) rfl
set_option maxRecDepth 100000 in
theorem ml_Ta_3 : Cond.methodLink "PowerBonds$Tape" 3 Lib.objectInit ∈ G := G_at (i := 251) (by decide +kernel) rfl
set_option maxRecDepth 100000 in
theorem fl_Ta_19 : FL "PowerBonds$Tape" 19 6 0 := ⟨⟨by decide, by decide⟩, G_at (i := 252) (by decide +kernel) rfl⟩
set_option maxRecDepth 100000 in
theorem fl_Pb_192 : FL "PowerBonds" 192 6 0 := ⟨⟨by decide, by decide⟩, G_at (i := 253) (by decide +kernel) rfl⟩
set_option maxRecDepth 100000 in
theorem fl_Ta_63 : FL "PowerBonds$Tape" 63 6 1 := ⟨⟨by decide, by decide⟩, G_at (i := 254) (by decide +kernel) rfl⟩
set_option maxRecDepth 100000 in
theorem fl_Pb_202 : FL "PowerBonds" 202 6 1 := ⟨⟨by decide, by decide⟩, G_at (i := 255) (by decide +kernel) rfl⟩
set_option maxRecDepth 100000 in
theorem fl_Ta_9 : FL "PowerBonds$Tape" 9 6 2 := ⟨⟨by decide, by decide⟩, G_at (i := 256) (by decide +kernel) rfl⟩
set_option maxRecDepth 100000 in
theorem fl_Ta_23 : FL "PowerBonds$Tape" 23 6 3 := ⟨⟨by decide, by decide⟩, G_at (i := 257) (by decide +kernel) rfl⟩
set_option maxRecDepth 100000 in
theorem fl_Ta_26 : FL "PowerBonds$Tape" 26 6 4 := ⟨⟨by decide, by decide⟩, G_at (i := 258) (by decide +kernel) rfl⟩
set_option maxRecDepth 100000 in
theorem fl_Ta_42 : FL "PowerBonds$Tape" 42 6 5 := ⟨⟨by decide, by decide⟩, G_at (i := 259) (by decide +kernel) rfl⟩
set_option maxRecDepth 100000 in
theorem fl_Ta_15 : FL "PowerBonds$Tape" 15 6 6 := ⟨⟨by decide, by decide⟩, G_at (i := 260) (by decide +kernel) rfl⟩
set_option maxRecDepth 100000 in
theorem fl_Ta_29 : FL "PowerBonds$Tape" 29 6 7 := ⟨⟨by decide, by decide⟩, G_at (i := 261) (by decide +kernel) rfl⟩
set_option maxRecDepth 100000 in
theorem fl_Ta_32 : FL "PowerBonds$Tape" 32 6 8 := ⟨⟨by decide, by decide⟩, G_at (i := 262) (by decide +kernel) rfl⟩
set_option maxRecDepth 100000 in
theorem ac_byte : Cond.arrayClass .byte ∈ G := G_at (i := 282) (by decide +kernel) rfl
set_option maxRecDepth 100000 in
theorem cl_Pb_53 : Cond.classLink "PowerBonds" 53 "PowerBonds$Sheet" ∈ G := G_at (i := 283) (by decide +kernel) rfl
set_option maxRecDepth 100000 in
theorem cl_Pb_59 : Cond.classLink "PowerBonds" 59 "PowerBonds$Slot" ∈ G := G_at (i := 285) (by decide +kernel) rfl
set_option maxRecDepth 100000 in
theorem in_Sh : Cond.instantiable "PowerBonds$Sheet" 3 ∈ G := G_at (i := 287) (by decide +kernel) rfl
set_option maxRecDepth 100000 in
theorem mn_Pb_65 : Cond.methodLinkNest "PowerBonds" 65 M_Sh_init.1 "PowerBonds" ∈ Gn := Gn_at (i := 288) (by decide +kernel) rfl
set_option maxRecDepth 100000 in
theorem ml_Sh_3 : Cond.methodLink "PowerBonds$Sheet" 3 Lib.objectInit ∈ G := G_at (i := 291) (by decide +kernel) rfl
set_option maxRecDepth 100000 in
theorem fl_Sh_9 : FL "PowerBonds$Sheet" 9 4 0 := ⟨⟨by decide, by decide⟩, G_at (i := 292) (by decide +kernel) rfl⟩
set_option maxRecDepth 100000 in
theorem fl_Pb_268 : FL "PowerBonds" 268 4 0 := ⟨⟨by decide, by decide⟩, G_at (i := 293) (by decide +kernel) rfl⟩
set_option maxRecDepth 100000 in
theorem fl_Sh_19 : FL "PowerBonds$Sheet" 19 4 1 := ⟨⟨by decide, by decide⟩, G_at (i := 294) (by decide +kernel) rfl⟩
set_option maxRecDepth 100000 in
theorem fl_Sh_15 : FL "PowerBonds$Sheet" 15 4 2 := ⟨⟨by decide, by decide⟩, G_at (i := 295) (by decide +kernel) rfl⟩
set_option maxRecDepth 100000 in
theorem fl_Pb_274 : FL "PowerBonds" 274 4 2 := ⟨⟨by decide, by decide⟩, G_at (i := 296) (by decide +kernel) rfl⟩
set_option maxRecDepth 100000 in
theorem in_Sl : Cond.instantiable "PowerBonds$Slot" 4 ∈ G := G_at (i := 304) (by decide +kernel) rfl
set_option maxRecDepth 100000 in
theorem mn_Pb_66 : Cond.methodLinkNest "PowerBonds" 66 M_Sl_init.1 "PowerBonds" ∈ Gn := Gn_at (i := 305) (by decide +kernel) rfl
set_option maxRecDepth 100000 in
theorem ml_Sl_3 : Cond.methodLink "PowerBonds$Slot" 3 Lib.objectInit ∈ G := G_at (i := 308) (by decide +kernel) rfl
set_option maxRecDepth 100000 in
theorem cl_Sl_15 : Cond.classLink "PowerBonds$Slot" 15 "PowerBonds$Part" ∈ G := G_at (i := 309) (by decide +kernel) rfl
set_option maxRecDepth 100000 in
theorem mn_Sl_17 : Cond.methodLinkNest "PowerBonds$Slot" 17 M_Pa_init.1 "PowerBonds" ∈ Gn := Gn_at (i := 310) (by decide +kernel) rfl
set_option maxRecDepth 100000 in
theorem cl_Sl_22 : Cond.classLink "PowerBonds$Slot" 22 "PowerBonds$Sheet" ∈ G := G_at (i := 311) (by decide +kernel) rfl
set_option maxRecDepth 100000 in
theorem mn_Sl_24 : Cond.methodLinkNest "PowerBonds$Slot" 24 M_Sh_init.1 "PowerBonds" ∈ Gn := Gn_at (i := 312) (by decide +kernel) rfl
set_option maxRecDepth 100000 in
theorem fl_Sl_9 : FL "PowerBonds$Slot" 9 5 0 := ⟨⟨by decide, by decide⟩, G_at (i := 313) (by decide +kernel) rfl⟩
set_option maxRecDepth 100000 in
theorem fl_Pb_290 : FL "PowerBonds" 290 5 0 := ⟨⟨by decide, by decide⟩, G_at (i := 314) (by decide +kernel) rfl⟩
set_option maxRecDepth 100000 in
theorem fl_Pb_307 : FL "PowerBonds" 307 5 1 := ⟨⟨by decide, by decide⟩, G_at (i := 315) (by decide +kernel) rfl⟩
set_option maxRecDepth 100000 in
theorem fl_Sl_18 : FL "PowerBonds$Slot" 18 5 2 := ⟨⟨by decide, by decide⟩, G_at (i := 316) (by decide +kernel) rfl⟩
set_option maxRecDepth 100000 in
theorem fl_Pb_293 : FL "PowerBonds" 293 5 2 := ⟨⟨by decide, by decide⟩, G_at (i := 317) (by decide +kernel) rfl⟩
set_option maxRecDepth 100000 in
theorem fl_Sl_25 : FL "PowerBonds$Slot" 25 5 3 := ⟨⟨by decide, by decide⟩, G_at (i := 318) (by decide +kernel) rfl⟩
set_option maxRecDepth 100000 in
theorem fl_Pb_300 : FL "PowerBonds" 300 5 3 := ⟨⟨by decide, by decide⟩, G_at (i := 319) (by decide +kernel) rfl⟩
set_option maxRecDepth 100000 in
theorem fl_Pb_10 : FL "PowerBonds" 10 8 0 := ⟨⟨by decide, by decide⟩, G_at (i := 329) (by decide +kernel) rfl⟩
set_option maxRecDepth 100000 in
theorem fl_Pb_16 : FL "PowerBonds" 16 8 1 := ⟨⟨by decide, by decide⟩, G_at (i := 330) (by decide +kernel) rfl⟩
set_option maxRecDepth 100000 in
theorem fl_Pb_19 : FL "PowerBonds" 19 8 2 := ⟨⟨by decide, by decide⟩, G_at (i := 331) (by decide +kernel) rfl⟩
set_option maxRecDepth 100000 in
theorem fl_Pb_25 : FL "PowerBonds" 25 8 3 := ⟨⟨by decide, by decide⟩, G_at (i := 332) (by decide +kernel) rfl⟩
set_option maxRecDepth 100000 in
theorem fl_Pb_29 : FL "PowerBonds" 29 8 4 := ⟨⟨by decide, by decide⟩, G_at (i := 333) (by decide +kernel) rfl⟩
set_option maxRecDepth 100000 in
theorem fl_Pb_35 : FL "PowerBonds" 35 8 5 := ⟨⟨by decide, by decide⟩, G_at (i := 334) (by decide +kernel) rfl⟩
set_option maxRecDepth 100000 in
theorem fl_Pb_42 : FL "PowerBonds" 42 8 6 := ⟨⟨by decide, by decide⟩, G_at (i := 335) (by decide +kernel) rfl⟩
set_option maxRecDepth 100000 in
theorem fl_Pb_46 : FL "PowerBonds" 46 8 7 := ⟨⟨by decide, by decide⟩, G_at (i := 336) (by decide +kernel) rfl⟩
set_option maxRecDepth 100000 in
theorem fl_Pb_50 : FL "PowerBonds" 50 8 8 := ⟨⟨by decide, by decide⟩, G_at (i := 337) (by decide +kernel) rfl⟩
set_option maxRecDepth 100000 in
theorem fl_Pb_55 : FL "PowerBonds" 55 8 9 := ⟨⟨by decide, by decide⟩, G_at (i := 338) (by decide +kernel) rfl⟩
set_option maxRecDepth 100000 in
theorem fl_Pb_61 : FL "PowerBonds" 61 8 10 := ⟨⟨by decide, by decide⟩, G_at (i := 339) (by decide +kernel) rfl⟩
set_option maxRecDepth 100000 in
theorem fl_Pb_313 : FL "PowerBonds" 313 8 11 := ⟨⟨by decide, by decide⟩, G_at (i := 340) (by decide +kernel) rfl⟩
set_option maxRecDepth 100000 in
theorem fl_Pb_316 : FL "PowerBonds" 316 8 12 := ⟨⟨by decide, by decide⟩, G_at (i := 341) (by decide +kernel) rfl⟩
set_option maxRecDepth 100000 in
theorem ml_Lw_13 : Cond.methodLink "PowerBondsLaw" 13 M_Pb_part.1 ∈ G := G_at (i := 369) (by decide +kernel) rfl
set_option maxRecDepth 100000 in
theorem ml_Pb_67 : Cond.methodLink "PowerBonds" 67 M_Pb_isKind.1 ∈ G := G_at (i := 373) (by decide +kernel) rfl
set_option maxRecDepth 100000 in
theorem ml_Pb_71 : Cond.methodLink "PowerBonds" 71 M_Pb_isShare.1 ∈ G := G_at (i := 376) (by decide +kernel) rfl
set_option maxRecDepth 100000 in
theorem kc_Pb_74 : Cond.constant "PowerBonds" 74 (-1000000001) ∈ G := G_at (i := 379) (by decide +kernel) rfl
set_option maxRecDepth 100000 in
theorem kc_Pb_79 : Cond.constant "PowerBonds" 79 (-1000000003) ∈ G := G_at (i := 380) (by decide +kernel) rfl
set_option maxRecDepth 100000 in
theorem ml_Pb_84 : Cond.methodLink "PowerBonds" 84 M_Pa_become.1 ∈ G := G_at (i := 381) (by decide +kernel) rfl
set_option maxRecDepth 100000 in
theorem ml_Pa_18 : Cond.methodLink "PowerBonds$Part" 18 M_Pa_takeShare.1 ∈ G := G_at (i := 385) (by decide +kernel) rfl
set_option maxRecDepth 100000 in
theorem ml_Lw_18 : Cond.methodLink "PowerBondsLaw" 18 M_Pb_told.1 ∈ G := G_at (i := 389) (by decide +kernel) rfl
set_option maxRecDepth 100000 in
theorem ml_Pb_90 : Cond.methodLink "PowerBonds" 90 M_Ma_hasPart.1 ∈ G := G_at (i := 393) (by decide +kernel) rfl
set_option maxRecDepth 100000 in
theorem ml_Pb_99 : Cond.methodLink "PowerBonds" 99 M_Pa_shareCode.1 ∈ G := G_at (i := 397) (by decide +kernel) rfl
set_option maxRecDepth 100000 in
theorem ml_Pb_106 : Cond.methodLink "PowerBonds" 106 M_Ma_endsOf.1 ∈ G := G_at (i := 401) (by decide +kernel) rfl
set_option maxRecDepth 100000 in
theorem ml_Pb_110 : Cond.methodLink "PowerBonds" 110 M_Pa_wants.1 ∈ G := G_at (i := 405) (by decide +kernel) rfl
set_option maxRecDepth 100000 in
theorem ml_Pb_113 : Cond.methodLink "PowerBonds" 113 M_Pa_shareWorth.1 ∈ G := G_at (i := 409) (by decide +kernel) rfl
set_option maxRecDepth 100000 in
theorem mn_Pa_31 : Cond.methodLinkNest "PowerBonds$Part" 31 M_Pb_inverse.1 "PowerBonds" ∈ Gn := Gn_at (i := 413) (by decide +kernel) rfl
set_option maxRecDepth 100000 in
theorem kc_Pb_337 : Cond.constant "PowerBonds" 337 (1000001) ∈ G := G_at (i := 416) (by decide +kernel) rfl
set_option maxRecDepth 100000 in
theorem kl_Pb_335 : Cond.constantLong "PowerBonds" 335 (1000003) ∈ G := G_at (i := 417) (by decide +kernel) rfl
set_option maxRecDepth 100000 in
theorem mn_Pa_35 : Cond.methodLinkNest "PowerBonds$Part" 35 M_Pb_product.1 "PowerBonds" ∈ Gn := Gn_at (i := 418) (by decide +kernel) rfl
set_option maxRecDepth 100000 in
theorem ml_Lw_23 : Cond.methodLink "PowerBondsLaw" 23 M_Pb_as.1 ∈ G := G_at (i := 421) (by decide +kernel) rfl
set_option maxRecDepth 100000 in
theorem ml_Pb_116 : Cond.methodLink "PowerBonds" 116 M_Pa_isOf.1 ∈ G := G_at (i := 425) (by decide +kernel) rfl
set_option maxRecDepth 100000 in
theorem fn_Pa_39 : Cond.fieldLinkNest "PowerBonds$Part" 39 "PowerBonds" "ABOVE" "[I" "PowerBonds" ∈ Gn := Gn_at (i := 429) (by decide +kernel) rfl
set_option maxRecDepth 100000 in
theorem kc_Pb_119 : Cond.constant "PowerBonds" 119 (-1000000012) ∈ G := G_at (i := 431) (by decide +kernel) rfl
set_option maxRecDepth 100000 in
theorem ml_Lw_27 : Cond.methodLink "PowerBondsLaw" 27 M_Pb_set.1 ∈ G := G_at (i := 432) (by decide +kernel) rfl
set_option maxRecDepth 100000 in
theorem ml_Pb_120 : Cond.methodLink "PowerBonds" 120 M_Pa_takeShare.1 ∈ G := G_at (i := 436) (by decide +kernel) rfl
set_option maxRecDepth 100000 in
theorem ml_Pb_124 : Cond.methodLink "PowerBonds" 124 M_Pb_worthOf.1 ∈ G := G_at (i := 437) (by decide +kernel) rfl
set_option maxRecDepth 100000 in
theorem kc_Pb_329 : Cond.constant "PowerBonds" 329 (1000003) ∈ G := G_at (i := 440) (by decide +kernel) rfl
set_option maxRecDepth 100000 in
theorem ml_Pb_330 : Cond.methodLink "PowerBonds" 330 M_Jm_floorMod.1 ∈ G := G_at (i := 441) (by decide +kernel) rfl
set_option maxRecDepth 100000 in
theorem ml_Lw_31 : Cond.methodLink "PowerBondsLaw" 31 M_Pb_bond.1 ∈ G := G_at (i := 444) (by decide +kernel) rfl
set_option maxRecDepth 100000 in
theorem ml_Lw_35 : Cond.methodLink "PowerBondsLaw" 35 M_Pb_breaks.1 ∈ G := G_at (i := 448) (by decide +kernel) rfl
set_option maxRecDepth 100000 in
theorem ml_Pb_136 : Cond.methodLink "PowerBonds" 136 M_Ma_hasBond.1 ∈ G := G_at (i := 452) (by decide +kernel) rfl
set_option maxRecDepth 100000 in
theorem ml_Pb_139 : Cond.methodLink "PowerBonds" 139 M_Ma_dropBond.1 ∈ G := G_at (i := 456) (by decide +kernel) rfl
set_option maxRecDepth 100000 in
theorem ml_Lw_40 : Cond.methodLink "PowerBondsLaw" 40 M_Pb_of.1 ∈ G := G_at (i := 460) (by decide +kernel) rfl
set_option maxRecDepth 100000 in
theorem ml_Pb_142 : Cond.methodLink "PowerBonds" 142 M_Pb_settlerOf.1 ∈ G := G_at (i := 464) (by decide +kernel) rfl
set_option maxRecDepth 100000 in
theorem ml_Pb_149 : Cond.methodLink "PowerBonds" 149 M_Ma_isWhole.1 ∈ G := G_at (i := 468) (by decide +kernel) rfl
set_option maxRecDepth 100000 in
theorem ml_Ma_48 : Cond.methodLink "PowerBonds$Machine" 48 M_Ma_endsOf.1 ∈ G := G_at (i := 472) (by decide +kernel) rfl
set_option maxRecDepth 100000 in
theorem ml_Ma_52 : Cond.methodLink "PowerBonds$Machine" 52 M_Pa_wants.1 ∈ G := G_at (i := 473) (by decide +kernel) rfl
set_option maxRecDepth 100000 in
theorem kc_Pb_157 : Cond.constant "PowerBonds" 157 (-1000000002) ∈ G := G_at (i := 474) (by decide +kernel) rfl
set_option maxRecDepth 100000 in
theorem ml_Pb_158 : Cond.methodLink "PowerBonds" 158 M_Lu_survey.1 ∈ G := G_at (i := 475) (by decide +kernel) rfl
set_option maxRecDepth 100000 in
theorem ml_Lu_33 : Cond.methodLink "PowerBonds$LineUps" 33 M_Lu_lookAt.1 ∈ G := G_at (i := 479) (by decide +kernel) rfl
set_option maxRecDepth 100000 in
theorem ml_Lu_46 : Cond.methodLink "PowerBonds$LineUps" 46 M_Lu_firstAgainst.1 ∈ G := G_at (i := 483) (by decide +kernel) rfl
set_option maxRecDepth 100000 in
theorem ml_Lu_71 : Cond.methodLink "PowerBonds$LineUps" 71 M_Lu_allows.1 ∈ G := G_at (i := 487) (by decide +kernel) rfl
set_option maxRecDepth 100000 in
theorem ml_Lu_75 : Cond.methodLink "PowerBonds$LineUps" 75 M_Lu_settledBy.1 ∈ G := G_at (i := 491) (by decide +kernel) rfl
set_option maxRecDepth 100000 in
theorem ml_Lu_81 : Cond.methodLink "PowerBonds$LineUps" 81 M_Ji_bitCount.1 ∈ G := G_at (i := 495) (by decide +kernel) rfl
set_option maxRecDepth 100000 in
theorem kc_Ji_265 : Cond.constant "java/lang/Integer" 265 (1431655765) ∈ G := G_at (i := 498) (by decide +kernel) rfl
set_option maxRecDepth 100000 in
theorem kc_Ji_266 : Cond.constant "java/lang/Integer" 266 (858993459) ∈ G := G_at (i := 499) (by decide +kernel) rfl
set_option maxRecDepth 100000 in
theorem kc_Ji_267 : Cond.constant "java/lang/Integer" 267 (252645135) ∈ G := G_at (i := 500) (by decide +kernel) rfl
set_option maxRecDepth 100000 in
theorem ml_Lu_50 : Cond.methodLink "PowerBonds$LineUps" 50 M_Lu_weigh.1 ∈ G := G_at (i := 501) (by decide +kernel) rfl
set_option maxRecDepth 100000 in
theorem ml_Lu_67 : Cond.methodLink "PowerBonds$LineUps" 67 M_Lu_sums.1 ∈ G := G_at (i := 505) (by decide +kernel) rfl
set_option maxRecDepth 100000 in
theorem ml_Lu_54 : Cond.methodLink "PowerBonds$LineUps" 54 M_Lu_nextWithout.1 ∈ G := G_at (i := 509) (by decide +kernel) rfl
set_option maxRecDepth 100000 in
theorem kc_Pb_165 : Cond.constant "PowerBonds" 165 (-1000000007) ∈ G := G_at (i := 513) (by decide +kernel) rfl
set_option maxRecDepth 100000 in
theorem ml_Pb_145 : Cond.methodLink "PowerBonds" 145 M_Pb_carriedBy.1 ∈ G := G_at (i := 514) (by decide +kernel) rfl
set_option maxRecDepth 100000 in
theorem ml_Pb_153 : Cond.methodLink "PowerBonds" 153 M_An_solve.1 ∈ G := G_at (i := 518) (by decide +kernel) rfl
set_option maxRecDepth 100000 in
theorem ml_An_23 : Cond.methodLink "PowerBonds$Answer" 23 M_Ma_isWhole.1 ∈ G := G_at (i := 522) (by decide +kernel) rfl
set_option maxRecDepth 100000 in
theorem kc_An_29 : Cond.constant "PowerBonds$Answer" 29 (-1000000002) ∈ G := G_at (i := 523) (by decide +kernel) rfl
set_option maxRecDepth 100000 in
theorem ml_An_30 : Cond.methodLink "PowerBonds$Answer" 30 M_An_writeLaws.1 ∈ G := G_at (i := 524) (by decide +kernel) rfl
set_option maxRecDepth 100000 in
theorem ml_An_60 : Cond.methodLink "PowerBonds$Answer" 60 M_Ma_nextBondOf.1 ∈ G := G_at (i := 528) (by decide +kernel) rfl
set_option maxRecDepth 100000 in
theorem ml_An_68 : Cond.methodLink "PowerBonds$Answer" 68 M_An_writeTurn.1 ∈ G := G_at (i := 532) (by decide +kernel) rfl
set_option maxRecDepth 100000 in
theorem ml_An_94 : Cond.methodLink "PowerBonds$Answer" 94 M_Pa_shareWorth.1 ∈ G := G_at (i := 536) (by decide +kernel) rfl
set_option maxRecDepth 100000 in
theorem ml_An_49 : Cond.methodLink "PowerBonds$Answer" 49 M_An_column.1 ∈ G := G_at (i := 537) (by decide +kernel) rfl
set_option maxRecDepth 100000 in
theorem ml_An_97 : Cond.methodLink "PowerBonds$Answer" 97 M_An_writeTimes.1 ∈ G := G_at (i := 540) (by decide +kernel) rfl
set_option maxRecDepth 100000 in
theorem ml_An_86 : Cond.methodLink "PowerBonds$Answer" 86 M_An_newRow.1 ∈ G := G_at (i := 544) (by decide +kernel) rfl
set_option maxRecDepth 100000 in
theorem ml_An_80 : Cond.methodLink "PowerBonds$Answer" 80 M_Ja_fillJ.1 ∈ G := G_at (i := 548) (by decide +kernel) rfl
set_option maxRecDepth 100000 in
theorem kc_An_90 : Cond.constant "PowerBonds$Answer" 90 (1000003) ∈ G := G_at (i := 551) (by decide +kernel) rfl
set_option maxRecDepth 100000 in
theorem ml_An_72 : Cond.methodLink "PowerBonds$Answer" 72 M_An_writeJoin.1 ∈ G := G_at (i := 552) (by decide +kernel) rfl
set_option maxRecDepth 100000 in
theorem kl_An_114 : Cond.constantLong "PowerBonds$Answer" 114 (1000002) ∈ G := G_at (i := 556) (by decide +kernel) rfl
set_option maxRecDepth 100000 in
theorem ml_An_76 : Cond.methodLink "PowerBonds$Answer" 76 M_An_writeEnd.1 ∈ G := G_at (i := 557) (by decide +kernel) rfl
set_option maxRecDepth 100000 in
theorem mn_An_104 : Cond.methodLinkNest "PowerBonds$Answer" 104 M_Pb_product.1 "PowerBonds" ∈ Gn := Gn_at (i := 561) (by decide +kernel) rfl
set_option maxRecDepth 100000 in
theorem ml_An_34 : Cond.methodLink "PowerBonds$Answer" 34 M_An_reduce.1 ∈ G := G_at (i := 562) (by decide +kernel) rfl
set_option maxRecDepth 100000 in
theorem ml_An_116 : Cond.methodLink "PowerBonds$Answer" 116 M_An_rowWith.1 ∈ G := G_at (i := 566) (by decide +kernel) rfl
set_option maxRecDepth 100000 in
theorem ml_An_119 : Cond.methodLink "PowerBonds$Answer" 119 M_An_scale.1 ∈ G := G_at (i := 570) (by decide +kernel) rfl
set_option maxRecDepth 100000 in
theorem mn_An_127 : Cond.methodLinkNest "PowerBonds$Answer" 127 M_Pb_inverse.1 "PowerBonds" ∈ Gn := Gn_at (i := 574) (by decide +kernel) rfl
set_option maxRecDepth 100000 in
theorem kl_An_131 : Cond.constantLong "PowerBonds$Answer" 131 (1000003) ∈ G := G_at (i := 575) (by decide +kernel) rfl
set_option maxRecDepth 100000 in
theorem ml_An_123 : Cond.methodLink "PowerBonds$Answer" 123 M_An_clearOthers.1 ∈ G := G_at (i := 576) (by decide +kernel) rfl
set_option maxRecDepth 100000 in
theorem kc_An_45 : Cond.constant "PowerBonds$Answer" 45 (-1000000006) ∈ G := G_at (i := 580) (by decide +kernel) rfl
set_option maxRecDepth 100000 in
theorem ml_Pb_257 : Cond.methodLink "PowerBonds" 257 M_Pb_product.1 ∈ G := G_at (i := 581) (by decide +kernel) rfl
set_option maxRecDepth 100000 in
theorem ml_Lw_44 : Cond.methodLink "PowerBondsLaw" 44 M_Pb_whole.1 ∈ G := G_at (i := 582) (by decide +kernel) rfl
set_option maxRecDepth 100000 in
theorem ml_Lw_49 : Cond.methodLink "PowerBondsLaw" 49 M_Pb_answers.1 ∈ G := G_at (i := 586) (by decide +kernel) rfl
set_option maxRecDepth 100000 in
theorem ml_Lw_53 : Cond.methodLink "PowerBondsLaw" 53 M_Pb_strokes.1 ∈ G := G_at (i := 590) (by decide +kernel) rfl
set_option maxRecDepth 100000 in
theorem ml_Pb_172 : Cond.methodLink "PowerBonds" 172 M_Lu_tiedStores.1 ∈ G := G_at (i := 594) (by decide +kernel) rfl
set_option maxRecDepth 100000 in
theorem ml_Lw_57 : Cond.methodLink "PowerBondsLaw" 57 M_Pb_can.1 ∈ G := G_at (i := 598) (by decide +kernel) rfl
set_option maxRecDepth 100000 in
theorem ml_Pb_175 : Cond.methodLink "PowerBonds" 175 M_Lu_lookAt.1 ∈ G := G_at (i := 602) (by decide +kernel) rfl
set_option maxRecDepth 100000 in
theorem ml_Pb_178 : Cond.methodLink "PowerBonds" 178 M_Lu_firstAgainst.1 ∈ G := G_at (i := 603) (by decide +kernel) rfl
set_option maxRecDepth 100000 in
theorem ml_Lw_61 : Cond.methodLink "PowerBondsLaw" 61 M_Pb_run.1 ∈ G := G_at (i := 604) (by decide +kernel) rfl
set_option maxRecDepth 100000 in
theorem ml_Pb_185 : Cond.methodLink "PowerBonds" 185 M_Ma_takeFrom.1 ∈ G := G_at (i := 608) (by decide +kernel) rfl
set_option maxRecDepth 100000 in
theorem ml_Ma_35 : Cond.methodLink "PowerBonds$Machine" 35 M_Pa_takeFrom.1 ∈ G := G_at (i := 612) (by decide +kernel) rfl
set_option maxRecDepth 100000 in
theorem ml_Pb_188 : Cond.methodLink "PowerBonds" 188 M_Ma_doStep.1 ∈ G := G_at (i := 616) (by decide +kernel) rfl
set_option maxRecDepth 100000 in
theorem ml_Ma_86 : Cond.methodLink "PowerBonds$Machine" 86 M_Ma_nextBondOf.1 ∈ G := G_at (i := 620) (by decide +kernel) rfl
set_option maxRecDepth 100000 in
theorem mn_Ma_62 : Cond.methodLinkNest "PowerBonds$Machine" 62 M_Pb_worthOf.1 "PowerBonds" ∈ Gn := Gn_at (i := 621) (by decide +kernel) rfl
set_option maxRecDepth 100000 in
theorem ml_Ma_100 : Cond.methodLink "PowerBonds$Machine" 100 M_Ma_followText.1 ∈ G := G_at (i := 622) (by decide +kernel) rfl
set_option maxRecDepth 100000 in
theorem ml_Ma_75 : Cond.methodLink "PowerBonds$Machine" 75 M_Ma_textFor.1 ∈ G := G_at (i := 626) (by decide +kernel) rfl
set_option maxRecDepth 100000 in
theorem ml_Ma_79 : Cond.methodLink "PowerBonds$Machine" 79 M_Ma_hasPart.1 ∈ G := G_at (i := 630) (by decide +kernel) rfl
set_option maxRecDepth 100000 in
theorem ml_Ma_82 : Cond.methodLink "PowerBonds$Machine" 82 M_Ma_textGives.1 ∈ G := G_at (i := 631) (by decide +kernel) rfl
set_option maxRecDepth 100000 in
theorem ml_Ma_71 : Cond.methodLink "PowerBonds$Machine" 71 M_Tx_workOut.1 ∈ G := G_at (i := 635) (by decide +kernel) rfl
set_option maxRecDepth 100000 in
theorem ml_Tx_23 : Cond.methodLink "PowerBonds$Text" 23 M_Tx_truth.1 ∈ G := G_at (i := 639) (by decide +kernel) rfl
set_option maxRecDepth 100000 in
theorem ml_Tx_27 : Cond.methodLink "PowerBonds$Text" 27 M_Tx_isOperand.1 ∈ G := G_at (i := 642) (by decide +kernel) rfl
set_option maxRecDepth 100000 in
theorem ml_Tx_31 : Cond.methodLink "PowerBonds$Text" 31 M_Tx_valueOf.1 ∈ G := G_at (i := 645) (by decide +kernel) rfl
set_option maxRecDepth 100000 in
theorem ml_Tx_35 : Cond.methodLink "PowerBonds$Text" 35 M_Tx_join.1 ∈ G := G_at (i := 648) (by decide +kernel) rfl
set_option maxRecDepth 100000 in
theorem ml_Lw_65 : Cond.methodLink "PowerBondsLaw" 65 M_Pb_feed.1 ∈ G := G_at (i := 651) (by decide +kernel) rfl
set_option maxRecDepth 100000 in
theorem ml_Pb_195 : Cond.methodLink "PowerBonds" 195 M_Ta_putBytes.1 ∈ G := G_at (i := 655) (by decide +kernel) rfl
set_option maxRecDepth 100000 in
theorem ml_Lw_69 : Cond.methodLink "PowerBondsLaw" 69 M_Pb_trim.1 ∈ G := G_at (i := 659) (by decide +kernel) rfl
set_option maxRecDepth 100000 in
theorem ml_Lw_73 : Cond.methodLink "PowerBondsLaw" 73 M_Pb_text.1 ∈ G := G_at (i := 663) (by decide +kernel) rfl
set_option maxRecDepth 100000 in
theorem ml_Pb_198 : Cond.methodLink "PowerBonds" 198 M_Ta_parse.1 ∈ G := G_at (i := 667) (by decide +kernel) rfl
set_option maxRecDepth 100000 in
theorem ml_Ta_35 : Cond.methodLink "PowerBonds$Tape" 35 M_Ta_goOn.1 ∈ G := G_at (i := 671) (by decide +kernel) rfl
set_option maxRecDepth 100000 in
theorem ml_Ta_66 : Cond.methodLink "PowerBonds$Tape" 66 M_Ta_sortAt.1 ∈ G := G_at (i := 675) (by decide +kernel) rfl
set_option maxRecDepth 100000 in
theorem ml_Ta_38 : Cond.methodLink "PowerBonds$Tape" 38 M_Ta_keyHere.1 ∈ G := G_at (i := 679) (by decide +kernel) rfl
set_option maxRecDepth 100000 in
theorem ml_Ta_72 : Cond.methodLink "PowerBonds$Tape" 72 M_Ta_isWord.1 ∈ G := G_at (i := 684) (by decide +kernel) rfl
set_option maxRecDepth 100000 in
theorem ml_Ta_78 : Cond.methodLink "PowerBonds$Tape" 78 M_Js_length.1 ∈ G := G_at (i := 688) (by decide +kernel) rfl
set_option maxRecDepth 100000 in
theorem ml_Js_335 : Cond.methodLink "java/lang/String" 335 M_Js_coder.1 ∈ G := G_at (i := 692) (by decide +kernel) rfl
set_option maxRecDepth 100000 in
theorem fx_Js_38 : Cond.fieldLink "java/lang/String" 38 "java/lang/String" "COMPACT_STRINGS" "Z" ∈ G := G_at (i := 696) (by decide +kernel) rfl
set_option maxRecDepth 100000 in
theorem ml_Ta_83 : Cond.methodLink "PowerBonds$Tape" 83 M_Js_charAt.1 ∈ G := G_at (i := 698) (by decide +kernel) rfl
set_option maxRecDepth 100000 in
theorem ml_Js_492 : Cond.methodLink "java/lang/String" 492 M_Js_isLatin1.1 ∈ G := G_at (i := 702) (by decide +kernel) rfl
set_option maxRecDepth 100000 in
theorem ml_Js_495 : Cond.methodLink "java/lang/String" 495 M_Jl_charAt.1 ∈ G := G_at (i := 706) (by decide +kernel) rfl
set_option maxRecDepth 100000 in
theorem ml_Jl_9 : Cond.methodLink "java/lang/StringLatin1" 9 M_Js_checkIndex.1 ∈ G := G_at (i := 709) (by decide +kernel) rfl
set_option maxRecDepth 100000 in
theorem fx_Js_1053 : Cond.fieldLink "java/lang/String" 1053 "jdk/internal/util/Preconditions" "SIOOBE_FORMATTER" "Ljava/util/function/BiFunction;" ∈ G := G_at (i := 712) (by decide +kernel) rfl
set_option maxRecDepth 100000 in
theorem ml_Js_1059 : Cond.methodLink "java/lang/String" 1059 M_Jp_checkIndex.1 ∈ G := G_at (i := 714) (by decide +kernel) rfl
set_option maxRecDepth 100000 in
theorem ml_Js_498 : Cond.methodLink "java/lang/String" 498 M_Ju_charAt.1 ∈ G := G_at (i := 717) (by decide +kernel) rfl
set_option maxRecDepth 100000 in
theorem ml_Ju_67 : Cond.methodLink "java/lang/StringUTF16" 67 M_Ju_checkIndex.1 ∈ G := G_at (i := 720) (by decide +kernel) rfl
set_option maxRecDepth 100000 in
theorem ml_Ju_48 : Cond.methodLink "java/lang/StringUTF16" 48 M_Ju_length.1 ∈ G := G_at (i := 723) (by decide +kernel) rfl
set_option maxRecDepth 100000 in
theorem ml_Ju_414 : Cond.methodLink "java/lang/StringUTF16" 414 M_Js_checkIndex.1 ∈ G := G_at (i := 726) (by decide +kernel) rfl
set_option maxRecDepth 100000 in
theorem ml_Ju_71 : Cond.methodLink "java/lang/StringUTF16" 71 M_Ju_getChar.1 ∈ G := G_at (i := 727) (by decide +kernel) rfl
set_option maxRecDepth 100000 in
theorem fx_Ju_44 : Cond.fieldLink "java/lang/StringUTF16" 44 "java/lang/StringUTF16" "$assertionsDisabled" "Z" ∈ G := G_at (i := 730) (by decide +kernel) rfl
set_option maxRecDepth 100000 in
theorem fx_Ju_59 : Cond.fieldLink "java/lang/StringUTF16" 59 "java/lang/StringUTF16" "HI_BYTE_SHIFT" "I" ∈ G := G_at (i := 732) (by decide +kernel) rfl
set_option maxRecDepth 100000 in
theorem fx_Ju_63 : Cond.fieldLink "java/lang/StringUTF16" 63 "java/lang/StringUTF16" "LO_BYTE_SHIFT" "I" ∈ G := G_at (i := 734) (by decide +kernel) rfl
set_option maxRecDepth 100000 in
theorem ml_Ta_45 : Cond.methodLink "PowerBonds$Tape" 45 M_Ta_numberHere.1 ∈ G := G_at (i := 737) (by decide +kernel) rfl
set_option maxRecDepth 100000 in
theorem ml_Ta_48 : Cond.methodLink "PowerBonds$Tape" 48 M_Ta_readLevel.1 ∈ G := G_at (i := 741) (by decide +kernel) rfl
set_option maxRecDepth 100000 in
theorem ml_Ta_91 : Cond.methodLink "PowerBonds$Tape" 91 M_Ta_readPiece.1 ∈ G := G_at (i := 745) (by decide +kernel) rfl
set_option maxRecDepth 100000 in
theorem ml_Ta_87 : Cond.methodLink "PowerBonds$Tape" 87 M_Ta_isSign.1 ∈ G := G_at (i := 749) (by decide +kernel) rfl
set_option maxRecDepth 100000 in
theorem ml_Ta_98 : Cond.methodLink "PowerBonds$Tape" 98 M_Ta_put.1 ∈ G := G_at (i := 753) (by decide +kernel) rfl
set_option maxRecDepth 100000 in
theorem ml_Ta_102 : Cond.methodLink "PowerBonds$Tape" 102 M_Ta_readOperand.1 ∈ G := G_at (i := 757) (by decide +kernel) rfl
set_option maxRecDepth 100000 in
theorem ml_Ta_106 : Cond.methodLink "PowerBonds$Tape" 106 M_Ta_isName.1 ∈ G := G_at (i := 761) (by decide +kernel) rfl
set_option maxRecDepth 100000 in
theorem ml_Ta_95 : Cond.methodLink "PowerBonds$Tape" 95 M_Ta_joinsAt.1 ∈ G := G_at (i := 765) (by decide +kernel) rfl
set_option maxRecDepth 100000 in
theorem cl_Ta_52 : Cond.classLink "PowerBonds$Tape" 52 "PowerBonds$Text" ∈ G := G_at (i := 769) (by decide +kernel) rfl
set_option maxRecDepth 100000 in
theorem in_Tx : Cond.instantiable "PowerBonds$Text" 4 ∈ G := G_at (i := 770) (by decide +kernel) rfl
set_option maxRecDepth 100000 in
theorem ml_Ta_54 : Cond.methodLink "PowerBonds$Tape" 54 M_Ja_copyOf.1 ∈ G := G_at (i := 771) (by decide +kernel) rfl
set_option maxRecDepth 100000 in
theorem cl_Ja_317 : Cond.classLink "java/util/Arrays" 317 "[I" ∈ G := G_at (i := 780) (by decide +kernel) rfl
set_option maxRecDepth 100000 in
theorem ml_Ja_304 : Cond.methodLink "java/util/Arrays" 304 M_Jm_min.1 ∈ G := G_at (i := 781) (by decide +kernel) rfl
set_option maxRecDepth 100000 in
theorem ml_Ja_150 : Cond.methodLink "java/util/Arrays" 150 arraycopyName ∈ G := G_at (i := 784) (by decide +kernel) rfl
set_option maxRecDepth 100000 in
theorem ml_Ta_60 : Cond.methodLink "PowerBonds$Tape" 60 M_Tx_init.1 ∈ G := G_at (i := 787) (by decide +kernel) rfl
set_option maxRecDepth 100000 in
theorem ml_Tx_1 : Cond.methodLink "PowerBonds$Text" 1 Lib.objectInit ∈ G := G_at (i := 790) (by decide +kernel) rfl
set_option maxRecDepth 100000 in
theorem fl_Tx_7 : FL "PowerBonds$Text" 7 7 0 := ⟨⟨by decide, by decide⟩, G_at (i := 791) (by decide +kernel) rfl⟩
set_option maxRecDepth 100000 in
theorem fl_Ma_65 : FL "PowerBonds$Machine" 65 7 0 := ⟨⟨by decide, by decide⟩, G_at (i := 792) (by decide +kernel) rfl⟩
set_option maxRecDepth 100000 in
theorem fl_Pb_212 : FL "PowerBonds" 212 7 0 := ⟨⟨by decide, by decide⟩, G_at (i := 793) (by decide +kernel) rfl⟩
set_option maxRecDepth 100000 in
theorem fl_Tx_13 : FL "PowerBonds$Text" 13 7 1 := ⟨⟨by decide, by decide⟩, G_at (i := 794) (by decide +kernel) rfl⟩
set_option maxRecDepth 100000 in
theorem fl_Ma_68 : FL "PowerBonds$Machine" 68 7 1 := ⟨⟨by decide, by decide⟩, G_at (i := 795) (by decide +kernel) rfl⟩
set_option maxRecDepth 100000 in
theorem fl_Pb_217 : FL "PowerBonds" 217 7 1 := ⟨⟨by decide, by decide⟩, G_at (i := 796) (by decide +kernel) rfl⟩
set_option maxRecDepth 100000 in
theorem fl_Tx_16 : FL "PowerBonds$Text" 16 7 2 := ⟨⟨by decide, by decide⟩, G_at (i := 797) (by decide +kernel) rfl⟩
set_option maxRecDepth 100000 in
theorem fl_Pb_224 : FL "PowerBonds" 224 7 2 := ⟨⟨by decide, by decide⟩, G_at (i := 798) (by decide +kernel) rfl⟩
set_option maxRecDepth 100000 in
theorem fl_Tx_19 : FL "PowerBonds$Text" 19 7 3 := ⟨⟨by decide, by decide⟩, G_at (i := 799) (by decide +kernel) rfl⟩
set_option maxRecDepth 100000 in
theorem ml_Pb_220 : Cond.methodLink "PowerBonds" 220 M_Ma_followText.1 ∈ G := G_at (i := 809) (by decide +kernel) rfl
set_option maxRecDepth 100000 in
theorem ml_Lw_77 : Cond.methodLink "PowerBondsLaw" 77 M_Pb_textTold.1 ∈ G := G_at (i := 810) (by decide +kernel) rfl
set_option maxRecDepth 100000 in
theorem ml_Lw_81 : Cond.methodLink "PowerBondsLaw" 81 M_Pb_why.1 ∈ G := G_at (i := 814) (by decide +kernel) rfl
set_option maxRecDepth 100000 in
theorem ml_Pb_227 : Cond.methodLink "PowerBonds" 227 M_Ma_textFor.1 ∈ G := G_at (i := 818) (by decide +kernel) rfl
set_option maxRecDepth 100000 in
theorem kc_Pb_230 : Cond.constant "PowerBonds" 230 (-1000000005) ∈ G := G_at (i := 819) (by decide +kernel) rfl
set_option maxRecDepth 100000 in
theorem ml_Lw_85 : Cond.methodLink "PowerBondsLaw" 85 M_Pb_read.1 ∈ G := G_at (i := 820) (by decide +kernel) rfl
set_option maxRecDepth 100000 in
theorem ml_Pb_237 : Cond.methodLink "PowerBonds" 237 M_Ma_textGives.1 ∈ G := G_at (i := 824) (by decide +kernel) rfl
set_option maxRecDepth 100000 in
theorem ml_Lw_89 : Cond.methodLink "PowerBondsLaw" 89 M_Pb_moves.1 ∈ G := G_at (i := 825) (by decide +kernel) rfl
set_option maxRecDepth 100000 in
theorem ml_Lw_93 : Cond.methodLink "PowerBondsLaw" 93 M_Pb_signs.1 ∈ G := G_at (i := 829) (by decide +kernel) rfl
set_option maxRecDepth 100000 in
theorem ml_Pb_241 : Cond.methodLink "PowerBonds" 241 M_Pb_signsOf.1 ∈ G := G_at (i := 833) (by decide +kernel) rfl
set_option maxRecDepth 100000 in
theorem ml_Lw_97 : Cond.methodLink "PowerBondsLaw" 97 M_Pb_apart.1 ∈ G := G_at (i := 837) (by decide +kernel) rfl
set_option maxRecDepth 100000 in
theorem ml_Lw_101 : Cond.methodLink "PowerBondsLaw" 101 M_Pb_dual.1 ∈ G := G_at (i := 841) (by decide +kernel) rfl
set_option maxRecDepth 100000 in
theorem ml_Pb_244 : Cond.methodLink "PowerBonds" 244 M_Pa_turnToDual.1 ∈ G := G_at (i := 845) (by decide +kernel) rfl
set_option maxRecDepth 100000 in
theorem ml_Lw_105 : Cond.methodLink "PowerBondsLaw" 105 M_Pb_rings.1 ∈ G := G_at (i := 849) (by decide +kernel) rfl
set_option maxRecDepth 100000 in
theorem ml_Pb_247 : Cond.methodLink "PowerBonds" 247 M_Ma_pieces.1 ∈ G := G_at (i := 853) (by decide +kernel) rfl
set_option maxRecDepth 100000 in
theorem ml_Ma_104 : Cond.methodLink "PowerBonds$Machine" 104 M_Ma_withNeighbours.1 ∈ G := G_at (i := 857) (by decide +kernel) rfl
set_option maxRecDepth 100000 in
theorem ml_Lw_109 : Cond.methodLink "PowerBondsLaw" 109 M_Pb_way.1 ∈ G := G_at (i := 861) (by decide +kernel) rfl
set_option maxRecDepth 100000 in
theorem ml_Pb_250 : Cond.methodLink "PowerBonds" 250 M_Ma_withNeighbours.1 ∈ G := G_at (i := 865) (by decide +kernel) rfl
set_option maxRecDepth 100000 in
theorem ml_Lw_113 : Cond.methodLink "PowerBondsLaw" 113 M_Pb_worth.1 ∈ G := G_at (i := 866) (by decide +kernel) rfl
set_option maxRecDepth 100000 in
theorem ml_Pb_253 : Cond.methodLink "PowerBonds" 253 M_Pb_inverse.1 ∈ G := G_at (i := 870) (by decide +kernel) rfl
set_option maxRecDepth 100000 in
theorem ml_Lw_117 : Cond.methodLink "PowerBondsLaw" 117 M_Pb_sheet.1 ∈ G := G_at (i := 871) (by decide +kernel) rfl
set_option maxRecDepth 100000 in
theorem ml_Pb_261 : Cond.methodLink "PowerBonds" 261 M_Pb_isSheet.1 ∈ G := G_at (i := 875) (by decide +kernel) rfl
set_option maxRecDepth 100000 in
theorem kc_Pb_264 : Cond.constant "PowerBonds" 264 (-1000000014) ∈ G := G_at (i := 878) (by decide +kernel) rfl
set_option maxRecDepth 100000 in
theorem ml_Pb_265 : Cond.methodLink "PowerBonds" 265 M_Sh_become.1 ∈ G := G_at (i := 879) (by decide +kernel) rfl
set_option maxRecDepth 100000 in
theorem ml_Sh_22 : Cond.methodLink "PowerBonds$Sheet" 22 M_Ja_fill.1 ∈ G := G_at (i := 883) (by decide +kernel) rfl
set_option maxRecDepth 100000 in
theorem ml_Lw_121 : Cond.methodLink "PowerBondsLaw" 121 M_Pb_mark.1 ∈ G := G_at (i := 886) (by decide +kernel) rfl
set_option maxRecDepth 100000 in
theorem kc_Pb_269 : Cond.constant "PowerBonds" 269 (-1000000011) ∈ G := G_at (i := 890) (by decide +kernel) rfl
set_option maxRecDepth 100000 in
theorem ml_Pb_270 : Cond.methodLink "PowerBonds" 270 M_Sh_hasPlace.1 ∈ G := G_at (i := 891) (by decide +kernel) rfl
set_option maxRecDepth 100000 in
theorem kc_Pb_273 : Cond.constant "PowerBonds" 273 (-1000000013) ∈ G := G_at (i := 895) (by decide +kernel) rfl
set_option maxRecDepth 100000 in
theorem ml_Lw_125 : Cond.methodLink "PowerBondsLaw" 125 M_Pb_pour.1 ∈ G := G_at (i := 896) (by decide +kernel) rfl
set_option maxRecDepth 100000 in
theorem ml_Lw_129 : Cond.methodLink "PowerBondsLaw" 129 M_Pb_copy.1 ∈ G := G_at (i := 900) (by decide +kernel) rfl
set_option maxRecDepth 100000 in
theorem ml_Pb_277 : Cond.methodLink "PowerBonds" 277 M_Sh_hasRow.1 ∈ G := G_at (i := 904) (by decide +kernel) rfl
set_option maxRecDepth 100000 in
theorem ml_Pb_281 : Cond.methodLink "PowerBonds" 281 arraycopyName ∈ G := G_at (i := 908) (by decide +kernel) rfl
set_option maxRecDepth 100000 in
theorem ml_Lw_134 : Cond.methodLink "PowerBondsLaw" 134 M_Pb_lay.1 ∈ G := G_at (i := 909) (by decide +kernel) rfl
set_option maxRecDepth 100000 in
theorem ml_Pb_287 : Cond.methodLink "PowerBonds" 287 M_Pb_isSlot.1 ∈ G := G_at (i := 913) (by decide +kernel) rfl
set_option maxRecDepth 100000 in
theorem ml_Pb_297 : Cond.methodLink "PowerBonds" 297 M_Pa_takeFrom.1 ∈ G := G_at (i := 916) (by decide +kernel) rfl
set_option maxRecDepth 100000 in
theorem ml_Pb_304 : Cond.methodLink "PowerBonds" 304 M_Sh_takeFrom.1 ∈ G := G_at (i := 917) (by decide +kernel) rfl
set_option maxRecDepth 100000 in
theorem ml_Sh_28 : Cond.methodLink "PowerBonds$Sheet" 28 arraycopyName ∈ G := G_at (i := 921) (by decide +kernel) rfl
set_option maxRecDepth 100000 in
theorem ml_Lw_138 : Cond.methodLink "PowerBondsLaw" 138 M_Pb_ask.1 ∈ G := G_at (i := 922) (by decide +kernel) rfl
set_option maxRecDepth 100000 in
theorem ml_Pb_310 : Cond.methodLink "PowerBonds" 310 M_Sl_refusalFor.1 ∈ G := G_at (i := 926) (by decide +kernel) rfl
set_option maxRecDepth 100000 in
theorem kc_Sl_29 : Cond.constant "PowerBonds$Slot" 29 (-1000000011) ∈ G := G_at (i := 930) (by decide +kernel) rfl
set_option maxRecDepth 100000 in
theorem kc_Sl_30 : Cond.constant "PowerBonds$Slot" 30 (-1000000012) ∈ G := G_at (i := 931) (by decide +kernel) rfl
set_option maxRecDepth 100000 in
theorem ml_Lw_142 : Cond.methodLink "PowerBondsLaw" 142 M_Pb_item.1 ∈ G := G_at (i := 932) (by decide +kernel) rfl
set_option maxRecDepth 100000 in
theorem ml_Lw_146 : Cond.methodLink "PowerBondsLaw" 146 M_Pb_rest.1 ∈ G := G_at (i := 936) (by decide +kernel) rfl
set_option maxRecDepth 100000 in
theorem ml_Lw_150 : Cond.methodLink "PowerBondsLaw" 150 M_Pb_tell.1 ∈ G := G_at (i := 940) (by decide +kernel) rfl
set_option maxRecDepth 100000 in
theorem ml_Lw_154 : Cond.methodLink "PowerBondsLaw" 154 M_Pb_check.1 ∈ G := G_at (i := 944) (by decide +kernel) rfl
set_option maxRecDepth 100000 in
theorem ml_Pb_320 : Cond.methodLink "PowerBonds" 320 M_Ma_storesTogether.1 ∈ G := G_at (i := 948) (by decide +kernel) rfl
set_option maxRecDepth 100000 in
theorem ml_Lw_158 : Cond.methodLink "PowerBondsLaw" 158 M_Pb_keep.1 ∈ G := G_at (i := 952) (by decide +kernel) rfl
set_option maxRecDepth 100000 in
theorem ml_Lw_162 : Cond.methodLink "PowerBondsLaw" 162 M_Pb_back.1 ∈ G := G_at (i := 956) (by decide +kernel) rfl
set_option maxRecDepth 100000 in
theorem ml_Lw_166 : Cond.methodLink "PowerBondsLaw" 166 M_Pb_count.1 ∈ G := G_at (i := 960) (by decide +kernel) rfl
set_option maxRecDepth 100000 in
theorem ml_Pb_323 : Cond.methodLink "PowerBonds" 323 M_Ma_stores.1 ∈ G := G_at (i := 964) (by decide +kernel) rfl
set_option maxRecDepth 100000 in
theorem cl_Lw_10 : Cond.classLink "PowerBondsLaw" 10 "PowerBondsModel" ∈ G := G_at (i := 968) (by decide +kernel) rfl
set_option maxRecDepth 100000 in
theorem in_Mo : Cond.instantiable "PowerBondsModel" 35 ∈ G := G_at (i := 969) (by decide +kernel) rfl
set_option maxRecDepth 100000 in
theorem ml_Lw_12 : Cond.methodLink "PowerBondsLaw" 12 M_Mo_init.1 ∈ G := G_at (i := 970) (by decide +kernel) rfl
set_option maxRecDepth 100000 in
theorem ml_Mo_1 : Cond.methodLink "PowerBondsModel" 1 Lib.objectInit ∈ G := G_at (i := 973) (by decide +kernel) rfl
set_option maxRecDepth 100000 in
theorem fl_Mo_7 : FL "PowerBondsModel" 7 9 0 := ⟨⟨by decide, by decide⟩, G_at (i := 974) (by decide +kernel) rfl⟩
set_option maxRecDepth 100000 in
theorem fl_Mo_13 : FL "PowerBondsModel" 13 9 1 := ⟨⟨by decide, by decide⟩, G_at (i := 975) (by decide +kernel) rfl⟩
set_option maxRecDepth 100000 in
theorem fl_Mo_16 : FL "PowerBondsModel" 16 9 2 := ⟨⟨by decide, by decide⟩, G_at (i := 976) (by decide +kernel) rfl⟩
set_option maxRecDepth 100000 in
theorem fl_Mo_348 : FL "PowerBondsModel" 348 9 3 := ⟨⟨by decide, by decide⟩, G_at (i := 977) (by decide +kernel) rfl⟩
set_option maxRecDepth 100000 in
theorem fl_Mo_19 : FL "PowerBondsModel" 19 9 4 := ⟨⟨by decide, by decide⟩, G_at (i := 978) (by decide +kernel) rfl⟩
set_option maxRecDepth 100000 in
theorem fl_Mo_22 : FL "PowerBondsModel" 22 9 5 := ⟨⟨by decide, by decide⟩, G_at (i := 979) (by decide +kernel) rfl⟩
set_option maxRecDepth 100000 in
theorem fl_Mo_25 : FL "PowerBondsModel" 25 9 6 := ⟨⟨by decide, by decide⟩, G_at (i := 980) (by decide +kernel) rfl⟩
set_option maxRecDepth 100000 in
theorem fl_Mo_28 : FL "PowerBondsModel" 28 9 7 := ⟨⟨by decide, by decide⟩, G_at (i := 981) (by decide +kernel) rfl⟩
set_option maxRecDepth 100000 in
theorem fl_Mo_31 : FL "PowerBondsModel" 31 9 8 := ⟨⟨by decide, by decide⟩, G_at (i := 982) (by decide +kernel) rfl⟩
set_option maxRecDepth 100000 in
theorem fl_Mo_34 : FL "PowerBondsModel" 34 9 9 := ⟨⟨by decide, by decide⟩, G_at (i := 983) (by decide +kernel) rfl⟩
set_option maxRecDepth 100000 in
theorem fl_Mo_37 : FL "PowerBondsModel" 37 9 10 := ⟨⟨by decide, by decide⟩, G_at (i := 984) (by decide +kernel) rfl⟩
set_option maxRecDepth 100000 in
theorem fl_Mo_40 : FL "PowerBondsModel" 40 9 11 := ⟨⟨by decide, by decide⟩, G_at (i := 985) (by decide +kernel) rfl⟩
set_option maxRecDepth 100000 in
theorem fl_Mo_43 : FL "PowerBondsModel" 43 9 12 := ⟨⟨by decide, by decide⟩, G_at (i := 986) (by decide +kernel) rfl⟩
set_option maxRecDepth 100000 in
theorem fl_Mo_146 : FL "PowerBondsModel" 146 9 13 := ⟨⟨by decide, by decide⟩, G_at (i := 987) (by decide +kernel) rfl⟩
set_option maxRecDepth 100000 in
theorem fl_Mo_47 : FL "PowerBondsModel" 47 9 14 := ⟨⟨by decide, by decide⟩, G_at (i := 988) (by decide +kernel) rfl⟩
set_option maxRecDepth 100000 in
theorem fl_Mo_50 : FL "PowerBondsModel" 50 9 15 := ⟨⟨by decide, by decide⟩, G_at (i := 989) (by decide +kernel) rfl⟩
set_option maxRecDepth 100000 in
theorem fl_Mo_229 : FL "PowerBondsModel" 229 9 16 := ⟨⟨by decide, by decide⟩, G_at (i := 990) (by decide +kernel) rfl⟩
set_option maxRecDepth 100000 in
theorem fl_Mo_246 : FL "PowerBondsModel" 246 9 17 := ⟨⟨by decide, by decide⟩, G_at (i := 991) (by decide +kernel) rfl⟩
set_option maxRecDepth 100000 in
theorem fl_Mo_240 : FL "PowerBondsModel" 240 9 18 := ⟨⟨by decide, by decide⟩, G_at (i := 992) (by decide +kernel) rfl⟩
set_option maxRecDepth 100000 in
theorem fl_Mo_243 : FL "PowerBondsModel" 243 9 19 := ⟨⟨by decide, by decide⟩, G_at (i := 993) (by decide +kernel) rfl⟩
set_option maxRecDepth 100000 in
theorem fl_Mo_258 : FL "PowerBondsModel" 258 9 20 := ⟨⟨by decide, by decide⟩, G_at (i := 994) (by decide +kernel) rfl⟩
set_option maxRecDepth 100000 in
theorem fl_Mo_252 : FL "PowerBondsModel" 252 9 21 := ⟨⟨by decide, by decide⟩, G_at (i := 995) (by decide +kernel) rfl⟩
set_option maxRecDepth 100000 in
theorem fl_Mo_304 : FL "PowerBondsModel" 304 9 22 := ⟨⟨by decide, by decide⟩, G_at (i := 996) (by decide +kernel) rfl⟩
set_option maxRecDepth 100000 in
theorem fl_Mo_301 : FL "PowerBondsModel" 301 9 23 := ⟨⟨by decide, by decide⟩, G_at (i := 997) (by decide +kernel) rfl⟩
set_option maxRecDepth 100000 in
theorem fl_Mo_271 : FL "PowerBondsModel" 271 9 24 := ⟨⟨by decide, by decide⟩, G_at (i := 998) (by decide +kernel) rfl⟩
set_option maxRecDepth 100000 in
theorem fl_Mo_268 : FL "PowerBondsModel" 268 9 25 := ⟨⟨by decide, by decide⟩, G_at (i := 999) (by decide +kernel) rfl⟩
set_option maxRecDepth 100000 in
theorem fl_Mo_295 : FL "PowerBondsModel" 295 9 26 := ⟨⟨by decide, by decide⟩, G_at (i := 1000) (by decide +kernel) rfl⟩
set_option maxRecDepth 100000 in
theorem fl_Mo_53 : FL "PowerBondsModel" 53 9 27 := ⟨⟨by decide, by decide⟩, G_at (i := 1001) (by decide +kernel) rfl⟩
set_option maxRecDepth 100000 in
theorem fl_Mo_56 : FL "PowerBondsModel" 56 9 28 := ⟨⟨by decide, by decide⟩, G_at (i := 1002) (by decide +kernel) rfl⟩
set_option maxRecDepth 100000 in
theorem fl_Mo_59 : FL "PowerBondsModel" 59 9 29 := ⟨⟨by decide, by decide⟩, G_at (i := 1003) (by decide +kernel) rfl⟩
set_option maxRecDepth 100000 in
theorem fl_Mo_62 : FL "PowerBondsModel" 62 9 30 := ⟨⟨by decide, by decide⟩, G_at (i := 1004) (by decide +kernel) rfl⟩
set_option maxRecDepth 100000 in
theorem fl_Mo_65 : FL "PowerBondsModel" 65 9 31 := ⟨⟨by decide, by decide⟩, G_at (i := 1005) (by decide +kernel) rfl⟩
set_option maxRecDepth 100000 in
theorem fl_Mo_68 : FL "PowerBondsModel" 68 9 32 := ⟨⟨by decide, by decide⟩, G_at (i := 1006) (by decide +kernel) rfl⟩
set_option maxRecDepth 100000 in
theorem fl_Mo_343 : FL "PowerBondsModel" 343 9 33 := ⟨⟨by decide, by decide⟩, G_at (i := 1007) (by decide +kernel) rfl⟩
set_option maxRecDepth 100000 in
theorem fl_Mo_71 : FL "PowerBondsModel" 71 9 34 := ⟨⟨by decide, by decide⟩, G_at (i := 1008) (by decide +kernel) rfl⟩
set_option maxRecDepth 100000 in
theorem ml_Lw_116 : Cond.methodLink "PowerBondsLaw" 116 M_Mo_worth.1 ∈ G := G_at (i := 1080) (by decide +kernel) rfl
set_option maxRecDepth 100000 in
theorem ml_Mo_75 : Cond.methodLink "PowerBondsModel" 75 M_Mo_isIn.1 ∈ G := G_at (i := 1084) (by decide +kernel) rfl
set_option maxRecDepth 100000 in
theorem kc_Mo_89 : Cond.constant "PowerBondsModel" 89 (-1000000001) ∈ G := G_at (i := 1087) (by decide +kernel) rfl
set_option maxRecDepth 100000 in
theorem ml_Mo_90 : Cond.methodLink "PowerBondsModel" 90 M_Mo_worthOf.1 ∈ G := G_at (i := 1088) (by decide +kernel) rfl
set_option maxRecDepth 100000 in
theorem kl_Mo_83 : Cond.constantLong "PowerBondsModel" 83 (1000003) ∈ G := G_at (i := 1091) (by decide +kernel) rfl
set_option maxRecDepth 100000 in
theorem kc_Mo_94 : Cond.constant "PowerBondsModel" 94 (-1000000002) ∈ G := G_at (i := 1092) (by decide +kernel) rfl
set_option maxRecDepth 100000 in
theorem ml_Mo_95 : Cond.methodLink "PowerBondsModel" 95 M_Mo_over.1 ∈ G := G_at (i := 1093) (by decide +kernel) rfl
set_option maxRecDepth 100000 in
theorem kl_Mo_85 : Cond.constantLong "PowerBondsModel" 85 (1000001) ∈ G := G_at (i := 1096) (by decide +kernel) rfl
set_option maxRecDepth 100000 in
theorem kl_Mo_87 : Cond.constantLong "PowerBondsModel" 87 (2) ∈ G := G_at (i := 1097) (by decide +kernel) rfl
set_option maxRecDepth 100000 in
theorem ml_Lw_17 : Cond.methodLink "PowerBondsLaw" 17 M_Mo_part.1 ∈ G := G_at (i := 1098) (by decide +kernel) rfl
set_option maxRecDepth 100000 in
theorem kl_Mo_102 : Cond.constantLong "PowerBondsModel" 102 (5) ∈ G := G_at (i := 1102) (by decide +kernel) rfl
set_option maxRecDepth 100000 in
theorem ml_Mo_104 : Cond.methodLink "PowerBondsModel" 104 M_Mo_isShare.1 ∈ G := G_at (i := 1103) (by decide +kernel) rfl
set_option maxRecDepth 100000 in
theorem kl_Mo_98 : Cond.constantLong "PowerBondsModel" 98 (11) ∈ G := G_at (i := 1106) (by decide +kernel) rfl
set_option maxRecDepth 100000 in
theorem kl_Mo_100 : Cond.constantLong "PowerBondsModel" 100 (99) ∈ G := G_at (i := 1107) (by decide +kernel) rfl
set_option maxRecDepth 100000 in
theorem kc_Mo_108 : Cond.constant "PowerBondsModel" 108 (-1000000003) ∈ G := G_at (i := 1108) (by decide +kernel) rfl
set_option maxRecDepth 100000 in
theorem ml_Mo_79 : Cond.methodLink "PowerBondsModel" 79 M_Mo_partAt.1 ∈ G := G_at (i := 1109) (by decide +kernel) rfl
set_option maxRecDepth 100000 in
theorem ml_Lw_22 : Cond.methodLink "PowerBondsLaw" 22 M_Mo_told.1 ∈ G := G_at (i := 1113) (by decide +kernel) rfl
set_option maxRecDepth 100000 in
theorem ml_Mo_122 : Cond.methodLink "PowerBondsModel" 122 M_Mo_isPart.1 ∈ G := G_at (i := 1117) (by decide +kernel) rfl
set_option maxRecDepth 100000 in
theorem ml_Mo_113 : Cond.methodLink "PowerBondsModel" 113 M_Mo_endsOf.1 ∈ G := G_at (i := 1121) (by decide +kernel) rfl
set_option maxRecDepth 100000 in
theorem ml_Mo_109 : Cond.methodLink "PowerBondsModel" 109 M_Mo_comes.1 ∈ G := G_at (i := 1125) (by decide +kernel) rfl
set_option maxRecDepth 100000 in
theorem ml_Mo_119 : Cond.methodLink "PowerBondsModel" 119 M_Mo_hasEnds.1 ∈ G := G_at (i := 1129) (by decide +kernel) rfl
set_option maxRecDepth 100000 in
theorem ml_Mo_116 : Cond.methodLink "PowerBondsModel" 116 M_Mo_kindOf.1 ∈ G := G_at (i := 1133) (by decide +kernel) rfl
set_option maxRecDepth 100000 in
theorem ml_Mo_125 : Cond.methodLink "PowerBondsModel" 125 M_Mo_shareOf.1 ∈ G := G_at (i := 1137) (by decide +kernel) rfl
set_option maxRecDepth 100000 in
theorem ml_Lw_26 : Cond.methodLink "PowerBondsLaw" 26 M_Mo_as.1 ∈ G := G_at (i := 1140) (by decide +kernel) rfl
set_option maxRecDepth 100000 in
theorem ml_Mo_129 : Cond.methodLink "PowerBondsModel" 129 M_Mo_isOf.1 ∈ G := G_at (i := 1144) (by decide +kernel) rfl
set_option maxRecDepth 100000 in
theorem kc_Mo_133 : Cond.constant "PowerBondsModel" 133 (-1000000012) ∈ G := G_at (i := 1147) (by decide +kernel) rfl
set_option maxRecDepth 100000 in
theorem ml_Lw_30 : Cond.methodLink "PowerBondsLaw" 30 M_Mo_set.1 ∈ G := G_at (i := 1148) (by decide +kernel) rfl
set_option maxRecDepth 100000 in
theorem kl_Mo_134 : Cond.constantLong "PowerBondsModel" 134 (3) ∈ G := G_at (i := 1152) (by decide +kernel) rfl
set_option maxRecDepth 100000 in
theorem ml_Mo_136 : Cond.methodLink "PowerBondsModel" 136 M_Mo_becomes.1 ∈ G := G_at (i := 1153) (by decide +kernel) rfl
set_option maxRecDepth 100000 in
theorem ml_Lw_34 : Cond.methodLink "PowerBondsLaw" 34 M_Mo_bond.1 ∈ G := G_at (i := 1157) (by decide +kernel) rfl
set_option maxRecDepth 100000 in
theorem ml_Lw_39 : Cond.methodLink "PowerBondsLaw" 39 M_Mo_breaks.1 ∈ G := G_at (i := 1161) (by decide +kernel) rfl
set_option maxRecDepth 100000 in
theorem ml_Mo_139 : Cond.methodLink "PowerBondsModel" 139 M_Mo_isBond.1 ∈ G := G_at (i := 1165) (by decide +kernel) rfl
set_option maxRecDepth 100000 in
theorem ml_Lw_48 : Cond.methodLink "PowerBondsLaw" 48 M_Mo_whole.1 ∈ G := G_at (i := 1169) (by decide +kernel) rfl
set_option maxRecDepth 100000 in
theorem ml_Mo_142 : Cond.methodLink "PowerBondsModel" 142 M_Mo_isWhole.1 ∈ G := G_at (i := 1173) (by decide +kernel) rfl
set_option maxRecDepth 100000 in
theorem ml_Lw_52 : Cond.methodLink "PowerBondsLaw" 52 M_Mo_answers.1 ∈ G := G_at (i := 1177) (by decide +kernel) rfl
set_option maxRecDepth 100000 in
theorem ml_Mo_185 : Cond.methodLink "PowerBondsModel" 185 M_Mo_solve.1 ∈ G := G_at (i := 1181) (by decide +kernel) rfl
set_option maxRecDepth 100000 in
theorem ml_Mo_177 : Cond.methodLink "PowerBondsModel" 177 M_Mo_lawsOf.1 ∈ G := G_at (i := 1185) (by decide +kernel) rfl
set_option maxRecDepth 100000 in
theorem ml_Mo_165 : Cond.methodLink "PowerBondsModel" 165 M_Mo_lawsOfTurn.1 ∈ G := G_at (i := 1189) (by decide +kernel) rfl
set_option maxRecDepth 100000 in
theorem ml_Mo_150 : Cond.methodLink "PowerBondsModel" 150 M_Mo_bondOf.1 ∈ G := G_at (i := 1193) (by decide +kernel) rfl
set_option maxRecDepth 100000 in
theorem ml_Mo_153 : Cond.methodLink "PowerBondsModel" 153 M_Mo_sortOf.1 ∈ G := G_at (i := 1197) (by decide +kernel) rfl
set_option maxRecDepth 100000 in
theorem ml_Mo_156 : Cond.methodLink "PowerBondsModel" 156 M_Mo_line.1 ∈ G := G_at (i := 1201) (by decide +kernel) rfl
set_option maxRecDepth 100000 in
theorem ml_Mo_159 : Cond.methodLink "PowerBondsModel" 159 M_Mo_put.1 ∈ G := G_at (i := 1205) (by decide +kernel) rfl
set_option maxRecDepth 100000 in
theorem ml_Mo_169 : Cond.methodLink "PowerBondsModel" 169 M_Mo_lawsOfJoin.1 ∈ G := G_at (i := 1209) (by decide +kernel) rfl
set_option maxRecDepth 100000 in
theorem kl_Mo_163 : Cond.constantLong "PowerBondsModel" 163 (-1) ∈ G := G_at (i := 1213) (by decide +kernel) rfl
set_option maxRecDepth 100000 in
theorem ml_Mo_173 : Cond.methodLink "PowerBondsModel" 173 M_Mo_comesTo.1 ∈ G := G_at (i := 1214) (by decide +kernel) rfl
set_option maxRecDepth 100000 in
theorem ml_Mo_180 : Cond.methodLink "PowerBondsModel" 180 M_Mo_swap.1 ∈ G := G_at (i := 1218) (by decide +kernel) rfl
set_option maxRecDepth 100000 in
theorem kc_Mo_184 : Cond.constant "PowerBondsModel" 184 (-1000000006) ∈ G := G_at (i := 1222) (by decide +kernel) rfl
set_option maxRecDepth 100000 in
theorem ml_Lw_43 : Cond.methodLink "PowerBondsLaw" 43 M_Mo_of.1 ∈ G := G_at (i := 1223) (by decide +kernel) rfl
set_option maxRecDepth 100000 in
theorem ml_Mo_189 : Cond.methodLink "PowerBondsModel" 189 M_Mo_strokes.1 ∈ G := G_at (i := 1227) (by decide +kernel) rfl
set_option maxRecDepth 100000 in
theorem ml_Mo_198 : Cond.methodLink "PowerBondsModel" 198 M_Mo_canBe.1 ∈ G := G_at (i := 1231) (by decide +kernel) rfl
set_option maxRecDepth 100000 in
theorem ml_Mo_192 : Cond.methodLink "PowerBondsModel" 192 M_Mo_settles.1 ∈ G := G_at (i := 1235) (by decide +kernel) rfl
set_option maxRecDepth 100000 in
theorem ml_Mo_201 : Cond.methodLink "PowerBondsModel" 201 M_Mo_summing.1 ∈ G := G_at (i := 1239) (by decide +kernel) rfl
set_option maxRecDepth 100000 in
theorem ml_Mo_195 : Cond.methodLink "PowerBondsModel" 195 M_Mo_sums.1 ∈ G := G_at (i := 1243) (by decide +kernel) rfl
set_option maxRecDepth 100000 in
theorem kc_Mo_204 : Cond.constant "PowerBondsModel" 204 (-1000000007) ∈ G := G_at (i := 1247) (by decide +kernel) rfl
set_option maxRecDepth 100000 in
theorem ml_Mo_205 : Cond.methodLink "PowerBondsModel" 205 M_Mo_tied.1 ∈ G := G_at (i := 1248) (by decide +kernel) rfl
set_option maxRecDepth 100000 in
theorem ml_Lw_56 : Cond.methodLink "PowerBondsLaw" 56 M_Mo_strokes.1 ∈ G := G_at (i := 1252) (by decide +kernel) rfl
set_option maxRecDepth 100000 in
theorem ml_Lw_60 : Cond.methodLink "PowerBondsLaw" 60 M_Mo_can.1 ∈ G := G_at (i := 1253) (by decide +kernel) rfl
set_option maxRecDepth 100000 in
theorem ml_Lw_64 : Cond.methodLink "PowerBondsLaw" 64 M_Mo_run.1 ∈ G := G_at (i := 1257) (by decide +kernel) rfl
set_option maxRecDepth 100000 in
theorem kl_Mo_220 : Cond.constantLong "PowerBondsModel" 220 (60) ∈ G := G_at (i := 1261) (by decide +kernel) rfl
set_option maxRecDepth 100000 in
theorem ml_Mo_222 : Cond.methodLink "PowerBondsModel" 222 M_Mo_setAside.1 ∈ G := G_at (i := 1262) (by decide +kernel) rfl
set_option maxRecDepth 100000 in
theorem ml_Mo_226 : Cond.methodLink "PowerBondsModel" 226 M_Mo_oneStep.1 ∈ G := G_at (i := 1266) (by decide +kernel) rfl
set_option maxRecDepth 100000 in
theorem ml_Mo_217 : Cond.methodLink "PowerBondsModel" 217 M_Mo_gives.1 ∈ G := G_at (i := 1270) (by decide +kernel) rfl
set_option maxRecDepth 100000 in
theorem ml_Mo_211 : Cond.methodLink "PowerBondsModel" 211 M_Mo_counts.1 ∈ G := G_at (i := 1274) (by decide +kernel) rfl
set_option maxRecDepth 100000 in
theorem ml_Mo_208 : Cond.methodLink "PowerBondsModel" 208 M_Mo_textAt.1 ∈ G := G_at (i := 1278) (by decide +kernel) rfl
set_option maxRecDepth 100000 in
theorem ml_Mo_214 : Cond.methodLink "PowerBondsModel" 214 M_Mo_worked.1 ∈ G := G_at (i := 1282) (by decide +kernel) rfl
set_option maxRecDepth 100000 in
theorem ml_Mo_322 : Cond.methodLink "PowerBondsModel" 322 M_Mo_joined.1 ∈ G := G_at (i := 1286) (by decide +kernel) rfl
set_option maxRecDepth 100000 in
theorem ml_Lw_68 : Cond.methodLink "PowerBondsLaw" 68 M_Mo_feed.1 ∈ G := G_at (i := 1289) (by decide +kernel) rfl
set_option maxRecDepth 100000 in
theorem ml_Lw_72 : Cond.methodLink "PowerBondsLaw" 72 M_Mo_trim.1 ∈ G := G_at (i := 1293) (by decide +kernel) rfl
set_option maxRecDepth 100000 in
theorem ml_Lw_76 : Cond.methodLink "PowerBondsLaw" 76 M_Mo_text.1 ∈ G := G_at (i := 1297) (by decide +kernel) rfl
set_option maxRecDepth 100000 in
theorem ml_Mo_313 : Cond.methodLink "PowerBondsModel" 313 M_Mo_parse.1 ∈ G := G_at (i := 1301) (by decide +kernel) rfl
set_option maxRecDepth 100000 in
theorem ml_Mo_265 : Cond.methodLink "PowerBondsModel" 265 M_Mo_next.1 ∈ G := G_at (i := 1305) (by decide +kernel) rfl
set_option maxRecDepth 100000 in
theorem ml_Mo_249 : Cond.methodLink "PowerBondsModel" 249 M_Mo_isLetter.1 ∈ G := G_at (i := 1309) (by decide +kernel) rfl
set_option maxRecDepth 100000 in
theorem kl_Mo_232 : Cond.constantLong "PowerBondsModel" 232 (97) ∈ G := G_at (i := 1313) (by decide +kernel) rfl
set_option maxRecDepth 100000 in
theorem kl_Mo_234 : Cond.constantLong "PowerBondsModel" 234 (122) ∈ G := G_at (i := 1314) (by decide +kernel) rfl
set_option maxRecDepth 100000 in
theorem ml_Mo_255 : Cond.methodLink "PowerBondsModel" 255 M_Mo_isDigit.1 ∈ G := G_at (i := 1315) (by decide +kernel) rfl
set_option maxRecDepth 100000 in
theorem kl_Mo_236 : Cond.constantLong "PowerBondsModel" 236 (48) ∈ G := G_at (i := 1319) (by decide +kernel) rfl
set_option maxRecDepth 100000 in
theorem kl_Mo_238 : Cond.constantLong "PowerBondsModel" 238 (57) ∈ G := G_at (i := 1320) (by decide +kernel) rfl
set_option maxRecDepth 100000 in
theorem ml_Mo_310 : Cond.methodLink "PowerBondsModel" 310 M_Mo_key.1 ∈ G := G_at (i := 1321) (by decide +kernel) rfl
set_option maxRecDepth 100000 in
theorem ml_Mo_261 : Cond.methodLink "PowerBondsModel" 261 M_Mo_isWordAt.1 ∈ G := G_at (i := 1325) (by decide +kernel) rfl
set_option maxRecDepth 100000 in
theorem ml_Mo_307 : Cond.methodLink "PowerBondsModel" 307 M_Mo_either.1 ∈ G := G_at (i := 1329) (by decide +kernel) rfl
set_option maxRecDepth 100000 in
theorem ml_Mo_274 : Cond.methodLink "PowerBondsModel" 274 M_Mo_both.1 ∈ G := G_at (i := 1333) (by decide +kernel) rfl
set_option maxRecDepth 100000 in
theorem ml_Mo_283 : Cond.methodLink "PowerBondsModel" 283 M_Mo_test.1 ∈ G := G_at (i := 1337) (by decide +kernel) rfl
set_option maxRecDepth 100000 in
theorem ml_Mo_286 : Cond.methodLink "PowerBondsModel" 286 M_Mo_sum.1 ∈ G := G_at (i := 1341) (by decide +kernel) rfl
set_option maxRecDepth 100000 in
theorem ml_Mo_289 : Cond.methodLink "PowerBondsModel" 289 M_Mo_term.1 ∈ G := G_at (i := 1345) (by decide +kernel) rfl
set_option maxRecDepth 100000 in
theorem ml_Mo_292 : Cond.methodLink "PowerBondsModel" 292 M_Mo_part0.1 ∈ G := G_at (i := 1349) (by decide +kernel) rfl
set_option maxRecDepth 100000 in
theorem ml_Mo_280 : Cond.methodLink "PowerBondsModel" 280 M_Mo_step.1 ∈ G := G_at (i := 1353) (by decide +kernel) rfl
set_option maxRecDepth 100000 in
theorem ml_Mo_298 : Cond.methodLink "PowerBondsModel" 298 M_Mo_isName.1 ∈ G := G_at (i := 1357) (by decide +kernel) rfl
set_option maxRecDepth 100000 in
theorem ml_Mo_277 : Cond.methodLink "PowerBondsModel" 277 M_Mo_isSign.1 ∈ G := G_at (i := 1360) (by decide +kernel) rfl
set_option maxRecDepth 100000 in
theorem ml_Lw_80 : Cond.methodLink "PowerBondsLaw" 80 M_Mo_textTold.1 ∈ G := G_at (i := 1364) (by decide +kernel) rfl
set_option maxRecDepth 100000 in
theorem ml_Mo_316 : Cond.methodLink "PowerBondsModel" 316 M_Mo_isText.1 ∈ G := G_at (i := 1368) (by decide +kernel) rfl
set_option maxRecDepth 100000 in
theorem ml_Lw_84 : Cond.methodLink "PowerBondsLaw" 84 M_Mo_why.1 ∈ G := G_at (i := 1372) (by decide +kernel) rfl
set_option maxRecDepth 100000 in
theorem ml_Mo_319 : Cond.methodLink "PowerBondsModel" 319 M_Mo_orNone.1 ∈ G := G_at (i := 1376) (by decide +kernel) rfl
set_option maxRecDepth 100000 in
theorem kc_Mo_74 : Cond.constant "PowerBondsModel" 74 (-1000000005) ∈ G := G_at (i := 1379) (by decide +kernel) rfl
set_option maxRecDepth 100000 in
theorem ml_Lw_88 : Cond.methodLink "PowerBondsLaw" 88 M_Mo_read.1 ∈ G := G_at (i := 1380) (by decide +kernel) rfl
set_option maxRecDepth 100000 in
theorem ml_Lw_92 : Cond.methodLink "PowerBondsLaw" 92 M_Mo_moves.1 ∈ G := G_at (i := 1384) (by decide +kernel) rfl
set_option maxRecDepth 100000 in
theorem ml_Lw_96 : Cond.methodLink "PowerBondsLaw" 96 M_Mo_signs.1 ∈ G := G_at (i := 1388) (by decide +kernel) rfl
set_option maxRecDepth 100000 in
theorem ml_Lw_100 : Cond.methodLink "PowerBondsLaw" 100 M_Mo_apart.1 ∈ G := G_at (i := 1392) (by decide +kernel) rfl
set_option maxRecDepth 100000 in
theorem ml_Mo_326 : Cond.methodLink "PowerBondsModel" 326 M_Mo_signs.1 ∈ G := G_at (i := 1396) (by decide +kernel) rfl
set_option maxRecDepth 100000 in
theorem ml_Lw_104 : Cond.methodLink "PowerBondsLaw" 104 M_Mo_dual.1 ∈ G := G_at (i := 1397) (by decide +kernel) rfl
set_option maxRecDepth 100000 in
theorem ml_Lw_108 : Cond.methodLink "PowerBondsLaw" 108 M_Mo_rings.1 ∈ G := G_at (i := 1401) (by decide +kernel) rfl
set_option maxRecDepth 100000 in
theorem ml_Mo_329 : Cond.methodLink "PowerBondsModel" 329 M_Mo_findWays.1 ∈ G := G_at (i := 1405) (by decide +kernel) rfl
set_option maxRecDepth 100000 in
theorem ml_Lw_112 : Cond.methodLink "PowerBondsLaw" 112 M_Mo_way.1 ∈ G := G_at (i := 1409) (by decide +kernel) rfl
set_option maxRecDepth 100000 in
theorem ml_Lw_120 : Cond.methodLink "PowerBondsLaw" 120 M_Mo_sheet.1 ∈ G := G_at (i := 1413) (by decide +kernel) rfl
set_option maxRecDepth 100000 in
theorem ml_Mo_332 : Cond.methodLink "PowerBondsModel" 332 M_Mo_isSheet.1 ∈ G := G_at (i := 1417) (by decide +kernel) rfl
set_option maxRecDepth 100000 in
theorem kc_Mo_335 : Cond.constant "PowerBondsModel" 335 (-1000000014) ∈ G := G_at (i := 1420) (by decide +kernel) rfl
set_option maxRecDepth 100000 in
theorem ml_Lw_124 : Cond.methodLink "PowerBondsLaw" 124 M_Mo_mark.1 ∈ G := G_at (i := 1421) (by decide +kernel) rfl
set_option maxRecDepth 100000 in
theorem kc_Mo_336 : Cond.constant "PowerBondsModel" 336 (-1000000011) ∈ G := G_at (i := 1425) (by decide +kernel) rfl
set_option maxRecDepth 100000 in
theorem kc_Mo_337 : Cond.constant "PowerBondsModel" 337 (-1000000013) ∈ G := G_at (i := 1426) (by decide +kernel) rfl
set_option maxRecDepth 100000 in
theorem ml_Lw_128 : Cond.methodLink "PowerBondsLaw" 128 M_Mo_pour.1 ∈ G := G_at (i := 1427) (by decide +kernel) rfl
set_option maxRecDepth 100000 in
theorem ml_Lw_133 : Cond.methodLink "PowerBondsLaw" 133 M_Mo_copy.1 ∈ G := G_at (i := 1431) (by decide +kernel) rfl
set_option maxRecDepth 100000 in
theorem ml_Lw_137 : Cond.methodLink "PowerBondsLaw" 137 M_Mo_lay.1 ∈ G := G_at (i := 1435) (by decide +kernel) rfl
set_option maxRecDepth 100000 in
theorem ml_Mo_340 : Cond.methodLink "PowerBondsModel" 340 M_Mo_isSlot.1 ∈ G := G_at (i := 1439) (by decide +kernel) rfl
set_option maxRecDepth 100000 in
theorem kl_Mo_338 : Cond.constantLong "PowerBondsModel" 338 (4) ∈ G := G_at (i := 1442) (by decide +kernel) rfl
set_option maxRecDepth 100000 in
theorem ml_Lw_141 : Cond.methodLink "PowerBondsLaw" 141 M_Mo_ask.1 ∈ G := G_at (i := 1443) (by decide +kernel) rfl
set_option maxRecDepth 100000 in
theorem ml_Lw_145 : Cond.methodLink "PowerBondsLaw" 145 M_Mo_item.1 ∈ G := G_at (i := 1447) (by decide +kernel) rfl
set_option maxRecDepth 100000 in
theorem ml_Lw_149 : Cond.methodLink "PowerBondsLaw" 149 M_Mo_rest.1 ∈ G := G_at (i := 1451) (by decide +kernel) rfl
set_option maxRecDepth 100000 in
theorem ml_Lw_153 : Cond.methodLink "PowerBondsLaw" 153 M_Mo_tell.1 ∈ G := G_at (i := 1455) (by decide +kernel) rfl
set_option maxRecDepth 100000 in
theorem ml_Lw_157 : Cond.methodLink "PowerBondsLaw" 157 M_Mo_check.1 ∈ G := G_at (i := 1459) (by decide +kernel) rfl
set_option maxRecDepth 100000 in
theorem kl_Mo_346 : Cond.constantLong "PowerBondsModel" 346 (30) ∈ G := G_at (i := 1463) (by decide +kernel) rfl
set_option maxRecDepth 100000 in
theorem ml_Mo_352 : Cond.methodLink "PowerBondsModel" 352 M_Mo_holds.1 ∈ G := G_at (i := 1464) (by decide +kernel) rfl
set_option maxRecDepth 100000 in
theorem ml_Lw_161 : Cond.methodLink "PowerBondsLaw" 161 M_Mo_keep.1 ∈ G := G_at (i := 1468) (by decide +kernel) rfl
set_option maxRecDepth 100000 in
theorem ml_Lw_165 : Cond.methodLink "PowerBondsLaw" 165 M_Mo_back.1 ∈ G := G_at (i := 1472) (by decide +kernel) rfl
set_option maxRecDepth 100000 in
theorem ml_Lw_169 : Cond.methodLink "PowerBondsLaw" 169 M_Mo_count.1 ∈ G := G_at (i := 1476) (by decide +kernel) rfl
set_option maxRecDepth 100000 in
theorem ml_Mo_355 : Cond.methodLink "PowerBondsModel" 355 M_Mo_stores.1 ∈ G := G_at (i := 1480) (by decide +kernel) rfl
set_option maxRecDepth 100000 in
theorem fx_Js_9 : Cond.fieldLink "java/lang/String" 9 "java/lang/String" "value" "[B" ∈ G := G_at (i := 1484) (by decide +kernel) rfl
set_option maxRecDepth 100000 in
theorem fx_Js_15 : Cond.fieldLink "java/lang/String" 15 "java/lang/String" "coder" "B" ∈ G := G_at (i := 1485) (by decide +kernel) rfl
set_option maxRecDepth 100000 in
theorem oi_i : Cond.instanceMethod Lib.objectInit ∈ G := G_at (i := 103) (by decide +kernel) rfl
set_option maxRecDepth 100000 in
theorem oi_c : Cond.code Lib.objectInit ⟨#[0xb1]⟩ 1 none ∈ G := G_at (i := 104) (by decide +kernel) rfl
set_option maxRecDepth 100000 in
theorem ay_n : Cond.native arraycopyName ∈ G := G_at (i := 786) (by decide +kernel) rfl
set_option maxRecDepth 100000 in
theorem ay_s : Cond.static arraycopyName ∈ G := G_at (i := 785) (by decide +kernel) rfl
set_option maxRecDepth 100000 in
theorem mf_An_init : MF M_An_init 0 := ⟨G_at (i := 196) (by decide +kernel) rfl, ii_An, by decide +kernel, by decide, by decide +kernel⟩
set_option maxRecDepth 100000 in
theorem mi_An_init : MI M_An_init := ⟨G_at (i := 195) (by decide +kernel) rfl, rfl, rfl⟩
set_option maxRecDepth 100000 in
theorem mf_An_solve : MF M_An_solve 1 := ⟨G_at (i := 521) (by decide +kernel) rfl, ii_An, by decide +kernel, by decide, by decide +kernel⟩
set_option maxRecDepth 100000 in
theorem mv_An_solve : MV M_An_solve := ⟨G_at (i := 519) (by decide +kernel) rfl, G_at (i := 520) (by decide +kernel) rfl⟩
set_option maxRecDepth 100000 in
theorem mf_An_column : MF M_An_column 2 := ⟨G_at (i := 539) (by decide +kernel) rfl, ii_An, by decide +kernel, by decide, by decide +kernel⟩
set_option maxRecDepth 100000 in
theorem ms_An_column : MS M_An_column := G_at (i := 538) (by decide +kernel) rfl
set_option maxRecDepth 100000 in
theorem mf_An_writeLaws : MF M_An_writeLaws 1 := ⟨G_at (i := 527) (by decide +kernel) rfl, ii_An, by decide +kernel, by decide, by decide +kernel⟩
set_option maxRecDepth 100000 in
theorem mv_An_writeLaws : MV M_An_writeLaws := ⟨G_at (i := 526) (by decide +kernel) rfl, G_at (i := 7) (by decide +kernel) rfl⟩
set_option maxRecDepth 100000 in
theorem mf_An_newRow : MF M_An_newRow 0 := ⟨G_at (i := 547) (by decide +kernel) rfl, ii_An, by decide +kernel, by decide, by decide +kernel⟩
set_option maxRecDepth 100000 in
theorem mv_An_newRow : MV M_An_newRow := ⟨G_at (i := 546) (by decide +kernel) rfl, G_at (i := 10) (by decide +kernel) rfl⟩
set_option maxRecDepth 100000 in
theorem mf_An_writeTimes : MF M_An_writeTimes 3 := ⟨G_at (i := 543) (by decide +kernel) rfl, ii_An, by decide +kernel, by decide, by decide +kernel⟩
set_option maxRecDepth 100000 in
theorem mv_An_writeTimes : MV M_An_writeTimes := ⟨G_at (i := 542) (by decide +kernel) rfl, G_at (i := 9) (by decide +kernel) rfl⟩
set_option maxRecDepth 100000 in
theorem mf_An_writeEnd : MF M_An_writeEnd 2 := ⟨G_at (i := 560) (by decide +kernel) rfl, ii_An, by decide +kernel, by decide, by decide +kernel⟩
set_option maxRecDepth 100000 in
theorem mv_An_writeEnd : MV M_An_writeEnd := ⟨G_at (i := 559) (by decide +kernel) rfl, G_at (i := 12) (by decide +kernel) rfl⟩
set_option maxRecDepth 100000 in
theorem mf_An_writeTurn : MF M_An_writeTurn 3 := ⟨G_at (i := 535) (by decide +kernel) rfl, ii_An, by decide +kernel, by decide, by decide +kernel⟩
set_option maxRecDepth 100000 in
theorem mv_An_writeTurn : MV M_An_writeTurn := ⟨G_at (i := 534) (by decide +kernel) rfl, G_at (i := 8) (by decide +kernel) rfl⟩
set_option maxRecDepth 100000 in
theorem mf_An_writeJoin : MF M_An_writeJoin 3 := ⟨G_at (i := 555) (by decide +kernel) rfl, ii_An, by decide +kernel, by decide, by decide +kernel⟩
set_option maxRecDepth 100000 in
theorem mv_An_writeJoin : MV M_An_writeJoin := ⟨G_at (i := 554) (by decide +kernel) rfl, G_at (i := 11) (by decide +kernel) rfl⟩
set_option maxRecDepth 100000 in
theorem mf_An_reduce : MF M_An_reduce 0 := ⟨G_at (i := 565) (by decide +kernel) rfl, ii_An, by decide +kernel, by decide, by decide +kernel⟩
set_option maxRecDepth 100000 in
theorem mv_An_reduce : MV M_An_reduce := ⟨G_at (i := 564) (by decide +kernel) rfl, G_at (i := 13) (by decide +kernel) rfl⟩
set_option maxRecDepth 100000 in
theorem mf_An_rowWith : MF M_An_rowWith 2 := ⟨G_at (i := 569) (by decide +kernel) rfl, ii_An, by decide +kernel, by decide, by decide +kernel⟩
set_option maxRecDepth 100000 in
theorem mv_An_rowWith : MV M_An_rowWith := ⟨G_at (i := 568) (by decide +kernel) rfl, G_at (i := 14) (by decide +kernel) rfl⟩
set_option maxRecDepth 100000 in
theorem mf_An_scale : MF M_An_scale 2 := ⟨G_at (i := 573) (by decide +kernel) rfl, ii_An, by decide +kernel, by decide, by decide +kernel⟩
set_option maxRecDepth 100000 in
theorem mv_An_scale : MV M_An_scale := ⟨G_at (i := 572) (by decide +kernel) rfl, G_at (i := 15) (by decide +kernel) rfl⟩
set_option maxRecDepth 100000 in
theorem mf_An_clearOthers : MF M_An_clearOthers 2 := ⟨G_at (i := 579) (by decide +kernel) rfl, ii_An, by decide +kernel, by decide, by decide +kernel⟩
set_option maxRecDepth 100000 in
theorem mv_An_clearOthers : MV M_An_clearOthers := ⟨G_at (i := 578) (by decide +kernel) rfl, G_at (i := 16) (by decide +kernel) rfl⟩
set_option maxRecDepth 100000 in
theorem mf_Lu_init : MF M_Lu_init 0 := ⟨G_at (i := 225) (by decide +kernel) rfl, ii_Lu, by decide +kernel, by decide, by decide +kernel⟩
set_option maxRecDepth 100000 in
theorem mi_Lu_init : MI M_Lu_init := ⟨G_at (i := 224) (by decide +kernel) rfl, rfl, rfl⟩
set_option maxRecDepth 100000 in
theorem mf_Lu_lookAt : MF M_Lu_lookAt 1 := ⟨G_at (i := 482) (by decide +kernel) rfl, ii_Lu, by decide +kernel, by decide, by decide +kernel⟩
set_option maxRecDepth 100000 in
theorem mv_Lu_lookAt : MV M_Lu_lookAt := ⟨G_at (i := 480) (by decide +kernel) rfl, G_at (i := 481) (by decide +kernel) rfl⟩
set_option maxRecDepth 100000 in
theorem mf_Lu_survey : MF M_Lu_survey 1 := ⟨G_at (i := 478) (by decide +kernel) rfl, ii_Lu, by decide +kernel, by decide, by decide +kernel⟩
set_option maxRecDepth 100000 in
theorem mv_Lu_survey : MV M_Lu_survey := ⟨G_at (i := 476) (by decide +kernel) rfl, G_at (i := 477) (by decide +kernel) rfl⟩
set_option maxRecDepth 100000 in
theorem mf_Lu_weigh : MF M_Lu_weigh 2 := ⟨G_at (i := 504) (by decide +kernel) rfl, ii_Lu, by decide +kernel, by decide, by decide +kernel⟩
set_option maxRecDepth 100000 in
theorem mv_Lu_weigh : MV M_Lu_weigh := ⟨G_at (i := 503) (by decide +kernel) rfl, G_at (i := 3) (by decide +kernel) rfl⟩
set_option maxRecDepth 100000 in
theorem mf_Lu_nextWithout : MF M_Lu_nextWithout 2 := ⟨G_at (i := 512) (by decide +kernel) rfl, ii_Lu, by decide +kernel, by decide, by decide +kernel⟩
set_option maxRecDepth 100000 in
theorem mv_Lu_nextWithout : MV M_Lu_nextWithout := ⟨G_at (i := 511) (by decide +kernel) rfl, G_at (i := 5) (by decide +kernel) rfl⟩
set_option maxRecDepth 100000 in
theorem mf_Lu_firstAgainst : MF M_Lu_firstAgainst 2 := ⟨G_at (i := 486) (by decide +kernel) rfl, ii_Lu, by decide +kernel, by decide, by decide +kernel⟩
set_option maxRecDepth 100000 in
theorem mv_Lu_firstAgainst : MV M_Lu_firstAgainst := ⟨G_at (i := 484) (by decide +kernel) rfl, G_at (i := 485) (by decide +kernel) rfl⟩
set_option maxRecDepth 100000 in
theorem mf_Lu_allows : MF M_Lu_allows 3 := ⟨G_at (i := 490) (by decide +kernel) rfl, ii_Lu, by decide +kernel, by decide, by decide +kernel⟩
set_option maxRecDepth 100000 in
theorem mv_Lu_allows : MV M_Lu_allows := ⟨G_at (i := 489) (by decide +kernel) rfl, G_at (i := 1) (by decide +kernel) rfl⟩
set_option maxRecDepth 100000 in
theorem mf_Lu_settledBy : MF M_Lu_settledBy 2 := ⟨G_at (i := 494) (by decide +kernel) rfl, ii_Lu, by decide +kernel, by decide, by decide +kernel⟩
set_option maxRecDepth 100000 in
theorem mv_Lu_settledBy : MV M_Lu_settledBy := ⟨G_at (i := 493) (by decide +kernel) rfl, G_at (i := 2) (by decide +kernel) rfl⟩
set_option maxRecDepth 100000 in
theorem mf_Lu_sums : MF M_Lu_sums 3 := ⟨G_at (i := 508) (by decide +kernel) rfl, ii_Lu, by decide +kernel, by decide, by decide +kernel⟩
set_option maxRecDepth 100000 in
theorem mv_Lu_sums : MV M_Lu_sums := ⟨G_at (i := 507) (by decide +kernel) rfl, G_at (i := 4) (by decide +kernel) rfl⟩
set_option maxRecDepth 100000 in
theorem mf_Lu_tiedStores : MF M_Lu_tiedStores 1 := ⟨G_at (i := 597) (by decide +kernel) rfl, ii_Lu, by decide +kernel, by decide, by decide +kernel⟩
set_option maxRecDepth 100000 in
theorem mv_Lu_tiedStores : MV M_Lu_tiedStores := ⟨G_at (i := 595) (by decide +kernel) rfl, G_at (i := 596) (by decide +kernel) rfl⟩
set_option maxRecDepth 100000 in
theorem mf_Ma_init : MF M_Ma_init 0 := ⟨G_at (i := 109) (by decide +kernel) rfl, ii_Ma, by decide +kernel, by decide, by decide +kernel⟩
set_option maxRecDepth 100000 in
theorem mi_Ma_init : MI M_Ma_init := ⟨G_at (i := 108) (by decide +kernel) rfl, rfl, rfl⟩
set_option maxRecDepth 100000 in
theorem mf_Ma_takeFrom : MF M_Ma_takeFrom 1 := ⟨G_at (i := 611) (by decide +kernel) rfl, ii_Ma, by decide +kernel, by decide, by decide +kernel⟩
set_option maxRecDepth 100000 in
theorem mv_Ma_takeFrom : MV M_Ma_takeFrom := ⟨G_at (i := 609) (by decide +kernel) rfl, G_at (i := 610) (by decide +kernel) rfl⟩
set_option maxRecDepth 100000 in
theorem mf_Ma_hasPart : MF M_Ma_hasPart 1 := ⟨G_at (i := 396) (by decide +kernel) rfl, ii_Ma, by decide +kernel, by decide, by decide +kernel⟩
set_option maxRecDepth 100000 in
theorem mv_Ma_hasPart : MV M_Ma_hasPart := ⟨G_at (i := 394) (by decide +kernel) rfl, G_at (i := 395) (by decide +kernel) rfl⟩
set_option maxRecDepth 100000 in
theorem mf_Ma_hasBond : MF M_Ma_hasBond 1 := ⟨G_at (i := 455) (by decide +kernel) rfl, ii_Ma, by decide +kernel, by decide, by decide +kernel⟩
set_option maxRecDepth 100000 in
theorem mv_Ma_hasBond : MV M_Ma_hasBond := ⟨G_at (i := 453) (by decide +kernel) rfl, G_at (i := 454) (by decide +kernel) rfl⟩
set_option maxRecDepth 100000 in
theorem mf_Ma_dropBond : MF M_Ma_dropBond 1 := ⟨G_at (i := 459) (by decide +kernel) rfl, ii_Ma, by decide +kernel, by decide, by decide +kernel⟩
set_option maxRecDepth 100000 in
theorem mv_Ma_dropBond : MV M_Ma_dropBond := ⟨G_at (i := 457) (by decide +kernel) rfl, G_at (i := 458) (by decide +kernel) rfl⟩
set_option maxRecDepth 100000 in
theorem mf_Ma_endsOf : MF M_Ma_endsOf 1 := ⟨G_at (i := 404) (by decide +kernel) rfl, ii_Ma, by decide +kernel, by decide, by decide +kernel⟩
set_option maxRecDepth 100000 in
theorem mv_Ma_endsOf : MV M_Ma_endsOf := ⟨G_at (i := 402) (by decide +kernel) rfl, G_at (i := 403) (by decide +kernel) rfl⟩
set_option maxRecDepth 100000 in
theorem mf_Ma_nextBondOf : MF M_Ma_nextBondOf 2 := ⟨G_at (i := 531) (by decide +kernel) rfl, ii_Ma, by decide +kernel, by decide, by decide +kernel⟩
set_option maxRecDepth 100000 in
theorem mv_Ma_nextBondOf : MV M_Ma_nextBondOf := ⟨G_at (i := 529) (by decide +kernel) rfl, G_at (i := 530) (by decide +kernel) rfl⟩
set_option maxRecDepth 100000 in
theorem mf_Ma_isWhole : MF M_Ma_isWhole 0 := ⟨G_at (i := 471) (by decide +kernel) rfl, ii_Ma, by decide +kernel, by decide, by decide +kernel⟩
set_option maxRecDepth 100000 in
theorem mv_Ma_isWhole : MV M_Ma_isWhole := ⟨G_at (i := 469) (by decide +kernel) rfl, G_at (i := 470) (by decide +kernel) rfl⟩
set_option maxRecDepth 100000 in
theorem mf_Ma_stores : MF M_Ma_stores 0 := ⟨G_at (i := 967) (by decide +kernel) rfl, ii_Ma, by decide +kernel, by decide, by decide +kernel⟩
set_option maxRecDepth 100000 in
theorem mv_Ma_stores : MV M_Ma_stores := ⟨G_at (i := 965) (by decide +kernel) rfl, G_at (i := 966) (by decide +kernel) rfl⟩
set_option maxRecDepth 100000 in
theorem mf_Ma_storesTogether : MF M_Ma_storesTogether 0 := ⟨G_at (i := 951) (by decide +kernel) rfl, ii_Ma, by decide +kernel, by decide, by decide +kernel⟩
set_option maxRecDepth 100000 in
theorem mv_Ma_storesTogether : MV M_Ma_storesTogether := ⟨G_at (i := 949) (by decide +kernel) rfl, G_at (i := 950) (by decide +kernel) rfl⟩
set_option maxRecDepth 100000 in
theorem mf_Ma_textFor : MF M_Ma_textFor 2 := ⟨G_at (i := 629) (by decide +kernel) rfl, ii_Ma, by decide +kernel, by decide, by decide +kernel⟩
set_option maxRecDepth 100000 in
theorem mv_Ma_textFor : MV M_Ma_textFor := ⟨G_at (i := 627) (by decide +kernel) rfl, G_at (i := 628) (by decide +kernel) rfl⟩
set_option maxRecDepth 100000 in
theorem mf_Ma_textGives : MF M_Ma_textGives 4 := ⟨G_at (i := 634) (by decide +kernel) rfl, ii_Ma, by decide +kernel, by decide, by decide +kernel⟩
set_option maxRecDepth 100000 in
theorem mv_Ma_textGives : MV M_Ma_textGives := ⟨G_at (i := 632) (by decide +kernel) rfl, G_at (i := 633) (by decide +kernel) rfl⟩
set_option maxRecDepth 100000 in
theorem mf_Ma_followText : MF M_Ma_followText 2 := ⟨G_at (i := 625) (by decide +kernel) rfl, ii_Ma, by decide +kernel, by decide, by decide +kernel⟩
set_option maxRecDepth 100000 in
theorem mv_Ma_followText : MV M_Ma_followText := ⟨G_at (i := 623) (by decide +kernel) rfl, G_at (i := 624) (by decide +kernel) rfl⟩
set_option maxRecDepth 100000 in
theorem mf_Ma_doStep : MF M_Ma_doStep 2 := ⟨G_at (i := 619) (by decide +kernel) rfl, ii_Ma, by decide +kernel, by decide, by decide +kernel⟩
set_option maxRecDepth 100000 in
theorem mv_Ma_doStep : MV M_Ma_doStep := ⟨G_at (i := 617) (by decide +kernel) rfl, G_at (i := 618) (by decide +kernel) rfl⟩
set_option maxRecDepth 100000 in
theorem mf_Ma_withNeighbours : MF M_Ma_withNeighbours 1 := ⟨G_at (i := 860) (by decide +kernel) rfl, ii_Ma, by decide +kernel, by decide, by decide +kernel⟩
set_option maxRecDepth 100000 in
theorem mv_Ma_withNeighbours : MV M_Ma_withNeighbours := ⟨G_at (i := 858) (by decide +kernel) rfl, G_at (i := 859) (by decide +kernel) rfl⟩
set_option maxRecDepth 100000 in
theorem mf_Ma_pieces : MF M_Ma_pieces 0 := ⟨G_at (i := 856) (by decide +kernel) rfl, ii_Ma, by decide +kernel, by decide, by decide +kernel⟩
set_option maxRecDepth 100000 in
theorem mv_Ma_pieces : MV M_Ma_pieces := ⟨G_at (i := 854) (by decide +kernel) rfl, G_at (i := 855) (by decide +kernel) rfl⟩
set_option maxRecDepth 100000 in
theorem mf_Pa_init : MF M_Pa_init 0 := ⟨G_at (i := 118) (by decide +kernel) rfl, ii_Pa, by decide +kernel, by decide, by decide +kernel⟩
set_option maxRecDepth 100000 in
theorem mi_Pa_init : MI M_Pa_init := ⟨G_at (i := 117) (by decide +kernel) rfl, rfl, rfl⟩
set_option maxRecDepth 100000 in
theorem mf_Pa_become : MF M_Pa_become 3 := ⟨G_at (i := 384) (by decide +kernel) rfl, ii_Pa, by decide +kernel, by decide, by decide +kernel⟩
set_option maxRecDepth 100000 in
theorem mv_Pa_become : MV M_Pa_become := ⟨G_at (i := 382) (by decide +kernel) rfl, G_at (i := 383) (by decide +kernel) rfl⟩
set_option maxRecDepth 100000 in
theorem mf_Pa_takeShare : MF M_Pa_takeShare 1 := ⟨G_at (i := 388) (by decide +kernel) rfl, ii_Pa, by decide +kernel, by decide, by decide +kernel⟩
set_option maxRecDepth 100000 in
theorem mv_Pa_takeShare : MV M_Pa_takeShare := ⟨G_at (i := 386) (by decide +kernel) rfl, G_at (i := 387) (by decide +kernel) rfl⟩
set_option maxRecDepth 100000 in
theorem mf_Pa_takeFrom : MF M_Pa_takeFrom 1 := ⟨G_at (i := 615) (by decide +kernel) rfl, ii_Pa, by decide +kernel, by decide, by decide +kernel⟩
set_option maxRecDepth 100000 in
theorem mv_Pa_takeFrom : MV M_Pa_takeFrom := ⟨G_at (i := 613) (by decide +kernel) rfl, G_at (i := 614) (by decide +kernel) rfl⟩
set_option maxRecDepth 100000 in
theorem mf_Pa_shareCode : MF M_Pa_shareCode 0 := ⟨G_at (i := 400) (by decide +kernel) rfl, ii_Pa, by decide +kernel, by decide, by decide +kernel⟩
set_option maxRecDepth 100000 in
theorem mv_Pa_shareCode : MV M_Pa_shareCode := ⟨G_at (i := 398) (by decide +kernel) rfl, G_at (i := 399) (by decide +kernel) rfl⟩
set_option maxRecDepth 100000 in
theorem mf_Pa_shareWorth : MF M_Pa_shareWorth 0 := ⟨G_at (i := 412) (by decide +kernel) rfl, ii_Pa, by decide +kernel, by decide, by decide +kernel⟩
set_option maxRecDepth 100000 in
theorem mv_Pa_shareWorth : MV M_Pa_shareWorth := ⟨G_at (i := 410) (by decide +kernel) rfl, G_at (i := 411) (by decide +kernel) rfl⟩
set_option maxRecDepth 100000 in
theorem mf_Pa_isOf : MF M_Pa_isOf 1 := ⟨G_at (i := 428) (by decide +kernel) rfl, ii_Pa, by decide +kernel, by decide, by decide +kernel⟩
set_option maxRecDepth 100000 in
theorem mv_Pa_isOf : MV M_Pa_isOf := ⟨G_at (i := 426) (by decide +kernel) rfl, G_at (i := 427) (by decide +kernel) rfl⟩
set_option maxRecDepth 100000 in
theorem mf_Pa_wants : MF M_Pa_wants 1 := ⟨G_at (i := 408) (by decide +kernel) rfl, ii_Pa, by decide +kernel, by decide, by decide +kernel⟩
set_option maxRecDepth 100000 in
theorem mv_Pa_wants : MV M_Pa_wants := ⟨G_at (i := 406) (by decide +kernel) rfl, G_at (i := 407) (by decide +kernel) rfl⟩
set_option maxRecDepth 100000 in
theorem mf_Pa_turnToDual : MF M_Pa_turnToDual 0 := ⟨G_at (i := 848) (by decide +kernel) rfl, ii_Pa, by decide +kernel, by decide, by decide +kernel⟩
set_option maxRecDepth 100000 in
theorem mv_Pa_turnToDual : MV M_Pa_turnToDual := ⟨G_at (i := 846) (by decide +kernel) rfl, G_at (i := 847) (by decide +kernel) rfl⟩
set_option maxRecDepth 100000 in
theorem mf_Sh_init : MF M_Sh_init 0 := ⟨G_at (i := 290) (by decide +kernel) rfl, ii_Sh, by decide +kernel, by decide, by decide +kernel⟩
set_option maxRecDepth 100000 in
theorem mi_Sh_init : MI M_Sh_init := ⟨G_at (i := 289) (by decide +kernel) rfl, rfl, rfl⟩
set_option maxRecDepth 100000 in
theorem mf_Sh_become : MF M_Sh_become 2 := ⟨G_at (i := 882) (by decide +kernel) rfl, ii_Sh, by decide +kernel, by decide, by decide +kernel⟩
set_option maxRecDepth 100000 in
theorem mv_Sh_become : MV M_Sh_become := ⟨G_at (i := 880) (by decide +kernel) rfl, G_at (i := 881) (by decide +kernel) rfl⟩
set_option maxRecDepth 100000 in
theorem mf_Sh_takeFrom : MF M_Sh_takeFrom 1 := ⟨G_at (i := 920) (by decide +kernel) rfl, ii_Sh, by decide +kernel, by decide, by decide +kernel⟩
set_option maxRecDepth 100000 in
theorem mv_Sh_takeFrom : MV M_Sh_takeFrom := ⟨G_at (i := 918) (by decide +kernel) rfl, G_at (i := 919) (by decide +kernel) rfl⟩
set_option maxRecDepth 100000 in
theorem mf_Sh_hasPlace : MF M_Sh_hasPlace 1 := ⟨G_at (i := 894) (by decide +kernel) rfl, ii_Sh, by decide +kernel, by decide, by decide +kernel⟩
set_option maxRecDepth 100000 in
theorem mv_Sh_hasPlace : MV M_Sh_hasPlace := ⟨G_at (i := 892) (by decide +kernel) rfl, G_at (i := 893) (by decide +kernel) rfl⟩
set_option maxRecDepth 100000 in
theorem mf_Sh_hasRow : MF M_Sh_hasRow 2 := ⟨G_at (i := 907) (by decide +kernel) rfl, ii_Sh, by decide +kernel, by decide, by decide +kernel⟩
set_option maxRecDepth 100000 in
theorem mv_Sh_hasRow : MV M_Sh_hasRow := ⟨G_at (i := 905) (by decide +kernel) rfl, G_at (i := 906) (by decide +kernel) rfl⟩
set_option maxRecDepth 100000 in
theorem mf_Sl_init : MF M_Sl_init 0 := ⟨G_at (i := 307) (by decide +kernel) rfl, ii_Sl, by decide +kernel, by decide, by decide +kernel⟩
set_option maxRecDepth 100000 in
theorem mi_Sl_init : MI M_Sl_init := ⟨G_at (i := 306) (by decide +kernel) rfl, rfl, rfl⟩
set_option maxRecDepth 100000 in
theorem mf_Sl_refusalFor : MF M_Sl_refusalFor 1 := ⟨G_at (i := 929) (by decide +kernel) rfl, ii_Sl, by decide +kernel, by decide, by decide +kernel⟩
set_option maxRecDepth 100000 in
theorem mv_Sl_refusalFor : MV M_Sl_refusalFor := ⟨G_at (i := 927) (by decide +kernel) rfl, G_at (i := 928) (by decide +kernel) rfl⟩
set_option maxRecDepth 100000 in
theorem mf_Ta_init : MF M_Ta_init 0 := ⟨G_at (i := 250) (by decide +kernel) rfl, ii_Ta, by decide +kernel, by decide, by decide +kernel⟩
set_option maxRecDepth 100000 in
theorem mi_Ta_init : MI M_Ta_init := ⟨G_at (i := 249) (by decide +kernel) rfl, rfl, rfl⟩
set_option maxRecDepth 100000 in
theorem mf_Ta_putBytes : MF M_Ta_putBytes 1 := ⟨G_at (i := 658) (by decide +kernel) rfl, ii_Ta, by decide +kernel, by decide, by decide +kernel⟩
set_option maxRecDepth 100000 in
theorem mv_Ta_putBytes : MV M_Ta_putBytes := ⟨G_at (i := 656) (by decide +kernel) rfl, G_at (i := 657) (by decide +kernel) rfl⟩
set_option maxRecDepth 100000 in
theorem mf_Ta_parse : MF M_Ta_parse 0 := ⟨G_at (i := 670) (by decide +kernel) rfl, ii_Ta, by decide +kernel, by decide, by decide +kernel⟩
set_option maxRecDepth 100000 in
theorem mv_Ta_parse : MV M_Ta_parse := ⟨G_at (i := 668) (by decide +kernel) rfl, G_at (i := 669) (by decide +kernel) rfl⟩
set_option maxRecDepth 100000 in
theorem mf_Ta_goOn : MF M_Ta_goOn 0 := ⟨G_at (i := 674) (by decide +kernel) rfl, ii_Ta, by decide +kernel, by decide, by decide +kernel⟩
set_option maxRecDepth 100000 in
theorem mv_Ta_goOn : MV M_Ta_goOn := ⟨G_at (i := 673) (by decide +kernel) rfl, G_at (i := 17) (by decide +kernel) rfl⟩
set_option maxRecDepth 100000 in
theorem mf_Ta_sortAt : MF M_Ta_sortAt 1 := ⟨G_at (i := 678) (by decide +kernel) rfl, ii_Ta, by decide +kernel, by decide, by decide +kernel⟩
set_option maxRecDepth 100000 in
theorem mv_Ta_sortAt : MV M_Ta_sortAt := ⟨G_at (i := 677) (by decide +kernel) rfl, G_at (i := 18) (by decide +kernel) rfl⟩
set_option maxRecDepth 100000 in
theorem mf_Ta_keyHere : MF M_Ta_keyHere 0 := ⟨G_at (i := 682) (by decide +kernel) rfl, ii_Ta, by decide +kernel, by decide, by decide +kernel⟩
set_option maxRecDepth 100000 in
theorem mv_Ta_keyHere : MV M_Ta_keyHere := ⟨G_at (i := 681) (by decide +kernel) rfl, G_at (i := 19) (by decide +kernel) rfl⟩
set_option maxRecDepth 100000 in
theorem mf_Ta_isWord : MF M_Ta_isWord 1 := ⟨G_at (i := 687) (by decide +kernel) rfl, ii_Ta, by decide +kernel, by decide, by decide +kernel⟩
set_option maxRecDepth 100000 in
theorem mv_Ta_isWord : MV M_Ta_isWord := ⟨G_at (i := 686) (by decide +kernel) rfl, G_at (i := 20) (by decide +kernel) rfl⟩
set_option maxRecDepth 100000 in
theorem mf_Ta_numberHere : MF M_Ta_numberHere 0 := ⟨G_at (i := 740) (by decide +kernel) rfl, ii_Ta, by decide +kernel, by decide, by decide +kernel⟩
set_option maxRecDepth 100000 in
theorem mv_Ta_numberHere : MV M_Ta_numberHere := ⟨G_at (i := 739) (by decide +kernel) rfl, G_at (i := 21) (by decide +kernel) rfl⟩
set_option maxRecDepth 100000 in
theorem mf_Ta_isName : MF M_Ta_isName 0 := ⟨G_at (i := 764) (by decide +kernel) rfl, ii_Ta, by decide +kernel, by decide, by decide +kernel⟩
set_option maxRecDepth 100000 in
theorem mv_Ta_isName : MV M_Ta_isName := ⟨G_at (i := 763) (by decide +kernel) rfl, G_at (i := 27) (by decide +kernel) rfl⟩
set_option maxRecDepth 100000 in
theorem mf_Ta_isSign : MF M_Ta_isSign 1 := ⟨G_at (i := 752) (by decide +kernel) rfl, ii_Ta, by decide +kernel, by decide, by decide +kernel⟩
set_option maxRecDepth 100000 in
theorem mv_Ta_isSign : MV M_Ta_isSign := ⟨G_at (i := 751) (by decide +kernel) rfl, G_at (i := 24) (by decide +kernel) rfl⟩
set_option maxRecDepth 100000 in
theorem mf_Ta_joinsAt : MF M_Ta_joinsAt 1 := ⟨G_at (i := 768) (by decide +kernel) rfl, ii_Ta, by decide +kernel, by decide, by decide +kernel⟩
set_option maxRecDepth 100000 in
theorem mv_Ta_joinsAt : MV M_Ta_joinsAt := ⟨G_at (i := 767) (by decide +kernel) rfl, G_at (i := 28) (by decide +kernel) rfl⟩
set_option maxRecDepth 100000 in
theorem mf_Ta_put : MF M_Ta_put 1 := ⟨G_at (i := 756) (by decide +kernel) rfl, ii_Ta, by decide +kernel, by decide, by decide +kernel⟩
set_option maxRecDepth 100000 in
theorem mv_Ta_put : MV M_Ta_put := ⟨G_at (i := 755) (by decide +kernel) rfl, G_at (i := 25) (by decide +kernel) rfl⟩
set_option maxRecDepth 100000 in
theorem mf_Ta_readLevel : MF M_Ta_readLevel 3 := ⟨G_at (i := 744) (by decide +kernel) rfl, ii_Ta, by decide +kernel, by decide, by decide +kernel⟩
set_option maxRecDepth 100000 in
theorem mv_Ta_readLevel : MV M_Ta_readLevel := ⟨G_at (i := 743) (by decide +kernel) rfl, G_at (i := 22) (by decide +kernel) rfl⟩
set_option maxRecDepth 100000 in
theorem mf_Ta_readPiece : MF M_Ta_readPiece 2 := ⟨G_at (i := 748) (by decide +kernel) rfl, ii_Ta, by decide +kernel, by decide, by decide +kernel⟩
set_option maxRecDepth 100000 in
theorem mv_Ta_readPiece : MV M_Ta_readPiece := ⟨G_at (i := 747) (by decide +kernel) rfl, G_at (i := 23) (by decide +kernel) rfl⟩
set_option maxRecDepth 100000 in
theorem mf_Ta_readOperand : MF M_Ta_readOperand 0 := ⟨G_at (i := 760) (by decide +kernel) rfl, ii_Ta, by decide +kernel, by decide, by decide +kernel⟩
set_option maxRecDepth 100000 in
theorem mv_Ta_readOperand : MV M_Ta_readOperand := ⟨G_at (i := 759) (by decide +kernel) rfl, G_at (i := 26) (by decide +kernel) rfl⟩
set_option maxRecDepth 100000 in
theorem mf_Tx_init : MF M_Tx_init 4 := ⟨G_at (i := 789) (by decide +kernel) rfl, ii_Tx, by decide +kernel, by decide, by decide +kernel⟩
set_option maxRecDepth 100000 in
theorem mi_Tx_init : MI M_Tx_init := ⟨G_at (i := 788) (by decide +kernel) rfl, rfl, rfl⟩
set_option maxRecDepth 100000 in
theorem mf_Tx_workOut : MF M_Tx_workOut 4 := ⟨G_at (i := 638) (by decide +kernel) rfl, ii_Tx, by decide +kernel, by decide, by decide +kernel⟩
set_option maxRecDepth 100000 in
theorem mv_Tx_workOut : MV M_Tx_workOut := ⟨G_at (i := 636) (by decide +kernel) rfl, G_at (i := 637) (by decide +kernel) rfl⟩
set_option maxRecDepth 100000 in
theorem mf_Tx_isOperand : MF M_Tx_isOperand 1 := ⟨G_at (i := 644) (by decide +kernel) rfl, ii_Tx, by decide +kernel, by decide, by decide +kernel⟩
set_option maxRecDepth 100000 in
theorem ms_Tx_isOperand : MS M_Tx_isOperand := G_at (i := 643) (by decide +kernel) rfl
set_option maxRecDepth 100000 in
theorem mf_Tx_valueOf : MF M_Tx_valueOf 4 := ⟨G_at (i := 647) (by decide +kernel) rfl, ii_Tx, by decide +kernel, by decide, by decide +kernel⟩
set_option maxRecDepth 100000 in
theorem ms_Tx_valueOf : MS M_Tx_valueOf := G_at (i := 646) (by decide +kernel) rfl
set_option maxRecDepth 100000 in
theorem mf_Tx_join : MF M_Tx_join 3 := ⟨G_at (i := 650) (by decide +kernel) rfl, ii_Tx, by decide +kernel, by decide, by decide +kernel⟩
set_option maxRecDepth 100000 in
theorem ms_Tx_join : MS M_Tx_join := G_at (i := 649) (by decide +kernel) rfl
set_option maxRecDepth 100000 in
theorem mf_Tx_truth : MF M_Tx_truth 1 := ⟨G_at (i := 641) (by decide +kernel) rfl, ii_Tx, by decide +kernel, by decide, by decide +kernel⟩
set_option maxRecDepth 100000 in
theorem ms_Tx_truth : MS M_Tx_truth := G_at (i := 640) (by decide +kernel) rfl
set_option maxRecDepth 100000 in
theorem mf_Pb_init : MF M_Pb_init 0 := ⟨G_at (i := 101) (by decide +kernel) rfl, ii_Pb, by decide +kernel, by decide, by decide +kernel⟩
set_option maxRecDepth 100000 in
theorem mi_Pb_init : MI M_Pb_init := ⟨G_at (i := 100) (by decide +kernel) rfl, rfl, rfl⟩
set_option maxRecDepth 100000 in
theorem mf_Pb_part : MF M_Pb_part 3 := ⟨G_at (i := 372) (by decide +kernel) rfl, ii_Pb, by decide +kernel, by decide, by decide +kernel⟩
set_option maxRecDepth 100000 in
theorem mv_Pb_part : MV M_Pb_part := ⟨G_at (i := 370) (by decide +kernel) rfl, G_at (i := 371) (by decide +kernel) rfl⟩
set_option maxRecDepth 100000 in
theorem mf_Pb_told : MF M_Pb_told 2 := ⟨G_at (i := 392) (by decide +kernel) rfl, ii_Pb, by decide +kernel, by decide, by decide +kernel⟩
set_option maxRecDepth 100000 in
theorem mv_Pb_told : MV M_Pb_told := ⟨G_at (i := 390) (by decide +kernel) rfl, G_at (i := 391) (by decide +kernel) rfl⟩
set_option maxRecDepth 100000 in
theorem mf_Pb_as : MF M_Pb_as 2 := ⟨G_at (i := 424) (by decide +kernel) rfl, ii_Pb, by decide +kernel, by decide, by decide +kernel⟩
set_option maxRecDepth 100000 in
theorem mv_Pb_as : MV M_Pb_as := ⟨G_at (i := 422) (by decide +kernel) rfl, G_at (i := 423) (by decide +kernel) rfl⟩
set_option maxRecDepth 100000 in
theorem mf_Pb_set : MF M_Pb_set 3 := ⟨G_at (i := 435) (by decide +kernel) rfl, ii_Pb, by decide +kernel, by decide, by decide +kernel⟩
set_option maxRecDepth 100000 in
theorem mv_Pb_set : MV M_Pb_set := ⟨G_at (i := 433) (by decide +kernel) rfl, G_at (i := 434) (by decide +kernel) rfl⟩
set_option maxRecDepth 100000 in
theorem mf_Pb_bond : MF M_Pb_bond 2 := ⟨G_at (i := 447) (by decide +kernel) rfl, ii_Pb, by decide +kernel, by decide, by decide +kernel⟩
set_option maxRecDepth 100000 in
theorem mv_Pb_bond : MV M_Pb_bond := ⟨G_at (i := 445) (by decide +kernel) rfl, G_at (i := 446) (by decide +kernel) rfl⟩
set_option maxRecDepth 100000 in
theorem mf_Pb_breaks : MF M_Pb_breaks 1 := ⟨G_at (i := 451) (by decide +kernel) rfl, ii_Pb, by decide +kernel, by decide, by decide +kernel⟩
set_option maxRecDepth 100000 in
theorem mv_Pb_breaks : MV M_Pb_breaks := ⟨G_at (i := 449) (by decide +kernel) rfl, G_at (i := 450) (by decide +kernel) rfl⟩
set_option maxRecDepth 100000 in
theorem mf_Pb_of : MF M_Pb_of 2 := ⟨G_at (i := 463) (by decide +kernel) rfl, ii_Pb, by decide +kernel, by decide, by decide +kernel⟩
set_option maxRecDepth 100000 in
theorem mv_Pb_of : MV M_Pb_of := ⟨G_at (i := 461) (by decide +kernel) rfl, G_at (i := 462) (by decide +kernel) rfl⟩
set_option maxRecDepth 100000 in
theorem mf_Pb_whole : MF M_Pb_whole 0 := ⟨G_at (i := 585) (by decide +kernel) rfl, ii_Pb, by decide +kernel, by decide, by decide +kernel⟩
set_option maxRecDepth 100000 in
theorem mv_Pb_whole : MV M_Pb_whole := ⟨G_at (i := 583) (by decide +kernel) rfl, G_at (i := 584) (by decide +kernel) rfl⟩
set_option maxRecDepth 100000 in
theorem mf_Pb_answers : MF M_Pb_answers 0 := ⟨G_at (i := 589) (by decide +kernel) rfl, ii_Pb, by decide +kernel, by decide, by decide +kernel⟩
set_option maxRecDepth 100000 in
theorem mv_Pb_answers : MV M_Pb_answers := ⟨G_at (i := 587) (by decide +kernel) rfl, G_at (i := 588) (by decide +kernel) rfl⟩
set_option maxRecDepth 100000 in
theorem mf_Pb_strokes : MF M_Pb_strokes 1 := ⟨G_at (i := 593) (by decide +kernel) rfl, ii_Pb, by decide +kernel, by decide, by decide +kernel⟩
set_option maxRecDepth 100000 in
theorem mv_Pb_strokes : MV M_Pb_strokes := ⟨G_at (i := 591) (by decide +kernel) rfl, G_at (i := 592) (by decide +kernel) rfl⟩
set_option maxRecDepth 100000 in
theorem mf_Pb_can : MF M_Pb_can 1 := ⟨G_at (i := 601) (by decide +kernel) rfl, ii_Pb, by decide +kernel, by decide, by decide +kernel⟩
set_option maxRecDepth 100000 in
theorem mv_Pb_can : MV M_Pb_can := ⟨G_at (i := 599) (by decide +kernel) rfl, G_at (i := 600) (by decide +kernel) rfl⟩
set_option maxRecDepth 100000 in
theorem mf_Pb_run : MF M_Pb_run 1 := ⟨G_at (i := 607) (by decide +kernel) rfl, ii_Pb, by decide +kernel, by decide, by decide +kernel⟩
set_option maxRecDepth 100000 in
theorem mv_Pb_run : MV M_Pb_run := ⟨G_at (i := 605) (by decide +kernel) rfl, G_at (i := 606) (by decide +kernel) rfl⟩
set_option maxRecDepth 100000 in
theorem mf_Pb_feed : MF M_Pb_feed 3 := ⟨G_at (i := 654) (by decide +kernel) rfl, ii_Pb, by decide +kernel, by decide, by decide +kernel⟩
set_option maxRecDepth 100000 in
theorem mv_Pb_feed : MV M_Pb_feed := ⟨G_at (i := 652) (by decide +kernel) rfl, G_at (i := 653) (by decide +kernel) rfl⟩
set_option maxRecDepth 100000 in
theorem mf_Pb_trim : MF M_Pb_trim 1 := ⟨G_at (i := 662) (by decide +kernel) rfl, ii_Pb, by decide +kernel, by decide, by decide +kernel⟩
set_option maxRecDepth 100000 in
theorem mv_Pb_trim : MV M_Pb_trim := ⟨G_at (i := 660) (by decide +kernel) rfl, G_at (i := 661) (by decide +kernel) rfl⟩
set_option maxRecDepth 100000 in
theorem mf_Pb_text : MF M_Pb_text 0 := ⟨G_at (i := 666) (by decide +kernel) rfl, ii_Pb, by decide +kernel, by decide, by decide +kernel⟩
set_option maxRecDepth 100000 in
theorem mv_Pb_text : MV M_Pb_text := ⟨G_at (i := 664) (by decide +kernel) rfl, G_at (i := 665) (by decide +kernel) rfl⟩
set_option maxRecDepth 100000 in
theorem mf_Pb_textTold : MF M_Pb_textTold 2 := ⟨G_at (i := 813) (by decide +kernel) rfl, ii_Pb, by decide +kernel, by decide, by decide +kernel⟩
set_option maxRecDepth 100000 in
theorem mv_Pb_textTold : MV M_Pb_textTold := ⟨G_at (i := 811) (by decide +kernel) rfl, G_at (i := 812) (by decide +kernel) rfl⟩
set_option maxRecDepth 100000 in
theorem mf_Pb_why : MF M_Pb_why 2 := ⟨G_at (i := 817) (by decide +kernel) rfl, ii_Pb, by decide +kernel, by decide, by decide +kernel⟩
set_option maxRecDepth 100000 in
theorem mv_Pb_why : MV M_Pb_why := ⟨G_at (i := 815) (by decide +kernel) rfl, G_at (i := 816) (by decide +kernel) rfl⟩
set_option maxRecDepth 100000 in
theorem mf_Pb_read : MF M_Pb_read 1 := ⟨G_at (i := 823) (by decide +kernel) rfl, ii_Pb, by decide +kernel, by decide, by decide +kernel⟩
set_option maxRecDepth 100000 in
theorem mv_Pb_read : MV M_Pb_read := ⟨G_at (i := 821) (by decide +kernel) rfl, G_at (i := 822) (by decide +kernel) rfl⟩
set_option maxRecDepth 100000 in
theorem mf_Pb_moves : MF M_Pb_moves 3 := ⟨G_at (i := 828) (by decide +kernel) rfl, ii_Pb, by decide +kernel, by decide, by decide +kernel⟩
set_option maxRecDepth 100000 in
theorem mv_Pb_moves : MV M_Pb_moves := ⟨G_at (i := 826) (by decide +kernel) rfl, G_at (i := 827) (by decide +kernel) rfl⟩
set_option maxRecDepth 100000 in
theorem mf_Pb_signs : MF M_Pb_signs 1 := ⟨G_at (i := 832) (by decide +kernel) rfl, ii_Pb, by decide +kernel, by decide, by decide +kernel⟩
set_option maxRecDepth 100000 in
theorem mv_Pb_signs : MV M_Pb_signs := ⟨G_at (i := 830) (by decide +kernel) rfl, G_at (i := 831) (by decide +kernel) rfl⟩
set_option maxRecDepth 100000 in
theorem mf_Pb_apart : MF M_Pb_apart 2 := ⟨G_at (i := 840) (by decide +kernel) rfl, ii_Pb, by decide +kernel, by decide, by decide +kernel⟩
set_option maxRecDepth 100000 in
theorem mv_Pb_apart : MV M_Pb_apart := ⟨G_at (i := 838) (by decide +kernel) rfl, G_at (i := 839) (by decide +kernel) rfl⟩
set_option maxRecDepth 100000 in
theorem mf_Pb_dual : MF M_Pb_dual 0 := ⟨G_at (i := 844) (by decide +kernel) rfl, ii_Pb, by decide +kernel, by decide, by decide +kernel⟩
set_option maxRecDepth 100000 in
theorem mv_Pb_dual : MV M_Pb_dual := ⟨G_at (i := 842) (by decide +kernel) rfl, G_at (i := 843) (by decide +kernel) rfl⟩
set_option maxRecDepth 100000 in
theorem mf_Pb_rings : MF M_Pb_rings 0 := ⟨G_at (i := 852) (by decide +kernel) rfl, ii_Pb, by decide +kernel, by decide, by decide +kernel⟩
set_option maxRecDepth 100000 in
theorem mv_Pb_rings : MV M_Pb_rings := ⟨G_at (i := 850) (by decide +kernel) rfl, G_at (i := 851) (by decide +kernel) rfl⟩
set_option maxRecDepth 100000 in
theorem mf_Pb_way : MF M_Pb_way 2 := ⟨G_at (i := 864) (by decide +kernel) rfl, ii_Pb, by decide +kernel, by decide, by decide +kernel⟩
set_option maxRecDepth 100000 in
theorem mv_Pb_way : MV M_Pb_way := ⟨G_at (i := 862) (by decide +kernel) rfl, G_at (i := 863) (by decide +kernel) rfl⟩
set_option maxRecDepth 100000 in
theorem mf_Pb_worth : MF M_Pb_worth 3 := ⟨G_at (i := 869) (by decide +kernel) rfl, ii_Pb, by decide +kernel, by decide, by decide +kernel⟩
set_option maxRecDepth 100000 in
theorem mv_Pb_worth : MV M_Pb_worth := ⟨G_at (i := 867) (by decide +kernel) rfl, G_at (i := 868) (by decide +kernel) rfl⟩
set_option maxRecDepth 100000 in
theorem mf_Pb_sheet : MF M_Pb_sheet 3 := ⟨G_at (i := 874) (by decide +kernel) rfl, ii_Pb, by decide +kernel, by decide, by decide +kernel⟩
set_option maxRecDepth 100000 in
theorem mv_Pb_sheet : MV M_Pb_sheet := ⟨G_at (i := 872) (by decide +kernel) rfl, G_at (i := 873) (by decide +kernel) rfl⟩
set_option maxRecDepth 100000 in
theorem mf_Pb_mark : MF M_Pb_mark 3 := ⟨G_at (i := 889) (by decide +kernel) rfl, ii_Pb, by decide +kernel, by decide, by decide +kernel⟩
set_option maxRecDepth 100000 in
theorem mv_Pb_mark : MV M_Pb_mark := ⟨G_at (i := 887) (by decide +kernel) rfl, G_at (i := 888) (by decide +kernel) rfl⟩
set_option maxRecDepth 100000 in
theorem mf_Pb_pour : MF M_Pb_pour 1 := ⟨G_at (i := 899) (by decide +kernel) rfl, ii_Pb, by decide +kernel, by decide, by decide +kernel⟩
set_option maxRecDepth 100000 in
theorem mv_Pb_pour : MV M_Pb_pour := ⟨G_at (i := 897) (by decide +kernel) rfl, G_at (i := 898) (by decide +kernel) rfl⟩
set_option maxRecDepth 100000 in
theorem mf_Pb_copy : MF M_Pb_copy 5 := ⟨G_at (i := 903) (by decide +kernel) rfl, ii_Pb, by decide +kernel, by decide, by decide +kernel⟩
set_option maxRecDepth 100000 in
theorem mv_Pb_copy : MV M_Pb_copy := ⟨G_at (i := 901) (by decide +kernel) rfl, G_at (i := 902) (by decide +kernel) rfl⟩
set_option maxRecDepth 100000 in
theorem mf_Pb_lay : MF M_Pb_lay 3 := ⟨G_at (i := 912) (by decide +kernel) rfl, ii_Pb, by decide +kernel, by decide, by decide +kernel⟩
set_option maxRecDepth 100000 in
theorem mv_Pb_lay : MV M_Pb_lay := ⟨G_at (i := 910) (by decide +kernel) rfl, G_at (i := 911) (by decide +kernel) rfl⟩
set_option maxRecDepth 100000 in
theorem mf_Pb_ask : MF M_Pb_ask 2 := ⟨G_at (i := 925) (by decide +kernel) rfl, ii_Pb, by decide +kernel, by decide, by decide +kernel⟩
set_option maxRecDepth 100000 in
theorem mv_Pb_ask : MV M_Pb_ask := ⟨G_at (i := 923) (by decide +kernel) rfl, G_at (i := 924) (by decide +kernel) rfl⟩
set_option maxRecDepth 100000 in
theorem mf_Pb_item : MF M_Pb_item 2 := ⟨G_at (i := 935) (by decide +kernel) rfl, ii_Pb, by decide +kernel, by decide, by decide +kernel⟩
set_option maxRecDepth 100000 in
theorem mv_Pb_item : MV M_Pb_item := ⟨G_at (i := 933) (by decide +kernel) rfl, G_at (i := 934) (by decide +kernel) rfl⟩
set_option maxRecDepth 100000 in
theorem mf_Pb_rest : MF M_Pb_rest 2 := ⟨G_at (i := 939) (by decide +kernel) rfl, ii_Pb, by decide +kernel, by decide, by decide +kernel⟩
set_option maxRecDepth 100000 in
theorem mv_Pb_rest : MV M_Pb_rest := ⟨G_at (i := 937) (by decide +kernel) rfl, G_at (i := 938) (by decide +kernel) rfl⟩
set_option maxRecDepth 100000 in
theorem mf_Pb_tell : MF M_Pb_tell 1 := ⟨G_at (i := 943) (by decide +kernel) rfl, ii_Pb, by decide +kernel, by decide, by decide +kernel⟩
set_option maxRecDepth 100000 in
theorem mv_Pb_tell : MV M_Pb_tell := ⟨G_at (i := 941) (by decide +kernel) rfl, G_at (i := 942) (by decide +kernel) rfl⟩
set_option maxRecDepth 100000 in
theorem mf_Pb_check : MF M_Pb_check 1 := ⟨G_at (i := 947) (by decide +kernel) rfl, ii_Pb, by decide +kernel, by decide, by decide +kernel⟩
set_option maxRecDepth 100000 in
theorem mv_Pb_check : MV M_Pb_check := ⟨G_at (i := 945) (by decide +kernel) rfl, G_at (i := 946) (by decide +kernel) rfl⟩
set_option maxRecDepth 100000 in
theorem mf_Pb_keep : MF M_Pb_keep 0 := ⟨G_at (i := 955) (by decide +kernel) rfl, ii_Pb, by decide +kernel, by decide, by decide +kernel⟩
set_option maxRecDepth 100000 in
theorem mv_Pb_keep : MV M_Pb_keep := ⟨G_at (i := 953) (by decide +kernel) rfl, G_at (i := 954) (by decide +kernel) rfl⟩
set_option maxRecDepth 100000 in
theorem mf_Pb_back : MF M_Pb_back 0 := ⟨G_at (i := 959) (by decide +kernel) rfl, ii_Pb, by decide +kernel, by decide, by decide +kernel⟩
set_option maxRecDepth 100000 in
theorem mv_Pb_back : MV M_Pb_back := ⟨G_at (i := 957) (by decide +kernel) rfl, G_at (i := 958) (by decide +kernel) rfl⟩
set_option maxRecDepth 100000 in
theorem mf_Pb_count : MF M_Pb_count 1 := ⟨G_at (i := 963) (by decide +kernel) rfl, ii_Pb, by decide +kernel, by decide, by decide +kernel⟩
set_option maxRecDepth 100000 in
theorem mv_Pb_count : MV M_Pb_count := ⟨G_at (i := 961) (by decide +kernel) rfl, G_at (i := 962) (by decide +kernel) rfl⟩
set_option maxRecDepth 100000 in
theorem mf_Pb_settlerOf : MF M_Pb_settlerOf 1 := ⟨G_at (i := 467) (by decide +kernel) rfl, ii_Pb, by decide +kernel, by decide, by decide +kernel⟩
set_option maxRecDepth 100000 in
theorem mv_Pb_settlerOf : MV M_Pb_settlerOf := ⟨G_at (i := 466) (by decide +kernel) rfl, G_at (i := 0) (by decide +kernel) rfl⟩
set_option maxRecDepth 100000 in
theorem mf_Pb_carriedBy : MF M_Pb_carriedBy 2 := ⟨G_at (i := 517) (by decide +kernel) rfl, ii_Pb, by decide +kernel, by decide, by decide +kernel⟩
set_option maxRecDepth 100000 in
theorem mv_Pb_carriedBy : MV M_Pb_carriedBy := ⟨G_at (i := 516) (by decide +kernel) rfl, G_at (i := 6) (by decide +kernel) rfl⟩
set_option maxRecDepth 100000 in
theorem mf_Pb_signsOf : MF M_Pb_signsOf 1 := ⟨G_at (i := 836) (by decide +kernel) rfl, ii_Pb, by decide +kernel, by decide, by decide +kernel⟩
set_option maxRecDepth 100000 in
theorem mv_Pb_signsOf : MV M_Pb_signsOf := ⟨G_at (i := 835) (by decide +kernel) rfl, G_at (i := 29) (by decide +kernel) rfl⟩
set_option maxRecDepth 100000 in
theorem mf_Pb_isKind : MF M_Pb_isKind 1 := ⟨G_at (i := 375) (by decide +kernel) rfl, ii_Pb, by decide +kernel, by decide, by decide +kernel⟩
set_option maxRecDepth 100000 in
theorem ms_Pb_isKind : MS M_Pb_isKind := G_at (i := 374) (by decide +kernel) rfl
set_option maxRecDepth 100000 in
theorem mf_Pb_isShare : MF M_Pb_isShare 1 := ⟨G_at (i := 378) (by decide +kernel) rfl, ii_Pb, by decide +kernel, by decide, by decide +kernel⟩
set_option maxRecDepth 100000 in
theorem ms_Pb_isShare : MS M_Pb_isShare := G_at (i := 377) (by decide +kernel) rfl
set_option maxRecDepth 100000 in
theorem mf_Pb_isSheet : MF M_Pb_isSheet 1 := ⟨G_at (i := 877) (by decide +kernel) rfl, ii_Pb, by decide +kernel, by decide, by decide +kernel⟩
set_option maxRecDepth 100000 in
theorem ms_Pb_isSheet : MS M_Pb_isSheet := G_at (i := 876) (by decide +kernel) rfl
set_option maxRecDepth 100000 in
theorem mf_Pb_isSlot : MF M_Pb_isSlot 1 := ⟨G_at (i := 915) (by decide +kernel) rfl, ii_Pb, by decide +kernel, by decide, by decide +kernel⟩
set_option maxRecDepth 100000 in
theorem ms_Pb_isSlot : MS M_Pb_isSlot := G_at (i := 914) (by decide +kernel) rfl
set_option maxRecDepth 100000 in
theorem mf_Pb_worthOf : MF M_Pb_worthOf 1 := ⟨G_at (i := 439) (by decide +kernel) rfl, ii_Pb, by decide +kernel, by decide, by decide +kernel⟩
set_option maxRecDepth 100000 in
theorem ms_Pb_worthOf : MS M_Pb_worthOf := G_at (i := 438) (by decide +kernel) rfl
set_option maxRecDepth 100000 in
theorem mf_Pb_product : MF M_Pb_product 2 := ⟨G_at (i := 420) (by decide +kernel) rfl, ii_Pb, by decide +kernel, by decide, by decide +kernel⟩
set_option maxRecDepth 100000 in
theorem ms_Pb_product : MS M_Pb_product := G_at (i := 419) (by decide +kernel) rfl
set_option maxRecDepth 100000 in
theorem mf_Pb_inverse : MF M_Pb_inverse 1 := ⟨G_at (i := 415) (by decide +kernel) rfl, ii_Pb, by decide +kernel, by decide, by decide +kernel⟩
set_option maxRecDepth 100000 in
theorem ms_Pb_inverse : MS M_Pb_inverse := G_at (i := 414) (by decide +kernel) rfl
set_option maxRecDepth 100000 in
theorem mf_Mo_init : MF M_Mo_init 0 := ⟨G_at (i := 972) (by decide +kernel) rfl, ii_Mo, by decide +kernel, by decide, by decide +kernel⟩
set_option maxRecDepth 100000 in
theorem mi_Mo_init : MI M_Mo_init := ⟨G_at (i := 971) (by decide +kernel) rfl, rfl, rfl⟩
set_option maxRecDepth 100000 in
theorem mf_Mo_isIn : MF M_Mo_isIn 3 := ⟨G_at (i := 1086) (by decide +kernel) rfl, ii_Mo, by decide +kernel, by decide, by decide +kernel⟩
set_option maxRecDepth 100000 in
theorem ms_Mo_isIn : MS M_Mo_isIn := G_at (i := 1085) (by decide +kernel) rfl
set_option maxRecDepth 100000 in
theorem mf_Mo_orNone : MF M_Mo_orNone 1 := ⟨G_at (i := 1378) (by decide +kernel) rfl, ii_Mo, by decide +kernel, by decide, by decide +kernel⟩
set_option maxRecDepth 100000 in
theorem ms_Mo_orNone : MS M_Mo_orNone := G_at (i := 1377) (by decide +kernel) rfl
set_option maxRecDepth 100000 in
theorem mf_Mo_becomes : MF M_Mo_becomes 2 := ⟨G_at (i := 1156) (by decide +kernel) rfl, ii_Mo, by decide +kernel, by decide, by decide +kernel⟩
set_option maxRecDepth 100000 in
theorem mv_Mo_becomes : MV M_Mo_becomes := ⟨G_at (i := 1155) (by decide +kernel) rfl, G_at (i := 36) (by decide +kernel) rfl⟩
set_option maxRecDepth 100000 in
theorem mf_Mo_partAt : MF M_Mo_partAt 1 := ⟨G_at (i := 1112) (by decide +kernel) rfl, ii_Mo, by decide +kernel, by decide, by decide +kernel⟩
set_option maxRecDepth 100000 in
theorem mv_Mo_partAt : MV M_Mo_partAt := ⟨G_at (i := 1111) (by decide +kernel) rfl, G_at (i := 30) (by decide +kernel) rfl⟩
set_option maxRecDepth 100000 in
theorem mf_Mo_textAt : MF M_Mo_textAt 1 := ⟨G_at (i := 1281) (by decide +kernel) rfl, ii_Mo, by decide +kernel, by decide, by decide +kernel⟩
set_option maxRecDepth 100000 in
theorem mv_Mo_textAt : MV M_Mo_textAt := ⟨G_at (i := 1280) (by decide +kernel) rfl, G_at (i := 58) (by decide +kernel) rfl⟩
set_option maxRecDepth 100000 in
theorem mf_Mo_isPart : MF M_Mo_isPart 1 := ⟨G_at (i := 1120) (by decide +kernel) rfl, ii_Mo, by decide +kernel, by decide, by decide +kernel⟩
set_option maxRecDepth 100000 in
theorem mv_Mo_isPart : MV M_Mo_isPart := ⟨G_at (i := 1119) (by decide +kernel) rfl, G_at (i := 31) (by decide +kernel) rfl⟩
set_option maxRecDepth 100000 in
theorem mf_Mo_isBond : MF M_Mo_isBond 1 := ⟨G_at (i := 1168) (by decide +kernel) rfl, ii_Mo, by decide +kernel, by decide, by decide +kernel⟩
set_option maxRecDepth 100000 in
theorem mv_Mo_isBond : MV M_Mo_isBond := ⟨G_at (i := 1167) (by decide +kernel) rfl, G_at (i := 37) (by decide +kernel) rfl⟩
set_option maxRecDepth 100000 in
theorem mf_Mo_isText : MF M_Mo_isText 1 := ⟨G_at (i := 1371) (by decide +kernel) rfl, ii_Mo, by decide +kernel, by decide, by decide +kernel⟩
set_option maxRecDepth 100000 in
theorem mv_Mo_isText : MV M_Mo_isText := ⟨G_at (i := 1370) (by decide +kernel) rfl, G_at (i := 74) (by decide +kernel) rfl⟩
set_option maxRecDepth 100000 in
theorem mf_Mo_kindOf : MF M_Mo_kindOf 1 := ⟨G_at (i := 1136) (by decide +kernel) rfl, ii_Mo, by decide +kernel, by decide, by decide +kernel⟩
set_option maxRecDepth 100000 in
theorem mv_Mo_kindOf : MV M_Mo_kindOf := ⟨G_at (i := 1135) (by decide +kernel) rfl, G_at (i := 35) (by decide +kernel) rfl⟩
set_option maxRecDepth 100000 in
theorem mf_Mo_sortOf : MF M_Mo_sortOf 1 := ⟨G_at (i := 1200) (by decide +kernel) rfl, ii_Mo, by decide +kernel, by decide, by decide +kernel⟩
set_option maxRecDepth 100000 in
theorem mv_Mo_sortOf : MV M_Mo_sortOf := ⟨G_at (i := 1199) (by decide +kernel) rfl, G_at (i := 43) (by decide +kernel) rfl⟩
set_option maxRecDepth 100000 in
theorem mf_Mo_worthOf : MF M_Mo_worthOf 1 := ⟨G_at (i := 1090) (by decide +kernel) rfl, ii_Mo, by decide +kernel, by decide, by decide +kernel⟩
set_option maxRecDepth 100000 in
theorem ms_Mo_worthOf : MS M_Mo_worthOf := G_at (i := 1089) (by decide +kernel) rfl
set_option maxRecDepth 100000 in
theorem mf_Mo_over : MF M_Mo_over 1 := ⟨G_at (i := 1095) (by decide +kernel) rfl, ii_Mo, by decide +kernel, by decide, by decide +kernel⟩
set_option maxRecDepth 100000 in
theorem ms_Mo_over : MS M_Mo_over := G_at (i := 1094) (by decide +kernel) rfl
set_option maxRecDepth 100000 in
theorem mf_Mo_worth : MF M_Mo_worth 3 := ⟨G_at (i := 1083) (by decide +kernel) rfl, ii_Mo, by decide +kernel, by decide, by decide +kernel⟩
set_option maxRecDepth 100000 in
theorem mv_Mo_worth : MV M_Mo_worth := ⟨G_at (i := 1081) (by decide +kernel) rfl, G_at (i := 1082) (by decide +kernel) rfl⟩
set_option maxRecDepth 100000 in
theorem mf_Mo_isShare : MF M_Mo_isShare 1 := ⟨G_at (i := 1105) (by decide +kernel) rfl, ii_Mo, by decide +kernel, by decide, by decide +kernel⟩
set_option maxRecDepth 100000 in
theorem ms_Mo_isShare : MS M_Mo_isShare := G_at (i := 1104) (by decide +kernel) rfl
set_option maxRecDepth 100000 in
theorem mf_Mo_shareOf : MF M_Mo_shareOf 2 := ⟨G_at (i := 1139) (by decide +kernel) rfl, ii_Mo, by decide +kernel, by decide, by decide +kernel⟩
set_option maxRecDepth 100000 in
theorem ms_Mo_shareOf : MS M_Mo_shareOf := G_at (i := 1138) (by decide +kernel) rfl
set_option maxRecDepth 100000 in
theorem mf_Mo_part : MF M_Mo_part 3 := ⟨G_at (i := 1101) (by decide +kernel) rfl, ii_Mo, by decide +kernel, by decide, by decide +kernel⟩
set_option maxRecDepth 100000 in
theorem mv_Mo_part : MV M_Mo_part := ⟨G_at (i := 1099) (by decide +kernel) rfl, G_at (i := 1100) (by decide +kernel) rfl⟩
set_option maxRecDepth 100000 in
theorem mf_Mo_comes : MF M_Mo_comes 2 := ⟨G_at (i := 1128) (by decide +kernel) rfl, ii_Mo, by decide +kernel, by decide, by decide +kernel⟩
set_option maxRecDepth 100000 in
theorem mv_Mo_comes : MV M_Mo_comes := ⟨G_at (i := 1127) (by decide +kernel) rfl, G_at (i := 33) (by decide +kernel) rfl⟩
set_option maxRecDepth 100000 in
theorem mf_Mo_endsOf : MF M_Mo_endsOf 1 := ⟨G_at (i := 1124) (by decide +kernel) rfl, ii_Mo, by decide +kernel, by decide, by decide +kernel⟩
set_option maxRecDepth 100000 in
theorem mv_Mo_endsOf : MV M_Mo_endsOf := ⟨G_at (i := 1123) (by decide +kernel) rfl, G_at (i := 32) (by decide +kernel) rfl⟩
set_option maxRecDepth 100000 in
theorem mf_Mo_hasEnds : MF M_Mo_hasEnds 1 := ⟨G_at (i := 1132) (by decide +kernel) rfl, ii_Mo, by decide +kernel, by decide, by decide +kernel⟩
set_option maxRecDepth 100000 in
theorem mv_Mo_hasEnds : MV M_Mo_hasEnds := ⟨G_at (i := 1131) (by decide +kernel) rfl, G_at (i := 34) (by decide +kernel) rfl⟩
set_option maxRecDepth 100000 in
theorem mf_Mo_isWhole : MF M_Mo_isWhole 0 := ⟨G_at (i := 1176) (by decide +kernel) rfl, ii_Mo, by decide +kernel, by decide, by decide +kernel⟩
set_option maxRecDepth 100000 in
theorem mv_Mo_isWhole : MV M_Mo_isWhole := ⟨G_at (i := 1175) (by decide +kernel) rfl, G_at (i := 38) (by decide +kernel) rfl⟩
set_option maxRecDepth 100000 in
theorem mf_Mo_told : MF M_Mo_told 2 := ⟨G_at (i := 1116) (by decide +kernel) rfl, ii_Mo, by decide +kernel, by decide, by decide +kernel⟩
set_option maxRecDepth 100000 in
theorem mv_Mo_told : MV M_Mo_told := ⟨G_at (i := 1114) (by decide +kernel) rfl, G_at (i := 1115) (by decide +kernel) rfl⟩
set_option maxRecDepth 100000 in
theorem mf_Mo_isOf : MF M_Mo_isOf 2 := ⟨G_at (i := 1146) (by decide +kernel) rfl, ii_Mo, by decide +kernel, by decide, by decide +kernel⟩
set_option maxRecDepth 100000 in
theorem ms_Mo_isOf : MS M_Mo_isOf := G_at (i := 1145) (by decide +kernel) rfl
set_option maxRecDepth 100000 in
theorem mf_Mo_as : MF M_Mo_as 2 := ⟨G_at (i := 1143) (by decide +kernel) rfl, ii_Mo, by decide +kernel, by decide, by decide +kernel⟩
set_option maxRecDepth 100000 in
theorem mv_Mo_as : MV M_Mo_as := ⟨G_at (i := 1141) (by decide +kernel) rfl, G_at (i := 1142) (by decide +kernel) rfl⟩
set_option maxRecDepth 100000 in
theorem mf_Mo_set : MF M_Mo_set 3 := ⟨G_at (i := 1151) (by decide +kernel) rfl, ii_Mo, by decide +kernel, by decide, by decide +kernel⟩
set_option maxRecDepth 100000 in
theorem mv_Mo_set : MV M_Mo_set := ⟨G_at (i := 1149) (by decide +kernel) rfl, G_at (i := 1150) (by decide +kernel) rfl⟩
set_option maxRecDepth 100000 in
theorem mf_Mo_bond : MF M_Mo_bond 2 := ⟨G_at (i := 1160) (by decide +kernel) rfl, ii_Mo, by decide +kernel, by decide, by decide +kernel⟩
set_option maxRecDepth 100000 in
theorem mv_Mo_bond : MV M_Mo_bond := ⟨G_at (i := 1158) (by decide +kernel) rfl, G_at (i := 1159) (by decide +kernel) rfl⟩
set_option maxRecDepth 100000 in
theorem mf_Mo_breaks : MF M_Mo_breaks 1 := ⟨G_at (i := 1164) (by decide +kernel) rfl, ii_Mo, by decide +kernel, by decide, by decide +kernel⟩
set_option maxRecDepth 100000 in
theorem mv_Mo_breaks : MV M_Mo_breaks := ⟨G_at (i := 1162) (by decide +kernel) rfl, G_at (i := 1163) (by decide +kernel) rfl⟩
set_option maxRecDepth 100000 in
theorem mf_Mo_whole : MF M_Mo_whole 0 := ⟨G_at (i := 1172) (by decide +kernel) rfl, ii_Mo, by decide +kernel, by decide, by decide +kernel⟩
set_option maxRecDepth 100000 in
theorem mv_Mo_whole : MV M_Mo_whole := ⟨G_at (i := 1170) (by decide +kernel) rfl, G_at (i := 1171) (by decide +kernel) rfl⟩
set_option maxRecDepth 100000 in
theorem mf_Mo_line : MF M_Mo_line 0 := ⟨G_at (i := 1204) (by decide +kernel) rfl, ii_Mo, by decide +kernel, by decide, by decide +kernel⟩
set_option maxRecDepth 100000 in
theorem mv_Mo_line : MV M_Mo_line := ⟨G_at (i := 1203) (by decide +kernel) rfl, G_at (i := 44) (by decide +kernel) rfl⟩
set_option maxRecDepth 100000 in
theorem mf_Mo_put : MF M_Mo_put 3 := ⟨G_at (i := 1208) (by decide +kernel) rfl, ii_Mo, by decide +kernel, by decide, by decide +kernel⟩
set_option maxRecDepth 100000 in
theorem mv_Mo_put : MV M_Mo_put := ⟨G_at (i := 1207) (by decide +kernel) rfl, G_at (i := 45) (by decide +kernel) rfl⟩
set_option maxRecDepth 100000 in
theorem mf_Mo_comesTo : MF M_Mo_comesTo 1 := ⟨G_at (i := 1217) (by decide +kernel) rfl, ii_Mo, by decide +kernel, by decide, by decide +kernel⟩
set_option maxRecDepth 100000 in
theorem mv_Mo_comesTo : MV M_Mo_comesTo := ⟨G_at (i := 1216) (by decide +kernel) rfl, G_at (i := 47) (by decide +kernel) rfl⟩
set_option maxRecDepth 100000 in
theorem mf_Mo_bondOf : MF M_Mo_bondOf 2 := ⟨G_at (i := 1196) (by decide +kernel) rfl, ii_Mo, by decide +kernel, by decide, by decide +kernel⟩
set_option maxRecDepth 100000 in
theorem mv_Mo_bondOf : MV M_Mo_bondOf := ⟨G_at (i := 1195) (by decide +kernel) rfl, G_at (i := 42) (by decide +kernel) rfl⟩
set_option maxRecDepth 100000 in
theorem mf_Mo_lawsOfTurn : MF M_Mo_lawsOfTurn 2 := ⟨G_at (i := 1192) (by decide +kernel) rfl, ii_Mo, by decide +kernel, by decide, by decide +kernel⟩
set_option maxRecDepth 100000 in
theorem mv_Mo_lawsOfTurn : MV M_Mo_lawsOfTurn := ⟨G_at (i := 1191) (by decide +kernel) rfl, G_at (i := 41) (by decide +kernel) rfl⟩
set_option maxRecDepth 100000 in
theorem mf_Mo_lawsOfJoin : MF M_Mo_lawsOfJoin 1 := ⟨G_at (i := 1212) (by decide +kernel) rfl, ii_Mo, by decide +kernel, by decide, by decide +kernel⟩
set_option maxRecDepth 100000 in
theorem mv_Mo_lawsOfJoin : MV M_Mo_lawsOfJoin := ⟨G_at (i := 1211) (by decide +kernel) rfl, G_at (i := 46) (by decide +kernel) rfl⟩
set_option maxRecDepth 100000 in
theorem mf_Mo_lawsOf : MF M_Mo_lawsOf 1 := ⟨G_at (i := 1188) (by decide +kernel) rfl, ii_Mo, by decide +kernel, by decide, by decide +kernel⟩
set_option maxRecDepth 100000 in
theorem mv_Mo_lawsOf : MV M_Mo_lawsOf := ⟨G_at (i := 1187) (by decide +kernel) rfl, G_at (i := 40) (by decide +kernel) rfl⟩
set_option maxRecDepth 100000 in
theorem mf_Mo_swap : MF M_Mo_swap 2 := ⟨G_at (i := 1221) (by decide +kernel) rfl, ii_Mo, by decide +kernel, by decide, by decide +kernel⟩
set_option maxRecDepth 100000 in
theorem mv_Mo_swap : MV M_Mo_swap := ⟨G_at (i := 1220) (by decide +kernel) rfl, G_at (i := 48) (by decide +kernel) rfl⟩
set_option maxRecDepth 100000 in
theorem mf_Mo_solve : MF M_Mo_solve 0 := ⟨G_at (i := 1184) (by decide +kernel) rfl, ii_Mo, by decide +kernel, by decide, by decide +kernel⟩
set_option maxRecDepth 100000 in
theorem mv_Mo_solve : MV M_Mo_solve := ⟨G_at (i := 1183) (by decide +kernel) rfl, G_at (i := 39) (by decide +kernel) rfl⟩
set_option maxRecDepth 100000 in
theorem mf_Mo_answers : MF M_Mo_answers 0 := ⟨G_at (i := 1180) (by decide +kernel) rfl, ii_Mo, by decide +kernel, by decide, by decide +kernel⟩
set_option maxRecDepth 100000 in
theorem mv_Mo_answers : MV M_Mo_answers := ⟨G_at (i := 1178) (by decide +kernel) rfl, G_at (i := 1179) (by decide +kernel) rfl⟩
set_option maxRecDepth 100000 in
theorem mf_Mo_of : MF M_Mo_of 2 := ⟨G_at (i := 1226) (by decide +kernel) rfl, ii_Mo, by decide +kernel, by decide, by decide +kernel⟩
set_option maxRecDepth 100000 in
theorem mv_Mo_of : MV M_Mo_of := ⟨G_at (i := 1224) (by decide +kernel) rfl, G_at (i := 1225) (by decide +kernel) rfl⟩
set_option maxRecDepth 100000 in
theorem mf_Mo_settles : MF M_Mo_settles 2 := ⟨G_at (i := 1238) (by decide +kernel) rfl, ii_Mo, by decide +kernel, by decide, by decide +kernel⟩
set_option maxRecDepth 100000 in
theorem mv_Mo_settles : MV M_Mo_settles := ⟨G_at (i := 1237) (by decide +kernel) rfl, G_at (i := 50) (by decide +kernel) rfl⟩
set_option maxRecDepth 100000 in
theorem mf_Mo_canBe : MF M_Mo_canBe 1 := ⟨G_at (i := 1234) (by decide +kernel) rfl, ii_Mo, by decide +kernel, by decide, by decide +kernel⟩
set_option maxRecDepth 100000 in
theorem mv_Mo_canBe : MV M_Mo_canBe := ⟨G_at (i := 1233) (by decide +kernel) rfl, G_at (i := 49) (by decide +kernel) rfl⟩
set_option maxRecDepth 100000 in
theorem mf_Mo_sums : MF M_Mo_sums 2 := ⟨G_at (i := 1246) (by decide +kernel) rfl, ii_Mo, by decide +kernel, by decide, by decide +kernel⟩
set_option maxRecDepth 100000 in
theorem mv_Mo_sums : MV M_Mo_sums := ⟨G_at (i := 1245) (by decide +kernel) rfl, G_at (i := 52) (by decide +kernel) rfl⟩
set_option maxRecDepth 100000 in
theorem mf_Mo_summing : MF M_Mo_summing 1 := ⟨G_at (i := 1242) (by decide +kernel) rfl, ii_Mo, by decide +kernel, by decide, by decide +kernel⟩
set_option maxRecDepth 100000 in
theorem mv_Mo_summing : MV M_Mo_summing := ⟨G_at (i := 1241) (by decide +kernel) rfl, G_at (i := 51) (by decide +kernel) rfl⟩
set_option maxRecDepth 100000 in
theorem mf_Mo_tied : MF M_Mo_tied 1 := ⟨G_at (i := 1251) (by decide +kernel) rfl, ii_Mo, by decide +kernel, by decide, by decide +kernel⟩
set_option maxRecDepth 100000 in
theorem mv_Mo_tied : MV M_Mo_tied := ⟨G_at (i := 1250) (by decide +kernel) rfl, G_at (i := 53) (by decide +kernel) rfl⟩
set_option maxRecDepth 100000 in
theorem mf_Mo_strokes : MF M_Mo_strokes 1 := ⟨G_at (i := 1230) (by decide +kernel) rfl, ii_Mo, by decide +kernel, by decide, by decide +kernel⟩
set_option maxRecDepth 100000 in
theorem mv_Mo_strokes : MV M_Mo_strokes := ⟨G_at (i := 1228) (by decide +kernel) rfl, G_at (i := 1229) (by decide +kernel) rfl⟩
set_option maxRecDepth 100000 in
theorem mf_Mo_can : MF M_Mo_can 1 := ⟨G_at (i := 1256) (by decide +kernel) rfl, ii_Mo, by decide +kernel, by decide, by decide +kernel⟩
set_option maxRecDepth 100000 in
theorem mv_Mo_can : MV M_Mo_can := ⟨G_at (i := 1254) (by decide +kernel) rfl, G_at (i := 1255) (by decide +kernel) rfl⟩
set_option maxRecDepth 100000 in
theorem mf_Mo_counts : MF M_Mo_counts 1 := ⟨G_at (i := 1277) (by decide +kernel) rfl, ii_Mo, by decide +kernel, by decide, by decide +kernel⟩
set_option maxRecDepth 100000 in
theorem mv_Mo_counts : MV M_Mo_counts := ⟨G_at (i := 1276) (by decide +kernel) rfl, G_at (i := 57) (by decide +kernel) rfl⟩
set_option maxRecDepth 100000 in
theorem mf_Mo_gives : MF M_Mo_gives 1 := ⟨G_at (i := 1273) (by decide +kernel) rfl, ii_Mo, by decide +kernel, by decide, by decide +kernel⟩
set_option maxRecDepth 100000 in
theorem mv_Mo_gives : MV M_Mo_gives := ⟨G_at (i := 1272) (by decide +kernel) rfl, G_at (i := 56) (by decide +kernel) rfl⟩
set_option maxRecDepth 100000 in
theorem mf_Mo_oneStep : MF M_Mo_oneStep 0 := ⟨G_at (i := 1269) (by decide +kernel) rfl, ii_Mo, by decide +kernel, by decide, by decide +kernel⟩
set_option maxRecDepth 100000 in
theorem mv_Mo_oneStep : MV M_Mo_oneStep := ⟨G_at (i := 1268) (by decide +kernel) rfl, G_at (i := 55) (by decide +kernel) rfl⟩
set_option maxRecDepth 100000 in
theorem mf_Mo_setAside : MF M_Mo_setAside 2 := ⟨G_at (i := 1265) (by decide +kernel) rfl, ii_Mo, by decide +kernel, by decide, by decide +kernel⟩
set_option maxRecDepth 100000 in
theorem mv_Mo_setAside : MV M_Mo_setAside := ⟨G_at (i := 1264) (by decide +kernel) rfl, G_at (i := 54) (by decide +kernel) rfl⟩
set_option maxRecDepth 100000 in
theorem mf_Mo_run : MF M_Mo_run 1 := ⟨G_at (i := 1260) (by decide +kernel) rfl, ii_Mo, by decide +kernel, by decide, by decide +kernel⟩
set_option maxRecDepth 100000 in
theorem mv_Mo_run : MV M_Mo_run := ⟨G_at (i := 1258) (by decide +kernel) rfl, G_at (i := 1259) (by decide +kernel) rfl⟩
set_option maxRecDepth 100000 in
theorem mf_Mo_feed : MF M_Mo_feed 3 := ⟨G_at (i := 1292) (by decide +kernel) rfl, ii_Mo, by decide +kernel, by decide, by decide +kernel⟩
set_option maxRecDepth 100000 in
theorem mv_Mo_feed : MV M_Mo_feed := ⟨G_at (i := 1290) (by decide +kernel) rfl, G_at (i := 1291) (by decide +kernel) rfl⟩
set_option maxRecDepth 100000 in
theorem mf_Mo_trim : MF M_Mo_trim 1 := ⟨G_at (i := 1296) (by decide +kernel) rfl, ii_Mo, by decide +kernel, by decide, by decide +kernel⟩
set_option maxRecDepth 100000 in
theorem mv_Mo_trim : MV M_Mo_trim := ⟨G_at (i := 1294) (by decide +kernel) rfl, G_at (i := 1295) (by decide +kernel) rfl⟩
set_option maxRecDepth 100000 in
theorem mf_Mo_isLetter : MF M_Mo_isLetter 1 := ⟨G_at (i := 1312) (by decide +kernel) rfl, ii_Mo, by decide +kernel, by decide, by decide +kernel⟩
set_option maxRecDepth 100000 in
theorem mv_Mo_isLetter : MV M_Mo_isLetter := ⟨G_at (i := 1311) (by decide +kernel) rfl, G_at (i := 62) (by decide +kernel) rfl⟩
set_option maxRecDepth 100000 in
theorem mf_Mo_isDigit : MF M_Mo_isDigit 1 := ⟨G_at (i := 1318) (by decide +kernel) rfl, ii_Mo, by decide +kernel, by decide, by decide +kernel⟩
set_option maxRecDepth 100000 in
theorem mv_Mo_isDigit : MV M_Mo_isDigit := ⟨G_at (i := 1317) (by decide +kernel) rfl, G_at (i := 63) (by decide +kernel) rfl⟩
set_option maxRecDepth 100000 in
theorem mf_Mo_next : MF M_Mo_next 0 := ⟨G_at (i := 1308) (by decide +kernel) rfl, ii_Mo, by decide +kernel, by decide, by decide +kernel⟩
set_option maxRecDepth 100000 in
theorem mv_Mo_next : MV M_Mo_next := ⟨G_at (i := 1307) (by decide +kernel) rfl, G_at (i := 61) (by decide +kernel) rfl⟩
set_option maxRecDepth 100000 in
theorem mf_Mo_isSign : MF M_Mo_isSign 1 := ⟨G_at (i := 1363) (by decide +kernel) rfl, ii_Mo, by decide +kernel, by decide, by decide +kernel⟩
set_option maxRecDepth 100000 in
theorem mv_Mo_isSign : MV M_Mo_isSign := ⟨G_at (i := 1362) (by decide +kernel) rfl, G_at (i := 73) (by decide +kernel) rfl⟩
set_option maxRecDepth 100000 in
theorem mf_Mo_isWordAt : MF M_Mo_isWordAt 4 := ⟨G_at (i := 1328) (by decide +kernel) rfl, ii_Mo, by decide +kernel, by decide, by decide +kernel⟩
set_option maxRecDepth 100000 in
theorem mv_Mo_isWordAt : MV M_Mo_isWordAt := ⟨G_at (i := 1327) (by decide +kernel) rfl, G_at (i := 65) (by decide +kernel) rfl⟩
set_option maxRecDepth 100000 in
theorem mf_Mo_key : MF M_Mo_key 0 := ⟨G_at (i := 1324) (by decide +kernel) rfl, ii_Mo, by decide +kernel, by decide, by decide +kernel⟩
set_option maxRecDepth 100000 in
theorem mv_Mo_key : MV M_Mo_key := ⟨G_at (i := 1323) (by decide +kernel) rfl, G_at (i := 64) (by decide +kernel) rfl⟩
set_option maxRecDepth 100000 in
theorem mf_Mo_isName : MF M_Mo_isName 2 := ⟨G_at (i := 1359) (by decide +kernel) rfl, ii_Mo, by decide +kernel, by decide, by decide +kernel⟩
set_option maxRecDepth 100000 in
theorem ms_Mo_isName : MS M_Mo_isName := G_at (i := 1358) (by decide +kernel) rfl
set_option maxRecDepth 100000 in
theorem mf_Mo_step : MF M_Mo_step 2 := ⟨G_at (i := 1356) (by decide +kernel) rfl, ii_Mo, by decide +kernel, by decide, by decide +kernel⟩
set_option maxRecDepth 100000 in
theorem mv_Mo_step : MV M_Mo_step := ⟨G_at (i := 1355) (by decide +kernel) rfl, G_at (i := 72) (by decide +kernel) rfl⟩
set_option maxRecDepth 100000 in
theorem mf_Mo_either : MF M_Mo_either 1 := ⟨G_at (i := 1332) (by decide +kernel) rfl, ii_Mo, by decide +kernel, by decide, by decide +kernel⟩
set_option maxRecDepth 100000 in
theorem mv_Mo_either : MV M_Mo_either := ⟨G_at (i := 1331) (by decide +kernel) rfl, G_at (i := 66) (by decide +kernel) rfl⟩
set_option maxRecDepth 100000 in
theorem mf_Mo_both : MF M_Mo_both 1 := ⟨G_at (i := 1336) (by decide +kernel) rfl, ii_Mo, by decide +kernel, by decide, by decide +kernel⟩
set_option maxRecDepth 100000 in
theorem mv_Mo_both : MV M_Mo_both := ⟨G_at (i := 1335) (by decide +kernel) rfl, G_at (i := 67) (by decide +kernel) rfl⟩
set_option maxRecDepth 100000 in
theorem mf_Mo_test : MF M_Mo_test 1 := ⟨G_at (i := 1340) (by decide +kernel) rfl, ii_Mo, by decide +kernel, by decide, by decide +kernel⟩
set_option maxRecDepth 100000 in
theorem mv_Mo_test : MV M_Mo_test := ⟨G_at (i := 1339) (by decide +kernel) rfl, G_at (i := 68) (by decide +kernel) rfl⟩
set_option maxRecDepth 100000 in
theorem mf_Mo_sum : MF M_Mo_sum 1 := ⟨G_at (i := 1344) (by decide +kernel) rfl, ii_Mo, by decide +kernel, by decide, by decide +kernel⟩
set_option maxRecDepth 100000 in
theorem mv_Mo_sum : MV M_Mo_sum := ⟨G_at (i := 1343) (by decide +kernel) rfl, G_at (i := 69) (by decide +kernel) rfl⟩
set_option maxRecDepth 100000 in
theorem mf_Mo_term : MF M_Mo_term 1 := ⟨G_at (i := 1348) (by decide +kernel) rfl, ii_Mo, by decide +kernel, by decide, by decide +kernel⟩
set_option maxRecDepth 100000 in
theorem mv_Mo_term : MV M_Mo_term := ⟨G_at (i := 1347) (by decide +kernel) rfl, G_at (i := 70) (by decide +kernel) rfl⟩
set_option maxRecDepth 100000 in
theorem mf_Mo_part0 : MF M_Mo_part0 1 := ⟨G_at (i := 1352) (by decide +kernel) rfl, ii_Mo, by decide +kernel, by decide, by decide +kernel⟩
set_option maxRecDepth 100000 in
theorem mv_Mo_part0 : MV M_Mo_part0 := ⟨G_at (i := 1351) (by decide +kernel) rfl, G_at (i := 71) (by decide +kernel) rfl⟩
set_option maxRecDepth 100000 in
theorem mf_Mo_parse : MF M_Mo_parse 0 := ⟨G_at (i := 1304) (by decide +kernel) rfl, ii_Mo, by decide +kernel, by decide, by decide +kernel⟩
set_option maxRecDepth 100000 in
theorem mv_Mo_parse : MV M_Mo_parse := ⟨G_at (i := 1303) (by decide +kernel) rfl, G_at (i := 60) (by decide +kernel) rfl⟩
set_option maxRecDepth 100000 in
theorem mf_Mo_text : MF M_Mo_text 0 := ⟨G_at (i := 1300) (by decide +kernel) rfl, ii_Mo, by decide +kernel, by decide, by decide +kernel⟩
set_option maxRecDepth 100000 in
theorem mv_Mo_text : MV M_Mo_text := ⟨G_at (i := 1298) (by decide +kernel) rfl, G_at (i := 1299) (by decide +kernel) rfl⟩
set_option maxRecDepth 100000 in
theorem mf_Mo_textTold : MF M_Mo_textTold 2 := ⟨G_at (i := 1367) (by decide +kernel) rfl, ii_Mo, by decide +kernel, by decide, by decide +kernel⟩
set_option maxRecDepth 100000 in
theorem mv_Mo_textTold : MV M_Mo_textTold := ⟨G_at (i := 1365) (by decide +kernel) rfl, G_at (i := 1366) (by decide +kernel) rfl⟩
set_option maxRecDepth 100000 in
theorem mf_Mo_why : MF M_Mo_why 2 := ⟨G_at (i := 1375) (by decide +kernel) rfl, ii_Mo, by decide +kernel, by decide, by decide +kernel⟩
set_option maxRecDepth 100000 in
theorem mv_Mo_why : MV M_Mo_why := ⟨G_at (i := 1373) (by decide +kernel) rfl, G_at (i := 1374) (by decide +kernel) rfl⟩
set_option maxRecDepth 100000 in
theorem mf_Mo_joined : MF M_Mo_joined 3 := ⟨G_at (i := 1288) (by decide +kernel) rfl, ii_Mo, by decide +kernel, by decide, by decide +kernel⟩
set_option maxRecDepth 100000 in
theorem ms_Mo_joined : MS M_Mo_joined := G_at (i := 1287) (by decide +kernel) rfl
set_option maxRecDepth 100000 in
theorem mf_Mo_worked : MF M_Mo_worked 1 := ⟨G_at (i := 1285) (by decide +kernel) rfl, ii_Mo, by decide +kernel, by decide, by decide +kernel⟩
set_option maxRecDepth 100000 in
theorem mv_Mo_worked : MV M_Mo_worked := ⟨G_at (i := 1284) (by decide +kernel) rfl, G_at (i := 59) (by decide +kernel) rfl⟩
set_option maxRecDepth 100000 in
theorem mf_Mo_read : MF M_Mo_read 1 := ⟨G_at (i := 1383) (by decide +kernel) rfl, ii_Mo, by decide +kernel, by decide, by decide +kernel⟩
set_option maxRecDepth 100000 in
theorem mv_Mo_read : MV M_Mo_read := ⟨G_at (i := 1381) (by decide +kernel) rfl, G_at (i := 1382) (by decide +kernel) rfl⟩
set_option maxRecDepth 100000 in
theorem mf_Mo_moves : MF M_Mo_moves 3 := ⟨G_at (i := 1387) (by decide +kernel) rfl, ii_Mo, by decide +kernel, by decide, by decide +kernel⟩
set_option maxRecDepth 100000 in
theorem mv_Mo_moves : MV M_Mo_moves := ⟨G_at (i := 1385) (by decide +kernel) rfl, G_at (i := 1386) (by decide +kernel) rfl⟩
set_option maxRecDepth 100000 in
theorem mf_Mo_signs : MF M_Mo_signs 1 := ⟨G_at (i := 1391) (by decide +kernel) rfl, ii_Mo, by decide +kernel, by decide, by decide +kernel⟩
set_option maxRecDepth 100000 in
theorem mv_Mo_signs : MV M_Mo_signs := ⟨G_at (i := 1389) (by decide +kernel) rfl, G_at (i := 1390) (by decide +kernel) rfl⟩
set_option maxRecDepth 100000 in
theorem mf_Mo_apart : MF M_Mo_apart 2 := ⟨G_at (i := 1395) (by decide +kernel) rfl, ii_Mo, by decide +kernel, by decide, by decide +kernel⟩
set_option maxRecDepth 100000 in
theorem mv_Mo_apart : MV M_Mo_apart := ⟨G_at (i := 1393) (by decide +kernel) rfl, G_at (i := 1394) (by decide +kernel) rfl⟩
set_option maxRecDepth 100000 in
theorem mf_Mo_dual : MF M_Mo_dual 0 := ⟨G_at (i := 1400) (by decide +kernel) rfl, ii_Mo, by decide +kernel, by decide, by decide +kernel⟩
set_option maxRecDepth 100000 in
theorem mv_Mo_dual : MV M_Mo_dual := ⟨G_at (i := 1398) (by decide +kernel) rfl, G_at (i := 1399) (by decide +kernel) rfl⟩
set_option maxRecDepth 100000 in
theorem mf_Mo_findWays : MF M_Mo_findWays 1 := ⟨G_at (i := 1408) (by decide +kernel) rfl, ii_Mo, by decide +kernel, by decide, by decide +kernel⟩
set_option maxRecDepth 100000 in
theorem mv_Mo_findWays : MV M_Mo_findWays := ⟨G_at (i := 1407) (by decide +kernel) rfl, G_at (i := 75) (by decide +kernel) rfl⟩
set_option maxRecDepth 100000 in
theorem mf_Mo_rings : MF M_Mo_rings 0 := ⟨G_at (i := 1404) (by decide +kernel) rfl, ii_Mo, by decide +kernel, by decide, by decide +kernel⟩
set_option maxRecDepth 100000 in
theorem mv_Mo_rings : MV M_Mo_rings := ⟨G_at (i := 1402) (by decide +kernel) rfl, G_at (i := 1403) (by decide +kernel) rfl⟩
set_option maxRecDepth 100000 in
theorem mf_Mo_way : MF M_Mo_way 2 := ⟨G_at (i := 1412) (by decide +kernel) rfl, ii_Mo, by decide +kernel, by decide, by decide +kernel⟩
set_option maxRecDepth 100000 in
theorem mv_Mo_way : MV M_Mo_way := ⟨G_at (i := 1410) (by decide +kernel) rfl, G_at (i := 1411) (by decide +kernel) rfl⟩
set_option maxRecDepth 100000 in
theorem mf_Mo_isSheet : MF M_Mo_isSheet 1 := ⟨G_at (i := 1419) (by decide +kernel) rfl, ii_Mo, by decide +kernel, by decide, by decide +kernel⟩
set_option maxRecDepth 100000 in
theorem ms_Mo_isSheet : MS M_Mo_isSheet := G_at (i := 1418) (by decide +kernel) rfl
set_option maxRecDepth 100000 in
theorem mf_Mo_sheet : MF M_Mo_sheet 3 := ⟨G_at (i := 1416) (by decide +kernel) rfl, ii_Mo, by decide +kernel, by decide, by decide +kernel⟩
set_option maxRecDepth 100000 in
theorem mv_Mo_sheet : MV M_Mo_sheet := ⟨G_at (i := 1414) (by decide +kernel) rfl, G_at (i := 1415) (by decide +kernel) rfl⟩
set_option maxRecDepth 100000 in
theorem mf_Mo_mark : MF M_Mo_mark 3 := ⟨G_at (i := 1424) (by decide +kernel) rfl, ii_Mo, by decide +kernel, by decide, by decide +kernel⟩
set_option maxRecDepth 100000 in
theorem mv_Mo_mark : MV M_Mo_mark := ⟨G_at (i := 1422) (by decide +kernel) rfl, G_at (i := 1423) (by decide +kernel) rfl⟩
set_option maxRecDepth 100000 in
theorem mf_Mo_pour : MF M_Mo_pour 1 := ⟨G_at (i := 1430) (by decide +kernel) rfl, ii_Mo, by decide +kernel, by decide, by decide +kernel⟩
set_option maxRecDepth 100000 in
theorem mv_Mo_pour : MV M_Mo_pour := ⟨G_at (i := 1428) (by decide +kernel) rfl, G_at (i := 1429) (by decide +kernel) rfl⟩
set_option maxRecDepth 100000 in
theorem mf_Mo_copy : MF M_Mo_copy 5 := ⟨G_at (i := 1434) (by decide +kernel) rfl, ii_Mo, by decide +kernel, by decide, by decide +kernel⟩
set_option maxRecDepth 100000 in
theorem mv_Mo_copy : MV M_Mo_copy := ⟨G_at (i := 1432) (by decide +kernel) rfl, G_at (i := 1433) (by decide +kernel) rfl⟩
set_option maxRecDepth 100000 in
theorem mf_Mo_isSlot : MF M_Mo_isSlot 1 := ⟨G_at (i := 1441) (by decide +kernel) rfl, ii_Mo, by decide +kernel, by decide, by decide +kernel⟩
set_option maxRecDepth 100000 in
theorem ms_Mo_isSlot : MS M_Mo_isSlot := G_at (i := 1440) (by decide +kernel) rfl
set_option maxRecDepth 100000 in
theorem mf_Mo_lay : MF M_Mo_lay 3 := ⟨G_at (i := 1438) (by decide +kernel) rfl, ii_Mo, by decide +kernel, by decide, by decide +kernel⟩
set_option maxRecDepth 100000 in
theorem mv_Mo_lay : MV M_Mo_lay := ⟨G_at (i := 1436) (by decide +kernel) rfl, G_at (i := 1437) (by decide +kernel) rfl⟩
set_option maxRecDepth 100000 in
theorem mf_Mo_ask : MF M_Mo_ask 2 := ⟨G_at (i := 1446) (by decide +kernel) rfl, ii_Mo, by decide +kernel, by decide, by decide +kernel⟩
set_option maxRecDepth 100000 in
theorem mv_Mo_ask : MV M_Mo_ask := ⟨G_at (i := 1444) (by decide +kernel) rfl, G_at (i := 1445) (by decide +kernel) rfl⟩
set_option maxRecDepth 100000 in
theorem mf_Mo_item : MF M_Mo_item 2 := ⟨G_at (i := 1450) (by decide +kernel) rfl, ii_Mo, by decide +kernel, by decide, by decide +kernel⟩
set_option maxRecDepth 100000 in
theorem mv_Mo_item : MV M_Mo_item := ⟨G_at (i := 1448) (by decide +kernel) rfl, G_at (i := 1449) (by decide +kernel) rfl⟩
set_option maxRecDepth 100000 in
theorem mf_Mo_rest : MF M_Mo_rest 2 := ⟨G_at (i := 1454) (by decide +kernel) rfl, ii_Mo, by decide +kernel, by decide, by decide +kernel⟩
set_option maxRecDepth 100000 in
theorem mv_Mo_rest : MV M_Mo_rest := ⟨G_at (i := 1452) (by decide +kernel) rfl, G_at (i := 1453) (by decide +kernel) rfl⟩
set_option maxRecDepth 100000 in
theorem mf_Mo_tell : MF M_Mo_tell 1 := ⟨G_at (i := 1458) (by decide +kernel) rfl, ii_Mo, by decide +kernel, by decide, by decide +kernel⟩
set_option maxRecDepth 100000 in
theorem mv_Mo_tell : MV M_Mo_tell := ⟨G_at (i := 1456) (by decide +kernel) rfl, G_at (i := 1457) (by decide +kernel) rfl⟩
set_option maxRecDepth 100000 in
theorem mf_Mo_holds : MF M_Mo_holds 0 := ⟨G_at (i := 1467) (by decide +kernel) rfl, ii_Mo, by decide +kernel, by decide, by decide +kernel⟩
set_option maxRecDepth 100000 in
theorem mv_Mo_holds : MV M_Mo_holds := ⟨G_at (i := 1466) (by decide +kernel) rfl, G_at (i := 76) (by decide +kernel) rfl⟩
set_option maxRecDepth 100000 in
theorem mf_Mo_check : MF M_Mo_check 1 := ⟨G_at (i := 1462) (by decide +kernel) rfl, ii_Mo, by decide +kernel, by decide, by decide +kernel⟩
set_option maxRecDepth 100000 in
theorem mv_Mo_check : MV M_Mo_check := ⟨G_at (i := 1460) (by decide +kernel) rfl, G_at (i := 1461) (by decide +kernel) rfl⟩
set_option maxRecDepth 100000 in
theorem mf_Mo_keep : MF M_Mo_keep 0 := ⟨G_at (i := 1471) (by decide +kernel) rfl, ii_Mo, by decide +kernel, by decide, by decide +kernel⟩
set_option maxRecDepth 100000 in
theorem mv_Mo_keep : MV M_Mo_keep := ⟨G_at (i := 1469) (by decide +kernel) rfl, G_at (i := 1470) (by decide +kernel) rfl⟩
set_option maxRecDepth 100000 in
theorem mf_Mo_back : MF M_Mo_back 0 := ⟨G_at (i := 1475) (by decide +kernel) rfl, ii_Mo, by decide +kernel, by decide, by decide +kernel⟩
set_option maxRecDepth 100000 in
theorem mv_Mo_back : MV M_Mo_back := ⟨G_at (i := 1473) (by decide +kernel) rfl, G_at (i := 1474) (by decide +kernel) rfl⟩
set_option maxRecDepth 100000 in
theorem mf_Mo_stores : MF M_Mo_stores 0 := ⟨G_at (i := 1483) (by decide +kernel) rfl, ii_Mo, by decide +kernel, by decide, by decide +kernel⟩
set_option maxRecDepth 100000 in
theorem mv_Mo_stores : MV M_Mo_stores := ⟨G_at (i := 1482) (by decide +kernel) rfl, G_at (i := 77) (by decide +kernel) rfl⟩
set_option maxRecDepth 100000 in
theorem mf_Mo_count : MF M_Mo_count 1 := ⟨G_at (i := 1479) (by decide +kernel) rfl, ii_Mo, by decide +kernel, by decide, by decide +kernel⟩
set_option maxRecDepth 100000 in
theorem mv_Mo_count : MV M_Mo_count := ⟨G_at (i := 1477) (by decide +kernel) rfl, G_at (i := 1478) (by decide +kernel) rfl⟩
set_option maxRecDepth 100000 in
theorem mf_Ji_bitCount : MF M_Ji_bitCount 1 := ⟨G_at (i := 497) (by decide +kernel) rfl, ii_Ji, by decide +kernel, by decide, by decide +kernel⟩
set_option maxRecDepth 100000 in
theorem ms_Ji_bitCount : MS M_Ji_bitCount := G_at (i := 496) (by decide +kernel) rfl
set_option maxRecDepth 100000 in
theorem mf_Jm_floorMod : MF M_Jm_floorMod 2 := ⟨G_at (i := 443) (by decide +kernel) rfl, ii_Jm, by decide +kernel, by decide, by decide +kernel⟩
set_option maxRecDepth 100000 in
theorem ms_Jm_floorMod : MS M_Jm_floorMod := G_at (i := 442) (by decide +kernel) rfl
set_option maxRecDepth 100000 in
theorem mf_Jm_min : MF M_Jm_min 2 := ⟨G_at (i := 783) (by decide +kernel) rfl, ii_Jm, by decide +kernel, by decide, by decide +kernel⟩
set_option maxRecDepth 100000 in
theorem ms_Jm_min : MS M_Jm_min := G_at (i := 782) (by decide +kernel) rfl
set_option maxRecDepth 100000 in
theorem mf_Js_length : MF M_Js_length 0 := ⟨G_at (i := 691) (by decide +kernel) rfl, ii_Js, by decide +kernel, by decide, by decide +kernel⟩
set_option maxRecDepth 100000 in
theorem mv_Js_length : MV M_Js_length := ⟨G_at (i := 689) (by decide +kernel) rfl, G_at (i := 690) (by decide +kernel) rfl⟩
set_option maxRecDepth 100000 in
theorem mf_Js_charAt : MF M_Js_charAt 1 := ⟨G_at (i := 701) (by decide +kernel) rfl, ii_Js, by decide +kernel, by decide, by decide +kernel⟩
set_option maxRecDepth 100000 in
theorem mv_Js_charAt : MV M_Js_charAt := ⟨G_at (i := 699) (by decide +kernel) rfl, G_at (i := 700) (by decide +kernel) rfl⟩
set_option maxRecDepth 100000 in
theorem mf_Js_coder : MF M_Js_coder 0 := ⟨G_at (i := 695) (by decide +kernel) rfl, ii_Js, by decide +kernel, by decide, by decide +kernel⟩
set_option maxRecDepth 100000 in
theorem mv_Js_coder : MV M_Js_coder := ⟨G_at (i := 693) (by decide +kernel) rfl, G_at (i := 694) (by decide +kernel) rfl⟩
set_option maxRecDepth 100000 in
theorem mf_Js_isLatin1 : MF M_Js_isLatin1 0 := ⟨G_at (i := 705) (by decide +kernel) rfl, ii_Js, by decide +kernel, by decide, by decide +kernel⟩
set_option maxRecDepth 100000 in
theorem mv_Js_isLatin1 : MV M_Js_isLatin1 := ⟨G_at (i := 703) (by decide +kernel) rfl, G_at (i := 704) (by decide +kernel) rfl⟩
set_option maxRecDepth 100000 in
theorem mf_Js_checkIndex : MF M_Js_checkIndex 2 := ⟨G_at (i := 711) (by decide +kernel) rfl, ii_Js, by decide +kernel, by decide, by decide +kernel⟩
set_option maxRecDepth 100000 in
theorem ms_Js_checkIndex : MS M_Js_checkIndex := G_at (i := 710) (by decide +kernel) rfl
set_option maxRecDepth 100000 in
theorem mf_Jl_charAt : MF M_Jl_charAt 2 := ⟨G_at (i := 708) (by decide +kernel) rfl, ii_Jl, by decide +kernel, by decide, by decide +kernel⟩
set_option maxRecDepth 100000 in
theorem ms_Jl_charAt : MS M_Jl_charAt := G_at (i := 707) (by decide +kernel) rfl
set_option maxRecDepth 100000 in
theorem mf_Ju_getChar : MF M_Ju_getChar 2 := ⟨G_at (i := 729) (by decide +kernel) rfl, ii_Ju, by decide +kernel, by decide, by decide +kernel⟩
set_option maxRecDepth 100000 in
theorem ms_Ju_getChar : MS M_Ju_getChar := G_at (i := 728) (by decide +kernel) rfl
set_option maxRecDepth 100000 in
theorem mf_Ju_length : MF M_Ju_length 1 := ⟨G_at (i := 725) (by decide +kernel) rfl, ii_Ju, by decide +kernel, by decide, by decide +kernel⟩
set_option maxRecDepth 100000 in
theorem ms_Ju_length : MS M_Ju_length := G_at (i := 724) (by decide +kernel) rfl
set_option maxRecDepth 100000 in
theorem mf_Ju_charAt : MF M_Ju_charAt 2 := ⟨G_at (i := 719) (by decide +kernel) rfl, ii_Ju, by decide +kernel, by decide, by decide +kernel⟩
set_option maxRecDepth 100000 in
theorem ms_Ju_charAt : MS M_Ju_charAt := G_at (i := 718) (by decide +kernel) rfl
set_option maxRecDepth 100000 in
theorem mf_Ju_checkIndex : MF M_Ju_checkIndex 2 := ⟨G_at (i := 722) (by decide +kernel) rfl, ii_Ju, by decide +kernel, by decide, by decide +kernel⟩
set_option maxRecDepth 100000 in
theorem ms_Ju_checkIndex : MS M_Ju_checkIndex := G_at (i := 721) (by decide +kernel) rfl
set_option maxRecDepth 100000 in
theorem mf_Ja_fillJ : MF M_Ja_fillJ 2 := ⟨G_at (i := 550) (by decide +kernel) rfl, ii_Ja, by decide +kernel, by decide, by decide +kernel⟩
set_option maxRecDepth 100000 in
theorem ms_Ja_fillJ : MS M_Ja_fillJ := G_at (i := 549) (by decide +kernel) rfl
set_option maxRecDepth 100000 in
theorem mf_Ja_fill : MF M_Ja_fill 2 := ⟨G_at (i := 885) (by decide +kernel) rfl, ii_Ja, by decide +kernel, by decide, by decide +kernel⟩
set_option maxRecDepth 100000 in
theorem ms_Ja_fill : MS M_Ja_fill := G_at (i := 884) (by decide +kernel) rfl
set_option maxRecDepth 100000 in
theorem mf_Ja_copyOf : MF M_Ja_copyOf 2 := ⟨G_at (i := 773) (by decide +kernel) rfl, ii_Ja, by decide +kernel, by decide, by decide +kernel⟩
set_option maxRecDepth 100000 in
theorem ms_Ja_copyOf : MS M_Ja_copyOf := G_at (i := 772) (by decide +kernel) rfl
set_option maxRecDepth 100000 in
theorem mf_Jp_checkIndex : MF M_Jp_checkIndex 3 := ⟨G_at (i := 716) (by decide +kernel) rfl, ii_Jp, by decide +kernel, by decide, by decide +kernel⟩
set_option maxRecDepth 100000 in
theorem ms_Jp_checkIndex : MS M_Jp_checkIndex := G_at (i := 715) (by decide +kernel) rfl
