def M_J7_fill_53178 : aM := (yJ7_fill_53178, cJ7_fill_53178, 4, none)
def M_X0_add : aM := (yX0_add, cX0_add, 4, none)
def M_X0_clear : aM := (yX0_clear, cX0_clear, 1, none)
def M_X0_fill : aM := (yX0_fill, cX0_fill, 6, none)
def M_X0_masked : aM := (yX0_masked, cX0_masked, 4, some .int)
def M_X0_noticed : aM := (yX0_noticed, cX0_noticed, 2, some .int)
def M_X0_plantScent : aM := (yX0_plantScent, cX0_plantScent, 6, some .int)
def M_X11_isBelow : aM := (yX11_isBelow, cX11_isBelow, 2, some .boolean)
def M_X11_need : aM := (yX11_need, cX11_need, 1, none)
def M_X11_needAir : aM := (yX11_needAir, cX11_needAir, 4, none)
def M_X11_needWind : aM := (yX11_needWind, cX11_needWind, 1, none)
def M_X11_smelt : aM := (yX11_smelt, cX11_smelt, 7, some .int)
def M_X4_along : aM := (yX4_along, cX4_along, 4, some .int)
def M_X4_cells : aM := (yX4_cells, cX4_cells, 1, some .int)
def M_X4_clearTaken : aM := (yX4_clearTaken, cX4_clearTaken, 2, none)
def M_X4_lay : aM := (yX4_lay, cX4_lay, 5, none)
def M_X4_steps : aM := (yX4_steps, cX4_steps, 3, some .int)
def M_X6_scent : aM := (yX6_scent, cX6_scent, 10, some .int)
def M_X8_smellsIn : aM := (yX8_smellsIn, cX8_smellsIn, 3, some .boolean)
theorem fl_RX11_20 : aFld RX11 20 11 3 (.object "NoseTown$Plan") true := ⟨RX11, TX11, 14, tyX11, rfl, by decide, aU_X11, tyX11_ok, nmX11, aU_3 53 rfl rfl, rfl, by decide +kernel, rfl⟩
theorem fl_RX11_51 : aFld RX11 51 11 9 (.object "NoseTown$Blend") true := ⟨RX11, TX11, 14, tyX11, rfl, by decide, aU_X11, tyX11_ok, nmX11, aU_3 59 rfl rfl, rfl, by decide +kernel, rfl⟩
theorem fl_RX11_128 : aFld RX11 128 6 0 (.object "NoseTown$Grid") true := ⟨RX6, TX6, 17, tyX6, rfl, by decide, aU_X6, tyX6_ok, nmX6, aU_1 129 rfl rfl, rfl, by decide +kernel, rfl⟩
theorem fl_RX11_140 : aFld RX11 140 6 2 (.int) false := ⟨RX6, TX6, 17, tyX6, rfl, by decide, aU_X6, tyX6_ok, nmX6, aU_1 138 rfl rfl, rfl, by decide +kernel, rfl⟩
theorem fl_RX11_214 : aFld RX11 214 0 2 (.array .int) true := ⟨RX0, TX0, 4, tyX0, rfl, by decide, aU_X0, tyX0_ok, nmX0, aU_2 106 rfl rfl, rfl, by decide +kernel, rfl⟩
theorem fl_RX0_9 : aFld RX0 9 0 2 (.array .int) true := ⟨RX0, TX0, 4, tyX0, rfl, by decide, aU_X0, tyX0_ok, nmX0, aU_2 104 rfl rfl, rfl, by decide +kernel, rfl⟩
theorem fl_RX0_15 : aFld RX0 15 0 3 (.array .int) true := ⟨RX0, TX0, 4, tyX0, rfl, by decide, aU_X0, tyX0_ok, nmX0, aU_2 107 rfl rfl, rfl, by decide +kernel, rfl⟩
theorem fl_RX0_18 : aFld RX0 18 0 0 (.object "NoseTown$Plan") true := ⟨RX0, TX0, 4, tyX0, rfl, by decide, aU_X0, tyX0_ok, nmX0, aU_2 102 rfl rfl, rfl, by decide +kernel, rfl⟩
theorem fl_RX0_22 : aFld RX0 22 0 1 (.object "NoseTown$State") true := ⟨RX0, TX0, 4, tyX0, rfl, by decide, aU_X0, tyX0_ok, nmX0, aU_2 103 rfl rfl, rfl, by decide +kernel, rfl⟩
theorem fl_RX0_35 : aFld RX0 35 6 4 (.int) false := ⟨RX6, TX6, 17, tyX6, rfl, by decide, aU_X6, tyX6_ok, nmX6, aU_1 150 rfl rfl, rfl, by decide +kernel, rfl⟩
theorem fl_RX0_45 : aFld RX0 45 6 10 (.array .int) true := ⟨RX6, TX6, 17, tyX6, rfl, by decide, aU_X6, tyX6_ok, nmX6, aU_1 174 rfl rfl, rfl, by decide +kernel, rfl⟩
theorem fl_RX0_48 : aFld RX0 48 6 12 (.array .int) true := ⟨RX6, TX6, 17, tyX6, rfl, by decide, aU_X6, tyX6_ok, nmX6, aU_1 185 rfl rfl, rfl, by decide +kernel, rfl⟩
theorem fl_RX0_55 : aFld RX0 55 9 0 (.array .int) true := ⟨RX9, TX9, 10, tyX9, rfl, by decide, aU_X9, tyX9_ok, nmX9, aU_2 13 rfl rfl, rfl, by decide +kernel, rfl⟩
theorem fl_RX0_60 : aFld RX0 60 6 11 (.array .int) true := ⟨RX6, TX6, 17, tyX6, rfl, by decide, aU_X6, tyX6_ok, nmX6, aU_1 179 rfl rfl, rfl, by decide +kernel, rfl⟩
theorem fl_RX0_63 : aFld RX0 63 9 3 (.int) false := ⟨RX9, TX9, 10, tyX9, rfl, by decide, aU_X9, tyX9_ok, nmX9, aU_2 24 rfl rfl, rfl, by decide +kernel, rfl⟩
theorem fl_RX0_70 : aFld RX0 70 6 15 (.array .boolean) true := ⟨RX6, TX6, 17, tyX6, rfl, by decide, aU_X6, tyX6_ok, nmX6, aU_1 197 rfl rfl, rfl, by decide +kernel, rfl⟩
theorem fl_RX0_74 : aFld RX0 74 6 2 (.int) false := ⟨RX6, TX6, 17, tyX6, rfl, by decide, aU_X6, tyX6_ok, nmX6, aU_1 137 rfl rfl, rfl, by decide +kernel, rfl⟩
theorem fl_RX0_77 : aFld RX0 77 6 14 (.array .int) true := ⟨RX6, TX6, 17, tyX6, rfl, by decide, aU_X6, tyX6_ok, nmX6, aU_1 194 rfl rfl, rfl, by decide +kernel, rfl⟩
theorem fl_RX0_80 : aFld RX0 80 6 9 (.int) false := ⟨RX6, TX6, 17, tyX6, rfl, by decide, aU_X6, tyX6_ok, nmX6, aU_1 171 rfl rfl, rfl, by decide +kernel, rfl⟩
theorem fl_RX4_9 : aFld RX4 9 4 2 (.array .int) true := ⟨RX4, TX4, 5, tyX4, rfl, by decide, aU_X4, tyX4_ok, nmX4, aU_1 52 rfl rfl, rfl, by decide +kernel, rfl⟩
theorem fl_RX4_15 : aFld RX4 15 4 3 (.array .int) true := ⟨RX4, TX4, 5, tyX4, rfl, by decide, aU_X4, tyX4_ok, nmX4, aU_1 53 rfl rfl, rfl, by decide +kernel, rfl⟩
theorem fl_RX4_18 : aFld RX4 18 4 4 (.array .boolean) true := ⟨RX4, TX4, 5, tyX4, rfl, by decide, aU_X4, tyX4_ok, nmX4, aU_1 54 rfl rfl, rfl, by decide +kernel, rfl⟩
theorem fl_RX4_22 : aFld RX4 22 4 0 (.int) false := ⟨RX4, TX4, 5, tyX4, rfl, by decide, aU_X4, tyX4_ok, nmX4, aU_1 46 rfl rfl, rfl, by decide +kernel, rfl⟩
theorem fl_RX4_26 : aFld RX4 26 4 1 (.int) false := ⟨RX4, TX4, 5, tyX4, rfl, by decide, aU_X4, tyX4_ok, nmX4, aU_1 49 rfl rfl, rfl, by decide +kernel, rfl⟩
theorem fl_RX6_12 : aFld RX6 12 6 0 (.object "NoseTown$Grid") true := ⟨RX6, TX6, 17, tyX6, rfl, by decide, aU_X6, tyX6_ok, nmX6, aU_1 126 rfl rfl, rfl, by decide +kernel, rfl⟩
theorem fl_RX6_20 : aFld RX6 20 6 1 (.array (.object "NoseTown$Sort")) true := ⟨RX6, TX6, 17, tyX6, rfl, by decide, aU_X6, tyX6_ok, nmX6, aU_1 131 rfl rfl, rfl, by decide +kernel, rfl⟩
theorem fl_RX6_68 : aFld RX6 68 6 6 (.int) false := ⟨RX6, TX6, 17, tyX6, rfl, by decide, aU_X6, tyX6_ok, nmX6, aU_1 159 rfl rfl, rfl, by decide +kernel, rfl⟩
theorem fl_RX6_71 : aFld RX6 71 6 7 (.int) false := ⟨RX6, TX6, 17, tyX6, rfl, by decide, aU_X6, tyX6_ok, nmX6, aU_1 162 rfl rfl, rfl, by decide +kernel, rfl⟩
theorem fl_RX6_74 : aFld RX6 74 6 8 (.int) false := ⟨RX6, TX6, 17, tyX6, rfl, by decide, aU_X6, tyX6_ok, nmX6, aU_1 165 rfl rfl, rfl, by decide +kernel, rfl⟩
theorem fl_RX6_111 : aFld RX6 111 8 0 (.int) false := ⟨RX8, TX8, 7, tyX8, rfl, by decide, aU_X8, tyX8_ok, nmX8, aU_1 81 rfl rfl, rfl, by decide +kernel, rfl⟩
theorem fl_RX8_7 : aFld RX8 7 8 1 (.int) false := ⟨RX8, TX8, 7, tyX8, rfl, by decide, aU_X8, tyX8_ok, nmX8, aU_1 82 rfl rfl, rfl, by decide +kernel, rfl⟩
theorem fl_RX8_13 : aFld RX8 13 8 2 (.int) false := ⟨RX8, TX8, 7, tyX8, rfl, by decide, aU_X8, tyX8_ok, nmX8, aU_1 84 rfl rfl, rfl, by decide +kernel, rfl⟩
theorem fl_RX8_16 : aFld RX8 16 8 3 (.int) false := ⟨RX8, TX8, 7, tyX8, rfl, by decide, aU_X8, tyX8_ok, nmX8, aU_1 86 rfl rfl, rfl, by decide +kernel, rfl⟩
theorem fl_RX8_19 : aFld RX8 19 8 4 (.int) false := ⟨RX8, TX8, 7, tyX8, rfl, by decide, aU_X8, tyX8_ok, nmX8, aU_1 88 rfl rfl, rfl, by decide +kernel, rfl⟩
theorem lm_RX4_32 : Cond.methodLink RX4 32 Lib.Math.abs.name ∈ aU := aU_3 173 rfl rfl
theorem mm_abs : Cond.static Lib.Math.abs.name ∈ aU ∧ Cond.initialized "java/lang/Math" ∈ aU ∧ Cond.code Lib.Math.abs.name Lib.Math.abs.code 1 (some .int) ∈ aU := ⟨aU_3 174 rfl rfl, aU_1 19 rfl rfl, aU_3 175 rfl rfl⟩
theorem lm_RX6_118 : Cond.methodLink RX6 118 Lib.Math.max.name ∈ aU := aU_3 176 rfl rfl
theorem mm_max : Cond.static Lib.Math.max.name ∈ aU ∧ Cond.initialized "java/lang/Math" ∈ aU ∧ Cond.code Lib.Math.max.name Lib.Math.max.code 2 (some .int) ∈ aU := ⟨aU_3 177 rfl rfl, aU_1 19 rfl rfl, aU_3 178 rfl rfl⟩
theorem lk_RX0_26 : aLkS RX0 26 M_J7_fill_53178 ∧ aNp M_J7_fill_53178 = some 2 := ⟨⟨aU_3 212 rfl rfl, aU_1 124 rfl rfl, aU_1 5 rfl rfl, aU_1 125 rfl rfl, ⟨by decide +kernel, by decide +kernel⟩⟩, by decide +kernel⟩
theorem lk_RX11_121 : aLkS RX11 121 M_X11_need ∧ aNp M_X11_need = some 1 := ⟨⟨aU_5 53 rfl rfl, aU_5 54 rfl rfl, aU_1 1 rfl rfl, aU_5 55 rfl rfl, ⟨by decide +kernel, by decide +kernel⟩⟩, by decide +kernel⟩
theorem lk_RX11_173 : aLkS RX11 173 M_X11_isBelow ∧ aNp M_X11_isBelow = some 2 := ⟨⟨aU_3 109 rfl rfl, aU_3 110 rfl rfl, aU_1 1 rfl rfl, aU_3 111 rfl rfl, ⟨by decide +kernel, by decide +kernel⟩⟩, by decide +kernel⟩
theorem lk_RX11_229 : aLkS RX11 229 M_X11_needWind ∧ aNp M_X11_needWind = some 1 := ⟨⟨aU_5 102 rfl rfl, aU_5 103 rfl rfl, aU_1 1 rfl rfl, aU_5 104 rfl rfl, ⟨by decide +kernel, by decide +kernel⟩⟩, by decide +kernel⟩
theorem kx_RX11_325 : Cond.classLink RX11 321 "java/util/NoSuchElementException" ∈ aU ∧ Cond.initialized "java/util/NoSuchElementException" ∈ aU ∧ exOk (ex_at13 RX11 325 "java/util/NoSuchElementException" ["java/lang/RuntimeException", "java/lang/Exception"]) := ⟨aU_5 56 rfl rfl, aU_1 25 rfl rfl, fun w hw => ((by decide +kernel : ∀ w ∈ ex_at13 RX11 325 "java/util/NoSuchElementException" ["java/lang/RuntimeException", "java/lang/Exception"], (w ∈ tables_1 ∧ goodWord w = true) ∨ w ∈ exSp) w hw).imp (fun h => aU_of h.1 h.2) id⟩
theorem lk_RX0_32 : aLkV RX0 32 0 M_X0_clear ∧ aNp M_X0_clear = some 0 := ⟨⟨aU_5 121 rfl rfl, aU_3 209 rfl rfl, aU_3 210 rfl rfl, aU_1 8 rfl rfl, aU_3 211 rfl rfl, ⟨TX0, 4, rfl⟩, ⟨by decide +kernel, by decide +kernel⟩⟩, by decide +kernel⟩
theorem lk_RX0_41 : aLkV RX0 41 0 M_X0_plantScent ∧ aNp M_X0_plantScent = some 4 := ⟨⟨aU_5 122 rfl rfl, aU_5 106 rfl rfl, aU_5 107 rfl rfl, aU_1 8 rfl rfl, aU_5 108 rfl rfl, ⟨TX0, 4, rfl⟩, ⟨by decide +kernel, by decide +kernel⟩⟩, by decide +kernel⟩
theorem lk_RX0_51 : aLkV RX0 51 0 M_X0_add ∧ aNp M_X0_add = some 3 := ⟨⟨aU_5 123 rfl rfl, aU_3 214 rfl rfl, aU_3 215 rfl rfl, aU_1 8 rfl rfl, aU_3 216 rfl rfl, ⟨TX0, 4, rfl⟩, ⟨by decide +kernel, by decide +kernel⟩⟩, by decide +kernel⟩
theorem lk_RX0_66 : aLkV RX0 66 6 M_X6_scent ∧ aNp M_X6_scent = some 7 := ⟨⟨aU_5 109 rfl rfl, aU_3 158 rfl rfl, aU_3 159 rfl rfl, aU_1 2 rfl rfl, aU_3 160 rfl rfl, ⟨TX6, 17, rfl⟩, ⟨by decide +kernel, by decide +kernel⟩⟩, by decide +kernel⟩
theorem lk_RX4_29 : aLkV RX4 29 4 M_X4_clearTaken ∧ aNp M_X4_clearTaken = some 0 := ⟨⟨aU_1 119 rfl rfl, aU_1 121 rfl rfl, aU_p (q := (yX4_clearTaken, 5)) (by decide +kernel), aU_1 3 rfl rfl, aU_1 122 rfl rfl, ⟨TX4, 5, rfl⟩, ⟨by decide +kernel, by decide +kernel⟩⟩, by decide +kernel⟩
theorem lk_RX6_103 : aLkV RX6 103 4 M_X4_along ∧ aNp M_X4_along = some 3 := ⟨⟨aU_3 161 rfl rfl, aU_3 162 rfl rfl, aU_3 163 rfl rfl, aU_1 3 rfl rfl, aU_3 164 rfl rfl, ⟨TX4, 5, rfl⟩, ⟨by decide +kernel, by decide +kernel⟩⟩, by decide +kernel⟩
theorem lk_RX6_107 : aLkV RX6 107 8 M_X8_smellsIn ∧ aNp M_X8_smellsIn = some 2 := ⟨⟨aU_3 165 rfl rfl, aU_3 166 rfl rfl, aU_3 167 rfl rfl, aU_1 4 rfl rfl, aU_3 168 rfl rfl, ⟨TX8, 7, rfl⟩, ⟨by decide +kernel, by decide +kernel⟩⟩, by decide +kernel⟩
theorem lk_RX6_114 : aLkV RX6 114 4 M_X4_steps ∧ aNp M_X4_steps = some 2 := ⟨⟨aU_3 169 rfl rfl, aU_3 170 rfl rfl, aU_3 171 rfl rfl, aU_1 3 rfl rfl, aU_3 172 rfl rfl, ⟨TX4, 5, rfl⟩, ⟨by decide +kernel, by decide +kernel⟩⟩, by decide +kernel⟩
theorem lk_RX11_203 : aLkV RX11 203 11 M_X11_needAir ∧ aNp M_X11_needAir = some 3 := ⟨⟨aU_5 94 rfl rfl, aU_5 96 rfl rfl, aU_p (q := (yX11_needAir, 14)) (by decide +kernel), aU_1 1 rfl rfl, aU_5 97 rfl rfl, ⟨TX11, 14, rfl⟩, ⟨by decide +kernel, by decide +kernel⟩⟩, by decide +kernel⟩
theorem lk_RX11_211 : aLkV RX11 211 0 M_X0_fill ∧ aNp M_X0_fill = some 3 := ⟨⟨aU_5 117 rfl rfl, aU_5 118 rfl rfl, aU_5 119 rfl rfl, aU_1 8 rfl rfl, aU_5 120 rfl rfl, ⟨TX0, 4, rfl⟩, ⟨by decide +kernel, by decide +kernel⟩⟩, by decide +kernel⟩
theorem lk_RX11_217 : aLkV RX11 217 0 M_X0_masked ∧ aNp M_X0_masked = some 1 := ⟨⟨aU_5 124 rfl rfl, aU_3 222 rfl rfl, aU_3 223 rfl rfl, aU_1 8 rfl rfl, aU_3 224 rfl rfl, ⟨TX0, 4, rfl⟩, ⟨by decide +kernel, by decide +kernel⟩⟩, by decide +kernel⟩
theorem lk_RX11_220 : aLkV RX11 220 0 M_X0_noticed ∧ aNp M_X0_noticed = some 1 := ⟨⟨aU_5 125 rfl rfl, aU_3 226 rfl rfl, aU_3 227 rfl rfl, aU_1 8 rfl rfl, aU_3 228 rfl rfl, ⟨TX0, 4, rfl⟩, ⟨by decide +kernel, by decide +kernel⟩⟩, by decide +kernel⟩
theorem lk_RX11_326 : aLkV RX11 326 4 M_X4_cells ∧ aNp M_X4_cells = some 0 := ⟨⟨aU_5 98 rfl rfl, aU_5 99 rfl rfl, aU_5 100 rfl rfl, aU_1 3 rfl rfl, aU_5 101 rfl rfl, ⟨TX4, 5, rfl⟩, ⟨by decide +kernel, by decide +kernel⟩⟩, by decide +kernel⟩
