def gNest (G : aG) : Prop := va_Nw (.methodLinkNest "NoseTown$Plan" 11 ⟨"NoseTown$Grid", "<init>", "()V"⟩ "NoseTown") (gs G) ∧ va_Nw (.methodLinkNest "NoseTown$Plan" 47 ⟨"NoseTown$Sort", "<init>", "()V"⟩ "NoseTown") (gs G) ∧ va_AO "NoseTown$Sort" (gs G) ∧ va_AO "java/lang/String" (gs G)
theorem lk_RX6_48 : aLkV RX6 48 6 M_X6_clear ∧ aNp M_X6_clear = some 0 := ⟨⟨aU_1 111 rfl rfl, aU_1 112 rfl rfl, aU_1 113 rfl rfl, aU_1 2 rfl rfl, aU_1 114 rfl rfl, ⟨TX6, 17, rfl⟩, ⟨by decide +kernel, by decide +kernel⟩⟩, by decide +kernel⟩
theorem lk_RX9_33 : aLkV RX9 33 9 M_X9_reset ∧ aNp M_X9_reset = some 0 := ⟨⟨aU_2 6 rfl rfl, aU_2 7 rfl rfl, aU_2 8 rfl rfl, aU_1 6 rfl rfl, aU_2 9 rfl rfl, ⟨TX9, 10, rfl⟩, ⟨by decide +kernel, by decide +kernel⟩⟩, by decide +kernel⟩
theorem aw_int : Cond.arrayClass (newarray.typeOf .int) ∈ aU := aU_1 70 rfl rfl
theorem aw_long : Cond.arrayClass (newarray.typeOf .long) ∈ aU := aU_3 22 rfl rfl
theorem aw_boolean : Cond.arrayClass (newarray.typeOf .boolean) ∈ aU := aU_1 71 rfl rfl
theorem aw_byte : Cond.arrayClass (newarray.typeOf .byte) ∈ aU := aU_1 69 rfl rfl
theorem at_z0 {G : aG} {N : Nat} (cA : ClassId) (D : aD) (k : Nat) : va_at (gD G) vwCl (glo G + k, aC G (z0 D k) k (.inl (0, N, []))) = fun H : Heap => H[glo G + k]? = some (arrV (gcy G 0) N (fun _ => defaultValue .byte)) := by
  simp only [aC, z0]
  rfl
theorem at_z1 {G : aG} {N : Nat} (cA : ClassId) (D : aD) (k : Nat) : va_at (gD G) vwCl (glo G + k, aC G (z0 D k) k (.inl (1, N, []))) = fun H : Heap => H[glo G + k]? = some (arrV (gcy G 1) N (fun _ => defaultValue .int)) := by
  simp only [aC, z0]
  rfl
theorem at_z3 {G : aG} {N : Nat} (cA : ClassId) (D : aD) (k : Nat) : va_at (gD G) vwCl (glo G + k, aC G (z0 D k) k (.inl (3, N, []))) = fun H : Heap => H[glo G + k]? = some (arrV (gcy G 3) N (fun _ => defaultValue .boolean)) := by
  simp only [aC, z0]
  rfl
theorem at_z2 {G : aG} {N : Nat} (cA : ClassId) (D : aD) (k : Nat) : va_at (gD G) vwCl (glo G + k, aC G (z0 D k) k (.inl (2, N, []))) = fun H : Heap => H[glo G + k]? = some (arrV (gcy G 2) N (fun _ => defaultValue .long)) := by
  simp only [aC, z0]
  rfl
def sh_1 : List aSh := [.inr (11, [some none, none, none, some none, some none, some none, some none, none, some none, some none, some none, some none, some none, some none])]
def M_X11_init : aM := (yX11_init, cX11_init, 1, none, [])
theorem dX11_init_0 : decode cX11_init 0 = .ok (.aload_n 0, 1) := by decide +kernel
theorem dX11_init_1 : decode cX11_init 1 = .ok (.invokespecial 1, 3) := by decide +kernel
theorem dX11_init_4 : decode cX11_init 4 = .ok (.aload_n 0, 1) := by decide +kernel
theorem dX11_init_5 : decode cX11_init 5 = .ok (.sipush 700, 3) := by decide +kernel
theorem dX11_init_8 : decode cX11_init 8 = .ok (.newarray .byte, 2) := by decide +kernel
theorem dX11_init_10 : decode cX11_init 10 = .ok (.putfield 9, 3) := by decide +kernel
theorem dX11_init_13 : decode cX11_init 13 = .ok (.aload_n 0, 1) := by decide +kernel
theorem dX11_init_14 : decode cX11_init 14 = .ok (.iconst (-1), 1) := by decide +kernel
theorem dX11_init_15 : decode cX11_init 15 = .ok (.putfield 13, 3) := by decide +kernel
theorem dX11_init_18 : decode cX11_init 18 = .ok (.aload_n 0, 1) := by decide +kernel
theorem dX11_init_19 : decode cX11_init 19 = .ok (.new 17, 3) := by decide +kernel
theorem dX11_init_22 : decode cX11_init 22 = .ok (.dup, 1) := by decide +kernel
theorem dX11_init_23 : decode cX11_init 23 = .ok (.invokespecial 19, 3) := by decide +kernel
theorem dX11_init_26 : decode cX11_init 26 = .ok (.putfield 20, 3) := by decide +kernel
theorem dX11_init_29 : decode cX11_init 29 = .ok (.aload_n 0, 1) := by decide +kernel
theorem dX11_init_30 : decode cX11_init 30 = .ok (.new 17, 3) := by decide +kernel
theorem dX11_init_33 : decode cX11_init 33 = .ok (.dup, 1) := by decide +kernel
theorem dX11_init_34 : decode cX11_init 34 = .ok (.invokespecial 19, 3) := by decide +kernel
theorem dX11_init_37 : decode cX11_init 37 = .ok (.putfield 24, 3) := by decide +kernel
theorem dX11_init_40 : decode cX11_init 40 = .ok (.aload_n 0, 1) := by decide +kernel
theorem dX11_init_41 : decode cX11_init 41 = .ok (.new 27, 3) := by decide +kernel
theorem dX11_init_44 : decode cX11_init 44 = .ok (.dup, 1) := by decide +kernel
theorem dX11_init_45 : decode cX11_init 45 = .ok (.invokespecial 29, 3) := by decide +kernel
theorem dX11_init_48 : decode cX11_init 48 = .ok (.putfield 30, 3) := by decide +kernel
theorem dX11_init_51 : decode cX11_init 51 = .ok (.aload_n 0, 1) := by decide +kernel
theorem dX11_init_52 : decode cX11_init 52 = .ok (.new 27, 3) := by decide +kernel
theorem dX11_init_55 : decode cX11_init 55 = .ok (.dup, 1) := by decide +kernel
theorem dX11_init_56 : decode cX11_init 56 = .ok (.invokespecial 29, 3) := by decide +kernel
theorem dX11_init_59 : decode cX11_init 59 = .ok (.putfield 34, 3) := by decide +kernel
theorem dX11_init_62 : decode cX11_init 62 = .ok (.aload_n 0, 1) := by decide +kernel
theorem dX11_init_63 : decode cX11_init 63 = .ok (.new 37, 3) := by decide +kernel
theorem dX11_init_66 : decode cX11_init 66 = .ok (.dup, 1) := by decide +kernel
theorem dX11_init_67 : decode cX11_init 67 = .ok (.aload_n 0, 1) := by decide +kernel
theorem dX11_init_68 : decode cX11_init 68 = .ok (.getfield 9, 3) := by decide +kernel
theorem dX11_init_71 : decode cX11_init 71 = .ok (.aload_n 0, 1) := by decide +kernel
theorem dX11_init_72 : decode cX11_init 72 = .ok (.getfield 24, 3) := by decide +kernel
theorem dX11_init_75 : decode cX11_init 75 = .ok (.invokespecial 39, 3) := by decide +kernel
theorem dX11_init_78 : decode cX11_init 78 = .ok (.putfield 42, 3) := by decide +kernel
theorem dX11_init_81 : decode cX11_init 81 = .ok (.aload_n 0, 1) := by decide +kernel
theorem dX11_init_82 : decode cX11_init 82 = .ok (.new 46, 3) := by decide +kernel
theorem dX11_init_85 : decode cX11_init 85 = .ok (.dup, 1) := by decide +kernel
theorem dX11_init_86 : decode cX11_init 86 = .ok (.aload_n 0, 1) := by decide +kernel
theorem dX11_init_87 : decode cX11_init 87 = .ok (.getfield 20, 3) := by decide +kernel
theorem dX11_init_90 : decode cX11_init 90 = .ok (.aload_n 0, 1) := by decide +kernel
theorem dX11_init_91 : decode cX11_init 91 = .ok (.getfield 30, 3) := by decide +kernel
theorem dX11_init_94 : decode cX11_init 94 = .ok (.invokespecial 48, 3) := by decide +kernel
theorem dX11_init_97 : decode cX11_init 97 = .ok (.putfield 51, 3) := by decide +kernel
theorem dX11_init_100 : decode cX11_init 100 = .ok (.aload_n 0, 1) := by decide +kernel
theorem dX11_init_101 : decode cX11_init 101 = .ok (.new 55, 3) := by decide +kernel
theorem dX11_init_104 : decode cX11_init 104 = .ok (.dup, 1) := by decide +kernel
theorem dX11_init_105 : decode cX11_init 105 = .ok (.aload_n 0, 1) := by decide +kernel
theorem dX11_init_106 : decode cX11_init 106 = .ok (.getfield 20, 3) := by decide +kernel
theorem dX11_init_109 : decode cX11_init 109 = .ok (.aload_n 0, 1) := by decide +kernel
theorem dX11_init_110 : decode cX11_init 110 = .ok (.getfield 30, 3) := by decide +kernel
theorem dX11_init_113 : decode cX11_init 113 = .ok (.aload_n 0, 1) := by decide +kernel
theorem dX11_init_114 : decode cX11_init 114 = .ok (.getfield 51, 3) := by decide +kernel
theorem dX11_init_117 : decode cX11_init 117 = .ok (.invokespecial 57, 3) := by decide +kernel
theorem dX11_init_120 : decode cX11_init 120 = .ok (.putfield 60, 3) := by decide +kernel
theorem dX11_init_123 : decode cX11_init 123 = .ok (.aload_n 0, 1) := by decide +kernel
theorem dX11_init_124 : decode cX11_init 124 = .ok (.new 64, 3) := by decide +kernel
theorem dX11_init_127 : decode cX11_init 127 = .ok (.dup, 1) := by decide +kernel
theorem dX11_init_128 : decode cX11_init 128 = .ok (.aload_n 0, 1) := by decide +kernel
theorem dX11_init_129 : decode cX11_init 129 = .ok (.getfield 20, 3) := by decide +kernel
theorem dX11_init_132 : decode cX11_init 132 = .ok (.aload_n 0, 1) := by decide +kernel
theorem dX11_init_133 : decode cX11_init 133 = .ok (.getfield 60, 3) := by decide +kernel
theorem dX11_init_136 : decode cX11_init 136 = .ok (.invokespecial 66, 3) := by decide +kernel
theorem dX11_init_139 : decode cX11_init 139 = .ok (.putfield 69, 3) := by decide +kernel
theorem dX11_init_142 : decode cX11_init 142 = .ok (.aload_n 0, 1) := by decide +kernel
theorem dX11_init_143 : decode cX11_init 143 = .ok (.new 73, 3) := by decide +kernel
theorem dX11_init_146 : decode cX11_init 146 = .ok (.dup, 1) := by decide +kernel
theorem dX11_init_147 : decode cX11_init 147 = .ok (.aload_n 0, 1) := by decide +kernel
theorem dX11_init_148 : decode cX11_init 148 = .ok (.getfield 20, 3) := by decide +kernel
theorem dX11_init_151 : decode cX11_init 151 = .ok (.aload_n 0, 1) := by decide +kernel
theorem dX11_init_152 : decode cX11_init 152 = .ok (.getfield 30, 3) := by decide +kernel
theorem dX11_init_155 : decode cX11_init 155 = .ok (.aload_n 0, 1) := by decide +kernel
theorem dX11_init_156 : decode cX11_init 156 = .ok (.getfield 51, 3) := by decide +kernel
theorem dX11_init_159 : decode cX11_init 159 = .ok (.invokespecial 75, 3) := by decide +kernel
theorem dX11_init_162 : decode cX11_init 162 = .ok (.putfield 76, 3) := by decide +kernel
theorem dX11_init_165 : decode cX11_init 165 = .ok (.aload_n 0, 1) := by decide +kernel
theorem dX11_init_166 : decode cX11_init 166 = .ok (.new 80, 3) := by decide +kernel
theorem dX11_init_169 : decode cX11_init 169 = .ok (.dup, 1) := by decide +kernel
theorem dX11_init_170 : decode cX11_init 170 = .ok (.aload_n 0, 1) := by decide +kernel
theorem dX11_init_171 : decode cX11_init 171 = .ok (.getfield 20, 3) := by decide +kernel
theorem dX11_init_174 : decode cX11_init 174 = .ok (.aload_n 0, 1) := by decide +kernel
theorem dX11_init_175 : decode cX11_init 175 = .ok (.getfield 30, 3) := by decide +kernel
theorem dX11_init_178 : decode cX11_init 178 = .ok (.aload_n 0, 1) := by decide +kernel
theorem dX11_init_179 : decode cX11_init 179 = .ok (.getfield 51, 3) := by decide +kernel
theorem dX11_init_182 : decode cX11_init 182 = .ok (.invokespecial 82, 3) := by decide +kernel
theorem dX11_init_185 : decode cX11_init 185 = .ok (.putfield 83, 3) := by decide +kernel
theorem dX11_init_188 : decode cX11_init 188 = .ok (.return_, 1) := by decide +kernel
theorem ko_RX11_1 : Cond.methodLink RX11 1 Lib.objectInit ∈ aU ∧ Cond.instanceMethod Lib.objectInit ∈ aU ∧ Cond.code Lib.objectInit ⟨#[0xb1]⟩ 1 none ∈ aU := ⟨aU_1 31 rfl rfl, aU_1 32 rfl rfl, aU_1 33 rfl rfl⟩
def sh_2 : List aSh := sh_1 ++ [.inl (0, 700, [])]
def sh_3 : List aSh := sh_2.set 0 (.inr (11, [some (some 1), none, none, some none, some none, some none, some none, none, some none, some none, some none, some none, some none, some none]))
def sh_4 : List aSh := sh_3 ++ [.inr (6, [some none, some none, none, none, none, none, none, none, none, none, some none, some none, some none, some none, some none, some none, some none])]
theorem kw_RX11_17 : Cond.classLink RX11 17 "NoseTown$Plan" ∈ aU ∧ Cond.instantiable "NoseTown$Plan" 17 ∈ aU ∧ Cond.initialized "NoseTown$Plan" ∈ aU := ⟨aU_1 34 rfl rfl, aU_1 35 rfl rfl, aU_1 2 rfl rfl⟩
def sh_5 : List aSh := [.inr (11, [some (some 1), none, none, some none, some none, some none, some none, none, some none, some none, some none, some none, some none, some none]), .inl (0, 700, []), .inr (6, [some none, some none, none, none, none, none, none, none, none, none, some none, some none, some none, some none, some none, some none, some none])]
def M_X6_init : aM := (yX6_init, cX6_init, 2, none, [])
theorem dX6_init_0 : decode cX6_init 0 = .ok (.aload_n 0, 1) := by decide +kernel
theorem dX6_init_1 : decode cX6_init 1 = .ok (.invokespecial 3, 3) := by decide +kernel
theorem dX6_init_4 : decode cX6_init 4 = .ok (.aload_n 0, 1) := by decide +kernel
theorem dX6_init_5 : decode cX6_init 5 = .ok (.new 9, 3) := by decide +kernel
theorem dX6_init_8 : decode cX6_init 8 = .ok (.dup, 1) := by decide +kernel
theorem dX6_init_9 : decode cX6_init 9 = .ok (.invokespecial 11, 3) := by decide +kernel
theorem dX6_init_12 : decode cX6_init 12 = .ok (.putfield 12, 3) := by decide +kernel
theorem dX6_init_15 : decode cX6_init 15 = .ok (.aload_n 0, 1) := by decide +kernel
theorem dX6_init_16 : decode cX6_init 16 = .ok (.bipush 6, 2) := by decide +kernel
theorem dX6_init_18 : decode cX6_init 18 = .ok (.anewarray 18, 3) := by decide +kernel
theorem dX6_init_21 : decode cX6_init 21 = .ok (.putfield 20, 3) := by decide +kernel
theorem dX6_init_24 : decode cX6_init 24 = .ok (.aload_n 0, 1) := by decide +kernel
theorem dX6_init_25 : decode cX6_init 25 = .ok (.bipush 12, 2) := by decide +kernel
theorem dX6_init_27 : decode cX6_init 27 = .ok (.newarray .int, 2) := by decide +kernel
theorem dX6_init_29 : decode cX6_init 29 = .ok (.putfield 24, 3) := by decide +kernel
theorem dX6_init_32 : decode cX6_init 32 = .ok (.aload_n 0, 1) := by decide +kernel
theorem dX6_init_33 : decode cX6_init 33 = .ok (.bipush 12, 2) := by decide +kernel
theorem dX6_init_35 : decode cX6_init 35 = .ok (.newarray .int, 2) := by decide +kernel
theorem dX6_init_37 : decode cX6_init 37 = .ok (.putfield 28, 3) := by decide +kernel
theorem dX6_init_40 : decode cX6_init 40 = .ok (.aload_n 0, 1) := by decide +kernel
theorem dX6_init_41 : decode cX6_init 41 = .ok (.bipush 12, 2) := by decide +kernel
theorem dX6_init_43 : decode cX6_init 43 = .ok (.newarray .int, 2) := by decide +kernel
theorem dX6_init_45 : decode cX6_init 45 = .ok (.putfield 31, 3) := by decide +kernel
theorem dX6_init_48 : decode cX6_init 48 = .ok (.aload_n 0, 1) := by decide +kernel
theorem dX6_init_49 : decode cX6_init 49 = .ok (.iconst 5, 1) := by decide +kernel
theorem dX6_init_50 : decode cX6_init 50 = .ok (.newarray .int, 2) := by decide +kernel
theorem dX6_init_52 : decode cX6_init 52 = .ok (.putfield 34, 3) := by decide +kernel
theorem dX6_init_55 : decode cX6_init 55 = .ok (.aload_n 0, 1) := by decide +kernel
theorem dX6_init_56 : decode cX6_init 56 = .ok (.bipush 36, 2) := by decide +kernel
theorem dX6_init_58 : decode cX6_init 58 = .ok (.newarray .int, 2) := by decide +kernel
theorem dX6_init_60 : decode cX6_init 60 = .ok (.putfield 37, 3) := by decide +kernel
theorem dX6_init_63 : decode cX6_init 63 = .ok (.aload_n 0, 1) := by decide +kernel
theorem dX6_init_64 : decode cX6_init 64 = .ok (.bipush 6, 2) := by decide +kernel
theorem dX6_init_66 : decode cX6_init 66 = .ok (.newarray .boolean, 2) := by decide +kernel
theorem dX6_init_68 : decode cX6_init 68 = .ok (.putfield 40, 3) := by decide +kernel
theorem dX6_init_71 : decode cX6_init 71 = .ok (.aload_n 0, 1) := by decide +kernel
theorem dX6_init_72 : decode cX6_init 72 = .ok (.iconst 5, 1) := by decide +kernel
theorem dX6_init_73 : decode cX6_init 73 = .ok (.newarray .int, 2) := by decide +kernel
theorem dX6_init_75 : decode cX6_init 75 = .ok (.putfield 44, 3) := by decide +kernel
theorem dX6_init_78 : decode cX6_init 78 = .ok (.iconst 0, 1) := by decide +kernel
theorem dX6_init_79 : decode cX6_init 79 = .ok (.istore_n 1, 1) := by decide +kernel
theorem dX6_init_80 : decode cX6_init 80 = .ok (.iload_n 1, 1) := by decide +kernel
theorem dX6_init_81 : decode cX6_init 81 = .ok (.bipush 6, 2) := by decide +kernel
theorem dX6_init_83 : decode cX6_init 83 = .ok (.if_icmp .ge 22, 3) := by decide +kernel
theorem dX6_init_86 : decode cX6_init 86 = .ok (.aload_n 0, 1) := by decide +kernel
theorem dX6_init_87 : decode cX6_init 87 = .ok (.getfield 20, 3) := by decide +kernel
theorem dX6_init_90 : decode cX6_init 90 = .ok (.iload_n 1, 1) := by decide +kernel
theorem dX6_init_91 : decode cX6_init 91 = .ok (.new 18, 3) := by decide +kernel
theorem dX6_init_94 : decode cX6_init 94 = .ok (.dup, 1) := by decide +kernel
theorem dX6_init_95 : decode cX6_init 95 = .ok (.invokespecial 47, 3) := by decide +kernel
theorem dX6_init_98 : decode cX6_init 98 = .ok (.aastore, 1) := by decide +kernel
theorem dX6_init_99 : decode cX6_init 99 = .ok (.iinc 1 1, 3) := by decide +kernel
theorem dX6_init_102 : decode cX6_init 102 = .ok (.goto (-22), 3) := by decide +kernel
theorem dX6_init_105 : decode cX6_init 105 = .ok (.aload_n 0, 1) := by decide +kernel
theorem dX6_init_106 : decode cX6_init 106 = .ok (.invokevirtual 48, 3) := by decide +kernel
theorem dX6_init_109 : decode cX6_init 109 = .ok (.return_, 1) := by decide +kernel
theorem ko_RX6_3 : Cond.methodLink RX6 3 Lib.objectInit ∈ aU ∧ Cond.instanceMethod Lib.objectInit ∈ aU ∧ Cond.code Lib.objectInit ⟨#[0xb1]⟩ 1 none ∈ aU := ⟨aU_1 39 rfl rfl, aU_1 32 rfl rfl, aU_1 33 rfl rfl⟩
def sh_6 : List aSh := sh_5 ++ [.inr (4, [none, none, some none, some none, some none])]
theorem kw_RX6_9 : Cond.classLink RX6 9 "NoseTown$Grid" ∈ aU ∧ Cond.instantiable "NoseTown$Grid" 5 ∈ aU ∧ Cond.initialized "NoseTown$Grid" ∈ aU := ⟨aU_1 40 rfl rfl, aU_1 41 rfl rfl, aU_1 3 rfl rfl⟩
def sh_7 : List aSh := [.inr (11, [some (some 1), none, none, some none, some none, some none, some none, none, some none, some none, some none, some none, some none, some none]), .inl (0, 700, []), .inr (6, [some none, some none, none, none, none, none, none, none, none, none, some none, some none, some none, some none, some none, some none, some none]), .inr (4, [none, none, some none, some none, some none])]
def M_X4_init : aM := (yX4_init, cX4_init, 1, none, [])
theorem dX4_init_0 : decode cX4_init 0 = .ok (.aload_n 0, 1) := by decide +kernel
theorem dX4_init_1 : decode cX4_init 1 = .ok (.invokespecial 3, 3) := by decide +kernel
theorem dX4_init_4 : decode cX4_init 4 = .ok (.aload_n 0, 1) := by decide +kernel
theorem dX4_init_5 : decode cX4_init 5 = .ok (.bipush 64, 2) := by decide +kernel
theorem dX4_init_7 : decode cX4_init 7 = .ok (.newarray .int, 2) := by decide +kernel
theorem dX4_init_9 : decode cX4_init 9 = .ok (.putfield 9, 3) := by decide +kernel
theorem dX4_init_12 : decode cX4_init 12 = .ok (.aload_n 0, 1) := by decide +kernel
theorem dX4_init_13 : decode cX4_init 13 = .ok (.bipush 64, 2) := by decide +kernel
theorem dX4_init_15 : decode cX4_init 15 = .ok (.newarray .int, 2) := by decide +kernel
theorem dX4_init_17 : decode cX4_init 17 = .ok (.putfield 15, 3) := by decide +kernel
theorem dX4_init_20 : decode cX4_init 20 = .ok (.aload_n 0, 1) := by decide +kernel
theorem dX4_init_21 : decode cX4_init 21 = .ok (.bipush 64, 2) := by decide +kernel
theorem dX4_init_23 : decode cX4_init 23 = .ok (.newarray .boolean, 2) := by decide +kernel
theorem dX4_init_25 : decode cX4_init 25 = .ok (.putfield 18, 3) := by decide +kernel
theorem dX4_init_28 : decode cX4_init 28 = .ok (.return_, 1) := by decide +kernel
theorem ko_RX4_3 : Cond.methodLink RX4 3 Lib.objectInit ∈ aU ∧ Cond.instanceMethod Lib.objectInit ∈ aU ∧ Cond.code Lib.objectInit ⟨#[0xb1]⟩ 1 none ∈ aU := ⟨aU_1 45 rfl rfl, aU_1 32 rfl rfl, aU_1 33 rfl rfl⟩
def sh_8 : List aSh := sh_7 ++ [.inl (1, 64, [])]
def sh_9 : List aSh := sh_8.set 3 (.inr (4, [none, none, some (some 4), some none, some none]))
def sh_10 : List aSh := sh_9 ++ [.inl (1, 64, [])]
def sh_11 : List aSh := sh_10.set 3 (.inr (4, [none, none, some (some 4), some (some 5), some none]))
def sh_12 : List aSh := sh_11 ++ [.inl (3, 64, [])]
def sh_13 : List aSh := sh_12.set 3 (.inr (4, [none, none, some (some 4), some (some 5), some (some 6)]))
def sh_14 : List aSh := [.inr (11, [some (some 1), none, none, some none, some none, some none, some none, none, some none, some none, some none, some none, some none, some none]), .inl (0, 700, []), .inr (6, [some none, some none, none, none, none, none, none, none, none, none, some none, some none, some none, some none, some none, some none, some none]), .inr (4, [none, none, some (some 4), some (some 5), some (some 6)]), .inl (1, 64, []), .inl (1, 64, []), .inl (3, 64, [])]
def f_new_X4_3 (D : aD) : Option aD :=
  aLet (z0 D 4) (fun D_1 => aLet (z0 D_1 5) (fun D_2 => aLet (z0 D_2 6) (fun D_3 => some D_3)))
set_option maxRecDepth 100000 in
set_option maxHeartbeats 4000000 in
theorem c_new_X4_3 {G : aG} (hG : gOK G) (hN : gNest G) {D : aD} {K : aD → Prop} (h : Ok (f_new_X4_3 D) K) : AC G (aRm 2 3 192) M_X4_init [.ref 3] (some 4) sh_7 D (aQv sh_14 K) := by
  unfold f_new_X4_3 at h
  refine AC.of (al := [some (.ref 3)]) (r := 0) (by decide) (Nat.le_of_ble_eq_true rfl) rfl ?_
  refine aw_aload_n (n := 1) (i := 0) dX4_init_0 rfl rfl rfl ?_
  refine aw_objInit (M := M_X4_init) (n := 4) ko_RX4_3.1 ko_RX4_3.2.1 ko_RX4_3.2.2 (by decide) (by decide) dX4_init_1 rfl ?_
  refine aw_aload_n (n := 5) (i := 0) dX4_init_4 rfl rfl rfl ?_
  refine aw_bipush (n := 7) (v := 64) dX4_init_5 rfl (by decide) ?_
  obtain ⟨D_1, e_D_1, h⟩ := Ok.let_ h
  refine aw_newa (M := M_X4_init) (n := 9) (t := 1) (N := 64) (ty := .int) (L := 4) (n0 := 4) (shp' := sh_8) (D' := D_1) hG.1 rfl rfl rfl (by decide) aw_int rfl rfl (fun _ _ h => h) (at_z1) (by decide) rfl (by decide) (by decide) (by decide) dX4_init_7 rfl rfl (kc' := 1) (ks' := 64) rfl rfl e_D_1 ?_
  refine aw_putR (M := M_X4_init) (n := 12) (j := 2) (k := 3) (r := 4) (shp' := sh_9) hG.1 fl_RX4_9 ⟨rfl, fun _ => ⟨rfl, rfl⟩⟩ ⟨_, _, rfl⟩ rfl (fs := [none, none, some none, some none, some none]) (rfl : sh_8[3]? = _) (by decide) rfl dX4_init_9 rfl ?_
  refine aw_aload_n (n := 13) (i := 0) dX4_init_12 rfl rfl rfl ?_
  refine aw_bipush (n := 15) (v := 64) dX4_init_13 rfl (by decide) ?_
  obtain ⟨D_2, e_D_2, h⟩ := Ok.let_ h
  refine aw_newa (M := M_X4_init) (n := 17) (t := 1) (N := 64) (ty := .int) (L := 5) (n0 := 4) (shp' := sh_10) (D' := D_2) hG.1 rfl rfl rfl (by decide) aw_int rfl rfl (fun _ _ h => h) (at_z1) (by decide) rfl (by decide) (by decide) (by decide) dX4_init_15 rfl rfl (kc' := 2) (ks' := 128) rfl rfl e_D_2 ?_
  refine aw_putR (M := M_X4_init) (n := 20) (j := 3) (k := 3) (r := 5) (shp' := sh_11) hG.1 fl_RX4_15 ⟨rfl, fun _ => ⟨rfl, rfl⟩⟩ ⟨_, _, rfl⟩ rfl (fs := [none, none, some (some 4), some none, some none]) (rfl : sh_10[3]? = _) (by decide) rfl dX4_init_17 rfl ?_
  refine aw_aload_n (n := 21) (i := 0) dX4_init_20 rfl rfl rfl ?_
  refine aw_bipush (n := 23) (v := 64) dX4_init_21 rfl (by decide) ?_
  obtain ⟨D_3, e_D_3, h⟩ := Ok.let_ h
  refine aw_newa (M := M_X4_init) (n := 25) (t := 3) (N := 64) (ty := .boolean) (L := 6) (n0 := 4) (shp' := sh_12) (D' := D_3) hG.1 rfl rfl rfl (by decide) aw_boolean rfl rfl (fun _ _ h => h) (at_z3) (by decide) rfl (by decide) (by decide) (by decide) dX4_init_23 rfl rfl (kc' := 3) (ks' := 192) rfl rfl e_D_3 ?_
  refine aw_putR (M := M_X4_init) (n := 28) (j := 4) (k := 3) (r := 6) (shp' := sh_13) hG.1 fl_RX4_18 ⟨rfl, fun _ => ⟨rfl, rfl⟩⟩ ⟨_, _, rfl⟩ rfl (fs := [none, none, some (some 4), some (some 5), some none]) (rfl : sh_12[3]? = _) (by decide) rfl dX4_init_25 rfl ?_
  exact aw_vret rfl (by decide) (by decide) dX4_init_28 ⟨rfl, (rfl : sh_13 = sh_14), (Ok.dn h :)⟩
theorem kN_RX6_11 {G : aG} (hN : gNest G) : aLkN G RX6 11 4 M_X4_init ∧ aNp M_X4_init = some 0 := ⟨⟨⟨_, hN.1⟩, aU_1 43 rfl rfl, aU_1 3 rfl rfl, aU_1 44 rfl rfl, rfl, rfl, ⟨by decide +kernel, by decide +kernel⟩⟩, by decide +kernel⟩
def sh_15 : List aSh := sh_14.set 2 (.inr (6, [some (some 3), some none, none, none, none, none, none, none, none, none, some none, some none, some none, some none, some none, some none, some none]))
def sh_16 : List aSh := sh_15 ++ [.inl (4, 6, [none, none, none, none, none, none])]
theorem ka_RX6_18 : Cond.classLink RX6 18 RX8 ∈ aU := aU_1 72 rfl rfl
def sh_17 : List aSh := sh_16.set 2 (.inr (6, [some (some 3), some (some 7), none, none, none, none, none, none, none, none, some none, some none, some none, some none, some none, some none, some none]))
def sh_18 : List aSh := sh_17 ++ [.inl (1, 12, [])]
def sh_19 : List aSh := sh_18.set 2 (.inr (6, [some (some 3), some (some 7), none, none, none, none, none, none, none, none, some (some 8), some none, some none, some none, some none, some none, some none]))
def sh_20 : List aSh := sh_19 ++ [.inl (1, 12, [])]
def sh_21 : List aSh := sh_20.set 2 (.inr (6, [some (some 3), some (some 7), none, none, none, none, none, none, none, none, some (some 8), some (some 9), some none, some none, some none, some none, some none]))
def sh_22 : List aSh := sh_21 ++ [.inl (1, 12, [])]
def sh_23 : List aSh := sh_22.set 2 (.inr (6, [some (some 3), some (some 7), none, none, none, none, none, none, none, none, some (some 8), some (some 9), some (some 10), some none, some none, some none, some none]))
def sh_24 : List aSh := sh_23 ++ [.inl (1, 5, [])]
def sh_25 : List aSh := sh_24.set 2 (.inr (6, [some (some 3), some (some 7), none, none, none, none, none, none, none, none, some (some 8), some (some 9), some (some 10), some (some 11), some none, some none, some none]))
def sh_26 : List aSh := sh_25 ++ [.inl (1, 36, [])]
def sh_27 : List aSh := sh_26.set 2 (.inr (6, [some (some 3), some (some 7), none, none, none, none, none, none, none, none, some (some 8), some (some 9), some (some 10), some (some 11), some (some 12), some none, some none]))
def sh_28 : List aSh := sh_27 ++ [.inl (3, 6, [])]
def sh_29 : List aSh := sh_28.set 2 (.inr (6, [some (some 3), some (some 7), none, none, none, none, none, none, none, none, some (some 8), some (some 9), some (some 10), some (some 11), some (some 12), some (some 13), some none]))
def sh_30 : List aSh := sh_29 ++ [.inl (1, 5, [])]
def sh_31 : List aSh := sh_30.set 2 (.inr (6, [some (some 3), some (some 7), none, none, none, none, none, none, none, none, some (some 8), some (some 9), some (some 10), some (some 11), some (some 12), some (some 13), some (some 14)]))
def sh_32 : List aSh := sh_31 ++ [.inr (8, [none, none, none, none, none, none, none])]
theorem kw_RX6_18 : Cond.classLink RX6 18 "NoseTown$Sort" ∈ aU ∧ Cond.instantiable "NoseTown$Sort" 7 ∈ aU ∧ Cond.initialized "NoseTown$Sort" ∈ aU := ⟨aU_1 72 rfl rfl, aU_1 74 rfl rfl, aU_1 4 rfl rfl⟩
def sh_33 : List aSh := [.inr (11, [some (some 1), none, none, some none, some none, some none, some none, none, some none, some none, some none, some none, some none, some none]), .inl (0, 700, []), .inr (6, [some (some 3), some (some 7), none, none, none, none, none, none, none, none, some (some 8), some (some 9), some (some 10), some (some 11), some (some 12), some (some 13), some (some 14)]), .inr (4, [none, none, some (some 4), some (some 5), some (some 6)]), .inl (1, 64, []), .inl (1, 64, []), .inl (3, 64, []), .inl (4, 6, [none, none, none, none, none, none]), .inl (1, 12, []), .inl (1, 12, []), .inl (1, 12, []), .inl (1, 5, []), .inl (1, 36, []), .inl (3, 6, []), .inl (1, 5, []), .inr (8, [none, none, none, none, none, none, none])]
def M_X8_init : aM := (yX8_init, cX8_init, 1, none, [])
theorem dX8_init_0 : decode cX8_init 0 = .ok (.aload_n 0, 1) := by decide +kernel
theorem dX8_init_1 : decode cX8_init 1 = .ok (.invokespecial 1, 3) := by decide +kernel
theorem dX8_init_4 : decode cX8_init 4 = .ok (.return_, 1) := by decide +kernel
theorem ko_RX8_1 : Cond.methodLink RX8 1 Lib.objectInit ∈ aU ∧ Cond.instanceMethod Lib.objectInit ∈ aU ∧ Cond.code Lib.objectInit ⟨#[0xb1]⟩ 1 none ∈ aU := ⟨aU_1 78 rfl rfl, aU_1 32 rfl rfl, aU_1 33 rfl rfl⟩
def sh_34 : List aSh := [.inr (11, [some (some 1), none, none, some none, some none, some none, some none, none, some none, some none, some none, some none, some none, some none]), .inl (0, 700, []), .inr (6, [some (some 3), some (some 7), none, none, none, none, none, none, none, none, some (some 8), some (some 9), some (some 10), some (some 11), some (some 12), some (some 13), some (some 14)]), .inr (4, [none, none, some (some 4), some (some 5), some (some 6)]), .inl (1, 64, []), .inl (1, 64, []), .inl (3, 64, []), .inl (4, 6, [none, none, none, none, none, none]), .inl (1, 12, []), .inl (1, 12, []), .inl (1, 12, []), .inl (1, 5, []), .inl (1, 36, []), .inl (3, 6, []), .inl (1, 5, []), .inr (8, [none, none, none, none, none, none, none])]
def f_new_X8_15 (D : aD) : Option aD :=
  some D
set_option maxRecDepth 100000 in
set_option maxHeartbeats 4000000 in
theorem c_new_X8_15 {G : aG} (hG : gOK G) (hN : gNest G) {D : aD} {K : aD → Prop} (h : Ok (f_new_X8_15 D) K) : AC G (aRm 2 0 0) M_X8_init [.ref 15] (some 16) sh_33 D (aQv sh_34 K) := by
  unfold f_new_X8_15 at h
  refine AC.of (al := [some (.ref 15)]) (r := 0) (by decide) (Nat.le_of_ble_eq_true rfl) rfl ?_
  refine aw_aload_n (n := 1) (i := 0) dX8_init_0 rfl rfl rfl ?_
  refine aw_objInit (M := M_X8_init) (n := 4) ko_RX8_1.1 ko_RX8_1.2.1 ko_RX8_1.2.2 (by decide) (by decide) dX8_init_1 rfl ?_
  exact aw_vret rfl (by decide) (by decide) dX8_init_4 ⟨rfl, (rfl : sh_33 = sh_34), (Ok.dn h :)⟩
theorem kN_RX6_47 {G : aG} (hN : gNest G) : aLkN G RX6 47 8 M_X8_init ∧ aNp M_X8_init = some 0 := ⟨⟨⟨_, hN.2.1⟩, aU_1 76 rfl rfl, aU_1 4 rfl rfl, aU_1 77 rfl rfl, rfl, rfl, ⟨by decide +kernel, by decide +kernel⟩⟩, by decide +kernel⟩
def sh_35 : List aSh := sh_34.set 7 (.inl (4, 6, [some 15, none, none, none, none, none]))
def sh_36 : List aSh := sh_35 ++ [.inr (8, [none, none, none, none, none, none, none])]
def sh_37 : List aSh := [.inr (11, [some (some 1), none, none, some none, some none, some none, some none, none, some none, some none, some none, some none, some none, some none]), .inl (0, 700, []), .inr (6, [some (some 3), some (some 7), none, none, none, none, none, none, none, none, some (some 8), some (some 9), some (some 10), some (some 11), some (some 12), some (some 13), some (some 14)]), .inr (4, [none, none, some (some 4), some (some 5), some (some 6)]), .inl (1, 64, []), .inl (1, 64, []), .inl (3, 64, []), .inl (4, 6, [some 15, none, none, none, none, none]), .inl (1, 12, []), .inl (1, 12, []), .inl (1, 12, []), .inl (1, 5, []), .inl (1, 36, []), .inl (3, 6, []), .inl (1, 5, []), .inr (8, [none, none, none, none, none, none, none]), .inr (8, [none, none, none, none, none, none, none])]
def sh_38 : List aSh := [.inr (11, [some (some 1), none, none, some none, some none, some none, some none, none, some none, some none, some none, some none, some none, some none]), .inl (0, 700, []), .inr (6, [some (some 3), some (some 7), none, none, none, none, none, none, none, none, some (some 8), some (some 9), some (some 10), some (some 11), some (some 12), some (some 13), some (some 14)]), .inr (4, [none, none, some (some 4), some (some 5), some (some 6)]), .inl (1, 64, []), .inl (1, 64, []), .inl (3, 64, []), .inl (4, 6, [some 15, none, none, none, none, none]), .inl (1, 12, []), .inl (1, 12, []), .inl (1, 12, []), .inl (1, 5, []), .inl (1, 36, []), .inl (3, 6, []), .inl (1, 5, []), .inr (8, [none, none, none, none, none, none, none]), .inr (8, [none, none, none, none, none, none, none])]
def f_new_X8_16 (D : aD) : Option aD :=
  some D
set_option maxRecDepth 100000 in
set_option maxHeartbeats 4000000 in
theorem c_new_X8_16 {G : aG} (hG : gOK G) (hN : gNest G) {D : aD} {K : aD → Prop} (h : Ok (f_new_X8_16 D) K) : AC G (aRm 2 0 0) M_X8_init [.ref 16] (some 17) sh_37 D (aQv sh_38 K) := by
  unfold f_new_X8_16 at h
  refine AC.of (al := [some (.ref 16)]) (r := 0) (by decide) (Nat.le_of_ble_eq_true rfl) rfl ?_
  refine aw_aload_n (n := 1) (i := 0) dX8_init_0 rfl rfl rfl ?_
  refine aw_objInit (M := M_X8_init) (n := 4) ko_RX8_1.1 ko_RX8_1.2.1 ko_RX8_1.2.2 (by decide) (by decide) dX8_init_1 rfl ?_
  exact aw_vret rfl (by decide) (by decide) dX8_init_4 ⟨rfl, (rfl : sh_37 = sh_38), (Ok.dn h :)⟩
def sh_39 : List aSh := sh_38.set 7 (.inl (4, 6, [some 15, some 16, none, none, none, none]))
def sh_40 : List aSh := sh_39 ++ [.inr (8, [none, none, none, none, none, none, none])]
def sh_41 : List aSh := [.inr (11, [some (some 1), none, none, some none, some none, some none, some none, none, some none, some none, some none, some none, some none, some none]), .inl (0, 700, []), .inr (6, [some (some 3), some (some 7), none, none, none, none, none, none, none, none, some (some 8), some (some 9), some (some 10), some (some 11), some (some 12), some (some 13), some (some 14)]), .inr (4, [none, none, some (some 4), some (some 5), some (some 6)]), .inl (1, 64, []), .inl (1, 64, []), .inl (3, 64, []), .inl (4, 6, [some 15, some 16, none, none, none, none]), .inl (1, 12, []), .inl (1, 12, []), .inl (1, 12, []), .inl (1, 5, []), .inl (1, 36, []), .inl (3, 6, []), .inl (1, 5, []), .inr (8, [none, none, none, none, none, none, none]), .inr (8, [none, none, none, none, none, none, none]), .inr (8, [none, none, none, none, none, none, none])]
def sh_42 : List aSh := [.inr (11, [some (some 1), none, none, some none, some none, some none, some none, none, some none, some none, some none, some none, some none, some none]), .inl (0, 700, []), .inr (6, [some (some 3), some (some 7), none, none, none, none, none, none, none, none, some (some 8), some (some 9), some (some 10), some (some 11), some (some 12), some (some 13), some (some 14)]), .inr (4, [none, none, some (some 4), some (some 5), some (some 6)]), .inl (1, 64, []), .inl (1, 64, []), .inl (3, 64, []), .inl (4, 6, [some 15, some 16, none, none, none, none]), .inl (1, 12, []), .inl (1, 12, []), .inl (1, 12, []), .inl (1, 5, []), .inl (1, 36, []), .inl (3, 6, []), .inl (1, 5, []), .inr (8, [none, none, none, none, none, none, none]), .inr (8, [none, none, none, none, none, none, none]), .inr (8, [none, none, none, none, none, none, none])]
def f_new_X8_17 (D : aD) : Option aD :=
  some D
set_option maxRecDepth 100000 in
set_option maxHeartbeats 4000000 in
theorem c_new_X8_17 {G : aG} (hG : gOK G) (hN : gNest G) {D : aD} {K : aD → Prop} (h : Ok (f_new_X8_17 D) K) : AC G (aRm 2 0 0) M_X8_init [.ref 17] (some 18) sh_41 D (aQv sh_42 K) := by
  unfold f_new_X8_17 at h
  refine AC.of (al := [some (.ref 17)]) (r := 0) (by decide) (Nat.le_of_ble_eq_true rfl) rfl ?_
  refine aw_aload_n (n := 1) (i := 0) dX8_init_0 rfl rfl rfl ?_
  refine aw_objInit (M := M_X8_init) (n := 4) ko_RX8_1.1 ko_RX8_1.2.1 ko_RX8_1.2.2 (by decide) (by decide) dX8_init_1 rfl ?_
  exact aw_vret rfl (by decide) (by decide) dX8_init_4 ⟨rfl, (rfl : sh_41 = sh_42), (Ok.dn h :)⟩
def sh_43 : List aSh := sh_42.set 7 (.inl (4, 6, [some 15, some 16, some 17, none, none, none]))
def sh_44 : List aSh := sh_43 ++ [.inr (8, [none, none, none, none, none, none, none])]
def sh_45 : List aSh := [.inr (11, [some (some 1), none, none, some none, some none, some none, some none, none, some none, some none, some none, some none, some none, some none]), .inl (0, 700, []), .inr (6, [some (some 3), some (some 7), none, none, none, none, none, none, none, none, some (some 8), some (some 9), some (some 10), some (some 11), some (some 12), some (some 13), some (some 14)]), .inr (4, [none, none, some (some 4), some (some 5), some (some 6)]), .inl (1, 64, []), .inl (1, 64, []), .inl (3, 64, []), .inl (4, 6, [some 15, some 16, some 17, none, none, none]), .inl (1, 12, []), .inl (1, 12, []), .inl (1, 12, []), .inl (1, 5, []), .inl (1, 36, []), .inl (3, 6, []), .inl (1, 5, []), .inr (8, [none, none, none, none, none, none, none]), .inr (8, [none, none, none, none, none, none, none]), .inr (8, [none, none, none, none, none, none, none]), .inr (8, [none, none, none, none, none, none, none])]
def sh_46 : List aSh := [.inr (11, [some (some 1), none, none, some none, some none, some none, some none, none, some none, some none, some none, some none, some none, some none]), .inl (0, 700, []), .inr (6, [some (some 3), some (some 7), none, none, none, none, none, none, none, none, some (some 8), some (some 9), some (some 10), some (some 11), some (some 12), some (some 13), some (some 14)]), .inr (4, [none, none, some (some 4), some (some 5), some (some 6)]), .inl (1, 64, []), .inl (1, 64, []), .inl (3, 64, []), .inl (4, 6, [some 15, some 16, some 17, none, none, none]), .inl (1, 12, []), .inl (1, 12, []), .inl (1, 12, []), .inl (1, 5, []), .inl (1, 36, []), .inl (3, 6, []), .inl (1, 5, []), .inr (8, [none, none, none, none, none, none, none]), .inr (8, [none, none, none, none, none, none, none]), .inr (8, [none, none, none, none, none, none, none]), .inr (8, [none, none, none, none, none, none, none])]
def f_new_X8_18 (D : aD) : Option aD :=
  some D
set_option maxRecDepth 100000 in
set_option maxHeartbeats 4000000 in
theorem c_new_X8_18 {G : aG} (hG : gOK G) (hN : gNest G) {D : aD} {K : aD → Prop} (h : Ok (f_new_X8_18 D) K) : AC G (aRm 2 0 0) M_X8_init [.ref 18] (some 19) sh_45 D (aQv sh_46 K) := by
  unfold f_new_X8_18 at h
  refine AC.of (al := [some (.ref 18)]) (r := 0) (by decide) (Nat.le_of_ble_eq_true rfl) rfl ?_
  refine aw_aload_n (n := 1) (i := 0) dX8_init_0 rfl rfl rfl ?_
  refine aw_objInit (M := M_X8_init) (n := 4) ko_RX8_1.1 ko_RX8_1.2.1 ko_RX8_1.2.2 (by decide) (by decide) dX8_init_1 rfl ?_
  exact aw_vret rfl (by decide) (by decide) dX8_init_4 ⟨rfl, (rfl : sh_45 = sh_46), (Ok.dn h :)⟩
def sh_47 : List aSh := sh_46.set 7 (.inl (4, 6, [some 15, some 16, some 17, some 18, none, none]))
def sh_48 : List aSh := sh_47 ++ [.inr (8, [none, none, none, none, none, none, none])]
def sh_49 : List aSh := [.inr (11, [some (some 1), none, none, some none, some none, some none, some none, none, some none, some none, some none, some none, some none, some none]), .inl (0, 700, []), .inr (6, [some (some 3), some (some 7), none, none, none, none, none, none, none, none, some (some 8), some (some 9), some (some 10), some (some 11), some (some 12), some (some 13), some (some 14)]), .inr (4, [none, none, some (some 4), some (some 5), some (some 6)]), .inl (1, 64, []), .inl (1, 64, []), .inl (3, 64, []), .inl (4, 6, [some 15, some 16, some 17, some 18, none, none]), .inl (1, 12, []), .inl (1, 12, []), .inl (1, 12, []), .inl (1, 5, []), .inl (1, 36, []), .inl (3, 6, []), .inl (1, 5, []), .inr (8, [none, none, none, none, none, none, none]), .inr (8, [none, none, none, none, none, none, none]), .inr (8, [none, none, none, none, none, none, none]), .inr (8, [none, none, none, none, none, none, none]), .inr (8, [none, none, none, none, none, none, none])]
def sh_50 : List aSh := [.inr (11, [some (some 1), none, none, some none, some none, some none, some none, none, some none, some none, some none, some none, some none, some none]), .inl (0, 700, []), .inr (6, [some (some 3), some (some 7), none, none, none, none, none, none, none, none, some (some 8), some (some 9), some (some 10), some (some 11), some (some 12), some (some 13), some (some 14)]), .inr (4, [none, none, some (some 4), some (some 5), some (some 6)]), .inl (1, 64, []), .inl (1, 64, []), .inl (3, 64, []), .inl (4, 6, [some 15, some 16, some 17, some 18, none, none]), .inl (1, 12, []), .inl (1, 12, []), .inl (1, 12, []), .inl (1, 5, []), .inl (1, 36, []), .inl (3, 6, []), .inl (1, 5, []), .inr (8, [none, none, none, none, none, none, none]), .inr (8, [none, none, none, none, none, none, none]), .inr (8, [none, none, none, none, none, none, none]), .inr (8, [none, none, none, none, none, none, none]), .inr (8, [none, none, none, none, none, none, none])]
def f_new_X8_19 (D : aD) : Option aD :=
  some D
set_option maxRecDepth 100000 in
set_option maxHeartbeats 4000000 in
theorem c_new_X8_19 {G : aG} (hG : gOK G) (hN : gNest G) {D : aD} {K : aD → Prop} (h : Ok (f_new_X8_19 D) K) : AC G (aRm 2 0 0) M_X8_init [.ref 19] (some 20) sh_49 D (aQv sh_50 K) := by
  unfold f_new_X8_19 at h
  refine AC.of (al := [some (.ref 19)]) (r := 0) (by decide) (Nat.le_of_ble_eq_true rfl) rfl ?_
  refine aw_aload_n (n := 1) (i := 0) dX8_init_0 rfl rfl rfl ?_
  refine aw_objInit (M := M_X8_init) (n := 4) ko_RX8_1.1 ko_RX8_1.2.1 ko_RX8_1.2.2 (by decide) (by decide) dX8_init_1 rfl ?_
  exact aw_vret rfl (by decide) (by decide) dX8_init_4 ⟨rfl, (rfl : sh_49 = sh_50), (Ok.dn h :)⟩
def sh_51 : List aSh := sh_50.set 7 (.inl (4, 6, [some 15, some 16, some 17, some 18, some 19, none]))
def sh_52 : List aSh := sh_51 ++ [.inr (8, [none, none, none, none, none, none, none])]
def sh_53 : List aSh := [.inr (11, [some (some 1), none, none, some none, some none, some none, some none, none, some none, some none, some none, some none, some none, some none]), .inl (0, 700, []), .inr (6, [some (some 3), some (some 7), none, none, none, none, none, none, none, none, some (some 8), some (some 9), some (some 10), some (some 11), some (some 12), some (some 13), some (some 14)]), .inr (4, [none, none, some (some 4), some (some 5), some (some 6)]), .inl (1, 64, []), .inl (1, 64, []), .inl (3, 64, []), .inl (4, 6, [some 15, some 16, some 17, some 18, some 19, none]), .inl (1, 12, []), .inl (1, 12, []), .inl (1, 12, []), .inl (1, 5, []), .inl (1, 36, []), .inl (3, 6, []), .inl (1, 5, []), .inr (8, [none, none, none, none, none, none, none]), .inr (8, [none, none, none, none, none, none, none]), .inr (8, [none, none, none, none, none, none, none]), .inr (8, [none, none, none, none, none, none, none]), .inr (8, [none, none, none, none, none, none, none]), .inr (8, [none, none, none, none, none, none, none])]
def sh_54 : List aSh := [.inr (11, [some (some 1), none, none, some none, some none, some none, some none, none, some none, some none, some none, some none, some none, some none]), .inl (0, 700, []), .inr (6, [some (some 3), some (some 7), none, none, none, none, none, none, none, none, some (some 8), some (some 9), some (some 10), some (some 11), some (some 12), some (some 13), some (some 14)]), .inr (4, [none, none, some (some 4), some (some 5), some (some 6)]), .inl (1, 64, []), .inl (1, 64, []), .inl (3, 64, []), .inl (4, 6, [some 15, some 16, some 17, some 18, some 19, none]), .inl (1, 12, []), .inl (1, 12, []), .inl (1, 12, []), .inl (1, 5, []), .inl (1, 36, []), .inl (3, 6, []), .inl (1, 5, []), .inr (8, [none, none, none, none, none, none, none]), .inr (8, [none, none, none, none, none, none, none]), .inr (8, [none, none, none, none, none, none, none]), .inr (8, [none, none, none, none, none, none, none]), .inr (8, [none, none, none, none, none, none, none]), .inr (8, [none, none, none, none, none, none, none])]
def f_new_X8_20 (D : aD) : Option aD :=
  some D
set_option maxRecDepth 100000 in
set_option maxHeartbeats 4000000 in
theorem c_new_X8_20 {G : aG} (hG : gOK G) (hN : gNest G) {D : aD} {K : aD → Prop} (h : Ok (f_new_X8_20 D) K) : AC G (aRm 2 0 0) M_X8_init [.ref 20] (some 21) sh_53 D (aQv sh_54 K) := by
  unfold f_new_X8_20 at h
  refine AC.of (al := [some (.ref 20)]) (r := 0) (by decide) (Nat.le_of_ble_eq_true rfl) rfl ?_
  refine aw_aload_n (n := 1) (i := 0) dX8_init_0 rfl rfl rfl ?_
  refine aw_objInit (M := M_X8_init) (n := 4) ko_RX8_1.1 ko_RX8_1.2.1 ko_RX8_1.2.2 (by decide) (by decide) dX8_init_1 rfl ?_
  exact aw_vret rfl (by decide) (by decide) dX8_init_4 ⟨rfl, (rfl : sh_53 = sh_54), (Ok.dn h :)⟩
def sh_55 : List aSh := sh_54.set 7 (.inl (4, 6, [some 15, some 16, some 17, some 18, some 19, some 20]))
def sh_56 : List aSh := [.inr (11, [some (some 1), none, none, some none, some none, some none, some none, none, some none, some none, some none, some none, some none, some none]), .inl (0, 700, []), .inr (6, [some (some 3), some (some 7), none, none, none, none, none, none, none, none, some (some 8), some (some 9), some (some 10), some (some 11), some (some 12), some (some 13), some (some 14)]), .inr (4, [none, none, some (some 4), some (some 5), some (some 6)]), .inl (1, 64, []), .inl (1, 64, []), .inl (3, 64, []), .inl (4, 6, [some 15, some 16, some 17, some 18, some 19, some 20]), .inl (1, 12, []), .inl (1, 12, []), .inl (1, 12, []), .inl (1, 5, []), .inl (1, 36, []), .inl (3, 6, []), .inl (1, 5, []), .inr (8, [none, none, none, none, none, none, none]), .inr (8, [none, none, none, none, none, none, none]), .inr (8, [none, none, none, none, none, none, none]), .inr (8, [none, none, none, none, none, none, none]), .inr (8, [none, none, none, none, none, none, none]), .inr (8, [none, none, none, none, none, none, none])]
def f_new_X6_2 (D : aD) : Option aD :=
  aLet (z0 D 3) (fun D_1 => (f_new_X4_3 D_1).bind (fun D_2 => aLet (z0 D_2 7) (fun D_3 => aLet (z0 D_3 8) (fun D_4 => aLet (z0 D_4 9) (fun D_5 => aLet (z0 D_5 10) (fun D_6 => aLet (z0 D_6 11) (fun D_7 => aLet (z0 D_7 12) (fun D_8 => aLet (z0 D_8 13) (fun D_9 => aLet (z0 D_9 14) (fun D_10 => aLet (z0 D_10 15) (fun D_11 => (f_new_X8_15 D_11).bind (fun D_12 => aLet (z0 D_12 16) (fun D_13 => (f_new_X8_16 D_13).bind (fun D_14 => aLet (z0 D_14 17) (fun D_15 => (f_new_X8_17 D_15).bind (fun D_16 => aLet (z0 D_16 18) (fun D_17 => (f_new_X8_18 D_17).bind (fun D_18 => aLet (z0 D_18 19) (fun D_19 => (f_new_X8_19 D_19).bind (fun D_20 => aLet (z0 D_20 20) (fun D_21 => (f_new_X8_20 D_21).bind (fun D_22 => (f_X6_clear_2 D_22).bind (fun D_23 => some D_23)))))))))))))))))))))))
set_option maxRecDepth 100000 in
set_option maxHeartbeats 4000000 in
theorem c_new_X6_2 {G : aG} (hG : gOK G) (hN : gNest G) {D : aD} {K : aD → Prop} (h : Ok (f_new_X6_2 D) K) : AC G (aRm 4 18 333) M_X6_init [.ref 2] (some 3) sh_5 D (aQv sh_56 K) := by
  unfold f_new_X6_2 at h
  refine AC.of (al := [some (.ref 2), none]) (r := 1) (by decide) (Nat.le_of_ble_eq_true rfl) rfl ?_
  refine aw_aload_n (n := 1) (i := 0) dX6_init_0 rfl rfl rfl ?_
  refine aw_objInit (M := M_X6_init) (n := 4) ko_RX6_3.1 ko_RX6_3.2.1 ko_RX6_3.2.2 (by decide) (by decide) dX6_init_1 rfl ?_
  refine aw_aload_n (n := 5) (i := 0) dX6_init_4 rfl rfl rfl ?_
  obtain ⟨D_1, e_D_1, h⟩ := Ok.let_ h
  refine aw_new (M := M_X6_init) (n := 8) (ci := 4) (N := 5) (C := RX4) (T := TX4) (L := 3) (n0 := 3) (shp' := sh_6) (D' := D_1) tyX4 hG.1 rfl rfl rfl (by decide) rfl aU_X4 tyX4_ok (by decide) (by unfold aNF; decide) kw_RX6_9.1 kw_RX6_9.2.1 kw_RX6_9.2.2 (by decide) (by decide) dX6_init_5 rfl rfl (kc' := 1) (ks' := 5) rfl rfl e_D_1 ?_
  refine aw_dup (n := 9) dX6_init_8 rfl rfl ?_
  refine aw_initN (M := M_X6_init) (n := 12) (L := 4) (n0 := 3) (As := []) (rest := [.ref 3, .ref 2]) (kN_RX6_11 hN) rfl rfl (by rw [(rfl : sh_6 = sh_7)]; exact c_new_X4_3 hG hN (h := Ok.bind h)) rfl rfl rfl (by decide) (Nat.le_of_ble_eq_true rfl) (kn := 4) (kn2 := 197) rfl rfl (by decide) (by decide) dX6_init_9 rfl (fun D_2 h => ?_)
  refine aw_putR (M := M_X6_init) (n := 15) (j := 0) (k := 2) (r := 3) (shp' := sh_15) hG.1 fl_RX6_12 ⟨rfl, fun _ => ⟨rfl, rfl⟩⟩ ⟨_, _, rfl⟩ rfl (fs := [some none, some none, none, none, none, none, none, none, none, none, some none, some none, some none, some none, some none, some none, some none]) (rfl : sh_14[2]? = _) (by decide) rfl dX6_init_12 rfl ?_
  refine aw_aload_n (n := 16) (i := 0) dX6_init_15 rfl rfl rfl ?_
  refine aw_bipush (n := 18) (v := 6) dX6_init_16 rfl (by decide) ?_
  obtain ⟨D_3, e_D_3, h⟩ := Ok.let_ h
  refine aw_anew (M := M_X6_init) (n := 21) (t := 4) (N := 6) (C := RX8) (L := 7) (n0 := 3) (shp' := sh_16) (D' := D_3) hG.1 rfl rfl rfl (by decide) ka_RX6_18 hN.2.2.1 (by decide) rfl (by decide) rfl (by decide) (by decide) (by decide) dX6_init_18 rfl rfl (kc' := 5) (ks' := 203) rfl rfl e_D_3 ?_
  refine aw_putR (M := M_X6_init) (n := 24) (j := 1) (k := 2) (r := 7) (shp' := sh_17) hG.1 fl_RX6_20 ⟨rfl, fun _ => ⟨rfl, rfl⟩⟩ ⟨_, _, rfl⟩ rfl (fs := [some (some 3), some none, none, none, none, none, none, none, none, none, some none, some none, some none, some none, some none, some none, some none]) (rfl : sh_16[2]? = _) (by decide) rfl dX6_init_21 rfl ?_
  refine aw_aload_n (n := 25) (i := 0) dX6_init_24 rfl rfl rfl ?_
  refine aw_bipush (n := 27) (v := 12) dX6_init_25 rfl (by decide) ?_
  obtain ⟨D_4, e_D_4, h⟩ := Ok.let_ h
  refine aw_newa (M := M_X6_init) (n := 29) (t := 1) (N := 12) (ty := .int) (L := 8) (n0 := 3) (shp' := sh_18) (D' := D_4) hG.1 rfl rfl rfl (by decide) aw_int rfl rfl (fun _ _ h => h) (at_z1) (by decide) rfl (by decide) (by decide) (by decide) dX6_init_27 rfl rfl (kc' := 6) (ks' := 215) rfl rfl e_D_4 ?_
  refine aw_putR (M := M_X6_init) (n := 32) (j := 10) (k := 2) (r := 8) (shp' := sh_19) hG.1 fl_RX6_24 ⟨rfl, fun _ => ⟨rfl, rfl⟩⟩ ⟨_, _, rfl⟩ rfl (fs := [some (some 3), some (some 7), none, none, none, none, none, none, none, none, some none, some none, some none, some none, some none, some none, some none]) (rfl : sh_18[2]? = _) (by decide) rfl dX6_init_29 rfl ?_
  refine aw_aload_n (n := 33) (i := 0) dX6_init_32 rfl rfl rfl ?_
  refine aw_bipush (n := 35) (v := 12) dX6_init_33 rfl (by decide) ?_
  obtain ⟨D_5, e_D_5, h⟩ := Ok.let_ h
  refine aw_newa (M := M_X6_init) (n := 37) (t := 1) (N := 12) (ty := .int) (L := 9) (n0 := 3) (shp' := sh_20) (D' := D_5) hG.1 rfl rfl rfl (by decide) aw_int rfl rfl (fun _ _ h => h) (at_z1) (by decide) rfl (by decide) (by decide) (by decide) dX6_init_35 rfl rfl (kc' := 7) (ks' := 227) rfl rfl e_D_5 ?_
  refine aw_putR (M := M_X6_init) (n := 40) (j := 11) (k := 2) (r := 9) (shp' := sh_21) hG.1 fl_RX6_28 ⟨rfl, fun _ => ⟨rfl, rfl⟩⟩ ⟨_, _, rfl⟩ rfl (fs := [some (some 3), some (some 7), none, none, none, none, none, none, none, none, some (some 8), some none, some none, some none, some none, some none, some none]) (rfl : sh_20[2]? = _) (by decide) rfl dX6_init_37 rfl ?_
  refine aw_aload_n (n := 41) (i := 0) dX6_init_40 rfl rfl rfl ?_
  refine aw_bipush (n := 43) (v := 12) dX6_init_41 rfl (by decide) ?_
  obtain ⟨D_6, e_D_6, h⟩ := Ok.let_ h
  refine aw_newa (M := M_X6_init) (n := 45) (t := 1) (N := 12) (ty := .int) (L := 10) (n0 := 3) (shp' := sh_22) (D' := D_6) hG.1 rfl rfl rfl (by decide) aw_int rfl rfl (fun _ _ h => h) (at_z1) (by decide) rfl (by decide) (by decide) (by decide) dX6_init_43 rfl rfl (kc' := 8) (ks' := 239) rfl rfl e_D_6 ?_
  refine aw_putR (M := M_X6_init) (n := 48) (j := 12) (k := 2) (r := 10) (shp' := sh_23) hG.1 fl_RX6_31 ⟨rfl, fun _ => ⟨rfl, rfl⟩⟩ ⟨_, _, rfl⟩ rfl (fs := [some (some 3), some (some 7), none, none, none, none, none, none, none, none, some (some 8), some (some 9), some none, some none, some none, some none, some none]) (rfl : sh_22[2]? = _) (by decide) rfl dX6_init_45 rfl ?_
  refine aw_aload_n (n := 49) (i := 0) dX6_init_48 rfl rfl rfl ?_
  refine aw_iconst (n := 50) (v := 5) dX6_init_49 rfl (by decide) ?_
  obtain ⟨D_7, e_D_7, h⟩ := Ok.let_ h
  refine aw_newa (M := M_X6_init) (n := 52) (t := 1) (N := 5) (ty := .int) (L := 11) (n0 := 3) (shp' := sh_24) (D' := D_7) hG.1 rfl rfl rfl (by decide) aw_int rfl rfl (fun _ _ h => h) (at_z1) (by decide) rfl (by decide) (by decide) (by decide) dX6_init_50 rfl rfl (kc' := 9) (ks' := 244) rfl rfl e_D_7 ?_
  refine aw_putR (M := M_X6_init) (n := 55) (j := 13) (k := 2) (r := 11) (shp' := sh_25) hG.1 fl_RX6_34 ⟨rfl, fun _ => ⟨rfl, rfl⟩⟩ ⟨_, _, rfl⟩ rfl (fs := [some (some 3), some (some 7), none, none, none, none, none, none, none, none, some (some 8), some (some 9), some (some 10), some none, some none, some none, some none]) (rfl : sh_24[2]? = _) (by decide) rfl dX6_init_52 rfl ?_
  refine aw_aload_n (n := 56) (i := 0) dX6_init_55 rfl rfl rfl ?_
  refine aw_bipush (n := 58) (v := 36) dX6_init_56 rfl (by decide) ?_
  obtain ⟨D_8, e_D_8, h⟩ := Ok.let_ h
  refine aw_newa (M := M_X6_init) (n := 60) (t := 1) (N := 36) (ty := .int) (L := 12) (n0 := 3) (shp' := sh_26) (D' := D_8) hG.1 rfl rfl rfl (by decide) aw_int rfl rfl (fun _ _ h => h) (at_z1) (by decide) rfl (by decide) (by decide) (by decide) dX6_init_58 rfl rfl (kc' := 10) (ks' := 280) rfl rfl e_D_8 ?_
  refine aw_putR (M := M_X6_init) (n := 63) (j := 14) (k := 2) (r := 12) (shp' := sh_27) hG.1 fl_RX6_37 ⟨rfl, fun _ => ⟨rfl, rfl⟩⟩ ⟨_, _, rfl⟩ rfl (fs := [some (some 3), some (some 7), none, none, none, none, none, none, none, none, some (some 8), some (some 9), some (some 10), some (some 11), some none, some none, some none]) (rfl : sh_26[2]? = _) (by decide) rfl dX6_init_60 rfl ?_
  refine aw_aload_n (n := 64) (i := 0) dX6_init_63 rfl rfl rfl ?_
  refine aw_bipush (n := 66) (v := 6) dX6_init_64 rfl (by decide) ?_
  obtain ⟨D_9, e_D_9, h⟩ := Ok.let_ h
  refine aw_newa (M := M_X6_init) (n := 68) (t := 3) (N := 6) (ty := .boolean) (L := 13) (n0 := 3) (shp' := sh_28) (D' := D_9) hG.1 rfl rfl rfl (by decide) aw_boolean rfl rfl (fun _ _ h => h) (at_z3) (by decide) rfl (by decide) (by decide) (by decide) dX6_init_66 rfl rfl (kc' := 11) (ks' := 286) rfl rfl e_D_9 ?_
  refine aw_putR (M := M_X6_init) (n := 71) (j := 15) (k := 2) (r := 13) (shp' := sh_29) hG.1 fl_RX6_40 ⟨rfl, fun _ => ⟨rfl, rfl⟩⟩ ⟨_, _, rfl⟩ rfl (fs := [some (some 3), some (some 7), none, none, none, none, none, none, none, none, some (some 8), some (some 9), some (some 10), some (some 11), some (some 12), some none, some none]) (rfl : sh_28[2]? = _) (by decide) rfl dX6_init_68 rfl ?_
  refine aw_aload_n (n := 72) (i := 0) dX6_init_71 rfl rfl rfl ?_
  refine aw_iconst (n := 73) (v := 5) dX6_init_72 rfl (by decide) ?_
  obtain ⟨D_10, e_D_10, h⟩ := Ok.let_ h
  refine aw_newa (M := M_X6_init) (n := 75) (t := 1) (N := 5) (ty := .int) (L := 14) (n0 := 3) (shp' := sh_30) (D' := D_10) hG.1 rfl rfl rfl (by decide) aw_int rfl rfl (fun _ _ h => h) (at_z1) (by decide) rfl (by decide) (by decide) (by decide) dX6_init_73 rfl rfl (kc' := 12) (ks' := 291) rfl rfl e_D_10 ?_
  refine aw_putR (M := M_X6_init) (n := 78) (j := 16) (k := 2) (r := 14) (shp' := sh_31) hG.1 fl_RX6_44 ⟨rfl, fun _ => ⟨rfl, rfl⟩⟩ ⟨_, _, rfl⟩ rfl (fs := [some (some 3), some (some 7), none, none, none, none, none, none, none, none, some (some 8), some (some 9), some (some 10), some (some 11), some (some 12), some (some 13), some none]) (rfl : sh_30[2]? = _) (by decide) rfl dX6_init_75 rfl ?_
  refine aw_iconst (n := 79) (v := 0) dX6_init_78 rfl (by decide) ?_
  refine aw_istore_n (n := 80) (i := 1) (al' := [some (.ref 2), some (.int 0)]) dX6_init_79 rfl rfl rfl (by decide) rfl ?_
  refine aw_iload_n (n := 81) (i := 1) dX6_init_80 rfl rfl rfl ?_
  refine aw_bipush (n := 83) (v := 6) dX6_init_81 rfl (by decide) ?_
  refine aw_icmp_ge (n := 86) (tgt := 105) dX6_init_83 rfl (by decide) (fun c => absurd c (by decide)) (fun c => ?_)
  refine aw_aload_n (n := 87) (i := 0) dX6_init_86 rfl rfl rfl ?_
  refine aw_getR (n := 90) (j := 1) (k := 2) (r := 7) hG.1 fl_RX6_20 (rfl : sh_31[2]? = _) rfl dX6_init_87 rfl ?_
  refine aw_iload_n (n := 91) (i := 1) dX6_init_90 rfl rfl rfl ?_
  obtain ⟨D_11, e_D_11, h⟩ := Ok.let_ h
  refine aw_new (M := M_X6_init) (n := 94) (ci := 8) (N := 7) (C := RX8) (T := TX8) (L := 15) (n0 := 3) (shp' := sh_32) (D' := D_11) tyX8 hG.1 rfl rfl rfl (by decide) rfl aU_X8 tyX8_ok (by decide) (by unfold aNF; decide) kw_RX6_18.1 kw_RX6_18.2.1 kw_RX6_18.2.2 (by decide) (by decide) dX6_init_91 rfl rfl (kc' := 13) (ks' := 298) rfl rfl e_D_11 ?_
  refine aw_dup (n := 95) dX6_init_94 rfl rfl ?_
  refine aw_initN (M := M_X6_init) (n := 98) (L := 16) (n0 := 3) (As := []) (rest := [.ref 15, .int 0, .ref 7]) (kN_RX6_47 hN) rfl rfl (by rw [(rfl : sh_32 = sh_33)]; exact c_new_X8_15 hG hN (h := Ok.bind h)) rfl rfl rfl (by decide) (Nat.le_of_ble_eq_true rfl) (kn := 13) (kn2 := 298) rfl rfl (by decide) (by decide) dX6_init_95 rfl (fun D_12 h => ?_)
  refine aw_aastore (M := M_X6_init) (n := 99) (k := 7) (v := 15) (shp' := sh_35) hG.1 (by decide) rfl (ci := 8) rfl (rfl : sh_34[7]? = _) (rfl : sh_34[15]? = _) (aIn_in rfl) (by decide) rfl dX6_init_98 rfl ?_
  refine aw_iinc (n := 102) (y := 1) (al' := [some (.ref 2), some (.int 1)]) dX6_init_99 rfl rfl (by decide) (by decide) rfl ?_
  refine aw_goto (tgt := 80) dX6_init_102 (by decide) ?_
  refine aw_iload_n (n := 81) (i := 1) dX6_init_80 rfl rfl rfl ?_
  refine aw_bipush (n := 83) (v := 6) dX6_init_81 rfl (by decide) ?_
  refine aw_icmp_ge (n := 86) (tgt := 105) dX6_init_83 rfl (by decide) (fun c => absurd c (by decide)) (fun c => ?_)
  refine aw_aload_n (n := 87) (i := 0) dX6_init_86 rfl rfl rfl ?_
  refine aw_getR (n := 90) (j := 1) (k := 2) (r := 7) hG.1 fl_RX6_20 (rfl : sh_35[2]? = _) rfl dX6_init_87 rfl ?_
  refine aw_iload_n (n := 91) (i := 1) dX6_init_90 rfl rfl rfl ?_
  obtain ⟨D_13, e_D_13, h⟩ := Ok.let_ h
  refine aw_new (M := M_X6_init) (n := 94) (ci := 8) (N := 7) (C := RX8) (T := TX8) (L := 16) (n0 := 3) (shp' := sh_36) (D' := D_13) tyX8 hG.1 rfl rfl rfl (by decide) rfl aU_X8 tyX8_ok (by decide) (by unfold aNF; decide) kw_RX6_18.1 kw_RX6_18.2.1 kw_RX6_18.2.2 (by decide) (by decide) dX6_init_91 rfl rfl (kc' := 14) (ks' := 305) rfl rfl e_D_13 ?_
  refine aw_dup (n := 95) dX6_init_94 rfl rfl ?_
  refine aw_initN (M := M_X6_init) (n := 98) (L := 17) (n0 := 3) (As := []) (rest := [.ref 16, .int 1, .ref 7]) (kN_RX6_47 hN) rfl rfl (by rw [(rfl : sh_36 = sh_37)]; exact c_new_X8_16 hG hN (h := Ok.bind h)) rfl rfl rfl (by decide) (Nat.le_of_ble_eq_true rfl) (kn := 14) (kn2 := 305) rfl rfl (by decide) (by decide) dX6_init_95 rfl (fun D_14 h => ?_)
  refine aw_aastore (M := M_X6_init) (n := 99) (k := 7) (v := 16) (shp' := sh_39) hG.1 (by decide) rfl (ci := 8) rfl (rfl : sh_38[7]? = _) (rfl : sh_38[16]? = _) (aIn_in rfl) (by decide) rfl dX6_init_98 rfl ?_
  refine aw_iinc (n := 102) (y := 2) (al' := [some (.ref 2), some (.int 2)]) dX6_init_99 rfl rfl (by decide) (by decide) rfl ?_
  refine aw_goto (tgt := 80) dX6_init_102 (by decide) ?_
  refine aw_iload_n (n := 81) (i := 1) dX6_init_80 rfl rfl rfl ?_
  refine aw_bipush (n := 83) (v := 6) dX6_init_81 rfl (by decide) ?_
  refine aw_icmp_ge (n := 86) (tgt := 105) dX6_init_83 rfl (by decide) (fun c => absurd c (by decide)) (fun c => ?_)
  refine aw_aload_n (n := 87) (i := 0) dX6_init_86 rfl rfl rfl ?_
  refine aw_getR (n := 90) (j := 1) (k := 2) (r := 7) hG.1 fl_RX6_20 (rfl : sh_39[2]? = _) rfl dX6_init_87 rfl ?_
  refine aw_iload_n (n := 91) (i := 1) dX6_init_90 rfl rfl rfl ?_
  obtain ⟨D_15, e_D_15, h⟩ := Ok.let_ h
  refine aw_new (M := M_X6_init) (n := 94) (ci := 8) (N := 7) (C := RX8) (T := TX8) (L := 17) (n0 := 3) (shp' := sh_40) (D' := D_15) tyX8 hG.1 rfl rfl rfl (by decide) rfl aU_X8 tyX8_ok (by decide) (by unfold aNF; decide) kw_RX6_18.1 kw_RX6_18.2.1 kw_RX6_18.2.2 (by decide) (by decide) dX6_init_91 rfl rfl (kc' := 15) (ks' := 312) rfl rfl e_D_15 ?_
  refine aw_dup (n := 95) dX6_init_94 rfl rfl ?_
  refine aw_initN (M := M_X6_init) (n := 98) (L := 18) (n0 := 3) (As := []) (rest := [.ref 17, .int 2, .ref 7]) (kN_RX6_47 hN) rfl rfl (by rw [(rfl : sh_40 = sh_41)]; exact c_new_X8_17 hG hN (h := Ok.bind h)) rfl rfl rfl (by decide) (Nat.le_of_ble_eq_true rfl) (kn := 15) (kn2 := 312) rfl rfl (by decide) (by decide) dX6_init_95 rfl (fun D_16 h => ?_)
  refine aw_aastore (M := M_X6_init) (n := 99) (k := 7) (v := 17) (shp' := sh_43) hG.1 (by decide) rfl (ci := 8) rfl (rfl : sh_42[7]? = _) (rfl : sh_42[17]? = _) (aIn_in rfl) (by decide) rfl dX6_init_98 rfl ?_
  refine aw_iinc (n := 102) (y := 3) (al' := [some (.ref 2), some (.int 3)]) dX6_init_99 rfl rfl (by decide) (by decide) rfl ?_
  refine aw_goto (tgt := 80) dX6_init_102 (by decide) ?_
  refine aw_iload_n (n := 81) (i := 1) dX6_init_80 rfl rfl rfl ?_
  refine aw_bipush (n := 83) (v := 6) dX6_init_81 rfl (by decide) ?_
  refine aw_icmp_ge (n := 86) (tgt := 105) dX6_init_83 rfl (by decide) (fun c => absurd c (by decide)) (fun c => ?_)
  refine aw_aload_n (n := 87) (i := 0) dX6_init_86 rfl rfl rfl ?_
  refine aw_getR (n := 90) (j := 1) (k := 2) (r := 7) hG.1 fl_RX6_20 (rfl : sh_43[2]? = _) rfl dX6_init_87 rfl ?_
  refine aw_iload_n (n := 91) (i := 1) dX6_init_90 rfl rfl rfl ?_
  obtain ⟨D_17, e_D_17, h⟩ := Ok.let_ h
  refine aw_new (M := M_X6_init) (n := 94) (ci := 8) (N := 7) (C := RX8) (T := TX8) (L := 18) (n0 := 3) (shp' := sh_44) (D' := D_17) tyX8 hG.1 rfl rfl rfl (by decide) rfl aU_X8 tyX8_ok (by decide) (by unfold aNF; decide) kw_RX6_18.1 kw_RX6_18.2.1 kw_RX6_18.2.2 (by decide) (by decide) dX6_init_91 rfl rfl (kc' := 16) (ks' := 319) rfl rfl e_D_17 ?_
  refine aw_dup (n := 95) dX6_init_94 rfl rfl ?_
  refine aw_initN (M := M_X6_init) (n := 98) (L := 19) (n0 := 3) (As := []) (rest := [.ref 18, .int 3, .ref 7]) (kN_RX6_47 hN) rfl rfl (by rw [(rfl : sh_44 = sh_45)]; exact c_new_X8_18 hG hN (h := Ok.bind h)) rfl rfl rfl (by decide) (Nat.le_of_ble_eq_true rfl) (kn := 16) (kn2 := 319) rfl rfl (by decide) (by decide) dX6_init_95 rfl (fun D_18 h => ?_)
  refine aw_aastore (M := M_X6_init) (n := 99) (k := 7) (v := 18) (shp' := sh_47) hG.1 (by decide) rfl (ci := 8) rfl (rfl : sh_46[7]? = _) (rfl : sh_46[18]? = _) (aIn_in rfl) (by decide) rfl dX6_init_98 rfl ?_
  refine aw_iinc (n := 102) (y := 4) (al' := [some (.ref 2), some (.int 4)]) dX6_init_99 rfl rfl (by decide) (by decide) rfl ?_
  refine aw_goto (tgt := 80) dX6_init_102 (by decide) ?_
  refine aw_iload_n (n := 81) (i := 1) dX6_init_80 rfl rfl rfl ?_
  refine aw_bipush (n := 83) (v := 6) dX6_init_81 rfl (by decide) ?_
  refine aw_icmp_ge (n := 86) (tgt := 105) dX6_init_83 rfl (by decide) (fun c => absurd c (by decide)) (fun c => ?_)
  refine aw_aload_n (n := 87) (i := 0) dX6_init_86 rfl rfl rfl ?_
  refine aw_getR (n := 90) (j := 1) (k := 2) (r := 7) hG.1 fl_RX6_20 (rfl : sh_47[2]? = _) rfl dX6_init_87 rfl ?_
  refine aw_iload_n (n := 91) (i := 1) dX6_init_90 rfl rfl rfl ?_
  obtain ⟨D_19, e_D_19, h⟩ := Ok.let_ h
  refine aw_new (M := M_X6_init) (n := 94) (ci := 8) (N := 7) (C := RX8) (T := TX8) (L := 19) (n0 := 3) (shp' := sh_48) (D' := D_19) tyX8 hG.1 rfl rfl rfl (by decide) rfl aU_X8 tyX8_ok (by decide) (by unfold aNF; decide) kw_RX6_18.1 kw_RX6_18.2.1 kw_RX6_18.2.2 (by decide) (by decide) dX6_init_91 rfl rfl (kc' := 17) (ks' := 326) rfl rfl e_D_19 ?_
  refine aw_dup (n := 95) dX6_init_94 rfl rfl ?_
  refine aw_initN (M := M_X6_init) (n := 98) (L := 20) (n0 := 3) (As := []) (rest := [.ref 19, .int 4, .ref 7]) (kN_RX6_47 hN) rfl rfl (by rw [(rfl : sh_48 = sh_49)]; exact c_new_X8_19 hG hN (h := Ok.bind h)) rfl rfl rfl (by decide) (Nat.le_of_ble_eq_true rfl) (kn := 17) (kn2 := 326) rfl rfl (by decide) (by decide) dX6_init_95 rfl (fun D_20 h => ?_)
  refine aw_aastore (M := M_X6_init) (n := 99) (k := 7) (v := 19) (shp' := sh_51) hG.1 (by decide) rfl (ci := 8) rfl (rfl : sh_50[7]? = _) (rfl : sh_50[19]? = _) (aIn_in rfl) (by decide) rfl dX6_init_98 rfl ?_
  refine aw_iinc (n := 102) (y := 5) (al' := [some (.ref 2), some (.int 5)]) dX6_init_99 rfl rfl (by decide) (by decide) rfl ?_
  refine aw_goto (tgt := 80) dX6_init_102 (by decide) ?_
  refine aw_iload_n (n := 81) (i := 1) dX6_init_80 rfl rfl rfl ?_
  refine aw_bipush (n := 83) (v := 6) dX6_init_81 rfl (by decide) ?_
  refine aw_icmp_ge (n := 86) (tgt := 105) dX6_init_83 rfl (by decide) (fun c => absurd c (by decide)) (fun c => ?_)
  refine aw_aload_n (n := 87) (i := 0) dX6_init_86 rfl rfl rfl ?_
  refine aw_getR (n := 90) (j := 1) (k := 2) (r := 7) hG.1 fl_RX6_20 (rfl : sh_51[2]? = _) rfl dX6_init_87 rfl ?_
  refine aw_iload_n (n := 91) (i := 1) dX6_init_90 rfl rfl rfl ?_
  obtain ⟨D_21, e_D_21, h⟩ := Ok.let_ h
  refine aw_new (M := M_X6_init) (n := 94) (ci := 8) (N := 7) (C := RX8) (T := TX8) (L := 20) (n0 := 3) (shp' := sh_52) (D' := D_21) tyX8 hG.1 rfl rfl rfl (by decide) rfl aU_X8 tyX8_ok (by decide) (by unfold aNF; decide) kw_RX6_18.1 kw_RX6_18.2.1 kw_RX6_18.2.2 (by decide) (by decide) dX6_init_91 rfl rfl (kc' := 18) (ks' := 333) rfl rfl e_D_21 ?_
  refine aw_dup (n := 95) dX6_init_94 rfl rfl ?_
  refine aw_initN (M := M_X6_init) (n := 98) (L := 21) (n0 := 3) (As := []) (rest := [.ref 20, .int 5, .ref 7]) (kN_RX6_47 hN) rfl rfl (by rw [(rfl : sh_52 = sh_53)]; exact c_new_X8_20 hG hN (h := Ok.bind h)) rfl rfl rfl (by decide) (Nat.le_of_ble_eq_true rfl) (kn := 18) (kn2 := 333) rfl rfl (by decide) (by decide) dX6_init_95 rfl (fun D_22 h => ?_)
  refine aw_aastore (M := M_X6_init) (n := 99) (k := 7) (v := 20) (shp' := sh_55) hG.1 (by decide) rfl (ci := 8) rfl (rfl : sh_54[7]? = _) (rfl : sh_54[20]? = _) (aIn_in rfl) (by decide) rfl dX6_init_98 rfl ?_
  refine aw_iinc (n := 102) (y := 6) (al' := [some (.ref 2), some (.int 6)]) dX6_init_99 rfl rfl (by decide) (by decide) rfl ?_
  refine aw_goto (tgt := 80) dX6_init_102 (by decide) ?_
  refine aw_iload_n (n := 81) (i := 1) dX6_init_80 rfl rfl rfl ?_
  refine aw_bipush (n := 83) (v := 6) dX6_init_81 rfl (by decide) ?_
  refine aw_icmp_ge (n := 86) (tgt := 105) dX6_init_83 rfl (by decide) (fun c => ?_) (fun c => absurd (by decide) c)
  refine aw_aload_n (n := 106) (i := 0) dX6_init_105 rfl rfl rfl ?_
  refine aw_cVv (M := M_X6_init) (n := 109) (As := []) (rest := []) hG.1 lk_RX6_48 rfl rfl (rfl : sh_55[2]? = _) (c_X6_clear_2 hG (h := Ok.bind h) (rfl : sh_55[2]? = _) (rfl : sh_55[3]? = _) (rfl : sh_55[4]? = _) (rfl : sh_55[5]? = _) (rfl : sh_55[6]? = _) (rfl : sh_55[12]? = _) (rfl : sh_55[13]? = _) (rfl : sh_55[14]? = _)) (by decide) (Nat.le_of_ble_eq_true rfl) (by decide) (by decide) dX6_init_106 rfl (fun D_23 h => ?_)
  exact aw_vret rfl (by decide) (by decide) dX6_init_109 ⟨rfl, (rfl : sh_55 = sh_56), (Ok.dn h :)⟩
theorem ki_RX11_19 : aLkI RX11 19 6 M_X6_init ∧ aNp M_X6_init = some 0 := ⟨⟨aU_1 36 rfl rfl, aU_1 37 rfl rfl, aU_1 2 rfl rfl, aU_1 38 rfl rfl, rfl, rfl, ⟨by decide +kernel, by decide +kernel⟩⟩, by decide +kernel⟩
def sh_57 : List aSh := sh_56.set 0 (.inr (11, [some (some 1), none, none, some (some 2), some none, some none, some none, none, some none, some none, some none, some none, some none, some none]))
def sh_58 : List aSh := sh_57 ++ [.inr (6, [some none, some none, none, none, none, none, none, none, none, none, some none, some none, some none, some none, some none, some none, some none])]
def sh_59 : List aSh := [.inr (11, [some (some 1), none, none, some (some 2), some none, some none, some none, none, some none, some none, some none, some none, some none, some none]), .inl (0, 700, []), .inr (6, [some (some 3), some (some 7), none, none, none, none, none, none, none, none, some (some 8), some (some 9), some (some 10), some (some 11), some (some 12), some (some 13), some (some 14)]), .inr (4, [none, none, some (some 4), some (some 5), some (some 6)]), .inl (1, 64, []), .inl (1, 64, []), .inl (3, 64, []), .inl (4, 6, [some 15, some 16, some 17, some 18, some 19, some 20]), .inl (1, 12, []), .inl (1, 12, []), .inl (1, 12, []), .inl (1, 5, []), .inl (1, 36, []), .inl (3, 6, []), .inl (1, 5, []), .inr (8, [none, none, none, none, none, none, none]), .inr (8, [none, none, none, none, none, none, none]), .inr (8, [none, none, none, none, none, none, none]), .inr (8, [none, none, none, none, none, none, none]), .inr (8, [none, none, none, none, none, none, none]), .inr (8, [none, none, none, none, none, none, none]), .inr (6, [some none, some none, none, none, none, none, none, none, none, none, some none, some none, some none, some none, some none, some none, some none])]
def sh_60 : List aSh := sh_59 ++ [.inr (4, [none, none, some none, some none, some none])]
def sh_61 : List aSh := [.inr (11, [some (some 1), none, none, some (some 2), some none, some none, some none, none, some none, some none, some none, some none, some none, some none]), .inl (0, 700, []), .inr (6, [some (some 3), some (some 7), none, none, none, none, none, none, none, none, some (some 8), some (some 9), some (some 10), some (some 11), some (some 12), some (some 13), some (some 14)]), .inr (4, [none, none, some (some 4), some (some 5), some (some 6)]), .inl (1, 64, []), .inl (1, 64, []), .inl (3, 64, []), .inl (4, 6, [some 15, some 16, some 17, some 18, some 19, some 20]), .inl (1, 12, []), .inl (1, 12, []), .inl (1, 12, []), .inl (1, 5, []), .inl (1, 36, []), .inl (3, 6, []), .inl (1, 5, []), .inr (8, [none, none, none, none, none, none, none]), .inr (8, [none, none, none, none, none, none, none]), .inr (8, [none, none, none, none, none, none, none]), .inr (8, [none, none, none, none, none, none, none]), .inr (8, [none, none, none, none, none, none, none]), .inr (8, [none, none, none, none, none, none, none]), .inr (6, [some none, some none, none, none, none, none, none, none, none, none, some none, some none, some none, some none, some none, some none, some none]), .inr (4, [none, none, some none, some none, some none])]
def sh_62 : List aSh := sh_61 ++ [.inl (1, 64, [])]
def sh_63 : List aSh := sh_62.set 22 (.inr (4, [none, none, some (some 23), some none, some none]))
def sh_64 : List aSh := sh_63 ++ [.inl (1, 64, [])]
def sh_65 : List aSh := sh_64.set 22 (.inr (4, [none, none, some (some 23), some (some 24), some none]))
def sh_66 : List aSh := sh_65 ++ [.inl (3, 64, [])]
def sh_67 : List aSh := sh_66.set 22 (.inr (4, [none, none, some (some 23), some (some 24), some (some 25)]))
def sh_68 : List aSh := [.inr (11, [some (some 1), none, none, some (some 2), some none, some none, some none, none, some none, some none, some none, some none, some none, some none]), .inl (0, 700, []), .inr (6, [some (some 3), some (some 7), none, none, none, none, none, none, none, none, some (some 8), some (some 9), some (some 10), some (some 11), some (some 12), some (some 13), some (some 14)]), .inr (4, [none, none, some (some 4), some (some 5), some (some 6)]), .inl (1, 64, []), .inl (1, 64, []), .inl (3, 64, []), .inl (4, 6, [some 15, some 16, some 17, some 18, some 19, some 20]), .inl (1, 12, []), .inl (1, 12, []), .inl (1, 12, []), .inl (1, 5, []), .inl (1, 36, []), .inl (3, 6, []), .inl (1, 5, []), .inr (8, [none, none, none, none, none, none, none]), .inr (8, [none, none, none, none, none, none, none]), .inr (8, [none, none, none, none, none, none, none]), .inr (8, [none, none, none, none, none, none, none]), .inr (8, [none, none, none, none, none, none, none]), .inr (8, [none, none, none, none, none, none, none]), .inr (6, [some none, some none, none, none, none, none, none, none, none, none, some none, some none, some none, some none, some none, some none, some none]), .inr (4, [none, none, some (some 23), some (some 24), some (some 25)]), .inl (1, 64, []), .inl (1, 64, []), .inl (3, 64, [])]
def f_new_X4_22 (D : aD) : Option aD :=
  aLet (z0 D 23) (fun D_1 => aLet (z0 D_1 24) (fun D_2 => aLet (z0 D_2 25) (fun D_3 => some D_3)))
set_option maxRecDepth 100000 in
set_option maxHeartbeats 4000000 in
theorem c_new_X4_22 {G : aG} (hG : gOK G) (hN : gNest G) {D : aD} {K : aD → Prop} (h : Ok (f_new_X4_22 D) K) : AC G (aRm 2 3 192) M_X4_init [.ref 22] (some 23) sh_61 D (aQv sh_68 K) := by
  unfold f_new_X4_22 at h
  refine AC.of (al := [some (.ref 22)]) (r := 0) (by decide) (Nat.le_of_ble_eq_true rfl) rfl ?_
  refine aw_aload_n (n := 1) (i := 0) dX4_init_0 rfl rfl rfl ?_
  refine aw_objInit (M := M_X4_init) (n := 4) ko_RX4_3.1 ko_RX4_3.2.1 ko_RX4_3.2.2 (by decide) (by decide) dX4_init_1 rfl ?_
  refine aw_aload_n (n := 5) (i := 0) dX4_init_4 rfl rfl rfl ?_
  refine aw_bipush (n := 7) (v := 64) dX4_init_5 rfl (by decide) ?_
  obtain ⟨D_1, e_D_1, h⟩ := Ok.let_ h
  refine aw_newa (M := M_X4_init) (n := 9) (t := 1) (N := 64) (ty := .int) (L := 23) (n0 := 23) (shp' := sh_62) (D' := D_1) hG.1 rfl rfl rfl (by decide) aw_int rfl rfl (fun _ _ h => h) (at_z1) (by decide) rfl (by decide) (by decide) (by decide) dX4_init_7 rfl rfl (kc' := 1) (ks' := 64) rfl rfl e_D_1 ?_
  refine aw_putR (M := M_X4_init) (n := 12) (j := 2) (k := 22) (r := 23) (shp' := sh_63) hG.1 fl_RX4_9 ⟨rfl, fun _ => ⟨rfl, rfl⟩⟩ ⟨_, _, rfl⟩ rfl (fs := [none, none, some none, some none, some none]) (rfl : sh_62[22]? = _) (by decide) rfl dX4_init_9 rfl ?_
  refine aw_aload_n (n := 13) (i := 0) dX4_init_12 rfl rfl rfl ?_
  refine aw_bipush (n := 15) (v := 64) dX4_init_13 rfl (by decide) ?_
  obtain ⟨D_2, e_D_2, h⟩ := Ok.let_ h
  refine aw_newa (M := M_X4_init) (n := 17) (t := 1) (N := 64) (ty := .int) (L := 24) (n0 := 23) (shp' := sh_64) (D' := D_2) hG.1 rfl rfl rfl (by decide) aw_int rfl rfl (fun _ _ h => h) (at_z1) (by decide) rfl (by decide) (by decide) (by decide) dX4_init_15 rfl rfl (kc' := 2) (ks' := 128) rfl rfl e_D_2 ?_
  refine aw_putR (M := M_X4_init) (n := 20) (j := 3) (k := 22) (r := 24) (shp' := sh_65) hG.1 fl_RX4_15 ⟨rfl, fun _ => ⟨rfl, rfl⟩⟩ ⟨_, _, rfl⟩ rfl (fs := [none, none, some (some 23), some none, some none]) (rfl : sh_64[22]? = _) (by decide) rfl dX4_init_17 rfl ?_
  refine aw_aload_n (n := 21) (i := 0) dX4_init_20 rfl rfl rfl ?_
  refine aw_bipush (n := 23) (v := 64) dX4_init_21 rfl (by decide) ?_
  obtain ⟨D_3, e_D_3, h⟩ := Ok.let_ h
  refine aw_newa (M := M_X4_init) (n := 25) (t := 3) (N := 64) (ty := .boolean) (L := 25) (n0 := 23) (shp' := sh_66) (D' := D_3) hG.1 rfl rfl rfl (by decide) aw_boolean rfl rfl (fun _ _ h => h) (at_z3) (by decide) rfl (by decide) (by decide) (by decide) dX4_init_23 rfl rfl (kc' := 3) (ks' := 192) rfl rfl e_D_3 ?_
  refine aw_putR (M := M_X4_init) (n := 28) (j := 4) (k := 22) (r := 25) (shp' := sh_67) hG.1 fl_RX4_18 ⟨rfl, fun _ => ⟨rfl, rfl⟩⟩ ⟨_, _, rfl⟩ rfl (fs := [none, none, some (some 23), some (some 24), some none]) (rfl : sh_66[22]? = _) (by decide) rfl dX4_init_25 rfl ?_
  exact aw_vret rfl (by decide) (by decide) dX4_init_28 ⟨rfl, (rfl : sh_67 = sh_68), (Ok.dn h :)⟩
def sh_69 : List aSh := sh_68.set 21 (.inr (6, [some (some 22), some none, none, none, none, none, none, none, none, none, some none, some none, some none, some none, some none, some none, some none]))
def sh_70 : List aSh := sh_69 ++ [.inl (4, 6, [none, none, none, none, none, none])]
def sh_71 : List aSh := sh_70.set 21 (.inr (6, [some (some 22), some (some 26), none, none, none, none, none, none, none, none, some none, some none, some none, some none, some none, some none, some none]))
def sh_72 : List aSh := sh_71 ++ [.inl (1, 12, [])]
def sh_73 : List aSh := sh_72.set 21 (.inr (6, [some (some 22), some (some 26), none, none, none, none, none, none, none, none, some (some 27), some none, some none, some none, some none, some none, some none]))
def sh_74 : List aSh := sh_73 ++ [.inl (1, 12, [])]
def sh_75 : List aSh := sh_74.set 21 (.inr (6, [some (some 22), some (some 26), none, none, none, none, none, none, none, none, some (some 27), some (some 28), some none, some none, some none, some none, some none]))
def sh_76 : List aSh := sh_75 ++ [.inl (1, 12, [])]
def sh_77 : List aSh := sh_76.set 21 (.inr (6, [some (some 22), some (some 26), none, none, none, none, none, none, none, none, some (some 27), some (some 28), some (some 29), some none, some none, some none, some none]))
def sh_78 : List aSh := sh_77 ++ [.inl (1, 5, [])]
def sh_79 : List aSh := sh_78.set 21 (.inr (6, [some (some 22), some (some 26), none, none, none, none, none, none, none, none, some (some 27), some (some 28), some (some 29), some (some 30), some none, some none, some none]))
def sh_80 : List aSh := sh_79 ++ [.inl (1, 36, [])]
def sh_81 : List aSh := sh_80.set 21 (.inr (6, [some (some 22), some (some 26), none, none, none, none, none, none, none, none, some (some 27), some (some 28), some (some 29), some (some 30), some (some 31), some none, some none]))
def sh_82 : List aSh := sh_81 ++ [.inl (3, 6, [])]
def sh_83 : List aSh := sh_82.set 21 (.inr (6, [some (some 22), some (some 26), none, none, none, none, none, none, none, none, some (some 27), some (some 28), some (some 29), some (some 30), some (some 31), some (some 32), some none]))
def sh_84 : List aSh := sh_83 ++ [.inl (1, 5, [])]
def sh_85 : List aSh := sh_84.set 21 (.inr (6, [some (some 22), some (some 26), none, none, none, none, none, none, none, none, some (some 27), some (some 28), some (some 29), some (some 30), some (some 31), some (some 32), some (some 33)]))
def sh_86 : List aSh := sh_85 ++ [.inr (8, [none, none, none, none, none, none, none])]
def sh_87 : List aSh := [.inr (11, [some (some 1), none, none, some (some 2), some none, some none, some none, none, some none, some none, some none, some none, some none, some none]), .inl (0, 700, []), .inr (6, [some (some 3), some (some 7), none, none, none, none, none, none, none, none, some (some 8), some (some 9), some (some 10), some (some 11), some (some 12), some (some 13), some (some 14)]), .inr (4, [none, none, some (some 4), some (some 5), some (some 6)]), .inl (1, 64, []), .inl (1, 64, []), .inl (3, 64, []), .inl (4, 6, [some 15, some 16, some 17, some 18, some 19, some 20]), .inl (1, 12, []), .inl (1, 12, []), .inl (1, 12, []), .inl (1, 5, []), .inl (1, 36, []), .inl (3, 6, []), .inl (1, 5, []), .inr (8, [none, none, none, none, none, none, none]), .inr (8, [none, none, none, none, none, none, none]), .inr (8, [none, none, none, none, none, none, none]), .inr (8, [none, none, none, none, none, none, none]), .inr (8, [none, none, none, none, none, none, none]), .inr (8, [none, none, none, none, none, none, none]), .inr (6, [some (some 22), some (some 26), none, none, none, none, none, none, none, none, some (some 27), some (some 28), some (some 29), some (some 30), some (some 31), some (some 32), some (some 33)]), .inr (4, [none, none, some (some 23), some (some 24), some (some 25)]), .inl (1, 64, []), .inl (1, 64, []), .inl (3, 64, []), .inl (4, 6, [none, none, none, none, none, none]), .inl (1, 12, []), .inl (1, 12, []), .inl (1, 12, []), .inl (1, 5, []), .inl (1, 36, []), .inl (3, 6, []), .inl (1, 5, []), .inr (8, [none, none, none, none, none, none, none])]
def sh_88 : List aSh := [.inr (11, [some (some 1), none, none, some (some 2), some none, some none, some none, none, some none, some none, some none, some none, some none, some none]), .inl (0, 700, []), .inr (6, [some (some 3), some (some 7), none, none, none, none, none, none, none, none, some (some 8), some (some 9), some (some 10), some (some 11), some (some 12), some (some 13), some (some 14)]), .inr (4, [none, none, some (some 4), some (some 5), some (some 6)]), .inl (1, 64, []), .inl (1, 64, []), .inl (3, 64, []), .inl (4, 6, [some 15, some 16, some 17, some 18, some 19, some 20]), .inl (1, 12, []), .inl (1, 12, []), .inl (1, 12, []), .inl (1, 5, []), .inl (1, 36, []), .inl (3, 6, []), .inl (1, 5, []), .inr (8, [none, none, none, none, none, none, none]), .inr (8, [none, none, none, none, none, none, none]), .inr (8, [none, none, none, none, none, none, none]), .inr (8, [none, none, none, none, none, none, none]), .inr (8, [none, none, none, none, none, none, none]), .inr (8, [none, none, none, none, none, none, none]), .inr (6, [some (some 22), some (some 26), none, none, none, none, none, none, none, none, some (some 27), some (some 28), some (some 29), some (some 30), some (some 31), some (some 32), some (some 33)]), .inr (4, [none, none, some (some 23), some (some 24), some (some 25)]), .inl (1, 64, []), .inl (1, 64, []), .inl (3, 64, []), .inl (4, 6, [none, none, none, none, none, none]), .inl (1, 12, []), .inl (1, 12, []), .inl (1, 12, []), .inl (1, 5, []), .inl (1, 36, []), .inl (3, 6, []), .inl (1, 5, []), .inr (8, [none, none, none, none, none, none, none])]
def f_new_X8_34 (D : aD) : Option aD :=
  some D
set_option maxRecDepth 100000 in
set_option maxHeartbeats 4000000 in
theorem c_new_X8_34 {G : aG} (hG : gOK G) (hN : gNest G) {D : aD} {K : aD → Prop} (h : Ok (f_new_X8_34 D) K) : AC G (aRm 2 0 0) M_X8_init [.ref 34] (some 35) sh_87 D (aQv sh_88 K) := by
  unfold f_new_X8_34 at h
  refine AC.of (al := [some (.ref 34)]) (r := 0) (by decide) (Nat.le_of_ble_eq_true rfl) rfl ?_
  refine aw_aload_n (n := 1) (i := 0) dX8_init_0 rfl rfl rfl ?_
  refine aw_objInit (M := M_X8_init) (n := 4) ko_RX8_1.1 ko_RX8_1.2.1 ko_RX8_1.2.2 (by decide) (by decide) dX8_init_1 rfl ?_
  exact aw_vret rfl (by decide) (by decide) dX8_init_4 ⟨rfl, (rfl : sh_87 = sh_88), (Ok.dn h :)⟩
def sh_89 : List aSh := sh_88.set 26 (.inl (4, 6, [some 34, none, none, none, none, none]))
def sh_90 : List aSh := sh_89 ++ [.inr (8, [none, none, none, none, none, none, none])]
def sh_91 : List aSh := [.inr (11, [some (some 1), none, none, some (some 2), some none, some none, some none, none, some none, some none, some none, some none, some none, some none]), .inl (0, 700, []), .inr (6, [some (some 3), some (some 7), none, none, none, none, none, none, none, none, some (some 8), some (some 9), some (some 10), some (some 11), some (some 12), some (some 13), some (some 14)]), .inr (4, [none, none, some (some 4), some (some 5), some (some 6)]), .inl (1, 64, []), .inl (1, 64, []), .inl (3, 64, []), .inl (4, 6, [some 15, some 16, some 17, some 18, some 19, some 20]), .inl (1, 12, []), .inl (1, 12, []), .inl (1, 12, []), .inl (1, 5, []), .inl (1, 36, []), .inl (3, 6, []), .inl (1, 5, []), .inr (8, [none, none, none, none, none, none, none]), .inr (8, [none, none, none, none, none, none, none]), .inr (8, [none, none, none, none, none, none, none]), .inr (8, [none, none, none, none, none, none, none]), .inr (8, [none, none, none, none, none, none, none]), .inr (8, [none, none, none, none, none, none, none]), .inr (6, [some (some 22), some (some 26), none, none, none, none, none, none, none, none, some (some 27), some (some 28), some (some 29), some (some 30), some (some 31), some (some 32), some (some 33)]), .inr (4, [none, none, some (some 23), some (some 24), some (some 25)]), .inl (1, 64, []), .inl (1, 64, []), .inl (3, 64, []), .inl (4, 6, [some 34, none, none, none, none, none]), .inl (1, 12, []), .inl (1, 12, []), .inl (1, 12, []), .inl (1, 5, []), .inl (1, 36, []), .inl (3, 6, []), .inl (1, 5, []), .inr (8, [none, none, none, none, none, none, none]), .inr (8, [none, none, none, none, none, none, none])]
def sh_92 : List aSh := [.inr (11, [some (some 1), none, none, some (some 2), some none, some none, some none, none, some none, some none, some none, some none, some none, some none]), .inl (0, 700, []), .inr (6, [some (some 3), some (some 7), none, none, none, none, none, none, none, none, some (some 8), some (some 9), some (some 10), some (some 11), some (some 12), some (some 13), some (some 14)]), .inr (4, [none, none, some (some 4), some (some 5), some (some 6)]), .inl (1, 64, []), .inl (1, 64, []), .inl (3, 64, []), .inl (4, 6, [some 15, some 16, some 17, some 18, some 19, some 20]), .inl (1, 12, []), .inl (1, 12, []), .inl (1, 12, []), .inl (1, 5, []), .inl (1, 36, []), .inl (3, 6, []), .inl (1, 5, []), .inr (8, [none, none, none, none, none, none, none]), .inr (8, [none, none, none, none, none, none, none]), .inr (8, [none, none, none, none, none, none, none]), .inr (8, [none, none, none, none, none, none, none]), .inr (8, [none, none, none, none, none, none, none]), .inr (8, [none, none, none, none, none, none, none]), .inr (6, [some (some 22), some (some 26), none, none, none, none, none, none, none, none, some (some 27), some (some 28), some (some 29), some (some 30), some (some 31), some (some 32), some (some 33)]), .inr (4, [none, none, some (some 23), some (some 24), some (some 25)]), .inl (1, 64, []), .inl (1, 64, []), .inl (3, 64, []), .inl (4, 6, [some 34, none, none, none, none, none]), .inl (1, 12, []), .inl (1, 12, []), .inl (1, 12, []), .inl (1, 5, []), .inl (1, 36, []), .inl (3, 6, []), .inl (1, 5, []), .inr (8, [none, none, none, none, none, none, none]), .inr (8, [none, none, none, none, none, none, none])]
def f_new_X8_35 (D : aD) : Option aD :=
  some D
set_option maxRecDepth 100000 in
set_option maxHeartbeats 4000000 in
theorem c_new_X8_35 {G : aG} (hG : gOK G) (hN : gNest G) {D : aD} {K : aD → Prop} (h : Ok (f_new_X8_35 D) K) : AC G (aRm 2 0 0) M_X8_init [.ref 35] (some 36) sh_91 D (aQv sh_92 K) := by
  unfold f_new_X8_35 at h
  refine AC.of (al := [some (.ref 35)]) (r := 0) (by decide) (Nat.le_of_ble_eq_true rfl) rfl ?_
  refine aw_aload_n (n := 1) (i := 0) dX8_init_0 rfl rfl rfl ?_
  refine aw_objInit (M := M_X8_init) (n := 4) ko_RX8_1.1 ko_RX8_1.2.1 ko_RX8_1.2.2 (by decide) (by decide) dX8_init_1 rfl ?_
  exact aw_vret rfl (by decide) (by decide) dX8_init_4 ⟨rfl, (rfl : sh_91 = sh_92), (Ok.dn h :)⟩
def sh_93 : List aSh := sh_92.set 26 (.inl (4, 6, [some 34, some 35, none, none, none, none]))
def sh_94 : List aSh := sh_93 ++ [.inr (8, [none, none, none, none, none, none, none])]
def sh_95 : List aSh := [.inr (11, [some (some 1), none, none, some (some 2), some none, some none, some none, none, some none, some none, some none, some none, some none, some none]), .inl (0, 700, []), .inr (6, [some (some 3), some (some 7), none, none, none, none, none, none, none, none, some (some 8), some (some 9), some (some 10), some (some 11), some (some 12), some (some 13), some (some 14)]), .inr (4, [none, none, some (some 4), some (some 5), some (some 6)]), .inl (1, 64, []), .inl (1, 64, []), .inl (3, 64, []), .inl (4, 6, [some 15, some 16, some 17, some 18, some 19, some 20]), .inl (1, 12, []), .inl (1, 12, []), .inl (1, 12, []), .inl (1, 5, []), .inl (1, 36, []), .inl (3, 6, []), .inl (1, 5, []), .inr (8, [none, none, none, none, none, none, none]), .inr (8, [none, none, none, none, none, none, none]), .inr (8, [none, none, none, none, none, none, none]), .inr (8, [none, none, none, none, none, none, none]), .inr (8, [none, none, none, none, none, none, none]), .inr (8, [none, none, none, none, none, none, none]), .inr (6, [some (some 22), some (some 26), none, none, none, none, none, none, none, none, some (some 27), some (some 28), some (some 29), some (some 30), some (some 31), some (some 32), some (some 33)]), .inr (4, [none, none, some (some 23), some (some 24), some (some 25)]), .inl (1, 64, []), .inl (1, 64, []), .inl (3, 64, []), .inl (4, 6, [some 34, some 35, none, none, none, none]), .inl (1, 12, []), .inl (1, 12, []), .inl (1, 12, []), .inl (1, 5, []), .inl (1, 36, []), .inl (3, 6, []), .inl (1, 5, []), .inr (8, [none, none, none, none, none, none, none]), .inr (8, [none, none, none, none, none, none, none]), .inr (8, [none, none, none, none, none, none, none])]
def sh_96 : List aSh := [.inr (11, [some (some 1), none, none, some (some 2), some none, some none, some none, none, some none, some none, some none, some none, some none, some none]), .inl (0, 700, []), .inr (6, [some (some 3), some (some 7), none, none, none, none, none, none, none, none, some (some 8), some (some 9), some (some 10), some (some 11), some (some 12), some (some 13), some (some 14)]), .inr (4, [none, none, some (some 4), some (some 5), some (some 6)]), .inl (1, 64, []), .inl (1, 64, []), .inl (3, 64, []), .inl (4, 6, [some 15, some 16, some 17, some 18, some 19, some 20]), .inl (1, 12, []), .inl (1, 12, []), .inl (1, 12, []), .inl (1, 5, []), .inl (1, 36, []), .inl (3, 6, []), .inl (1, 5, []), .inr (8, [none, none, none, none, none, none, none]), .inr (8, [none, none, none, none, none, none, none]), .inr (8, [none, none, none, none, none, none, none]), .inr (8, [none, none, none, none, none, none, none]), .inr (8, [none, none, none, none, none, none, none]), .inr (8, [none, none, none, none, none, none, none]), .inr (6, [some (some 22), some (some 26), none, none, none, none, none, none, none, none, some (some 27), some (some 28), some (some 29), some (some 30), some (some 31), some (some 32), some (some 33)]), .inr (4, [none, none, some (some 23), some (some 24), some (some 25)]), .inl (1, 64, []), .inl (1, 64, []), .inl (3, 64, []), .inl (4, 6, [some 34, some 35, none, none, none, none]), .inl (1, 12, []), .inl (1, 12, []), .inl (1, 12, []), .inl (1, 5, []), .inl (1, 36, []), .inl (3, 6, []), .inl (1, 5, []), .inr (8, [none, none, none, none, none, none, none]), .inr (8, [none, none, none, none, none, none, none]), .inr (8, [none, none, none, none, none, none, none])]
def f_new_X8_36 (D : aD) : Option aD :=
  some D
set_option maxRecDepth 100000 in
set_option maxHeartbeats 4000000 in
theorem c_new_X8_36 {G : aG} (hG : gOK G) (hN : gNest G) {D : aD} {K : aD → Prop} (h : Ok (f_new_X8_36 D) K) : AC G (aRm 2 0 0) M_X8_init [.ref 36] (some 37) sh_95 D (aQv sh_96 K) := by
  unfold f_new_X8_36 at h
  refine AC.of (al := [some (.ref 36)]) (r := 0) (by decide) (Nat.le_of_ble_eq_true rfl) rfl ?_
  refine aw_aload_n (n := 1) (i := 0) dX8_init_0 rfl rfl rfl ?_
  refine aw_objInit (M := M_X8_init) (n := 4) ko_RX8_1.1 ko_RX8_1.2.1 ko_RX8_1.2.2 (by decide) (by decide) dX8_init_1 rfl ?_
  exact aw_vret rfl (by decide) (by decide) dX8_init_4 ⟨rfl, (rfl : sh_95 = sh_96), (Ok.dn h :)⟩
def sh_97 : List aSh := sh_96.set 26 (.inl (4, 6, [some 34, some 35, some 36, none, none, none]))
def sh_98 : List aSh := sh_97 ++ [.inr (8, [none, none, none, none, none, none, none])]
def sh_99 : List aSh := [.inr (11, [some (some 1), none, none, some (some 2), some none, some none, some none, none, some none, some none, some none, some none, some none, some none]), .inl (0, 700, []), .inr (6, [some (some 3), some (some 7), none, none, none, none, none, none, none, none, some (some 8), some (some 9), some (some 10), some (some 11), some (some 12), some (some 13), some (some 14)]), .inr (4, [none, none, some (some 4), some (some 5), some (some 6)]), .inl (1, 64, []), .inl (1, 64, []), .inl (3, 64, []), .inl (4, 6, [some 15, some 16, some 17, some 18, some 19, some 20]), .inl (1, 12, []), .inl (1, 12, []), .inl (1, 12, []), .inl (1, 5, []), .inl (1, 36, []), .inl (3, 6, []), .inl (1, 5, []), .inr (8, [none, none, none, none, none, none, none]), .inr (8, [none, none, none, none, none, none, none]), .inr (8, [none, none, none, none, none, none, none]), .inr (8, [none, none, none, none, none, none, none]), .inr (8, [none, none, none, none, none, none, none]), .inr (8, [none, none, none, none, none, none, none]), .inr (6, [some (some 22), some (some 26), none, none, none, none, none, none, none, none, some (some 27), some (some 28), some (some 29), some (some 30), some (some 31), some (some 32), some (some 33)]), .inr (4, [none, none, some (some 23), some (some 24), some (some 25)]), .inl (1, 64, []), .inl (1, 64, []), .inl (3, 64, []), .inl (4, 6, [some 34, some 35, some 36, none, none, none]), .inl (1, 12, []), .inl (1, 12, []), .inl (1, 12, []), .inl (1, 5, []), .inl (1, 36, []), .inl (3, 6, []), .inl (1, 5, []), .inr (8, [none, none, none, none, none, none, none]), .inr (8, [none, none, none, none, none, none, none]), .inr (8, [none, none, none, none, none, none, none]), .inr (8, [none, none, none, none, none, none, none])]
def sh_100 : List aSh := [.inr (11, [some (some 1), none, none, some (some 2), some none, some none, some none, none, some none, some none, some none, some none, some none, some none]), .inl (0, 700, []), .inr (6, [some (some 3), some (some 7), none, none, none, none, none, none, none, none, some (some 8), some (some 9), some (some 10), some (some 11), some (some 12), some (some 13), some (some 14)]), .inr (4, [none, none, some (some 4), some (some 5), some (some 6)]), .inl (1, 64, []), .inl (1, 64, []), .inl (3, 64, []), .inl (4, 6, [some 15, some 16, some 17, some 18, some 19, some 20]), .inl (1, 12, []), .inl (1, 12, []), .inl (1, 12, []), .inl (1, 5, []), .inl (1, 36, []), .inl (3, 6, []), .inl (1, 5, []), .inr (8, [none, none, none, none, none, none, none]), .inr (8, [none, none, none, none, none, none, none]), .inr (8, [none, none, none, none, none, none, none]), .inr (8, [none, none, none, none, none, none, none]), .inr (8, [none, none, none, none, none, none, none]), .inr (8, [none, none, none, none, none, none, none]), .inr (6, [some (some 22), some (some 26), none, none, none, none, none, none, none, none, some (some 27), some (some 28), some (some 29), some (some 30), some (some 31), some (some 32), some (some 33)]), .inr (4, [none, none, some (some 23), some (some 24), some (some 25)]), .inl (1, 64, []), .inl (1, 64, []), .inl (3, 64, []), .inl (4, 6, [some 34, some 35, some 36, none, none, none]), .inl (1, 12, []), .inl (1, 12, []), .inl (1, 12, []), .inl (1, 5, []), .inl (1, 36, []), .inl (3, 6, []), .inl (1, 5, []), .inr (8, [none, none, none, none, none, none, none]), .inr (8, [none, none, none, none, none, none, none]), .inr (8, [none, none, none, none, none, none, none]), .inr (8, [none, none, none, none, none, none, none])]
def f_new_X8_37 (D : aD) : Option aD :=
  some D
set_option maxRecDepth 100000 in
set_option maxHeartbeats 4000000 in
theorem c_new_X8_37 {G : aG} (hG : gOK G) (hN : gNest G) {D : aD} {K : aD → Prop} (h : Ok (f_new_X8_37 D) K) : AC G (aRm 2 0 0) M_X8_init [.ref 37] (some 38) sh_99 D (aQv sh_100 K) := by
  unfold f_new_X8_37 at h
  refine AC.of (al := [some (.ref 37)]) (r := 0) (by decide) (Nat.le_of_ble_eq_true rfl) rfl ?_
  refine aw_aload_n (n := 1) (i := 0) dX8_init_0 rfl rfl rfl ?_
  refine aw_objInit (M := M_X8_init) (n := 4) ko_RX8_1.1 ko_RX8_1.2.1 ko_RX8_1.2.2 (by decide) (by decide) dX8_init_1 rfl ?_
  exact aw_vret rfl (by decide) (by decide) dX8_init_4 ⟨rfl, (rfl : sh_99 = sh_100), (Ok.dn h :)⟩
def sh_101 : List aSh := sh_100.set 26 (.inl (4, 6, [some 34, some 35, some 36, some 37, none, none]))
def sh_102 : List aSh := sh_101 ++ [.inr (8, [none, none, none, none, none, none, none])]
def sh_103 : List aSh := [.inr (11, [some (some 1), none, none, some (some 2), some none, some none, some none, none, some none, some none, some none, some none, some none, some none]), .inl (0, 700, []), .inr (6, [some (some 3), some (some 7), none, none, none, none, none, none, none, none, some (some 8), some (some 9), some (some 10), some (some 11), some (some 12), some (some 13), some (some 14)]), .inr (4, [none, none, some (some 4), some (some 5), some (some 6)]), .inl (1, 64, []), .inl (1, 64, []), .inl (3, 64, []), .inl (4, 6, [some 15, some 16, some 17, some 18, some 19, some 20]), .inl (1, 12, []), .inl (1, 12, []), .inl (1, 12, []), .inl (1, 5, []), .inl (1, 36, []), .inl (3, 6, []), .inl (1, 5, []), .inr (8, [none, none, none, none, none, none, none]), .inr (8, [none, none, none, none, none, none, none]), .inr (8, [none, none, none, none, none, none, none]), .inr (8, [none, none, none, none, none, none, none]), .inr (8, [none, none, none, none, none, none, none]), .inr (8, [none, none, none, none, none, none, none]), .inr (6, [some (some 22), some (some 26), none, none, none, none, none, none, none, none, some (some 27), some (some 28), some (some 29), some (some 30), some (some 31), some (some 32), some (some 33)]), .inr (4, [none, none, some (some 23), some (some 24), some (some 25)]), .inl (1, 64, []), .inl (1, 64, []), .inl (3, 64, []), .inl (4, 6, [some 34, some 35, some 36, some 37, none, none]), .inl (1, 12, []), .inl (1, 12, []), .inl (1, 12, []), .inl (1, 5, []), .inl (1, 36, []), .inl (3, 6, []), .inl (1, 5, []), .inr (8, [none, none, none, none, none, none, none]), .inr (8, [none, none, none, none, none, none, none]), .inr (8, [none, none, none, none, none, none, none]), .inr (8, [none, none, none, none, none, none, none]), .inr (8, [none, none, none, none, none, none, none])]
def sh_104 : List aSh := [.inr (11, [some (some 1), none, none, some (some 2), some none, some none, some none, none, some none, some none, some none, some none, some none, some none]), .inl (0, 700, []), .inr (6, [some (some 3), some (some 7), none, none, none, none, none, none, none, none, some (some 8), some (some 9), some (some 10), some (some 11), some (some 12), some (some 13), some (some 14)]), .inr (4, [none, none, some (some 4), some (some 5), some (some 6)]), .inl (1, 64, []), .inl (1, 64, []), .inl (3, 64, []), .inl (4, 6, [some 15, some 16, some 17, some 18, some 19, some 20]), .inl (1, 12, []), .inl (1, 12, []), .inl (1, 12, []), .inl (1, 5, []), .inl (1, 36, []), .inl (3, 6, []), .inl (1, 5, []), .inr (8, [none, none, none, none, none, none, none]), .inr (8, [none, none, none, none, none, none, none]), .inr (8, [none, none, none, none, none, none, none]), .inr (8, [none, none, none, none, none, none, none]), .inr (8, [none, none, none, none, none, none, none]), .inr (8, [none, none, none, none, none, none, none]), .inr (6, [some (some 22), some (some 26), none, none, none, none, none, none, none, none, some (some 27), some (some 28), some (some 29), some (some 30), some (some 31), some (some 32), some (some 33)]), .inr (4, [none, none, some (some 23), some (some 24), some (some 25)]), .inl (1, 64, []), .inl (1, 64, []), .inl (3, 64, []), .inl (4, 6, [some 34, some 35, some 36, some 37, none, none]), .inl (1, 12, []), .inl (1, 12, []), .inl (1, 12, []), .inl (1, 5, []), .inl (1, 36, []), .inl (3, 6, []), .inl (1, 5, []), .inr (8, [none, none, none, none, none, none, none]), .inr (8, [none, none, none, none, none, none, none]), .inr (8, [none, none, none, none, none, none, none]), .inr (8, [none, none, none, none, none, none, none]), .inr (8, [none, none, none, none, none, none, none])]
def f_new_X8_38 (D : aD) : Option aD :=
  some D
set_option maxRecDepth 100000 in
set_option maxHeartbeats 4000000 in
theorem c_new_X8_38 {G : aG} (hG : gOK G) (hN : gNest G) {D : aD} {K : aD → Prop} (h : Ok (f_new_X8_38 D) K) : AC G (aRm 2 0 0) M_X8_init [.ref 38] (some 39) sh_103 D (aQv sh_104 K) := by
  unfold f_new_X8_38 at h
  refine AC.of (al := [some (.ref 38)]) (r := 0) (by decide) (Nat.le_of_ble_eq_true rfl) rfl ?_
  refine aw_aload_n (n := 1) (i := 0) dX8_init_0 rfl rfl rfl ?_
  refine aw_objInit (M := M_X8_init) (n := 4) ko_RX8_1.1 ko_RX8_1.2.1 ko_RX8_1.2.2 (by decide) (by decide) dX8_init_1 rfl ?_
  exact aw_vret rfl (by decide) (by decide) dX8_init_4 ⟨rfl, (rfl : sh_103 = sh_104), (Ok.dn h :)⟩
def sh_105 : List aSh := sh_104.set 26 (.inl (4, 6, [some 34, some 35, some 36, some 37, some 38, none]))
def sh_106 : List aSh := sh_105 ++ [.inr (8, [none, none, none, none, none, none, none])]
def sh_107 : List aSh := [.inr (11, [some (some 1), none, none, some (some 2), some none, some none, some none, none, some none, some none, some none, some none, some none, some none]), .inl (0, 700, []), .inr (6, [some (some 3), some (some 7), none, none, none, none, none, none, none, none, some (some 8), some (some 9), some (some 10), some (some 11), some (some 12), some (some 13), some (some 14)]), .inr (4, [none, none, some (some 4), some (some 5), some (some 6)]), .inl (1, 64, []), .inl (1, 64, []), .inl (3, 64, []), .inl (4, 6, [some 15, some 16, some 17, some 18, some 19, some 20]), .inl (1, 12, []), .inl (1, 12, []), .inl (1, 12, []), .inl (1, 5, []), .inl (1, 36, []), .inl (3, 6, []), .inl (1, 5, []), .inr (8, [none, none, none, none, none, none, none]), .inr (8, [none, none, none, none, none, none, none]), .inr (8, [none, none, none, none, none, none, none]), .inr (8, [none, none, none, none, none, none, none]), .inr (8, [none, none, none, none, none, none, none]), .inr (8, [none, none, none, none, none, none, none]), .inr (6, [some (some 22), some (some 26), none, none, none, none, none, none, none, none, some (some 27), some (some 28), some (some 29), some (some 30), some (some 31), some (some 32), some (some 33)]), .inr (4, [none, none, some (some 23), some (some 24), some (some 25)]), .inl (1, 64, []), .inl (1, 64, []), .inl (3, 64, []), .inl (4, 6, [some 34, some 35, some 36, some 37, some 38, none]), .inl (1, 12, []), .inl (1, 12, []), .inl (1, 12, []), .inl (1, 5, []), .inl (1, 36, []), .inl (3, 6, []), .inl (1, 5, []), .inr (8, [none, none, none, none, none, none, none]), .inr (8, [none, none, none, none, none, none, none]), .inr (8, [none, none, none, none, none, none, none]), .inr (8, [none, none, none, none, none, none, none]), .inr (8, [none, none, none, none, none, none, none]), .inr (8, [none, none, none, none, none, none, none])]
def sh_108 : List aSh := [.inr (11, [some (some 1), none, none, some (some 2), some none, some none, some none, none, some none, some none, some none, some none, some none, some none]), .inl (0, 700, []), .inr (6, [some (some 3), some (some 7), none, none, none, none, none, none, none, none, some (some 8), some (some 9), some (some 10), some (some 11), some (some 12), some (some 13), some (some 14)]), .inr (4, [none, none, some (some 4), some (some 5), some (some 6)]), .inl (1, 64, []), .inl (1, 64, []), .inl (3, 64, []), .inl (4, 6, [some 15, some 16, some 17, some 18, some 19, some 20]), .inl (1, 12, []), .inl (1, 12, []), .inl (1, 12, []), .inl (1, 5, []), .inl (1, 36, []), .inl (3, 6, []), .inl (1, 5, []), .inr (8, [none, none, none, none, none, none, none]), .inr (8, [none, none, none, none, none, none, none]), .inr (8, [none, none, none, none, none, none, none]), .inr (8, [none, none, none, none, none, none, none]), .inr (8, [none, none, none, none, none, none, none]), .inr (8, [none, none, none, none, none, none, none]), .inr (6, [some (some 22), some (some 26), none, none, none, none, none, none, none, none, some (some 27), some (some 28), some (some 29), some (some 30), some (some 31), some (some 32), some (some 33)]), .inr (4, [none, none, some (some 23), some (some 24), some (some 25)]), .inl (1, 64, []), .inl (1, 64, []), .inl (3, 64, []), .inl (4, 6, [some 34, some 35, some 36, some 37, some 38, none]), .inl (1, 12, []), .inl (1, 12, []), .inl (1, 12, []), .inl (1, 5, []), .inl (1, 36, []), .inl (3, 6, []), .inl (1, 5, []), .inr (8, [none, none, none, none, none, none, none]), .inr (8, [none, none, none, none, none, none, none]), .inr (8, [none, none, none, none, none, none, none]), .inr (8, [none, none, none, none, none, none, none]), .inr (8, [none, none, none, none, none, none, none]), .inr (8, [none, none, none, none, none, none, none])]
def f_new_X8_39 (D : aD) : Option aD :=
  some D
set_option maxRecDepth 100000 in
set_option maxHeartbeats 4000000 in
theorem c_new_X8_39 {G : aG} (hG : gOK G) (hN : gNest G) {D : aD} {K : aD → Prop} (h : Ok (f_new_X8_39 D) K) : AC G (aRm 2 0 0) M_X8_init [.ref 39] (some 40) sh_107 D (aQv sh_108 K) := by
  unfold f_new_X8_39 at h
  refine AC.of (al := [some (.ref 39)]) (r := 0) (by decide) (Nat.le_of_ble_eq_true rfl) rfl ?_
  refine aw_aload_n (n := 1) (i := 0) dX8_init_0 rfl rfl rfl ?_
  refine aw_objInit (M := M_X8_init) (n := 4) ko_RX8_1.1 ko_RX8_1.2.1 ko_RX8_1.2.2 (by decide) (by decide) dX8_init_1 rfl ?_
  exact aw_vret rfl (by decide) (by decide) dX8_init_4 ⟨rfl, (rfl : sh_107 = sh_108), (Ok.dn h :)⟩
def sh_109 : List aSh := sh_108.set 26 (.inl (4, 6, [some 34, some 35, some 36, some 37, some 38, some 39]))
def sh_110 : List aSh := [.inr (11, [some (some 1), none, none, some (some 2), some none, some none, some none, none, some none, some none, some none, some none, some none, some none]), .inl (0, 700, []), .inr (6, [some (some 3), some (some 7), none, none, none, none, none, none, none, none, some (some 8), some (some 9), some (some 10), some (some 11), some (some 12), some (some 13), some (some 14)]), .inr (4, [none, none, some (some 4), some (some 5), some (some 6)]), .inl (1, 64, []), .inl (1, 64, []), .inl (3, 64, []), .inl (4, 6, [some 15, some 16, some 17, some 18, some 19, some 20]), .inl (1, 12, []), .inl (1, 12, []), .inl (1, 12, []), .inl (1, 5, []), .inl (1, 36, []), .inl (3, 6, []), .inl (1, 5, []), .inr (8, [none, none, none, none, none, none, none]), .inr (8, [none, none, none, none, none, none, none]), .inr (8, [none, none, none, none, none, none, none]), .inr (8, [none, none, none, none, none, none, none]), .inr (8, [none, none, none, none, none, none, none]), .inr (8, [none, none, none, none, none, none, none]), .inr (6, [some (some 22), some (some 26), none, none, none, none, none, none, none, none, some (some 27), some (some 28), some (some 29), some (some 30), some (some 31), some (some 32), some (some 33)]), .inr (4, [none, none, some (some 23), some (some 24), some (some 25)]), .inl (1, 64, []), .inl (1, 64, []), .inl (3, 64, []), .inl (4, 6, [some 34, some 35, some 36, some 37, some 38, some 39]), .inl (1, 12, []), .inl (1, 12, []), .inl (1, 12, []), .inl (1, 5, []), .inl (1, 36, []), .inl (3, 6, []), .inl (1, 5, []), .inr (8, [none, none, none, none, none, none, none]), .inr (8, [none, none, none, none, none, none, none]), .inr (8, [none, none, none, none, none, none, none]), .inr (8, [none, none, none, none, none, none, none]), .inr (8, [none, none, none, none, none, none, none]), .inr (8, [none, none, none, none, none, none, none])]
def f_new_X6_21 (D : aD) : Option aD :=
  aLet (z0 D 22) (fun D_1 => (f_new_X4_22 D_1).bind (fun D_2 => aLet (z0 D_2 26) (fun D_3 => aLet (z0 D_3 27) (fun D_4 => aLet (z0 D_4 28) (fun D_5 => aLet (z0 D_5 29) (fun D_6 => aLet (z0 D_6 30) (fun D_7 => aLet (z0 D_7 31) (fun D_8 => aLet (z0 D_8 32) (fun D_9 => aLet (z0 D_9 33) (fun D_10 => aLet (z0 D_10 34) (fun D_11 => (f_new_X8_34 D_11).bind (fun D_12 => aLet (z0 D_12 35) (fun D_13 => (f_new_X8_35 D_13).bind (fun D_14 => aLet (z0 D_14 36) (fun D_15 => (f_new_X8_36 D_15).bind (fun D_16 => aLet (z0 D_16 37) (fun D_17 => (f_new_X8_37 D_17).bind (fun D_18 => aLet (z0 D_18 38) (fun D_19 => (f_new_X8_38 D_19).bind (fun D_20 => aLet (z0 D_20 39) (fun D_21 => (f_new_X8_39 D_21).bind (fun D_22 => (f_X6_clear_21 D_22).bind (fun D_23 => some D_23)))))))))))))))))))))))
set_option maxRecDepth 100000 in
set_option maxHeartbeats 4000000 in
theorem c_new_X6_21 {G : aG} (hG : gOK G) (hN : gNest G) {D : aD} {K : aD → Prop} (h : Ok (f_new_X6_21 D) K) : AC G (aRm 4 18 333) M_X6_init [.ref 21] (some 22) sh_59 D (aQv sh_110 K) := by
  unfold f_new_X6_21 at h
  refine AC.of (al := [some (.ref 21), none]) (r := 1) (by decide) (Nat.le_of_ble_eq_true rfl) rfl ?_
  refine aw_aload_n (n := 1) (i := 0) dX6_init_0 rfl rfl rfl ?_
  refine aw_objInit (M := M_X6_init) (n := 4) ko_RX6_3.1 ko_RX6_3.2.1 ko_RX6_3.2.2 (by decide) (by decide) dX6_init_1 rfl ?_
  refine aw_aload_n (n := 5) (i := 0) dX6_init_4 rfl rfl rfl ?_
  obtain ⟨D_1, e_D_1, h⟩ := Ok.let_ h
  refine aw_new (M := M_X6_init) (n := 8) (ci := 4) (N := 5) (C := RX4) (T := TX4) (L := 22) (n0 := 22) (shp' := sh_60) (D' := D_1) tyX4 hG.1 rfl rfl rfl (by decide) rfl aU_X4 tyX4_ok (by decide) (by unfold aNF; decide) kw_RX6_9.1 kw_RX6_9.2.1 kw_RX6_9.2.2 (by decide) (by decide) dX6_init_5 rfl rfl (kc' := 1) (ks' := 5) rfl rfl e_D_1 ?_
  refine aw_dup (n := 9) dX6_init_8 rfl rfl ?_
  refine aw_initN (M := M_X6_init) (n := 12) (L := 23) (n0 := 22) (As := []) (rest := [.ref 22, .ref 21]) (kN_RX6_11 hN) rfl rfl (by rw [(rfl : sh_60 = sh_61)]; exact c_new_X4_22 hG hN (h := Ok.bind h)) rfl rfl rfl (by decide) (Nat.le_of_ble_eq_true rfl) (kn := 4) (kn2 := 197) rfl rfl (by decide) (by decide) dX6_init_9 rfl (fun D_2 h => ?_)
  refine aw_putR (M := M_X6_init) (n := 15) (j := 0) (k := 21) (r := 22) (shp' := sh_69) hG.1 fl_RX6_12 ⟨rfl, fun _ => ⟨rfl, rfl⟩⟩ ⟨_, _, rfl⟩ rfl (fs := [some none, some none, none, none, none, none, none, none, none, none, some none, some none, some none, some none, some none, some none, some none]) (rfl : sh_68[21]? = _) (by decide) rfl dX6_init_12 rfl ?_
  refine aw_aload_n (n := 16) (i := 0) dX6_init_15 rfl rfl rfl ?_
  refine aw_bipush (n := 18) (v := 6) dX6_init_16 rfl (by decide) ?_
  obtain ⟨D_3, e_D_3, h⟩ := Ok.let_ h
  refine aw_anew (M := M_X6_init) (n := 21) (t := 4) (N := 6) (C := RX8) (L := 26) (n0 := 22) (shp' := sh_70) (D' := D_3) hG.1 rfl rfl rfl (by decide) ka_RX6_18 hN.2.2.1 (by decide) rfl (by decide) rfl (by decide) (by decide) (by decide) dX6_init_18 rfl rfl (kc' := 5) (ks' := 203) rfl rfl e_D_3 ?_
  refine aw_putR (M := M_X6_init) (n := 24) (j := 1) (k := 21) (r := 26) (shp' := sh_71) hG.1 fl_RX6_20 ⟨rfl, fun _ => ⟨rfl, rfl⟩⟩ ⟨_, _, rfl⟩ rfl (fs := [some (some 22), some none, none, none, none, none, none, none, none, none, some none, some none, some none, some none, some none, some none, some none]) (rfl : sh_70[21]? = _) (by decide) rfl dX6_init_21 rfl ?_
  refine aw_aload_n (n := 25) (i := 0) dX6_init_24 rfl rfl rfl ?_
  refine aw_bipush (n := 27) (v := 12) dX6_init_25 rfl (by decide) ?_
  obtain ⟨D_4, e_D_4, h⟩ := Ok.let_ h
  refine aw_newa (M := M_X6_init) (n := 29) (t := 1) (N := 12) (ty := .int) (L := 27) (n0 := 22) (shp' := sh_72) (D' := D_4) hG.1 rfl rfl rfl (by decide) aw_int rfl rfl (fun _ _ h => h) (at_z1) (by decide) rfl (by decide) (by decide) (by decide) dX6_init_27 rfl rfl (kc' := 6) (ks' := 215) rfl rfl e_D_4 ?_
  refine aw_putR (M := M_X6_init) (n := 32) (j := 10) (k := 21) (r := 27) (shp' := sh_73) hG.1 fl_RX6_24 ⟨rfl, fun _ => ⟨rfl, rfl⟩⟩ ⟨_, _, rfl⟩ rfl (fs := [some (some 22), some (some 26), none, none, none, none, none, none, none, none, some none, some none, some none, some none, some none, some none, some none]) (rfl : sh_72[21]? = _) (by decide) rfl dX6_init_29 rfl ?_
  refine aw_aload_n (n := 33) (i := 0) dX6_init_32 rfl rfl rfl ?_
  refine aw_bipush (n := 35) (v := 12) dX6_init_33 rfl (by decide) ?_
  obtain ⟨D_5, e_D_5, h⟩ := Ok.let_ h
  refine aw_newa (M := M_X6_init) (n := 37) (t := 1) (N := 12) (ty := .int) (L := 28) (n0 := 22) (shp' := sh_74) (D' := D_5) hG.1 rfl rfl rfl (by decide) aw_int rfl rfl (fun _ _ h => h) (at_z1) (by decide) rfl (by decide) (by decide) (by decide) dX6_init_35 rfl rfl (kc' := 7) (ks' := 227) rfl rfl e_D_5 ?_
  refine aw_putR (M := M_X6_init) (n := 40) (j := 11) (k := 21) (r := 28) (shp' := sh_75) hG.1 fl_RX6_28 ⟨rfl, fun _ => ⟨rfl, rfl⟩⟩ ⟨_, _, rfl⟩ rfl (fs := [some (some 22), some (some 26), none, none, none, none, none, none, none, none, some (some 27), some none, some none, some none, some none, some none, some none]) (rfl : sh_74[21]? = _) (by decide) rfl dX6_init_37 rfl ?_
  refine aw_aload_n (n := 41) (i := 0) dX6_init_40 rfl rfl rfl ?_
  refine aw_bipush (n := 43) (v := 12) dX6_init_41 rfl (by decide) ?_
  obtain ⟨D_6, e_D_6, h⟩ := Ok.let_ h
  refine aw_newa (M := M_X6_init) (n := 45) (t := 1) (N := 12) (ty := .int) (L := 29) (n0 := 22) (shp' := sh_76) (D' := D_6) hG.1 rfl rfl rfl (by decide) aw_int rfl rfl (fun _ _ h => h) (at_z1) (by decide) rfl (by decide) (by decide) (by decide) dX6_init_43 rfl rfl (kc' := 8) (ks' := 239) rfl rfl e_D_6 ?_
  refine aw_putR (M := M_X6_init) (n := 48) (j := 12) (k := 21) (r := 29) (shp' := sh_77) hG.1 fl_RX6_31 ⟨rfl, fun _ => ⟨rfl, rfl⟩⟩ ⟨_, _, rfl⟩ rfl (fs := [some (some 22), some (some 26), none, none, none, none, none, none, none, none, some (some 27), some (some 28), some none, some none, some none, some none, some none]) (rfl : sh_76[21]? = _) (by decide) rfl dX6_init_45 rfl ?_
  refine aw_aload_n (n := 49) (i := 0) dX6_init_48 rfl rfl rfl ?_
  refine aw_iconst (n := 50) (v := 5) dX6_init_49 rfl (by decide) ?_
  obtain ⟨D_7, e_D_7, h⟩ := Ok.let_ h
  refine aw_newa (M := M_X6_init) (n := 52) (t := 1) (N := 5) (ty := .int) (L := 30) (n0 := 22) (shp' := sh_78) (D' := D_7) hG.1 rfl rfl rfl (by decide) aw_int rfl rfl (fun _ _ h => h) (at_z1) (by decide) rfl (by decide) (by decide) (by decide) dX6_init_50 rfl rfl (kc' := 9) (ks' := 244) rfl rfl e_D_7 ?_
  refine aw_putR (M := M_X6_init) (n := 55) (j := 13) (k := 21) (r := 30) (shp' := sh_79) hG.1 fl_RX6_34 ⟨rfl, fun _ => ⟨rfl, rfl⟩⟩ ⟨_, _, rfl⟩ rfl (fs := [some (some 22), some (some 26), none, none, none, none, none, none, none, none, some (some 27), some (some 28), some (some 29), some none, some none, some none, some none]) (rfl : sh_78[21]? = _) (by decide) rfl dX6_init_52 rfl ?_
  refine aw_aload_n (n := 56) (i := 0) dX6_init_55 rfl rfl rfl ?_
  refine aw_bipush (n := 58) (v := 36) dX6_init_56 rfl (by decide) ?_
  obtain ⟨D_8, e_D_8, h⟩ := Ok.let_ h
  refine aw_newa (M := M_X6_init) (n := 60) (t := 1) (N := 36) (ty := .int) (L := 31) (n0 := 22) (shp' := sh_80) (D' := D_8) hG.1 rfl rfl rfl (by decide) aw_int rfl rfl (fun _ _ h => h) (at_z1) (by decide) rfl (by decide) (by decide) (by decide) dX6_init_58 rfl rfl (kc' := 10) (ks' := 280) rfl rfl e_D_8 ?_
  refine aw_putR (M := M_X6_init) (n := 63) (j := 14) (k := 21) (r := 31) (shp' := sh_81) hG.1 fl_RX6_37 ⟨rfl, fun _ => ⟨rfl, rfl⟩⟩ ⟨_, _, rfl⟩ rfl (fs := [some (some 22), some (some 26), none, none, none, none, none, none, none, none, some (some 27), some (some 28), some (some 29), some (some 30), some none, some none, some none]) (rfl : sh_80[21]? = _) (by decide) rfl dX6_init_60 rfl ?_
  refine aw_aload_n (n := 64) (i := 0) dX6_init_63 rfl rfl rfl ?_
  refine aw_bipush (n := 66) (v := 6) dX6_init_64 rfl (by decide) ?_
  obtain ⟨D_9, e_D_9, h⟩ := Ok.let_ h
  refine aw_newa (M := M_X6_init) (n := 68) (t := 3) (N := 6) (ty := .boolean) (L := 32) (n0 := 22) (shp' := sh_82) (D' := D_9) hG.1 rfl rfl rfl (by decide) aw_boolean rfl rfl (fun _ _ h => h) (at_z3) (by decide) rfl (by decide) (by decide) (by decide) dX6_init_66 rfl rfl (kc' := 11) (ks' := 286) rfl rfl e_D_9 ?_
  refine aw_putR (M := M_X6_init) (n := 71) (j := 15) (k := 21) (r := 32) (shp' := sh_83) hG.1 fl_RX6_40 ⟨rfl, fun _ => ⟨rfl, rfl⟩⟩ ⟨_, _, rfl⟩ rfl (fs := [some (some 22), some (some 26), none, none, none, none, none, none, none, none, some (some 27), some (some 28), some (some 29), some (some 30), some (some 31), some none, some none]) (rfl : sh_82[21]? = _) (by decide) rfl dX6_init_68 rfl ?_
  refine aw_aload_n (n := 72) (i := 0) dX6_init_71 rfl rfl rfl ?_
  refine aw_iconst (n := 73) (v := 5) dX6_init_72 rfl (by decide) ?_
  obtain ⟨D_10, e_D_10, h⟩ := Ok.let_ h
  refine aw_newa (M := M_X6_init) (n := 75) (t := 1) (N := 5) (ty := .int) (L := 33) (n0 := 22) (shp' := sh_84) (D' := D_10) hG.1 rfl rfl rfl (by decide) aw_int rfl rfl (fun _ _ h => h) (at_z1) (by decide) rfl (by decide) (by decide) (by decide) dX6_init_73 rfl rfl (kc' := 12) (ks' := 291) rfl rfl e_D_10 ?_
  refine aw_putR (M := M_X6_init) (n := 78) (j := 16) (k := 21) (r := 33) (shp' := sh_85) hG.1 fl_RX6_44 ⟨rfl, fun _ => ⟨rfl, rfl⟩⟩ ⟨_, _, rfl⟩ rfl (fs := [some (some 22), some (some 26), none, none, none, none, none, none, none, none, some (some 27), some (some 28), some (some 29), some (some 30), some (some 31), some (some 32), some none]) (rfl : sh_84[21]? = _) (by decide) rfl dX6_init_75 rfl ?_
  refine aw_iconst (n := 79) (v := 0) dX6_init_78 rfl (by decide) ?_
  refine aw_istore_n (n := 80) (i := 1) (al' := [some (.ref 21), some (.int 0)]) dX6_init_79 rfl rfl rfl (by decide) rfl ?_
  refine aw_iload_n (n := 81) (i := 1) dX6_init_80 rfl rfl rfl ?_
  refine aw_bipush (n := 83) (v := 6) dX6_init_81 rfl (by decide) ?_
  refine aw_icmp_ge (n := 86) (tgt := 105) dX6_init_83 rfl (by decide) (fun c => absurd c (by decide)) (fun c => ?_)
  refine aw_aload_n (n := 87) (i := 0) dX6_init_86 rfl rfl rfl ?_
  refine aw_getR (n := 90) (j := 1) (k := 21) (r := 26) hG.1 fl_RX6_20 (rfl : sh_85[21]? = _) rfl dX6_init_87 rfl ?_
  refine aw_iload_n (n := 91) (i := 1) dX6_init_90 rfl rfl rfl ?_
  obtain ⟨D_11, e_D_11, h⟩ := Ok.let_ h
  refine aw_new (M := M_X6_init) (n := 94) (ci := 8) (N := 7) (C := RX8) (T := TX8) (L := 34) (n0 := 22) (shp' := sh_86) (D' := D_11) tyX8 hG.1 rfl rfl rfl (by decide) rfl aU_X8 tyX8_ok (by decide) (by unfold aNF; decide) kw_RX6_18.1 kw_RX6_18.2.1 kw_RX6_18.2.2 (by decide) (by decide) dX6_init_91 rfl rfl (kc' := 13) (ks' := 298) rfl rfl e_D_11 ?_
  refine aw_dup (n := 95) dX6_init_94 rfl rfl ?_
  refine aw_initN (M := M_X6_init) (n := 98) (L := 35) (n0 := 22) (As := []) (rest := [.ref 34, .int 0, .ref 26]) (kN_RX6_47 hN) rfl rfl (by rw [(rfl : sh_86 = sh_87)]; exact c_new_X8_34 hG hN (h := Ok.bind h)) rfl rfl rfl (by decide) (Nat.le_of_ble_eq_true rfl) (kn := 13) (kn2 := 298) rfl rfl (by decide) (by decide) dX6_init_95 rfl (fun D_12 h => ?_)
  refine aw_aastore (M := M_X6_init) (n := 99) (k := 26) (v := 34) (shp' := sh_89) hG.1 (by decide) rfl (ci := 8) rfl (rfl : sh_88[26]? = _) (rfl : sh_88[34]? = _) (aIn_in rfl) (by decide) rfl dX6_init_98 rfl ?_
  refine aw_iinc (n := 102) (y := 1) (al' := [some (.ref 21), some (.int 1)]) dX6_init_99 rfl rfl (by decide) (by decide) rfl ?_
  refine aw_goto (tgt := 80) dX6_init_102 (by decide) ?_
  refine aw_iload_n (n := 81) (i := 1) dX6_init_80 rfl rfl rfl ?_
  refine aw_bipush (n := 83) (v := 6) dX6_init_81 rfl (by decide) ?_
  refine aw_icmp_ge (n := 86) (tgt := 105) dX6_init_83 rfl (by decide) (fun c => absurd c (by decide)) (fun c => ?_)
  refine aw_aload_n (n := 87) (i := 0) dX6_init_86 rfl rfl rfl ?_
  refine aw_getR (n := 90) (j := 1) (k := 21) (r := 26) hG.1 fl_RX6_20 (rfl : sh_89[21]? = _) rfl dX6_init_87 rfl ?_
  refine aw_iload_n (n := 91) (i := 1) dX6_init_90 rfl rfl rfl ?_
  obtain ⟨D_13, e_D_13, h⟩ := Ok.let_ h
  refine aw_new (M := M_X6_init) (n := 94) (ci := 8) (N := 7) (C := RX8) (T := TX8) (L := 35) (n0 := 22) (shp' := sh_90) (D' := D_13) tyX8 hG.1 rfl rfl rfl (by decide) rfl aU_X8 tyX8_ok (by decide) (by unfold aNF; decide) kw_RX6_18.1 kw_RX6_18.2.1 kw_RX6_18.2.2 (by decide) (by decide) dX6_init_91 rfl rfl (kc' := 14) (ks' := 305) rfl rfl e_D_13 ?_
  refine aw_dup (n := 95) dX6_init_94 rfl rfl ?_
  refine aw_initN (M := M_X6_init) (n := 98) (L := 36) (n0 := 22) (As := []) (rest := [.ref 35, .int 1, .ref 26]) (kN_RX6_47 hN) rfl rfl (by rw [(rfl : sh_90 = sh_91)]; exact c_new_X8_35 hG hN (h := Ok.bind h)) rfl rfl rfl (by decide) (Nat.le_of_ble_eq_true rfl) (kn := 14) (kn2 := 305) rfl rfl (by decide) (by decide) dX6_init_95 rfl (fun D_14 h => ?_)
  refine aw_aastore (M := M_X6_init) (n := 99) (k := 26) (v := 35) (shp' := sh_93) hG.1 (by decide) rfl (ci := 8) rfl (rfl : sh_92[26]? = _) (rfl : sh_92[35]? = _) (aIn_in rfl) (by decide) rfl dX6_init_98 rfl ?_
  refine aw_iinc (n := 102) (y := 2) (al' := [some (.ref 21), some (.int 2)]) dX6_init_99 rfl rfl (by decide) (by decide) rfl ?_
  refine aw_goto (tgt := 80) dX6_init_102 (by decide) ?_
  refine aw_iload_n (n := 81) (i := 1) dX6_init_80 rfl rfl rfl ?_
  refine aw_bipush (n := 83) (v := 6) dX6_init_81 rfl (by decide) ?_
  refine aw_icmp_ge (n := 86) (tgt := 105) dX6_init_83 rfl (by decide) (fun c => absurd c (by decide)) (fun c => ?_)
  refine aw_aload_n (n := 87) (i := 0) dX6_init_86 rfl rfl rfl ?_
  refine aw_getR (n := 90) (j := 1) (k := 21) (r := 26) hG.1 fl_RX6_20 (rfl : sh_93[21]? = _) rfl dX6_init_87 rfl ?_
  refine aw_iload_n (n := 91) (i := 1) dX6_init_90 rfl rfl rfl ?_
  obtain ⟨D_15, e_D_15, h⟩ := Ok.let_ h
  refine aw_new (M := M_X6_init) (n := 94) (ci := 8) (N := 7) (C := RX8) (T := TX8) (L := 36) (n0 := 22) (shp' := sh_94) (D' := D_15) tyX8 hG.1 rfl rfl rfl (by decide) rfl aU_X8 tyX8_ok (by decide) (by unfold aNF; decide) kw_RX6_18.1 kw_RX6_18.2.1 kw_RX6_18.2.2 (by decide) (by decide) dX6_init_91 rfl rfl (kc' := 15) (ks' := 312) rfl rfl e_D_15 ?_
  refine aw_dup (n := 95) dX6_init_94 rfl rfl ?_
  refine aw_initN (M := M_X6_init) (n := 98) (L := 37) (n0 := 22) (As := []) (rest := [.ref 36, .int 2, .ref 26]) (kN_RX6_47 hN) rfl rfl (by rw [(rfl : sh_94 = sh_95)]; exact c_new_X8_36 hG hN (h := Ok.bind h)) rfl rfl rfl (by decide) (Nat.le_of_ble_eq_true rfl) (kn := 15) (kn2 := 312) rfl rfl (by decide) (by decide) dX6_init_95 rfl (fun D_16 h => ?_)
  refine aw_aastore (M := M_X6_init) (n := 99) (k := 26) (v := 36) (shp' := sh_97) hG.1 (by decide) rfl (ci := 8) rfl (rfl : sh_96[26]? = _) (rfl : sh_96[36]? = _) (aIn_in rfl) (by decide) rfl dX6_init_98 rfl ?_
  refine aw_iinc (n := 102) (y := 3) (al' := [some (.ref 21), some (.int 3)]) dX6_init_99 rfl rfl (by decide) (by decide) rfl ?_
  refine aw_goto (tgt := 80) dX6_init_102 (by decide) ?_
  refine aw_iload_n (n := 81) (i := 1) dX6_init_80 rfl rfl rfl ?_
  refine aw_bipush (n := 83) (v := 6) dX6_init_81 rfl (by decide) ?_
  refine aw_icmp_ge (n := 86) (tgt := 105) dX6_init_83 rfl (by decide) (fun c => absurd c (by decide)) (fun c => ?_)
  refine aw_aload_n (n := 87) (i := 0) dX6_init_86 rfl rfl rfl ?_
  refine aw_getR (n := 90) (j := 1) (k := 21) (r := 26) hG.1 fl_RX6_20 (rfl : sh_97[21]? = _) rfl dX6_init_87 rfl ?_
  refine aw_iload_n (n := 91) (i := 1) dX6_init_90 rfl rfl rfl ?_
  obtain ⟨D_17, e_D_17, h⟩ := Ok.let_ h
  refine aw_new (M := M_X6_init) (n := 94) (ci := 8) (N := 7) (C := RX8) (T := TX8) (L := 37) (n0 := 22) (shp' := sh_98) (D' := D_17) tyX8 hG.1 rfl rfl rfl (by decide) rfl aU_X8 tyX8_ok (by decide) (by unfold aNF; decide) kw_RX6_18.1 kw_RX6_18.2.1 kw_RX6_18.2.2 (by decide) (by decide) dX6_init_91 rfl rfl (kc' := 16) (ks' := 319) rfl rfl e_D_17 ?_
  refine aw_dup (n := 95) dX6_init_94 rfl rfl ?_
  refine aw_initN (M := M_X6_init) (n := 98) (L := 38) (n0 := 22) (As := []) (rest := [.ref 37, .int 3, .ref 26]) (kN_RX6_47 hN) rfl rfl (by rw [(rfl : sh_98 = sh_99)]; exact c_new_X8_37 hG hN (h := Ok.bind h)) rfl rfl rfl (by decide) (Nat.le_of_ble_eq_true rfl) (kn := 16) (kn2 := 319) rfl rfl (by decide) (by decide) dX6_init_95 rfl (fun D_18 h => ?_)
  refine aw_aastore (M := M_X6_init) (n := 99) (k := 26) (v := 37) (shp' := sh_101) hG.1 (by decide) rfl (ci := 8) rfl (rfl : sh_100[26]? = _) (rfl : sh_100[37]? = _) (aIn_in rfl) (by decide) rfl dX6_init_98 rfl ?_
  refine aw_iinc (n := 102) (y := 4) (al' := [some (.ref 21), some (.int 4)]) dX6_init_99 rfl rfl (by decide) (by decide) rfl ?_
  refine aw_goto (tgt := 80) dX6_init_102 (by decide) ?_
  refine aw_iload_n (n := 81) (i := 1) dX6_init_80 rfl rfl rfl ?_
  refine aw_bipush (n := 83) (v := 6) dX6_init_81 rfl (by decide) ?_
  refine aw_icmp_ge (n := 86) (tgt := 105) dX6_init_83 rfl (by decide) (fun c => absurd c (by decide)) (fun c => ?_)
  refine aw_aload_n (n := 87) (i := 0) dX6_init_86 rfl rfl rfl ?_
  refine aw_getR (n := 90) (j := 1) (k := 21) (r := 26) hG.1 fl_RX6_20 (rfl : sh_101[21]? = _) rfl dX6_init_87 rfl ?_
  refine aw_iload_n (n := 91) (i := 1) dX6_init_90 rfl rfl rfl ?_
  obtain ⟨D_19, e_D_19, h⟩ := Ok.let_ h
  refine aw_new (M := M_X6_init) (n := 94) (ci := 8) (N := 7) (C := RX8) (T := TX8) (L := 38) (n0 := 22) (shp' := sh_102) (D' := D_19) tyX8 hG.1 rfl rfl rfl (by decide) rfl aU_X8 tyX8_ok (by decide) (by unfold aNF; decide) kw_RX6_18.1 kw_RX6_18.2.1 kw_RX6_18.2.2 (by decide) (by decide) dX6_init_91 rfl rfl (kc' := 17) (ks' := 326) rfl rfl e_D_19 ?_
  refine aw_dup (n := 95) dX6_init_94 rfl rfl ?_
  refine aw_initN (M := M_X6_init) (n := 98) (L := 39) (n0 := 22) (As := []) (rest := [.ref 38, .int 4, .ref 26]) (kN_RX6_47 hN) rfl rfl (by rw [(rfl : sh_102 = sh_103)]; exact c_new_X8_38 hG hN (h := Ok.bind h)) rfl rfl rfl (by decide) (Nat.le_of_ble_eq_true rfl) (kn := 17) (kn2 := 326) rfl rfl (by decide) (by decide) dX6_init_95 rfl (fun D_20 h => ?_)
  refine aw_aastore (M := M_X6_init) (n := 99) (k := 26) (v := 38) (shp' := sh_105) hG.1 (by decide) rfl (ci := 8) rfl (rfl : sh_104[26]? = _) (rfl : sh_104[38]? = _) (aIn_in rfl) (by decide) rfl dX6_init_98 rfl ?_
  refine aw_iinc (n := 102) (y := 5) (al' := [some (.ref 21), some (.int 5)]) dX6_init_99 rfl rfl (by decide) (by decide) rfl ?_
  refine aw_goto (tgt := 80) dX6_init_102 (by decide) ?_
  refine aw_iload_n (n := 81) (i := 1) dX6_init_80 rfl rfl rfl ?_
  refine aw_bipush (n := 83) (v := 6) dX6_init_81 rfl (by decide) ?_
  refine aw_icmp_ge (n := 86) (tgt := 105) dX6_init_83 rfl (by decide) (fun c => absurd c (by decide)) (fun c => ?_)
  refine aw_aload_n (n := 87) (i := 0) dX6_init_86 rfl rfl rfl ?_
  refine aw_getR (n := 90) (j := 1) (k := 21) (r := 26) hG.1 fl_RX6_20 (rfl : sh_105[21]? = _) rfl dX6_init_87 rfl ?_
  refine aw_iload_n (n := 91) (i := 1) dX6_init_90 rfl rfl rfl ?_
  obtain ⟨D_21, e_D_21, h⟩ := Ok.let_ h
  refine aw_new (M := M_X6_init) (n := 94) (ci := 8) (N := 7) (C := RX8) (T := TX8) (L := 39) (n0 := 22) (shp' := sh_106) (D' := D_21) tyX8 hG.1 rfl rfl rfl (by decide) rfl aU_X8 tyX8_ok (by decide) (by unfold aNF; decide) kw_RX6_18.1 kw_RX6_18.2.1 kw_RX6_18.2.2 (by decide) (by decide) dX6_init_91 rfl rfl (kc' := 18) (ks' := 333) rfl rfl e_D_21 ?_
  refine aw_dup (n := 95) dX6_init_94 rfl rfl ?_
  refine aw_initN (M := M_X6_init) (n := 98) (L := 40) (n0 := 22) (As := []) (rest := [.ref 39, .int 5, .ref 26]) (kN_RX6_47 hN) rfl rfl (by rw [(rfl : sh_106 = sh_107)]; exact c_new_X8_39 hG hN (h := Ok.bind h)) rfl rfl rfl (by decide) (Nat.le_of_ble_eq_true rfl) (kn := 18) (kn2 := 333) rfl rfl (by decide) (by decide) dX6_init_95 rfl (fun D_22 h => ?_)
  refine aw_aastore (M := M_X6_init) (n := 99) (k := 26) (v := 39) (shp' := sh_109) hG.1 (by decide) rfl (ci := 8) rfl (rfl : sh_108[26]? = _) (rfl : sh_108[39]? = _) (aIn_in rfl) (by decide) rfl dX6_init_98 rfl ?_
  refine aw_iinc (n := 102) (y := 6) (al' := [some (.ref 21), some (.int 6)]) dX6_init_99 rfl rfl (by decide) (by decide) rfl ?_
  refine aw_goto (tgt := 80) dX6_init_102 (by decide) ?_
  refine aw_iload_n (n := 81) (i := 1) dX6_init_80 rfl rfl rfl ?_
  refine aw_bipush (n := 83) (v := 6) dX6_init_81 rfl (by decide) ?_
  refine aw_icmp_ge (n := 86) (tgt := 105) dX6_init_83 rfl (by decide) (fun c => ?_) (fun c => absurd (by decide) c)
  refine aw_aload_n (n := 106) (i := 0) dX6_init_105 rfl rfl rfl ?_
  refine aw_cVv (M := M_X6_init) (n := 109) (As := []) (rest := []) hG.1 lk_RX6_48 rfl rfl (rfl : sh_109[21]? = _) (c_X6_clear_21 hG (h := Ok.bind h) (rfl : sh_109[21]? = _) (rfl : sh_109[22]? = _) (rfl : sh_109[23]? = _) (rfl : sh_109[24]? = _) (rfl : sh_109[25]? = _) (rfl : sh_109[31]? = _) (rfl : sh_109[32]? = _) (rfl : sh_109[33]? = _)) (by decide) (Nat.le_of_ble_eq_true rfl) (by decide) (by decide) dX6_init_106 rfl (fun D_23 h => ?_)
  exact aw_vret rfl (by decide) (by decide) dX6_init_109 ⟨rfl, (rfl : sh_109 = sh_110), (Ok.dn h :)⟩
def sh_111 : List aSh := sh_110.set 0 (.inr (11, [some (some 1), none, none, some (some 2), some (some 21), some none, some none, none, some none, some none, some none, some none, some none, some none]))
def sh_112 : List aSh := sh_111 ++ [.inr (9, [some none, some none, none, none, none, some none, some none, some none, some none, some none])]
theorem kw_RX11_27 : Cond.classLink RX11 27 "NoseTown$State" ∈ aU ∧ Cond.instantiable "NoseTown$State" 10 ∈ aU ∧ Cond.initialized "NoseTown$State" ∈ aU := ⟨aU_2 0 rfl rfl, aU_2 1 rfl rfl, aU_1 6 rfl rfl⟩
def sh_113 : List aSh := [.inr (11, [some (some 1), none, none, some (some 2), some (some 21), some none, some none, none, some none, some none, some none, some none, some none, some none]), .inl (0, 700, []), .inr (6, [some (some 3), some (some 7), none, none, none, none, none, none, none, none, some (some 8), some (some 9), some (some 10), some (some 11), some (some 12), some (some 13), some (some 14)]), .inr (4, [none, none, some (some 4), some (some 5), some (some 6)]), .inl (1, 64, []), .inl (1, 64, []), .inl (3, 64, []), .inl (4, 6, [some 15, some 16, some 17, some 18, some 19, some 20]), .inl (1, 12, []), .inl (1, 12, []), .inl (1, 12, []), .inl (1, 5, []), .inl (1, 36, []), .inl (3, 6, []), .inl (1, 5, []), .inr (8, [none, none, none, none, none, none, none]), .inr (8, [none, none, none, none, none, none, none]), .inr (8, [none, none, none, none, none, none, none]), .inr (8, [none, none, none, none, none, none, none]), .inr (8, [none, none, none, none, none, none, none]), .inr (8, [none, none, none, none, none, none, none]), .inr (6, [some (some 22), some (some 26), none, none, none, none, none, none, none, none, some (some 27), some (some 28), some (some 29), some (some 30), some (some 31), some (some 32), some (some 33)]), .inr (4, [none, none, some (some 23), some (some 24), some (some 25)]), .inl (1, 64, []), .inl (1, 64, []), .inl (3, 64, []), .inl (4, 6, [some 34, some 35, some 36, some 37, some 38, some 39]), .inl (1, 12, []), .inl (1, 12, []), .inl (1, 12, []), .inl (1, 5, []), .inl (1, 36, []), .inl (3, 6, []), .inl (1, 5, []), .inr (8, [none, none, none, none, none, none, none]), .inr (8, [none, none, none, none, none, none, none]), .inr (8, [none, none, none, none, none, none, none]), .inr (8, [none, none, none, none, none, none, none]), .inr (8, [none, none, none, none, none, none, none]), .inr (8, [none, none, none, none, none, none, none]), .inr (9, [some none, some none, none, none, none, some none, some none, some none, some none, some none])]
def M_X9_init : aM := (yX9_init, cX9_init, 1, none, [])
theorem dX9_init_0 : decode cX9_init 0 = .ok (.aload_n 0, 1) := by decide +kernel
theorem dX9_init_1 : decode cX9_init 1 = .ok (.invokespecial 3, 3) := by decide +kernel
theorem dX9_init_4 : decode cX9_init 4 = .ok (.aload_n 0, 1) := by decide +kernel
theorem dX9_init_5 : decode cX9_init 5 = .ok (.bipush 12, 2) := by decide +kernel
theorem dX9_init_7 : decode cX9_init 7 = .ok (.newarray .int, 2) := by decide +kernel
theorem dX9_init_9 : decode cX9_init 9 = .ok (.putfield 9, 3) := by decide +kernel
theorem dX9_init_12 : decode cX9_init 12 = .ok (.aload_n 0, 1) := by decide +kernel
theorem dX9_init_13 : decode cX9_init 13 = .ok (.iconst 5, 1) := by decide +kernel
theorem dX9_init_14 : decode cX9_init 14 = .ok (.newarray .int, 2) := by decide +kernel
theorem dX9_init_16 : decode cX9_init 16 = .ok (.putfield 15, 3) := by decide +kernel
theorem dX9_init_19 : decode cX9_init 19 = .ok (.aload_n 0, 1) := by decide +kernel
theorem dX9_init_20 : decode cX9_init 20 = .ok (.bipush 12, 2) := by decide +kernel
theorem dX9_init_22 : decode cX9_init 22 = .ok (.newarray .int, 2) := by decide +kernel
theorem dX9_init_24 : decode cX9_init 24 = .ok (.putfield 18, 3) := by decide +kernel
theorem dX9_init_27 : decode cX9_init 27 = .ok (.aload_n 0, 1) := by decide +kernel
theorem dX9_init_28 : decode cX9_init 28 = .ok (.bipush 12, 2) := by decide +kernel
theorem dX9_init_30 : decode cX9_init 30 = .ok (.newarray .int, 2) := by decide +kernel
theorem dX9_init_32 : decode cX9_init 32 = .ok (.putfield 21, 3) := by decide +kernel
theorem dX9_init_35 : decode cX9_init 35 = .ok (.aload_n 0, 1) := by decide +kernel
theorem dX9_init_36 : decode cX9_init 36 = .ok (.bipush 12, 2) := by decide +kernel
theorem dX9_init_38 : decode cX9_init 38 = .ok (.newarray .int, 2) := by decide +kernel
theorem dX9_init_40 : decode cX9_init 40 = .ok (.putfield 24, 3) := by decide +kernel
theorem dX9_init_43 : decode cX9_init 43 = .ok (.aload_n 0, 1) := by decide +kernel
theorem dX9_init_44 : decode cX9_init 44 = .ok (.bipush 12, 2) := by decide +kernel
theorem dX9_init_46 : decode cX9_init 46 = .ok (.newarray .int, 2) := by decide +kernel
theorem dX9_init_48 : decode cX9_init 48 = .ok (.putfield 27, 3) := by decide +kernel
theorem dX9_init_51 : decode cX9_init 51 = .ok (.aload_n 0, 1) := by decide +kernel
theorem dX9_init_52 : decode cX9_init 52 = .ok (.iconst 3, 1) := by decide +kernel
theorem dX9_init_53 : decode cX9_init 53 = .ok (.newarray .int, 2) := by decide +kernel
theorem dX9_init_55 : decode cX9_init 55 = .ok (.putfield 30, 3) := by decide +kernel
theorem dX9_init_58 : decode cX9_init 58 = .ok (.aload_n 0, 1) := by decide +kernel
theorem dX9_init_59 : decode cX9_init 59 = .ok (.invokevirtual 33, 3) := by decide +kernel
theorem dX9_init_62 : decode cX9_init 62 = .ok (.return_, 1) := by decide +kernel
theorem ko_RX9_3 : Cond.methodLink RX9 3 Lib.objectInit ∈ aU ∧ Cond.instanceMethod Lib.objectInit ∈ aU ∧ Cond.code Lib.objectInit ⟨#[0xb1]⟩ 1 none ∈ aU := ⟨aU_2 5 rfl rfl, aU_1 32 rfl rfl, aU_1 33 rfl rfl⟩
def sh_114 : List aSh := sh_113 ++ [.inl (1, 12, [])]
def sh_115 : List aSh := sh_114.set 40 (.inr (9, [some (some 41), some none, none, none, none, some none, some none, some none, some none, some none]))
def sh_116 : List aSh := sh_115 ++ [.inl (1, 5, [])]
def sh_117 : List aSh := sh_116.set 40 (.inr (9, [some (some 41), some (some 42), none, none, none, some none, some none, some none, some none, some none]))
def sh_118 : List aSh := sh_117 ++ [.inl (1, 12, [])]
def sh_119 : List aSh := sh_118.set 40 (.inr (9, [some (some 41), some (some 42), none, none, none, some (some 43), some none, some none, some none, some none]))
def sh_120 : List aSh := sh_119 ++ [.inl (1, 12, [])]
def sh_121 : List aSh := sh_120.set 40 (.inr (9, [some (some 41), some (some 42), none, none, none, some (some 43), some (some 44), some none, some none, some none]))
def sh_122 : List aSh := sh_121 ++ [.inl (1, 12, [])]
def sh_123 : List aSh := sh_122.set 40 (.inr (9, [some (some 41), some (some 42), none, none, none, some (some 43), some (some 44), some (some 45), some none, some none]))
def sh_124 : List aSh := sh_123 ++ [.inl (1, 12, [])]
def sh_125 : List aSh := sh_124.set 40 (.inr (9, [some (some 41), some (some 42), none, none, none, some (some 43), some (some 44), some (some 45), some (some 46), some none]))
def sh_126 : List aSh := sh_125 ++ [.inl (1, 3, [])]
def sh_127 : List aSh := sh_126.set 40 (.inr (9, [some (some 41), some (some 42), none, none, none, some (some 43), some (some 44), some (some 45), some (some 46), some (some 47)]))
def sh_128 : List aSh := [.inr (11, [some (some 1), none, none, some (some 2), some (some 21), some none, some none, none, some none, some none, some none, some none, some none, some none]), .inl (0, 700, []), .inr (6, [some (some 3), some (some 7), none, none, none, none, none, none, none, none, some (some 8), some (some 9), some (some 10), some (some 11), some (some 12), some (some 13), some (some 14)]), .inr (4, [none, none, some (some 4), some (some 5), some (some 6)]), .inl (1, 64, []), .inl (1, 64, []), .inl (3, 64, []), .inl (4, 6, [some 15, some 16, some 17, some 18, some 19, some 20]), .inl (1, 12, []), .inl (1, 12, []), .inl (1, 12, []), .inl (1, 5, []), .inl (1, 36, []), .inl (3, 6, []), .inl (1, 5, []), .inr (8, [none, none, none, none, none, none, none]), .inr (8, [none, none, none, none, none, none, none]), .inr (8, [none, none, none, none, none, none, none]), .inr (8, [none, none, none, none, none, none, none]), .inr (8, [none, none, none, none, none, none, none]), .inr (8, [none, none, none, none, none, none, none]), .inr (6, [some (some 22), some (some 26), none, none, none, none, none, none, none, none, some (some 27), some (some 28), some (some 29), some (some 30), some (some 31), some (some 32), some (some 33)]), .inr (4, [none, none, some (some 23), some (some 24), some (some 25)]), .inl (1, 64, []), .inl (1, 64, []), .inl (3, 64, []), .inl (4, 6, [some 34, some 35, some 36, some 37, some 38, some 39]), .inl (1, 12, []), .inl (1, 12, []), .inl (1, 12, []), .inl (1, 5, []), .inl (1, 36, []), .inl (3, 6, []), .inl (1, 5, []), .inr (8, [none, none, none, none, none, none, none]), .inr (8, [none, none, none, none, none, none, none]), .inr (8, [none, none, none, none, none, none, none]), .inr (8, [none, none, none, none, none, none, none]), .inr (8, [none, none, none, none, none, none, none]), .inr (8, [none, none, none, none, none, none, none]), .inr (9, [some (some 41), some (some 42), none, none, none, some (some 43), some (some 44), some (some 45), some (some 46), some (some 47)]), .inl (1, 12, []), .inl (1, 5, []), .inl (1, 12, []), .inl (1, 12, []), .inl (1, 12, []), .inl (1, 12, []), .inl (1, 3, [])]
def f_new_X9_40 (D : aD) : Option aD :=
  aLet (z0 D 41) (fun D_1 => aLet (z0 D_1 42) (fun D_2 => aLet (z0 D_2 43) (fun D_3 => aLet (z0 D_3 44) (fun D_4 => aLet (z0 D_4 45) (fun D_5 => aLet (z0 D_5 46) (fun D_6 => aLet (z0 D_6 47) (fun D_7 => (f_X9_reset_40 D_7).bind (fun D_8 => some D_8))))))))
set_option maxRecDepth 100000 in
set_option maxHeartbeats 4000000 in
theorem c_new_X9_40 {G : aG} (hG : gOK G) (hN : gNest G) {D : aD} {K : aD → Prop} (h : Ok (f_new_X9_40 D) K) : AC G (aRm 3 7 68) M_X9_init [.ref 40] (some 41) sh_113 D (aQv sh_128 K) := by
  unfold f_new_X9_40 at h
  refine AC.of (al := [some (.ref 40)]) (r := 0) (by decide) (Nat.le_of_ble_eq_true rfl) rfl ?_
  refine aw_aload_n (n := 1) (i := 0) dX9_init_0 rfl rfl rfl ?_
  refine aw_objInit (M := M_X9_init) (n := 4) ko_RX9_3.1 ko_RX9_3.2.1 ko_RX9_3.2.2 (by decide) (by decide) dX9_init_1 rfl ?_
  refine aw_aload_n (n := 5) (i := 0) dX9_init_4 rfl rfl rfl ?_
  refine aw_bipush (n := 7) (v := 12) dX9_init_5 rfl (by decide) ?_
  obtain ⟨D_1, e_D_1, h⟩ := Ok.let_ h
  refine aw_newa (M := M_X9_init) (n := 9) (t := 1) (N := 12) (ty := .int) (L := 41) (n0 := 41) (shp' := sh_114) (D' := D_1) hG.1 rfl rfl rfl (by decide) aw_int rfl rfl (fun _ _ h => h) (at_z1) (by decide) rfl (by decide) (by decide) (by decide) dX9_init_7 rfl rfl (kc' := 1) (ks' := 12) rfl rfl e_D_1 ?_
  refine aw_putR (M := M_X9_init) (n := 12) (j := 0) (k := 40) (r := 41) (shp' := sh_115) hG.1 fl_RX9_9 ⟨rfl, fun _ => ⟨rfl, rfl⟩⟩ ⟨_, _, rfl⟩ rfl (fs := [some none, some none, none, none, none, some none, some none, some none, some none, some none]) (rfl : sh_114[40]? = _) (by decide) rfl dX9_init_9 rfl ?_
  refine aw_aload_n (n := 13) (i := 0) dX9_init_12 rfl rfl rfl ?_
  refine aw_iconst (n := 14) (v := 5) dX9_init_13 rfl (by decide) ?_
  obtain ⟨D_2, e_D_2, h⟩ := Ok.let_ h
  refine aw_newa (M := M_X9_init) (n := 16) (t := 1) (N := 5) (ty := .int) (L := 42) (n0 := 41) (shp' := sh_116) (D' := D_2) hG.1 rfl rfl rfl (by decide) aw_int rfl rfl (fun _ _ h => h) (at_z1) (by decide) rfl (by decide) (by decide) (by decide) dX9_init_14 rfl rfl (kc' := 2) (ks' := 17) rfl rfl e_D_2 ?_
  refine aw_putR (M := M_X9_init) (n := 19) (j := 1) (k := 40) (r := 42) (shp' := sh_117) hG.1 fl_RX9_15 ⟨rfl, fun _ => ⟨rfl, rfl⟩⟩ ⟨_, _, rfl⟩ rfl (fs := [some (some 41), some none, none, none, none, some none, some none, some none, some none, some none]) (rfl : sh_116[40]? = _) (by decide) rfl dX9_init_16 rfl ?_
  refine aw_aload_n (n := 20) (i := 0) dX9_init_19 rfl rfl rfl ?_
  refine aw_bipush (n := 22) (v := 12) dX9_init_20 rfl (by decide) ?_
  obtain ⟨D_3, e_D_3, h⟩ := Ok.let_ h
  refine aw_newa (M := M_X9_init) (n := 24) (t := 1) (N := 12) (ty := .int) (L := 43) (n0 := 41) (shp' := sh_118) (D' := D_3) hG.1 rfl rfl rfl (by decide) aw_int rfl rfl (fun _ _ h => h) (at_z1) (by decide) rfl (by decide) (by decide) (by decide) dX9_init_22 rfl rfl (kc' := 3) (ks' := 29) rfl rfl e_D_3 ?_
  refine aw_putR (M := M_X9_init) (n := 27) (j := 5) (k := 40) (r := 43) (shp' := sh_119) hG.1 fl_RX9_18 ⟨rfl, fun _ => ⟨rfl, rfl⟩⟩ ⟨_, _, rfl⟩ rfl (fs := [some (some 41), some (some 42), none, none, none, some none, some none, some none, some none, some none]) (rfl : sh_118[40]? = _) (by decide) rfl dX9_init_24 rfl ?_
  refine aw_aload_n (n := 28) (i := 0) dX9_init_27 rfl rfl rfl ?_
  refine aw_bipush (n := 30) (v := 12) dX9_init_28 rfl (by decide) ?_
  obtain ⟨D_4, e_D_4, h⟩ := Ok.let_ h
  refine aw_newa (M := M_X9_init) (n := 32) (t := 1) (N := 12) (ty := .int) (L := 44) (n0 := 41) (shp' := sh_120) (D' := D_4) hG.1 rfl rfl rfl (by decide) aw_int rfl rfl (fun _ _ h => h) (at_z1) (by decide) rfl (by decide) (by decide) (by decide) dX9_init_30 rfl rfl (kc' := 4) (ks' := 41) rfl rfl e_D_4 ?_
  refine aw_putR (M := M_X9_init) (n := 35) (j := 6) (k := 40) (r := 44) (shp' := sh_121) hG.1 fl_RX9_21 ⟨rfl, fun _ => ⟨rfl, rfl⟩⟩ ⟨_, _, rfl⟩ rfl (fs := [some (some 41), some (some 42), none, none, none, some (some 43), some none, some none, some none, some none]) (rfl : sh_120[40]? = _) (by decide) rfl dX9_init_32 rfl ?_
  refine aw_aload_n (n := 36) (i := 0) dX9_init_35 rfl rfl rfl ?_
  refine aw_bipush (n := 38) (v := 12) dX9_init_36 rfl (by decide) ?_
  obtain ⟨D_5, e_D_5, h⟩ := Ok.let_ h
  refine aw_newa (M := M_X9_init) (n := 40) (t := 1) (N := 12) (ty := .int) (L := 45) (n0 := 41) (shp' := sh_122) (D' := D_5) hG.1 rfl rfl rfl (by decide) aw_int rfl rfl (fun _ _ h => h) (at_z1) (by decide) rfl (by decide) (by decide) (by decide) dX9_init_38 rfl rfl (kc' := 5) (ks' := 53) rfl rfl e_D_5 ?_
  refine aw_putR (M := M_X9_init) (n := 43) (j := 7) (k := 40) (r := 45) (shp' := sh_123) hG.1 fl_RX9_24 ⟨rfl, fun _ => ⟨rfl, rfl⟩⟩ ⟨_, _, rfl⟩ rfl (fs := [some (some 41), some (some 42), none, none, none, some (some 43), some (some 44), some none, some none, some none]) (rfl : sh_122[40]? = _) (by decide) rfl dX9_init_40 rfl ?_
  refine aw_aload_n (n := 44) (i := 0) dX9_init_43 rfl rfl rfl ?_
  refine aw_bipush (n := 46) (v := 12) dX9_init_44 rfl (by decide) ?_
  obtain ⟨D_6, e_D_6, h⟩ := Ok.let_ h
  refine aw_newa (M := M_X9_init) (n := 48) (t := 1) (N := 12) (ty := .int) (L := 46) (n0 := 41) (shp' := sh_124) (D' := D_6) hG.1 rfl rfl rfl (by decide) aw_int rfl rfl (fun _ _ h => h) (at_z1) (by decide) rfl (by decide) (by decide) (by decide) dX9_init_46 rfl rfl (kc' := 6) (ks' := 65) rfl rfl e_D_6 ?_
  refine aw_putR (M := M_X9_init) (n := 51) (j := 8) (k := 40) (r := 46) (shp' := sh_125) hG.1 fl_RX9_27 ⟨rfl, fun _ => ⟨rfl, rfl⟩⟩ ⟨_, _, rfl⟩ rfl (fs := [some (some 41), some (some 42), none, none, none, some (some 43), some (some 44), some (some 45), some none, some none]) (rfl : sh_124[40]? = _) (by decide) rfl dX9_init_48 rfl ?_
  refine aw_aload_n (n := 52) (i := 0) dX9_init_51 rfl rfl rfl ?_
  refine aw_iconst (n := 53) (v := 3) dX9_init_52 rfl (by decide) ?_
  obtain ⟨D_7, e_D_7, h⟩ := Ok.let_ h
  refine aw_newa (M := M_X9_init) (n := 55) (t := 1) (N := 3) (ty := .int) (L := 47) (n0 := 41) (shp' := sh_126) (D' := D_7) hG.1 rfl rfl rfl (by decide) aw_int rfl rfl (fun _ _ h => h) (at_z1) (by decide) rfl (by decide) (by decide) (by decide) dX9_init_53 rfl rfl (kc' := 7) (ks' := 68) rfl rfl e_D_7 ?_
  refine aw_putR (M := M_X9_init) (n := 58) (j := 9) (k := 40) (r := 47) (shp' := sh_127) hG.1 fl_RX9_30 ⟨rfl, fun _ => ⟨rfl, rfl⟩⟩ ⟨_, _, rfl⟩ rfl (fs := [some (some 41), some (some 42), none, none, none, some (some 43), some (some 44), some (some 45), some (some 46), some none]) (rfl : sh_126[40]? = _) (by decide) rfl dX9_init_55 rfl ?_
  refine aw_aload_n (n := 59) (i := 0) dX9_init_58 rfl rfl rfl ?_
  refine aw_cVv (M := M_X9_init) (n := 62) (As := []) (rest := []) hG.1 lk_RX9_33 rfl rfl (rfl : sh_127[40]? = _) (c_X9_reset_40 hG (h := Ok.bind h) (rfl : sh_127[40]? = _) (rfl : sh_127[41]? = _) (rfl : sh_127[42]? = _)) (by decide) (Nat.le_of_ble_eq_true rfl) (by decide) (by decide) dX9_init_59 rfl (fun D_8 h => ?_)
  exact aw_vret rfl (by decide) (by decide) dX9_init_62 ⟨rfl, (rfl : sh_127 = sh_128), (Ok.dn h :)⟩
theorem ki_RX11_29 : aLkI RX11 29 9 M_X9_init ∧ aNp M_X9_init = some 0 := ⟨⟨aU_2 2 rfl rfl, aU_2 3 rfl rfl, aU_1 6 rfl rfl, aU_2 4 rfl rfl, rfl, rfl, ⟨by decide +kernel, by decide +kernel⟩⟩, by decide +kernel⟩
def sh_129 : List aSh := sh_128.set 0 (.inr (11, [some (some 1), none, none, some (some 2), some (some 21), some (some 40), some none, none, some none, some none, some none, some none, some none, some none]))
def sh_130 : List aSh := sh_129 ++ [.inr (9, [some none, some none, none, none, none, some none, some none, some none, some none, some none])]
def sh_131 : List aSh := [.inr (11, [some (some 1), none, none, some (some 2), some (some 21), some (some 40), some none, none, some none, some none, some none, some none, some none, some none]), .inl (0, 700, []), .inr (6, [some (some 3), some (some 7), none, none, none, none, none, none, none, none, some (some 8), some (some 9), some (some 10), some (some 11), some (some 12), some (some 13), some (some 14)]), .inr (4, [none, none, some (some 4), some (some 5), some (some 6)]), .inl (1, 64, []), .inl (1, 64, []), .inl (3, 64, []), .inl (4, 6, [some 15, some 16, some 17, some 18, some 19, some 20]), .inl (1, 12, []), .inl (1, 12, []), .inl (1, 12, []), .inl (1, 5, []), .inl (1, 36, []), .inl (3, 6, []), .inl (1, 5, []), .inr (8, [none, none, none, none, none, none, none]), .inr (8, [none, none, none, none, none, none, none]), .inr (8, [none, none, none, none, none, none, none]), .inr (8, [none, none, none, none, none, none, none]), .inr (8, [none, none, none, none, none, none, none]), .inr (8, [none, none, none, none, none, none, none]), .inr (6, [some (some 22), some (some 26), none, none, none, none, none, none, none, none, some (some 27), some (some 28), some (some 29), some (some 30), some (some 31), some (some 32), some (some 33)]), .inr (4, [none, none, some (some 23), some (some 24), some (some 25)]), .inl (1, 64, []), .inl (1, 64, []), .inl (3, 64, []), .inl (4, 6, [some 34, some 35, some 36, some 37, some 38, some 39]), .inl (1, 12, []), .inl (1, 12, []), .inl (1, 12, []), .inl (1, 5, []), .inl (1, 36, []), .inl (3, 6, []), .inl (1, 5, []), .inr (8, [none, none, none, none, none, none, none]), .inr (8, [none, none, none, none, none, none, none]), .inr (8, [none, none, none, none, none, none, none]), .inr (8, [none, none, none, none, none, none, none]), .inr (8, [none, none, none, none, none, none, none]), .inr (8, [none, none, none, none, none, none, none]), .inr (9, [some (some 41), some (some 42), none, none, none, some (some 43), some (some 44), some (some 45), some (some 46), some (some 47)]), .inl (1, 12, []), .inl (1, 5, []), .inl (1, 12, []), .inl (1, 12, []), .inl (1, 12, []), .inl (1, 12, []), .inl (1, 3, []), .inr (9, [some none, some none, none, none, none, some none, some none, some none, some none, some none])]
def sh_132 : List aSh := sh_131 ++ [.inl (1, 12, [])]
def sh_133 : List aSh := sh_132.set 48 (.inr (9, [some (some 49), some none, none, none, none, some none, some none, some none, some none, some none]))
def sh_134 : List aSh := sh_133 ++ [.inl (1, 5, [])]
def sh_135 : List aSh := sh_134.set 48 (.inr (9, [some (some 49), some (some 50), none, none, none, some none, some none, some none, some none, some none]))
def sh_136 : List aSh := sh_135 ++ [.inl (1, 12, [])]
def sh_137 : List aSh := sh_136.set 48 (.inr (9, [some (some 49), some (some 50), none, none, none, some (some 51), some none, some none, some none, some none]))
def sh_138 : List aSh := sh_137 ++ [.inl (1, 12, [])]
def sh_139 : List aSh := sh_138.set 48 (.inr (9, [some (some 49), some (some 50), none, none, none, some (some 51), some (some 52), some none, some none, some none]))
def sh_140 : List aSh := sh_139 ++ [.inl (1, 12, [])]
def sh_141 : List aSh := sh_140.set 48 (.inr (9, [some (some 49), some (some 50), none, none, none, some (some 51), some (some 52), some (some 53), some none, some none]))
def sh_142 : List aSh := sh_141 ++ [.inl (1, 12, [])]
def sh_143 : List aSh := sh_142.set 48 (.inr (9, [some (some 49), some (some 50), none, none, none, some (some 51), some (some 52), some (some 53), some (some 54), some none]))
def sh_144 : List aSh := sh_143 ++ [.inl (1, 3, [])]
def sh_145 : List aSh := sh_144.set 48 (.inr (9, [some (some 49), some (some 50), none, none, none, some (some 51), some (some 52), some (some 53), some (some 54), some (some 55)]))
def sh_146 : List aSh := [.inr (11, [some (some 1), none, none, some (some 2), some (some 21), some (some 40), some none, none, some none, some none, some none, some none, some none, some none]), .inl (0, 700, []), .inr (6, [some (some 3), some (some 7), none, none, none, none, none, none, none, none, some (some 8), some (some 9), some (some 10), some (some 11), some (some 12), some (some 13), some (some 14)]), .inr (4, [none, none, some (some 4), some (some 5), some (some 6)]), .inl (1, 64, []), .inl (1, 64, []), .inl (3, 64, []), .inl (4, 6, [some 15, some 16, some 17, some 18, some 19, some 20]), .inl (1, 12, []), .inl (1, 12, []), .inl (1, 12, []), .inl (1, 5, []), .inl (1, 36, []), .inl (3, 6, []), .inl (1, 5, []), .inr (8, [none, none, none, none, none, none, none]), .inr (8, [none, none, none, none, none, none, none]), .inr (8, [none, none, none, none, none, none, none]), .inr (8, [none, none, none, none, none, none, none]), .inr (8, [none, none, none, none, none, none, none]), .inr (8, [none, none, none, none, none, none, none]), .inr (6, [some (some 22), some (some 26), none, none, none, none, none, none, none, none, some (some 27), some (some 28), some (some 29), some (some 30), some (some 31), some (some 32), some (some 33)]), .inr (4, [none, none, some (some 23), some (some 24), some (some 25)]), .inl (1, 64, []), .inl (1, 64, []), .inl (3, 64, []), .inl (4, 6, [some 34, some 35, some 36, some 37, some 38, some 39]), .inl (1, 12, []), .inl (1, 12, []), .inl (1, 12, []), .inl (1, 5, []), .inl (1, 36, []), .inl (3, 6, []), .inl (1, 5, []), .inr (8, [none, none, none, none, none, none, none]), .inr (8, [none, none, none, none, none, none, none]), .inr (8, [none, none, none, none, none, none, none]), .inr (8, [none, none, none, none, none, none, none]), .inr (8, [none, none, none, none, none, none, none]), .inr (8, [none, none, none, none, none, none, none]), .inr (9, [some (some 41), some (some 42), none, none, none, some (some 43), some (some 44), some (some 45), some (some 46), some (some 47)]), .inl (1, 12, []), .inl (1, 5, []), .inl (1, 12, []), .inl (1, 12, []), .inl (1, 12, []), .inl (1, 12, []), .inl (1, 3, []), .inr (9, [some (some 49), some (some 50), none, none, none, some (some 51), some (some 52), some (some 53), some (some 54), some (some 55)]), .inl (1, 12, []), .inl (1, 5, []), .inl (1, 12, []), .inl (1, 12, []), .inl (1, 12, []), .inl (1, 12, []), .inl (1, 3, [])]
def f_new_X9_48 (D : aD) : Option aD :=
  aLet (z0 D 49) (fun D_1 => aLet (z0 D_1 50) (fun D_2 => aLet (z0 D_2 51) (fun D_3 => aLet (z0 D_3 52) (fun D_4 => aLet (z0 D_4 53) (fun D_5 => aLet (z0 D_5 54) (fun D_6 => aLet (z0 D_6 55) (fun D_7 => (f_X9_reset_48 D_7).bind (fun D_8 => some D_8))))))))
set_option maxRecDepth 100000 in
set_option maxHeartbeats 4000000 in
theorem c_new_X9_48 {G : aG} (hG : gOK G) (hN : gNest G) {D : aD} {K : aD → Prop} (h : Ok (f_new_X9_48 D) K) : AC G (aRm 3 7 68) M_X9_init [.ref 48] (some 49) sh_131 D (aQv sh_146 K) := by
  unfold f_new_X9_48 at h
  refine AC.of (al := [some (.ref 48)]) (r := 0) (by decide) (Nat.le_of_ble_eq_true rfl) rfl ?_
  refine aw_aload_n (n := 1) (i := 0) dX9_init_0 rfl rfl rfl ?_
  refine aw_objInit (M := M_X9_init) (n := 4) ko_RX9_3.1 ko_RX9_3.2.1 ko_RX9_3.2.2 (by decide) (by decide) dX9_init_1 rfl ?_
  refine aw_aload_n (n := 5) (i := 0) dX9_init_4 rfl rfl rfl ?_
  refine aw_bipush (n := 7) (v := 12) dX9_init_5 rfl (by decide) ?_
  obtain ⟨D_1, e_D_1, h⟩ := Ok.let_ h
  refine aw_newa (M := M_X9_init) (n := 9) (t := 1) (N := 12) (ty := .int) (L := 49) (n0 := 49) (shp' := sh_132) (D' := D_1) hG.1 rfl rfl rfl (by decide) aw_int rfl rfl (fun _ _ h => h) (at_z1) (by decide) rfl (by decide) (by decide) (by decide) dX9_init_7 rfl rfl (kc' := 1) (ks' := 12) rfl rfl e_D_1 ?_
  refine aw_putR (M := M_X9_init) (n := 12) (j := 0) (k := 48) (r := 49) (shp' := sh_133) hG.1 fl_RX9_9 ⟨rfl, fun _ => ⟨rfl, rfl⟩⟩ ⟨_, _, rfl⟩ rfl (fs := [some none, some none, none, none, none, some none, some none, some none, some none, some none]) (rfl : sh_132[48]? = _) (by decide) rfl dX9_init_9 rfl ?_
  refine aw_aload_n (n := 13) (i := 0) dX9_init_12 rfl rfl rfl ?_
  refine aw_iconst (n := 14) (v := 5) dX9_init_13 rfl (by decide) ?_
  obtain ⟨D_2, e_D_2, h⟩ := Ok.let_ h
  refine aw_newa (M := M_X9_init) (n := 16) (t := 1) (N := 5) (ty := .int) (L := 50) (n0 := 49) (shp' := sh_134) (D' := D_2) hG.1 rfl rfl rfl (by decide) aw_int rfl rfl (fun _ _ h => h) (at_z1) (by decide) rfl (by decide) (by decide) (by decide) dX9_init_14 rfl rfl (kc' := 2) (ks' := 17) rfl rfl e_D_2 ?_
  refine aw_putR (M := M_X9_init) (n := 19) (j := 1) (k := 48) (r := 50) (shp' := sh_135) hG.1 fl_RX9_15 ⟨rfl, fun _ => ⟨rfl, rfl⟩⟩ ⟨_, _, rfl⟩ rfl (fs := [some (some 49), some none, none, none, none, some none, some none, some none, some none, some none]) (rfl : sh_134[48]? = _) (by decide) rfl dX9_init_16 rfl ?_
  refine aw_aload_n (n := 20) (i := 0) dX9_init_19 rfl rfl rfl ?_
  refine aw_bipush (n := 22) (v := 12) dX9_init_20 rfl (by decide) ?_
  obtain ⟨D_3, e_D_3, h⟩ := Ok.let_ h
  refine aw_newa (M := M_X9_init) (n := 24) (t := 1) (N := 12) (ty := .int) (L := 51) (n0 := 49) (shp' := sh_136) (D' := D_3) hG.1 rfl rfl rfl (by decide) aw_int rfl rfl (fun _ _ h => h) (at_z1) (by decide) rfl (by decide) (by decide) (by decide) dX9_init_22 rfl rfl (kc' := 3) (ks' := 29) rfl rfl e_D_3 ?_
  refine aw_putR (M := M_X9_init) (n := 27) (j := 5) (k := 48) (r := 51) (shp' := sh_137) hG.1 fl_RX9_18 ⟨rfl, fun _ => ⟨rfl, rfl⟩⟩ ⟨_, _, rfl⟩ rfl (fs := [some (some 49), some (some 50), none, none, none, some none, some none, some none, some none, some none]) (rfl : sh_136[48]? = _) (by decide) rfl dX9_init_24 rfl ?_
  refine aw_aload_n (n := 28) (i := 0) dX9_init_27 rfl rfl rfl ?_
  refine aw_bipush (n := 30) (v := 12) dX9_init_28 rfl (by decide) ?_
  obtain ⟨D_4, e_D_4, h⟩ := Ok.let_ h
  refine aw_newa (M := M_X9_init) (n := 32) (t := 1) (N := 12) (ty := .int) (L := 52) (n0 := 49) (shp' := sh_138) (D' := D_4) hG.1 rfl rfl rfl (by decide) aw_int rfl rfl (fun _ _ h => h) (at_z1) (by decide) rfl (by decide) (by decide) (by decide) dX9_init_30 rfl rfl (kc' := 4) (ks' := 41) rfl rfl e_D_4 ?_
  refine aw_putR (M := M_X9_init) (n := 35) (j := 6) (k := 48) (r := 52) (shp' := sh_139) hG.1 fl_RX9_21 ⟨rfl, fun _ => ⟨rfl, rfl⟩⟩ ⟨_, _, rfl⟩ rfl (fs := [some (some 49), some (some 50), none, none, none, some (some 51), some none, some none, some none, some none]) (rfl : sh_138[48]? = _) (by decide) rfl dX9_init_32 rfl ?_
  refine aw_aload_n (n := 36) (i := 0) dX9_init_35 rfl rfl rfl ?_
  refine aw_bipush (n := 38) (v := 12) dX9_init_36 rfl (by decide) ?_
  obtain ⟨D_5, e_D_5, h⟩ := Ok.let_ h
  refine aw_newa (M := M_X9_init) (n := 40) (t := 1) (N := 12) (ty := .int) (L := 53) (n0 := 49) (shp' := sh_140) (D' := D_5) hG.1 rfl rfl rfl (by decide) aw_int rfl rfl (fun _ _ h => h) (at_z1) (by decide) rfl (by decide) (by decide) (by decide) dX9_init_38 rfl rfl (kc' := 5) (ks' := 53) rfl rfl e_D_5 ?_
  refine aw_putR (M := M_X9_init) (n := 43) (j := 7) (k := 48) (r := 53) (shp' := sh_141) hG.1 fl_RX9_24 ⟨rfl, fun _ => ⟨rfl, rfl⟩⟩ ⟨_, _, rfl⟩ rfl (fs := [some (some 49), some (some 50), none, none, none, some (some 51), some (some 52), some none, some none, some none]) (rfl : sh_140[48]? = _) (by decide) rfl dX9_init_40 rfl ?_
  refine aw_aload_n (n := 44) (i := 0) dX9_init_43 rfl rfl rfl ?_
  refine aw_bipush (n := 46) (v := 12) dX9_init_44 rfl (by decide) ?_
  obtain ⟨D_6, e_D_6, h⟩ := Ok.let_ h
  refine aw_newa (M := M_X9_init) (n := 48) (t := 1) (N := 12) (ty := .int) (L := 54) (n0 := 49) (shp' := sh_142) (D' := D_6) hG.1 rfl rfl rfl (by decide) aw_int rfl rfl (fun _ _ h => h) (at_z1) (by decide) rfl (by decide) (by decide) (by decide) dX9_init_46 rfl rfl (kc' := 6) (ks' := 65) rfl rfl e_D_6 ?_
  refine aw_putR (M := M_X9_init) (n := 51) (j := 8) (k := 48) (r := 54) (shp' := sh_143) hG.1 fl_RX9_27 ⟨rfl, fun _ => ⟨rfl, rfl⟩⟩ ⟨_, _, rfl⟩ rfl (fs := [some (some 49), some (some 50), none, none, none, some (some 51), some (some 52), some (some 53), some none, some none]) (rfl : sh_142[48]? = _) (by decide) rfl dX9_init_48 rfl ?_
  refine aw_aload_n (n := 52) (i := 0) dX9_init_51 rfl rfl rfl ?_
  refine aw_iconst (n := 53) (v := 3) dX9_init_52 rfl (by decide) ?_
  obtain ⟨D_7, e_D_7, h⟩ := Ok.let_ h
  refine aw_newa (M := M_X9_init) (n := 55) (t := 1) (N := 3) (ty := .int) (L := 55) (n0 := 49) (shp' := sh_144) (D' := D_7) hG.1 rfl rfl rfl (by decide) aw_int rfl rfl (fun _ _ h => h) (at_z1) (by decide) rfl (by decide) (by decide) (by decide) dX9_init_53 rfl rfl (kc' := 7) (ks' := 68) rfl rfl e_D_7 ?_
  refine aw_putR (M := M_X9_init) (n := 58) (j := 9) (k := 48) (r := 55) (shp' := sh_145) hG.1 fl_RX9_30 ⟨rfl, fun _ => ⟨rfl, rfl⟩⟩ ⟨_, _, rfl⟩ rfl (fs := [some (some 49), some (some 50), none, none, none, some (some 51), some (some 52), some (some 53), some (some 54), some none]) (rfl : sh_144[48]? = _) (by decide) rfl dX9_init_55 rfl ?_
  refine aw_aload_n (n := 59) (i := 0) dX9_init_58 rfl rfl rfl ?_
  refine aw_cVv (M := M_X9_init) (n := 62) (As := []) (rest := []) hG.1 lk_RX9_33 rfl rfl (rfl : sh_145[48]? = _) (c_X9_reset_48 hG (h := Ok.bind h) (rfl : sh_145[48]? = _) (rfl : sh_145[49]? = _) (rfl : sh_145[50]? = _)) (by decide) (Nat.le_of_ble_eq_true rfl) (by decide) (by decide) dX9_init_59 rfl (fun D_8 h => ?_)
  exact aw_vret rfl (by decide) (by decide) dX9_init_62 ⟨rfl, (rfl : sh_145 = sh_146), (Ok.dn h :)⟩
def sh_147 : List aSh := sh_146.set 0 (.inr (11, [some (some 1), none, none, some (some 2), some (some 21), some (some 40), some (some 48), none, some none, some none, some none, some none, some none, some none]))
def sh_148 : List aSh := sh_147 ++ [.inr (7, [some none, some none, none, none, none, none, none, none, none])]
theorem kw_RX11_37 : Cond.classLink RX11 37 "NoseTown$Reader" ∈ aU ∧ Cond.instantiable "NoseTown$Reader" 9 ∈ aU ∧ Cond.initialized "NoseTown$Reader" ∈ aU := ⟨aU_2 61 rfl rfl, aU_2 62 rfl rfl, aU_1 7 rfl rfl⟩
def sh_149 : List aSh := [.inr (11, [some (some 1), none, none, some (some 2), some (some 21), some (some 40), some (some 48), none, some none, some none, some none, some none, some none, some none]), .inl (0, 700, []), .inr (6, [some (some 3), some (some 7), none, none, none, none, none, none, none, none, some (some 8), some (some 9), some (some 10), some (some 11), some (some 12), some (some 13), some (some 14)]), .inr (4, [none, none, some (some 4), some (some 5), some (some 6)]), .inl (1, 64, []), .inl (1, 64, []), .inl (3, 64, []), .inl (4, 6, [some 15, some 16, some 17, some 18, some 19, some 20]), .inl (1, 12, []), .inl (1, 12, []), .inl (1, 12, []), .inl (1, 5, []), .inl (1, 36, []), .inl (3, 6, []), .inl (1, 5, []), .inr (8, [none, none, none, none, none, none, none]), .inr (8, [none, none, none, none, none, none, none]), .inr (8, [none, none, none, none, none, none, none]), .inr (8, [none, none, none, none, none, none, none]), .inr (8, [none, none, none, none, none, none, none]), .inr (8, [none, none, none, none, none, none, none]), .inr (6, [some (some 22), some (some 26), none, none, none, none, none, none, none, none, some (some 27), some (some 28), some (some 29), some (some 30), some (some 31), some (some 32), some (some 33)]), .inr (4, [none, none, some (some 23), some (some 24), some (some 25)]), .inl (1, 64, []), .inl (1, 64, []), .inl (3, 64, []), .inl (4, 6, [some 34, some 35, some 36, some 37, some 38, some 39]), .inl (1, 12, []), .inl (1, 12, []), .inl (1, 12, []), .inl (1, 5, []), .inl (1, 36, []), .inl (3, 6, []), .inl (1, 5, []), .inr (8, [none, none, none, none, none, none, none]), .inr (8, [none, none, none, none, none, none, none]), .inr (8, [none, none, none, none, none, none, none]), .inr (8, [none, none, none, none, none, none, none]), .inr (8, [none, none, none, none, none, none, none]), .inr (8, [none, none, none, none, none, none, none]), .inr (9, [some (some 41), some (some 42), none, none, none, some (some 43), some (some 44), some (some 45), some (some 46), some (some 47)]), .inl (1, 12, []), .inl (1, 5, []), .inl (1, 12, []), .inl (1, 12, []), .inl (1, 12, []), .inl (1, 12, []), .inl (1, 3, []), .inr (9, [some (some 49), some (some 50), none, none, none, some (some 51), some (some 52), some (some 53), some (some 54), some (some 55)]), .inl (1, 12, []), .inl (1, 5, []), .inl (1, 12, []), .inl (1, 12, []), .inl (1, 12, []), .inl (1, 12, []), .inl (1, 3, []), .inr (7, [some none, some none, none, none, none, none, none, none, none])]
def M_X7_init : aM := (yX7_init, cX7_init, 3, none, [])
theorem dX7_init_0 : decode cX7_init 0 = .ok (.aload_n 0, 1) := by decide +kernel
theorem dX7_init_1 : decode cX7_init 1 = .ok (.invokespecial 3, 3) := by decide +kernel
theorem dX7_init_4 : decode cX7_init 4 = .ok (.aload_n 0, 1) := by decide +kernel
theorem dX7_init_5 : decode cX7_init 5 = .ok (.aload_n 1, 1) := by decide +kernel
theorem dX7_init_6 : decode cX7_init 6 = .ok (.putfield 9, 3) := by decide +kernel
theorem dX7_init_9 : decode cX7_init 9 = .ok (.aload_n 0, 1) := by decide +kernel
theorem dX7_init_10 : decode cX7_init 10 = .ok (.aload_n 2, 1) := by decide +kernel
theorem dX7_init_11 : decode cX7_init 11 = .ok (.putfield 15, 3) := by decide +kernel
theorem dX7_init_14 : decode cX7_init 14 = .ok (.return_, 1) := by decide +kernel
theorem ko_RX7_3 : Cond.methodLink RX7 3 Lib.objectInit ∈ aU ∧ Cond.instanceMethod Lib.objectInit ∈ aU ∧ Cond.code Lib.objectInit ⟨#[0xb1]⟩ 1 none ∈ aU := ⟨aU_2 66 rfl rfl, aU_1 32 rfl rfl, aU_1 33 rfl rfl⟩
def sh_150 : List aSh := sh_149.set 56 (.inr (7, [some (some 1), some none, none, none, none, none, none, none, none]))
def sh_151 : List aSh := sh_150.set 56 (.inr (7, [some (some 1), some (some 21), none, none, none, none, none, none, none]))
def sh_152 : List aSh := [.inr (11, [some (some 1), none, none, some (some 2), some (some 21), some (some 40), some (some 48), none, some none, some none, some none, some none, some none, some none]), .inl (0, 700, []), .inr (6, [some (some 3), some (some 7), none, none, none, none, none, none, none, none, some (some 8), some (some 9), some (some 10), some (some 11), some (some 12), some (some 13), some (some 14)]), .inr (4, [none, none, some (some 4), some (some 5), some (some 6)]), .inl (1, 64, []), .inl (1, 64, []), .inl (3, 64, []), .inl (4, 6, [some 15, some 16, some 17, some 18, some 19, some 20]), .inl (1, 12, []), .inl (1, 12, []), .inl (1, 12, []), .inl (1, 5, []), .inl (1, 36, []), .inl (3, 6, []), .inl (1, 5, []), .inr (8, [none, none, none, none, none, none, none]), .inr (8, [none, none, none, none, none, none, none]), .inr (8, [none, none, none, none, none, none, none]), .inr (8, [none, none, none, none, none, none, none]), .inr (8, [none, none, none, none, none, none, none]), .inr (8, [none, none, none, none, none, none, none]), .inr (6, [some (some 22), some (some 26), none, none, none, none, none, none, none, none, some (some 27), some (some 28), some (some 29), some (some 30), some (some 31), some (some 32), some (some 33)]), .inr (4, [none, none, some (some 23), some (some 24), some (some 25)]), .inl (1, 64, []), .inl (1, 64, []), .inl (3, 64, []), .inl (4, 6, [some 34, some 35, some 36, some 37, some 38, some 39]), .inl (1, 12, []), .inl (1, 12, []), .inl (1, 12, []), .inl (1, 5, []), .inl (1, 36, []), .inl (3, 6, []), .inl (1, 5, []), .inr (8, [none, none, none, none, none, none, none]), .inr (8, [none, none, none, none, none, none, none]), .inr (8, [none, none, none, none, none, none, none]), .inr (8, [none, none, none, none, none, none, none]), .inr (8, [none, none, none, none, none, none, none]), .inr (8, [none, none, none, none, none, none, none]), .inr (9, [some (some 41), some (some 42), none, none, none, some (some 43), some (some 44), some (some 45), some (some 46), some (some 47)]), .inl (1, 12, []), .inl (1, 5, []), .inl (1, 12, []), .inl (1, 12, []), .inl (1, 12, []), .inl (1, 12, []), .inl (1, 3, []), .inr (9, [some (some 49), some (some 50), none, none, none, some (some 51), some (some 52), some (some 53), some (some 54), some (some 55)]), .inl (1, 12, []), .inl (1, 5, []), .inl (1, 12, []), .inl (1, 12, []), .inl (1, 12, []), .inl (1, 12, []), .inl (1, 3, []), .inr (7, [some (some 1), some (some 21), none, none, none, none, none, none, none])]
def f_new_X7_56 (D : aD) : Option aD :=
  some D
set_option maxRecDepth 100000 in
set_option maxHeartbeats 4000000 in
theorem c_new_X7_56 {G : aG} (hG : gOK G) (hN : gNest G) {D : aD} {K : aD → Prop} (h : Ok (f_new_X7_56 D) K) : AC G (aRm 2 0 0) M_X7_init [.ref 56, .ref 1, .ref 21] (some 57) sh_149 D (aQv sh_152 K) := by
  unfold f_new_X7_56 at h
  refine AC.of (al := [some (.ref 56), some (.ref 1), some (.ref 21)]) (r := 0) (by decide) (Nat.le_of_ble_eq_true rfl) rfl ?_
  refine aw_aload_n (n := 1) (i := 0) dX7_init_0 rfl rfl rfl ?_
  refine aw_objInit (M := M_X7_init) (n := 4) ko_RX7_3.1 ko_RX7_3.2.1 ko_RX7_3.2.2 (by decide) (by decide) dX7_init_1 rfl ?_
  refine aw_aload_n (n := 5) (i := 0) dX7_init_4 rfl rfl rfl ?_
  refine aw_aload_n (n := 6) (i := 1) dX7_init_5 rfl rfl rfl ?_
  refine aw_putR (M := M_X7_init) (n := 9) (j := 0) (k := 56) (r := 1) (shp' := sh_150) hG.1 fl_RX7_9 ⟨rfl, fun _ => ⟨rfl, rfl⟩⟩ ⟨_, _, rfl⟩ rfl (fs := [some none, some none, none, none, none, none, none, none, none]) (rfl : sh_149[56]? = _) (by decide) rfl dX7_init_6 rfl ?_
  refine aw_aload_n (n := 10) (i := 0) dX7_init_9 rfl rfl rfl ?_
  refine aw_aload_n (n := 11) (i := 2) dX7_init_10 rfl rfl rfl ?_
  refine aw_putR (M := M_X7_init) (n := 14) (j := 1) (k := 56) (r := 21) (shp' := sh_151) hG.1 fl_RX7_15 ⟨rfl, fun _ => ⟨rfl, rfl⟩⟩ ⟨_, _, rfl⟩ rfl (fs := [some (some 1), some none, none, none, none, none, none, none, none]) (rfl : sh_150[56]? = _) (by decide) rfl dX7_init_11 rfl ?_
  exact aw_vret rfl (by decide) (by decide) dX7_init_14 ⟨rfl, (rfl : sh_151 = sh_152), (Ok.dn h :)⟩
theorem ki_RX11_39 : aLkI RX11 39 7 M_X7_init ∧ aNp M_X7_init = some 2 := ⟨⟨aU_2 63 rfl rfl, aU_2 64 rfl rfl, aU_1 7 rfl rfl, aU_2 65 rfl rfl, rfl, rfl, ⟨by decide +kernel, by decide +kernel⟩⟩, by decide +kernel⟩
def sh_153 : List aSh := sh_152.set 0 (.inr (11, [some (some 1), none, none, some (some 2), some (some 21), some (some 40), some (some 48), none, some (some 56), some none, some none, some none, some none, some none]))
def sh_154 : List aSh := sh_153 ++ [.inr (0, [some none, some none, some none, some none])]
theorem kw_RX11_46 : Cond.classLink RX11 46 "NoseTown$Blend" ∈ aU ∧ Cond.instantiable "NoseTown$Blend" 4 ∈ aU ∧ Cond.initialized "NoseTown$Blend" ∈ aU := ⟨aU_2 96 rfl rfl, aU_2 97 rfl rfl, aU_1 8 rfl rfl⟩
def sh_155 : List aSh := [.inr (11, [some (some 1), none, none, some (some 2), some (some 21), some (some 40), some (some 48), none, some (some 56), some none, some none, some none, some none, some none]), .inl (0, 700, []), .inr (6, [some (some 3), some (some 7), none, none, none, none, none, none, none, none, some (some 8), some (some 9), some (some 10), some (some 11), some (some 12), some (some 13), some (some 14)]), .inr (4, [none, none, some (some 4), some (some 5), some (some 6)]), .inl (1, 64, []), .inl (1, 64, []), .inl (3, 64, []), .inl (4, 6, [some 15, some 16, some 17, some 18, some 19, some 20]), .inl (1, 12, []), .inl (1, 12, []), .inl (1, 12, []), .inl (1, 5, []), .inl (1, 36, []), .inl (3, 6, []), .inl (1, 5, []), .inr (8, [none, none, none, none, none, none, none]), .inr (8, [none, none, none, none, none, none, none]), .inr (8, [none, none, none, none, none, none, none]), .inr (8, [none, none, none, none, none, none, none]), .inr (8, [none, none, none, none, none, none, none]), .inr (8, [none, none, none, none, none, none, none]), .inr (6, [some (some 22), some (some 26), none, none, none, none, none, none, none, none, some (some 27), some (some 28), some (some 29), some (some 30), some (some 31), some (some 32), some (some 33)]), .inr (4, [none, none, some (some 23), some (some 24), some (some 25)]), .inl (1, 64, []), .inl (1, 64, []), .inl (3, 64, []), .inl (4, 6, [some 34, some 35, some 36, some 37, some 38, some 39]), .inl (1, 12, []), .inl (1, 12, []), .inl (1, 12, []), .inl (1, 5, []), .inl (1, 36, []), .inl (3, 6, []), .inl (1, 5, []), .inr (8, [none, none, none, none, none, none, none]), .inr (8, [none, none, none, none, none, none, none]), .inr (8, [none, none, none, none, none, none, none]), .inr (8, [none, none, none, none, none, none, none]), .inr (8, [none, none, none, none, none, none, none]), .inr (8, [none, none, none, none, none, none, none]), .inr (9, [some (some 41), some (some 42), none, none, none, some (some 43), some (some 44), some (some 45), some (some 46), some (some 47)]), .inl (1, 12, []), .inl (1, 5, []), .inl (1, 12, []), .inl (1, 12, []), .inl (1, 12, []), .inl (1, 12, []), .inl (1, 3, []), .inr (9, [some (some 49), some (some 50), none, none, none, some (some 51), some (some 52), some (some 53), some (some 54), some (some 55)]), .inl (1, 12, []), .inl (1, 5, []), .inl (1, 12, []), .inl (1, 12, []), .inl (1, 12, []), .inl (1, 12, []), .inl (1, 3, []), .inr (7, [some (some 1), some (some 21), none, none, none, none, none, none, none]), .inr (0, [some none, some none, some none, some none])]
def M_X0_init : aM := (yX0_init, cX0_init, 3, none, [])
theorem dX0_init_0 : decode cX0_init 0 = .ok (.aload_n 0, 1) := by decide +kernel
theorem dX0_init_1 : decode cX0_init 1 = .ok (.invokespecial 3, 3) := by decide +kernel
theorem dX0_init_4 : decode cX0_init 4 = .ok (.aload_n 0, 1) := by decide +kernel
theorem dX0_init_5 : decode cX0_init 5 = .ok (.bipush 6, 2) := by decide +kernel
theorem dX0_init_7 : decode cX0_init 7 = .ok (.newarray .int, 2) := by decide +kernel
theorem dX0_init_9 : decode cX0_init 9 = .ok (.putfield 9, 3) := by decide +kernel
theorem dX0_init_12 : decode cX0_init 12 = .ok (.aload_n 0, 1) := by decide +kernel
theorem dX0_init_13 : decode cX0_init 13 = .ok (.bipush 30, 2) := by decide +kernel
theorem dX0_init_15 : decode cX0_init 15 = .ok (.newarray .int, 2) := by decide +kernel
theorem dX0_init_17 : decode cX0_init 17 = .ok (.putfield 15, 3) := by decide +kernel
theorem dX0_init_20 : decode cX0_init 20 = .ok (.aload_n 0, 1) := by decide +kernel
theorem dX0_init_21 : decode cX0_init 21 = .ok (.aload_n 1, 1) := by decide +kernel
theorem dX0_init_22 : decode cX0_init 22 = .ok (.putfield 18, 3) := by decide +kernel
theorem dX0_init_25 : decode cX0_init 25 = .ok (.aload_n 0, 1) := by decide +kernel
theorem dX0_init_26 : decode cX0_init 26 = .ok (.aload_n 2, 1) := by decide +kernel
theorem dX0_init_27 : decode cX0_init 27 = .ok (.putfield 22, 3) := by decide +kernel
theorem dX0_init_30 : decode cX0_init 30 = .ok (.return_, 1) := by decide +kernel
theorem ko_RX0_3 : Cond.methodLink RX0 3 Lib.objectInit ∈ aU ∧ Cond.instanceMethod Lib.objectInit ∈ aU ∧ Cond.code Lib.objectInit ⟨#[0xb1]⟩ 1 none ∈ aU := ⟨aU_2 101 rfl rfl, aU_1 32 rfl rfl, aU_1 33 rfl rfl⟩
def sh_156 : List aSh := sh_155 ++ [.inl (1, 6, [])]
def sh_157 : List aSh := sh_156.set 57 (.inr (0, [some none, some none, some (some 58), some none]))
def sh_158 : List aSh := sh_157 ++ [.inl (1, 30, [])]
def sh_159 : List aSh := sh_158.set 57 (.inr (0, [some none, some none, some (some 58), some (some 59)]))
def sh_160 : List aSh := sh_159.set 57 (.inr (0, [some (some 2), some none, some (some 58), some (some 59)]))
def sh_161 : List aSh := sh_160.set 57 (.inr (0, [some (some 2), some (some 40), some (some 58), some (some 59)]))
def sh_162 : List aSh := [.inr (11, [some (some 1), none, none, some (some 2), some (some 21), some (some 40), some (some 48), none, some (some 56), some none, some none, some none, some none, some none]), .inl (0, 700, []), .inr (6, [some (some 3), some (some 7), none, none, none, none, none, none, none, none, some (some 8), some (some 9), some (some 10), some (some 11), some (some 12), some (some 13), some (some 14)]), .inr (4, [none, none, some (some 4), some (some 5), some (some 6)]), .inl (1, 64, []), .inl (1, 64, []), .inl (3, 64, []), .inl (4, 6, [some 15, some 16, some 17, some 18, some 19, some 20]), .inl (1, 12, []), .inl (1, 12, []), .inl (1, 12, []), .inl (1, 5, []), .inl (1, 36, []), .inl (3, 6, []), .inl (1, 5, []), .inr (8, [none, none, none, none, none, none, none]), .inr (8, [none, none, none, none, none, none, none]), .inr (8, [none, none, none, none, none, none, none]), .inr (8, [none, none, none, none, none, none, none]), .inr (8, [none, none, none, none, none, none, none]), .inr (8, [none, none, none, none, none, none, none]), .inr (6, [some (some 22), some (some 26), none, none, none, none, none, none, none, none, some (some 27), some (some 28), some (some 29), some (some 30), some (some 31), some (some 32), some (some 33)]), .inr (4, [none, none, some (some 23), some (some 24), some (some 25)]), .inl (1, 64, []), .inl (1, 64, []), .inl (3, 64, []), .inl (4, 6, [some 34, some 35, some 36, some 37, some 38, some 39]), .inl (1, 12, []), .inl (1, 12, []), .inl (1, 12, []), .inl (1, 5, []), .inl (1, 36, []), .inl (3, 6, []), .inl (1, 5, []), .inr (8, [none, none, none, none, none, none, none]), .inr (8, [none, none, none, none, none, none, none]), .inr (8, [none, none, none, none, none, none, none]), .inr (8, [none, none, none, none, none, none, none]), .inr (8, [none, none, none, none, none, none, none]), .inr (8, [none, none, none, none, none, none, none]), .inr (9, [some (some 41), some (some 42), none, none, none, some (some 43), some (some 44), some (some 45), some (some 46), some (some 47)]), .inl (1, 12, []), .inl (1, 5, []), .inl (1, 12, []), .inl (1, 12, []), .inl (1, 12, []), .inl (1, 12, []), .inl (1, 3, []), .inr (9, [some (some 49), some (some 50), none, none, none, some (some 51), some (some 52), some (some 53), some (some 54), some (some 55)]), .inl (1, 12, []), .inl (1, 5, []), .inl (1, 12, []), .inl (1, 12, []), .inl (1, 12, []), .inl (1, 12, []), .inl (1, 3, []), .inr (7, [some (some 1), some (some 21), none, none, none, none, none, none, none]), .inr (0, [some (some 2), some (some 40), some (some 58), some (some 59)]), .inl (1, 6, []), .inl (1, 30, [])]
def f_new_X0_57 (D : aD) : Option aD :=
  aLet (z0 D 58) (fun D_1 => aLet (z0 D_1 59) (fun D_2 => some D_2))
set_option maxRecDepth 100000 in
set_option maxHeartbeats 4000000 in
theorem c_new_X0_57 {G : aG} (hG : gOK G) (hN : gNest G) {D : aD} {K : aD → Prop} (h : Ok (f_new_X0_57 D) K) : AC G (aRm 2 2 36) M_X0_init [.ref 57, .ref 2, .ref 40] (some 58) sh_155 D (aQv sh_162 K) := by
  unfold f_new_X0_57 at h
  refine AC.of (al := [some (.ref 57), some (.ref 2), some (.ref 40)]) (r := 0) (by decide) (Nat.le_of_ble_eq_true rfl) rfl ?_
  refine aw_aload_n (n := 1) (i := 0) dX0_init_0 rfl rfl rfl ?_
  refine aw_objInit (M := M_X0_init) (n := 4) ko_RX0_3.1 ko_RX0_3.2.1 ko_RX0_3.2.2 (by decide) (by decide) dX0_init_1 rfl ?_
  refine aw_aload_n (n := 5) (i := 0) dX0_init_4 rfl rfl rfl ?_
  refine aw_bipush (n := 7) (v := 6) dX0_init_5 rfl (by decide) ?_
  obtain ⟨D_1, e_D_1, h⟩ := Ok.let_ h
  refine aw_newa (M := M_X0_init) (n := 9) (t := 1) (N := 6) (ty := .int) (L := 58) (n0 := 58) (shp' := sh_156) (D' := D_1) hG.1 rfl rfl rfl (by decide) aw_int rfl rfl (fun _ _ h => h) (at_z1) (by decide) rfl (by decide) (by decide) (by decide) dX0_init_7 rfl rfl (kc' := 1) (ks' := 6) rfl rfl e_D_1 ?_
  refine aw_putR (M := M_X0_init) (n := 12) (j := 2) (k := 57) (r := 58) (shp' := sh_157) hG.1 fl_RX0_9 ⟨rfl, fun _ => ⟨rfl, rfl⟩⟩ ⟨_, _, rfl⟩ rfl (fs := [some none, some none, some none, some none]) (rfl : sh_156[57]? = _) (by decide) rfl dX0_init_9 rfl ?_
  refine aw_aload_n (n := 13) (i := 0) dX0_init_12 rfl rfl rfl ?_
  refine aw_bipush (n := 15) (v := 30) dX0_init_13 rfl (by decide) ?_
  obtain ⟨D_2, e_D_2, h⟩ := Ok.let_ h
  refine aw_newa (M := M_X0_init) (n := 17) (t := 1) (N := 30) (ty := .int) (L := 59) (n0 := 58) (shp' := sh_158) (D' := D_2) hG.1 rfl rfl rfl (by decide) aw_int rfl rfl (fun _ _ h => h) (at_z1) (by decide) rfl (by decide) (by decide) (by decide) dX0_init_15 rfl rfl (kc' := 2) (ks' := 36) rfl rfl e_D_2 ?_
  refine aw_putR (M := M_X0_init) (n := 20) (j := 3) (k := 57) (r := 59) (shp' := sh_159) hG.1 fl_RX0_15 ⟨rfl, fun _ => ⟨rfl, rfl⟩⟩ ⟨_, _, rfl⟩ rfl (fs := [some none, some none, some (some 58), some none]) (rfl : sh_158[57]? = _) (by decide) rfl dX0_init_17 rfl ?_
  refine aw_aload_n (n := 21) (i := 0) dX0_init_20 rfl rfl rfl ?_
  refine aw_aload_n (n := 22) (i := 1) dX0_init_21 rfl rfl rfl ?_
  refine aw_putR (M := M_X0_init) (n := 25) (j := 0) (k := 57) (r := 2) (shp' := sh_160) hG.1 fl_RX0_18 ⟨rfl, fun _ => ⟨rfl, rfl⟩⟩ ⟨_, _, rfl⟩ rfl (fs := [some none, some none, some (some 58), some (some 59)]) (rfl : sh_159[57]? = _) (by decide) rfl dX0_init_22 rfl ?_
  refine aw_aload_n (n := 26) (i := 0) dX0_init_25 rfl rfl rfl ?_
  refine aw_aload_n (n := 27) (i := 2) dX0_init_26 rfl rfl rfl ?_
  refine aw_putR (M := M_X0_init) (n := 30) (j := 1) (k := 57) (r := 40) (shp' := sh_161) hG.1 fl_RX0_22 ⟨rfl, fun _ => ⟨rfl, rfl⟩⟩ ⟨_, _, rfl⟩ rfl (fs := [some (some 2), some none, some (some 58), some (some 59)]) (rfl : sh_160[57]? = _) (by decide) rfl dX0_init_27 rfl ?_
  exact aw_vret rfl (by decide) (by decide) dX0_init_30 ⟨rfl, (rfl : sh_161 = sh_162), (Ok.dn h :)⟩
theorem ki_RX11_48 : aLkI RX11 48 0 M_X0_init ∧ aNp M_X0_init = some 2 := ⟨⟨aU_2 98 rfl rfl, aU_2 99 rfl rfl, aU_1 8 rfl rfl, aU_2 100 rfl rfl, rfl, rfl, ⟨by decide +kernel, by decide +kernel⟩⟩, by decide +kernel⟩
def sh_163 : List aSh := sh_162.set 0 (.inr (11, [some (some 1), none, none, some (some 2), some (some 21), some (some 40), some (some 48), none, some (some 56), some (some 57), some none, some none, some none, some none]))
def sh_164 : List aSh := sh_163 ++ [.inr (1, [some none, some none, some none, none, some none, some none, some none, some none, some none, some none, some none])]
theorem kw_RX11_55 : Cond.classLink RX11 55 "NoseTown$Contest" ∈ aU ∧ Cond.instantiable "NoseTown$Contest" 11 ∈ aU ∧ Cond.initialized "NoseTown$Contest" ∈ aU := ⟨aU_2 117 rfl rfl, aU_2 118 rfl rfl, aU_1 9 rfl rfl⟩
def sh_165 : List aSh := [.inr (11, [some (some 1), none, none, some (some 2), some (some 21), some (some 40), some (some 48), none, some (some 56), some (some 57), some none, some none, some none, some none]), .inl (0, 700, []), .inr (6, [some (some 3), some (some 7), none, none, none, none, none, none, none, none, some (some 8), some (some 9), some (some 10), some (some 11), some (some 12), some (some 13), some (some 14)]), .inr (4, [none, none, some (some 4), some (some 5), some (some 6)]), .inl (1, 64, []), .inl (1, 64, []), .inl (3, 64, []), .inl (4, 6, [some 15, some 16, some 17, some 18, some 19, some 20]), .inl (1, 12, []), .inl (1, 12, []), .inl (1, 12, []), .inl (1, 5, []), .inl (1, 36, []), .inl (3, 6, []), .inl (1, 5, []), .inr (8, [none, none, none, none, none, none, none]), .inr (8, [none, none, none, none, none, none, none]), .inr (8, [none, none, none, none, none, none, none]), .inr (8, [none, none, none, none, none, none, none]), .inr (8, [none, none, none, none, none, none, none]), .inr (8, [none, none, none, none, none, none, none]), .inr (6, [some (some 22), some (some 26), none, none, none, none, none, none, none, none, some (some 27), some (some 28), some (some 29), some (some 30), some (some 31), some (some 32), some (some 33)]), .inr (4, [none, none, some (some 23), some (some 24), some (some 25)]), .inl (1, 64, []), .inl (1, 64, []), .inl (3, 64, []), .inl (4, 6, [some 34, some 35, some 36, some 37, some 38, some 39]), .inl (1, 12, []), .inl (1, 12, []), .inl (1, 12, []), .inl (1, 5, []), .inl (1, 36, []), .inl (3, 6, []), .inl (1, 5, []), .inr (8, [none, none, none, none, none, none, none]), .inr (8, [none, none, none, none, none, none, none]), .inr (8, [none, none, none, none, none, none, none]), .inr (8, [none, none, none, none, none, none, none]), .inr (8, [none, none, none, none, none, none, none]), .inr (8, [none, none, none, none, none, none, none]), .inr (9, [some (some 41), some (some 42), none, none, none, some (some 43), some (some 44), some (some 45), some (some 46), some (some 47)]), .inl (1, 12, []), .inl (1, 5, []), .inl (1, 12, []), .inl (1, 12, []), .inl (1, 12, []), .inl (1, 12, []), .inl (1, 3, []), .inr (9, [some (some 49), some (some 50), none, none, none, some (some 51), some (some 52), some (some 53), some (some 54), some (some 55)]), .inl (1, 12, []), .inl (1, 5, []), .inl (1, 12, []), .inl (1, 12, []), .inl (1, 12, []), .inl (1, 12, []), .inl (1, 3, []), .inr (7, [some (some 1), some (some 21), none, none, none, none, none, none, none]), .inr (0, [some (some 2), some (some 40), some (some 58), some (some 59)]), .inl (1, 6, []), .inl (1, 30, []), .inr (1, [some none, some none, some none, none, some none, some none, some none, some none, some none, some none, some none])]
def M_X1_init : aM := (yX1_init, cX1_init, 4, none, [])
theorem dX1_init_0 : decode cX1_init 0 = .ok (.aload_n 0, 1) := by decide +kernel
theorem dX1_init_1 : decode cX1_init 1 = .ok (.invokespecial 3, 3) := by decide +kernel
theorem dX1_init_4 : decode cX1_init 4 = .ok (.aload_n 0, 1) := by decide +kernel
theorem dX1_init_5 : decode cX1_init 5 = .ok (.bipush 12, 2) := by decide +kernel
theorem dX1_init_7 : decode cX1_init 7 = .ok (.newarray .int, 2) := by decide +kernel
theorem dX1_init_9 : decode cX1_init 9 = .ok (.putfield 9, 3) := by decide +kernel
theorem dX1_init_12 : decode cX1_init 12 = .ok (.aload_n 0, 1) := by decide +kernel
theorem dX1_init_13 : decode cX1_init 13 = .ok (.bipush 12, 2) := by decide +kernel
theorem dX1_init_15 : decode cX1_init 15 = .ok (.newarray .int, 2) := by decide +kernel
theorem dX1_init_17 : decode cX1_init 17 = .ok (.putfield 15, 3) := by decide +kernel
theorem dX1_init_20 : decode cX1_init 20 = .ok (.aload_n 0, 1) := by decide +kernel
theorem dX1_init_21 : decode cX1_init 21 = .ok (.bipush 12, 2) := by decide +kernel
theorem dX1_init_23 : decode cX1_init 23 = .ok (.newarray .int, 2) := by decide +kernel
theorem dX1_init_25 : decode cX1_init 25 = .ok (.putfield 18, 3) := by decide +kernel
theorem dX1_init_28 : decode cX1_init 28 = .ok (.aload_n 0, 1) := by decide +kernel
theorem dX1_init_29 : decode cX1_init 29 = .ok (.sipush 300, 3) := by decide +kernel
theorem dX1_init_32 : decode cX1_init 32 = .ok (.newarray .int, 2) := by decide +kernel
theorem dX1_init_34 : decode cX1_init 34 = .ok (.putfield 21, 3) := by decide +kernel
theorem dX1_init_37 : decode cX1_init 37 = .ok (.aload_n 0, 1) := by decide +kernel
theorem dX1_init_38 : decode cX1_init 38 = .ok (.sipush 300, 3) := by decide +kernel
theorem dX1_init_41 : decode cX1_init 41 = .ok (.newarray .int, 2) := by decide +kernel
theorem dX1_init_43 : decode cX1_init 43 = .ok (.putfield 24, 3) := by decide +kernel
theorem dX1_init_46 : decode cX1_init 46 = .ok (.aload_n 0, 1) := by decide +kernel
theorem dX1_init_47 : decode cX1_init 47 = .ok (.iconst 5, 1) := by decide +kernel
theorem dX1_init_48 : decode cX1_init 48 = .ok (.newarray .int, 2) := by decide +kernel
theorem dX1_init_50 : decode cX1_init 50 = .ok (.putfield 27, 3) := by decide +kernel
theorem dX1_init_53 : decode cX1_init 53 = .ok (.aload_n 0, 1) := by decide +kernel
theorem dX1_init_54 : decode cX1_init 54 = .ok (.iconst 5, 1) := by decide +kernel
theorem dX1_init_55 : decode cX1_init 55 = .ok (.newarray .int, 2) := by decide +kernel
theorem dX1_init_57 : decode cX1_init 57 = .ok (.putfield 30, 3) := by decide +kernel
theorem dX1_init_60 : decode cX1_init 60 = .ok (.aload_n 0, 1) := by decide +kernel
theorem dX1_init_61 : decode cX1_init 61 = .ok (.aload_n 1, 1) := by decide +kernel
theorem dX1_init_62 : decode cX1_init 62 = .ok (.putfield 33, 3) := by decide +kernel
theorem dX1_init_65 : decode cX1_init 65 = .ok (.aload_n 0, 1) := by decide +kernel
theorem dX1_init_66 : decode cX1_init 66 = .ok (.aload_n 2, 1) := by decide +kernel
theorem dX1_init_67 : decode cX1_init 67 = .ok (.putfield 37, 3) := by decide +kernel
theorem dX1_init_70 : decode cX1_init 70 = .ok (.aload_n 0, 1) := by decide +kernel
theorem dX1_init_71 : decode cX1_init 71 = .ok (.aload_n 3, 1) := by decide +kernel
theorem dX1_init_72 : decode cX1_init 72 = .ok (.putfield 41, 3) := by decide +kernel
theorem dX1_init_75 : decode cX1_init 75 = .ok (.return_, 1) := by decide +kernel
theorem ko_RX1_3 : Cond.methodLink RX1 3 Lib.objectInit ∈ aU ∧ Cond.instanceMethod Lib.objectInit ∈ aU ∧ Cond.code Lib.objectInit ⟨#[0xb1]⟩ 1 none ∈ aU := ⟨aU_2 122 rfl rfl, aU_1 32 rfl rfl, aU_1 33 rfl rfl⟩
def sh_166 : List aSh := sh_165 ++ [.inl (1, 12, [])]
def sh_167 : List aSh := sh_166.set 60 (.inr (1, [some none, some none, some none, none, some (some 61), some none, some none, some none, some none, some none, some none]))
def sh_168 : List aSh := sh_167 ++ [.inl (1, 12, [])]
def sh_169 : List aSh := sh_168.set 60 (.inr (1, [some none, some none, some none, none, some (some 61), some (some 62), some none, some none, some none, some none, some none]))
def sh_170 : List aSh := sh_169 ++ [.inl (1, 12, [])]
def sh_171 : List aSh := sh_170.set 60 (.inr (1, [some none, some none, some none, none, some (some 61), some (some 62), some (some 63), some none, some none, some none, some none]))
def sh_172 : List aSh := sh_171 ++ [.inl (1, 300, [])]
def sh_173 : List aSh := sh_172.set 60 (.inr (1, [some none, some none, some none, none, some (some 61), some (some 62), some (some 63), some (some 64), some none, some none, some none]))
def sh_174 : List aSh := sh_173 ++ [.inl (1, 300, [])]
def sh_175 : List aSh := sh_174.set 60 (.inr (1, [some none, some none, some none, none, some (some 61), some (some 62), some (some 63), some (some 64), some (some 65), some none, some none]))
def sh_176 : List aSh := sh_175 ++ [.inl (1, 5, [])]
def sh_177 : List aSh := sh_176.set 60 (.inr (1, [some none, some none, some none, none, some (some 61), some (some 62), some (some 63), some (some 64), some (some 65), some (some 66), some none]))
def sh_178 : List aSh := sh_177 ++ [.inl (1, 5, [])]
def sh_179 : List aSh := sh_178.set 60 (.inr (1, [some none, some none, some none, none, some (some 61), some (some 62), some (some 63), some (some 64), some (some 65), some (some 66), some (some 67)]))
def sh_180 : List aSh := sh_179.set 60 (.inr (1, [some (some 2), some none, some none, none, some (some 61), some (some 62), some (some 63), some (some 64), some (some 65), some (some 66), some (some 67)]))
def sh_181 : List aSh := sh_180.set 60 (.inr (1, [some (some 2), some (some 40), some none, none, some (some 61), some (some 62), some (some 63), some (some 64), some (some 65), some (some 66), some (some 67)]))
def sh_182 : List aSh := sh_181.set 60 (.inr (1, [some (some 2), some (some 40), some (some 57), none, some (some 61), some (some 62), some (some 63), some (some 64), some (some 65), some (some 66), some (some 67)]))
def sh_183 : List aSh := [.inr (11, [some (some 1), none, none, some (some 2), some (some 21), some (some 40), some (some 48), none, some (some 56), some (some 57), some none, some none, some none, some none]), .inl (0, 700, []), .inr (6, [some (some 3), some (some 7), none, none, none, none, none, none, none, none, some (some 8), some (some 9), some (some 10), some (some 11), some (some 12), some (some 13), some (some 14)]), .inr (4, [none, none, some (some 4), some (some 5), some (some 6)]), .inl (1, 64, []), .inl (1, 64, []), .inl (3, 64, []), .inl (4, 6, [some 15, some 16, some 17, some 18, some 19, some 20]), .inl (1, 12, []), .inl (1, 12, []), .inl (1, 12, []), .inl (1, 5, []), .inl (1, 36, []), .inl (3, 6, []), .inl (1, 5, []), .inr (8, [none, none, none, none, none, none, none]), .inr (8, [none, none, none, none, none, none, none]), .inr (8, [none, none, none, none, none, none, none]), .inr (8, [none, none, none, none, none, none, none]), .inr (8, [none, none, none, none, none, none, none]), .inr (8, [none, none, none, none, none, none, none]), .inr (6, [some (some 22), some (some 26), none, none, none, none, none, none, none, none, some (some 27), some (some 28), some (some 29), some (some 30), some (some 31), some (some 32), some (some 33)]), .inr (4, [none, none, some (some 23), some (some 24), some (some 25)]), .inl (1, 64, []), .inl (1, 64, []), .inl (3, 64, []), .inl (4, 6, [some 34, some 35, some 36, some 37, some 38, some 39]), .inl (1, 12, []), .inl (1, 12, []), .inl (1, 12, []), .inl (1, 5, []), .inl (1, 36, []), .inl (3, 6, []), .inl (1, 5, []), .inr (8, [none, none, none, none, none, none, none]), .inr (8, [none, none, none, none, none, none, none]), .inr (8, [none, none, none, none, none, none, none]), .inr (8, [none, none, none, none, none, none, none]), .inr (8, [none, none, none, none, none, none, none]), .inr (8, [none, none, none, none, none, none, none]), .inr (9, [some (some 41), some (some 42), none, none, none, some (some 43), some (some 44), some (some 45), some (some 46), some (some 47)]), .inl (1, 12, []), .inl (1, 5, []), .inl (1, 12, []), .inl (1, 12, []), .inl (1, 12, []), .inl (1, 12, []), .inl (1, 3, []), .inr (9, [some (some 49), some (some 50), none, none, none, some (some 51), some (some 52), some (some 53), some (some 54), some (some 55)]), .inl (1, 12, []), .inl (1, 5, []), .inl (1, 12, []), .inl (1, 12, []), .inl (1, 12, []), .inl (1, 12, []), .inl (1, 3, []), .inr (7, [some (some 1), some (some 21), none, none, none, none, none, none, none]), .inr (0, [some (some 2), some (some 40), some (some 58), some (some 59)]), .inl (1, 6, []), .inl (1, 30, []), .inr (1, [some (some 2), some (some 40), some (some 57), none, some (some 61), some (some 62), some (some 63), some (some 64), some (some 65), some (some 66), some (some 67)]), .inl (1, 12, []), .inl (1, 12, []), .inl (1, 12, []), .inl (1, 300, []), .inl (1, 300, []), .inl (1, 5, []), .inl (1, 5, [])]
def f_new_X1_60 (D : aD) : Option aD :=
  aLet (z0 D 61) (fun D_1 => aLet (z0 D_1 62) (fun D_2 => aLet (z0 D_2 63) (fun D_3 => aLet (z0 D_3 64) (fun D_4 => aLet (z0 D_4 65) (fun D_5 => aLet (z0 D_5 66) (fun D_6 => aLet (z0 D_6 67) (fun D_7 => some D_7)))))))
set_option maxRecDepth 100000 in
set_option maxHeartbeats 4000000 in
theorem c_new_X1_60 {G : aG} (hG : gOK G) (hN : gNest G) {D : aD} {K : aD → Prop} (h : Ok (f_new_X1_60 D) K) : AC G (aRm 2 7 646) M_X1_init [.ref 60, .ref 2, .ref 40, .ref 57] (some 61) sh_165 D (aQv sh_183 K) := by
  unfold f_new_X1_60 at h
  refine AC.of (al := [some (.ref 60), some (.ref 2), some (.ref 40), some (.ref 57)]) (r := 0) (by decide) (Nat.le_of_ble_eq_true rfl) rfl ?_
  refine aw_aload_n (n := 1) (i := 0) dX1_init_0 rfl rfl rfl ?_
  refine aw_objInit (M := M_X1_init) (n := 4) ko_RX1_3.1 ko_RX1_3.2.1 ko_RX1_3.2.2 (by decide) (by decide) dX1_init_1 rfl ?_
  refine aw_aload_n (n := 5) (i := 0) dX1_init_4 rfl rfl rfl ?_
  refine aw_bipush (n := 7) (v := 12) dX1_init_5 rfl (by decide) ?_
  obtain ⟨D_1, e_D_1, h⟩ := Ok.let_ h
  refine aw_newa (M := M_X1_init) (n := 9) (t := 1) (N := 12) (ty := .int) (L := 61) (n0 := 61) (shp' := sh_166) (D' := D_1) hG.1 rfl rfl rfl (by decide) aw_int rfl rfl (fun _ _ h => h) (at_z1) (by decide) rfl (by decide) (by decide) (by decide) dX1_init_7 rfl rfl (kc' := 1) (ks' := 12) rfl rfl e_D_1 ?_
  refine aw_putR (M := M_X1_init) (n := 12) (j := 4) (k := 60) (r := 61) (shp' := sh_167) hG.1 fl_RX1_9 ⟨rfl, fun _ => ⟨rfl, rfl⟩⟩ ⟨_, _, rfl⟩ rfl (fs := [some none, some none, some none, none, some none, some none, some none, some none, some none, some none, some none]) (rfl : sh_166[60]? = _) (by decide) rfl dX1_init_9 rfl ?_
  refine aw_aload_n (n := 13) (i := 0) dX1_init_12 rfl rfl rfl ?_
  refine aw_bipush (n := 15) (v := 12) dX1_init_13 rfl (by decide) ?_
  obtain ⟨D_2, e_D_2, h⟩ := Ok.let_ h
  refine aw_newa (M := M_X1_init) (n := 17) (t := 1) (N := 12) (ty := .int) (L := 62) (n0 := 61) (shp' := sh_168) (D' := D_2) hG.1 rfl rfl rfl (by decide) aw_int rfl rfl (fun _ _ h => h) (at_z1) (by decide) rfl (by decide) (by decide) (by decide) dX1_init_15 rfl rfl (kc' := 2) (ks' := 24) rfl rfl e_D_2 ?_
  refine aw_putR (M := M_X1_init) (n := 20) (j := 5) (k := 60) (r := 62) (shp' := sh_169) hG.1 fl_RX1_15 ⟨rfl, fun _ => ⟨rfl, rfl⟩⟩ ⟨_, _, rfl⟩ rfl (fs := [some none, some none, some none, none, some (some 61), some none, some none, some none, some none, some none, some none]) (rfl : sh_168[60]? = _) (by decide) rfl dX1_init_17 rfl ?_
  refine aw_aload_n (n := 21) (i := 0) dX1_init_20 rfl rfl rfl ?_
  refine aw_bipush (n := 23) (v := 12) dX1_init_21 rfl (by decide) ?_
  obtain ⟨D_3, e_D_3, h⟩ := Ok.let_ h
  refine aw_newa (M := M_X1_init) (n := 25) (t := 1) (N := 12) (ty := .int) (L := 63) (n0 := 61) (shp' := sh_170) (D' := D_3) hG.1 rfl rfl rfl (by decide) aw_int rfl rfl (fun _ _ h => h) (at_z1) (by decide) rfl (by decide) (by decide) (by decide) dX1_init_23 rfl rfl (kc' := 3) (ks' := 36) rfl rfl e_D_3 ?_
  refine aw_putR (M := M_X1_init) (n := 28) (j := 6) (k := 60) (r := 63) (shp' := sh_171) hG.1 fl_RX1_18 ⟨rfl, fun _ => ⟨rfl, rfl⟩⟩ ⟨_, _, rfl⟩ rfl (fs := [some none, some none, some none, none, some (some 61), some (some 62), some none, some none, some none, some none, some none]) (rfl : sh_170[60]? = _) (by decide) rfl dX1_init_25 rfl ?_
  refine aw_aload_n (n := 29) (i := 0) dX1_init_28 rfl rfl rfl ?_
  refine aw_sipush (n := 32) (v := 300) dX1_init_29 rfl (by decide) ?_
  obtain ⟨D_4, e_D_4, h⟩ := Ok.let_ h
  refine aw_newa (M := M_X1_init) (n := 34) (t := 1) (N := 300) (ty := .int) (L := 64) (n0 := 61) (shp' := sh_172) (D' := D_4) hG.1 rfl rfl rfl (by decide) aw_int rfl rfl (fun _ _ h => h) (at_z1) (by decide) rfl (by decide) (by decide) (by decide) dX1_init_32 rfl rfl (kc' := 4) (ks' := 336) rfl rfl e_D_4 ?_
  refine aw_putR (M := M_X1_init) (n := 37) (j := 7) (k := 60) (r := 64) (shp' := sh_173) hG.1 fl_RX1_21 ⟨rfl, fun _ => ⟨rfl, rfl⟩⟩ ⟨_, _, rfl⟩ rfl (fs := [some none, some none, some none, none, some (some 61), some (some 62), some (some 63), some none, some none, some none, some none]) (rfl : sh_172[60]? = _) (by decide) rfl dX1_init_34 rfl ?_
  refine aw_aload_n (n := 38) (i := 0) dX1_init_37 rfl rfl rfl ?_
  refine aw_sipush (n := 41) (v := 300) dX1_init_38 rfl (by decide) ?_
  obtain ⟨D_5, e_D_5, h⟩ := Ok.let_ h
  refine aw_newa (M := M_X1_init) (n := 43) (t := 1) (N := 300) (ty := .int) (L := 65) (n0 := 61) (shp' := sh_174) (D' := D_5) hG.1 rfl rfl rfl (by decide) aw_int rfl rfl (fun _ _ h => h) (at_z1) (by decide) rfl (by decide) (by decide) (by decide) dX1_init_41 rfl rfl (kc' := 5) (ks' := 636) rfl rfl e_D_5 ?_
  refine aw_putR (M := M_X1_init) (n := 46) (j := 8) (k := 60) (r := 65) (shp' := sh_175) hG.1 fl_RX1_24 ⟨rfl, fun _ => ⟨rfl, rfl⟩⟩ ⟨_, _, rfl⟩ rfl (fs := [some none, some none, some none, none, some (some 61), some (some 62), some (some 63), some (some 64), some none, some none, some none]) (rfl : sh_174[60]? = _) (by decide) rfl dX1_init_43 rfl ?_
  refine aw_aload_n (n := 47) (i := 0) dX1_init_46 rfl rfl rfl ?_
  refine aw_iconst (n := 48) (v := 5) dX1_init_47 rfl (by decide) ?_
  obtain ⟨D_6, e_D_6, h⟩ := Ok.let_ h
  refine aw_newa (M := M_X1_init) (n := 50) (t := 1) (N := 5) (ty := .int) (L := 66) (n0 := 61) (shp' := sh_176) (D' := D_6) hG.1 rfl rfl rfl (by decide) aw_int rfl rfl (fun _ _ h => h) (at_z1) (by decide) rfl (by decide) (by decide) (by decide) dX1_init_48 rfl rfl (kc' := 6) (ks' := 641) rfl rfl e_D_6 ?_
  refine aw_putR (M := M_X1_init) (n := 53) (j := 9) (k := 60) (r := 66) (shp' := sh_177) hG.1 fl_RX1_27 ⟨rfl, fun _ => ⟨rfl, rfl⟩⟩ ⟨_, _, rfl⟩ rfl (fs := [some none, some none, some none, none, some (some 61), some (some 62), some (some 63), some (some 64), some (some 65), some none, some none]) (rfl : sh_176[60]? = _) (by decide) rfl dX1_init_50 rfl ?_
  refine aw_aload_n (n := 54) (i := 0) dX1_init_53 rfl rfl rfl ?_
  refine aw_iconst (n := 55) (v := 5) dX1_init_54 rfl (by decide) ?_
  obtain ⟨D_7, e_D_7, h⟩ := Ok.let_ h
  refine aw_newa (M := M_X1_init) (n := 57) (t := 1) (N := 5) (ty := .int) (L := 67) (n0 := 61) (shp' := sh_178) (D' := D_7) hG.1 rfl rfl rfl (by decide) aw_int rfl rfl (fun _ _ h => h) (at_z1) (by decide) rfl (by decide) (by decide) (by decide) dX1_init_55 rfl rfl (kc' := 7) (ks' := 646) rfl rfl e_D_7 ?_
  refine aw_putR (M := M_X1_init) (n := 60) (j := 10) (k := 60) (r := 67) (shp' := sh_179) hG.1 fl_RX1_30 ⟨rfl, fun _ => ⟨rfl, rfl⟩⟩ ⟨_, _, rfl⟩ rfl (fs := [some none, some none, some none, none, some (some 61), some (some 62), some (some 63), some (some 64), some (some 65), some (some 66), some none]) (rfl : sh_178[60]? = _) (by decide) rfl dX1_init_57 rfl ?_
  refine aw_aload_n (n := 61) (i := 0) dX1_init_60 rfl rfl rfl ?_
  refine aw_aload_n (n := 62) (i := 1) dX1_init_61 rfl rfl rfl ?_
  refine aw_putR (M := M_X1_init) (n := 65) (j := 0) (k := 60) (r := 2) (shp' := sh_180) hG.1 fl_RX1_33 ⟨rfl, fun _ => ⟨rfl, rfl⟩⟩ ⟨_, _, rfl⟩ rfl (fs := [some none, some none, some none, none, some (some 61), some (some 62), some (some 63), some (some 64), some (some 65), some (some 66), some (some 67)]) (rfl : sh_179[60]? = _) (by decide) rfl dX1_init_62 rfl ?_
  refine aw_aload_n (n := 66) (i := 0) dX1_init_65 rfl rfl rfl ?_
  refine aw_aload_n (n := 67) (i := 2) dX1_init_66 rfl rfl rfl ?_
  refine aw_putR (M := M_X1_init) (n := 70) (j := 1) (k := 60) (r := 40) (shp' := sh_181) hG.1 fl_RX1_37 ⟨rfl, fun _ => ⟨rfl, rfl⟩⟩ ⟨_, _, rfl⟩ rfl (fs := [some (some 2), some none, some none, none, some (some 61), some (some 62), some (some 63), some (some 64), some (some 65), some (some 66), some (some 67)]) (rfl : sh_180[60]? = _) (by decide) rfl dX1_init_67 rfl ?_
  refine aw_aload_n (n := 71) (i := 0) dX1_init_70 rfl rfl rfl ?_
  refine aw_aload_n (n := 72) (i := 3) dX1_init_71 rfl rfl rfl ?_
  refine aw_putR (M := M_X1_init) (n := 75) (j := 2) (k := 60) (r := 57) (shp' := sh_182) hG.1 fl_RX1_41 ⟨rfl, fun _ => ⟨rfl, rfl⟩⟩ ⟨_, _, rfl⟩ rfl (fs := [some (some 2), some (some 40), some none, none, some (some 61), some (some 62), some (some 63), some (some 64), some (some 65), some (some 66), some (some 67)]) (rfl : sh_181[60]? = _) (by decide) rfl dX1_init_72 rfl ?_
  exact aw_vret rfl (by decide) (by decide) dX1_init_75 ⟨rfl, (rfl : sh_182 = sh_183), (Ok.dn h :)⟩
theorem ki_RX11_57 : aLkI RX11 57 1 M_X1_init ∧ aNp M_X1_init = some 3 := ⟨⟨aU_2 119 rfl rfl, aU_2 120 rfl rfl, aU_1 9 rfl rfl, aU_2 121 rfl rfl, rfl, rfl, ⟨by decide +kernel, by decide +kernel⟩⟩, by decide +kernel⟩
def sh_184 : List aSh := sh_183.set 0 (.inr (11, [some (some 1), none, none, some (some 2), some (some 21), some (some 40), some (some 48), none, some (some 56), some (some 57), some (some 60), some none, some none, some none]))
def sh_185 : List aSh := sh_184 ++ [.inr (3, [some none, some none, none, some none, some none, some none, some none, some none, none, none])]
theorem kw_RX11_64 : Cond.classLink RX11 64 "NoseTown$Gardener" ∈ aU ∧ Cond.instantiable "NoseTown$Gardener" 10 ∈ aU ∧ Cond.initialized "NoseTown$Gardener" ∈ aU := ⟨aU_2 159 rfl rfl, aU_2 160 rfl rfl, aU_1 10 rfl rfl⟩
def sh_186 : List aSh := [.inr (11, [some (some 1), none, none, some (some 2), some (some 21), some (some 40), some (some 48), none, some (some 56), some (some 57), some (some 60), some none, some none, some none]), .inl (0, 700, []), .inr (6, [some (some 3), some (some 7), none, none, none, none, none, none, none, none, some (some 8), some (some 9), some (some 10), some (some 11), some (some 12), some (some 13), some (some 14)]), .inr (4, [none, none, some (some 4), some (some 5), some (some 6)]), .inl (1, 64, []), .inl (1, 64, []), .inl (3, 64, []), .inl (4, 6, [some 15, some 16, some 17, some 18, some 19, some 20]), .inl (1, 12, []), .inl (1, 12, []), .inl (1, 12, []), .inl (1, 5, []), .inl (1, 36, []), .inl (3, 6, []), .inl (1, 5, []), .inr (8, [none, none, none, none, none, none, none]), .inr (8, [none, none, none, none, none, none, none]), .inr (8, [none, none, none, none, none, none, none]), .inr (8, [none, none, none, none, none, none, none]), .inr (8, [none, none, none, none, none, none, none]), .inr (8, [none, none, none, none, none, none, none]), .inr (6, [some (some 22), some (some 26), none, none, none, none, none, none, none, none, some (some 27), some (some 28), some (some 29), some (some 30), some (some 31), some (some 32), some (some 33)]), .inr (4, [none, none, some (some 23), some (some 24), some (some 25)]), .inl (1, 64, []), .inl (1, 64, []), .inl (3, 64, []), .inl (4, 6, [some 34, some 35, some 36, some 37, some 38, some 39]), .inl (1, 12, []), .inl (1, 12, []), .inl (1, 12, []), .inl (1, 5, []), .inl (1, 36, []), .inl (3, 6, []), .inl (1, 5, []), .inr (8, [none, none, none, none, none, none, none]), .inr (8, [none, none, none, none, none, none, none]), .inr (8, [none, none, none, none, none, none, none]), .inr (8, [none, none, none, none, none, none, none]), .inr (8, [none, none, none, none, none, none, none]), .inr (8, [none, none, none, none, none, none, none]), .inr (9, [some (some 41), some (some 42), none, none, none, some (some 43), some (some 44), some (some 45), some (some 46), some (some 47)]), .inl (1, 12, []), .inl (1, 5, []), .inl (1, 12, []), .inl (1, 12, []), .inl (1, 12, []), .inl (1, 12, []), .inl (1, 3, []), .inr (9, [some (some 49), some (some 50), none, none, none, some (some 51), some (some 52), some (some 53), some (some 54), some (some 55)]), .inl (1, 12, []), .inl (1, 5, []), .inl (1, 12, []), .inl (1, 12, []), .inl (1, 12, []), .inl (1, 12, []), .inl (1, 3, []), .inr (7, [some (some 1), some (some 21), none, none, none, none, none, none, none]), .inr (0, [some (some 2), some (some 40), some (some 58), some (some 59)]), .inl (1, 6, []), .inl (1, 30, []), .inr (1, [some (some 2), some (some 40), some (some 57), none, some (some 61), some (some 62), some (some 63), some (some 64), some (some 65), some (some 66), some (some 67)]), .inl (1, 12, []), .inl (1, 12, []), .inl (1, 12, []), .inl (1, 300, []), .inl (1, 300, []), .inl (1, 5, []), .inl (1, 5, []), .inr (3, [some none, some none, none, some none, some none, some none, some none, some none, none, none])]
def M_X3_init : aM := (yX3_init, cX3_init, 3, none, [])
theorem dX3_init_0 : decode cX3_init 0 = .ok (.aload_n 0, 1) := by decide +kernel
theorem dX3_init_1 : decode cX3_init 1 = .ok (.invokespecial 3, 3) := by decide +kernel
theorem dX3_init_4 : decode cX3_init 4 = .ok (.aload_n 0, 1) := by decide +kernel
theorem dX3_init_5 : decode cX3_init 5 = .ok (.bipush 6, 2) := by decide +kernel
theorem dX3_init_7 : decode cX3_init 7 = .ok (.newarray .int, 2) := by decide +kernel
theorem dX3_init_9 : decode cX3_init 9 = .ok (.putfield 9, 3) := by decide +kernel
theorem dX3_init_12 : decode cX3_init 12 = .ok (.aload_n 0, 1) := by decide +kernel
theorem dX3_init_13 : decode cX3_init 13 = .ok (.bipush 6, 2) := by decide +kernel
theorem dX3_init_15 : decode cX3_init 15 = .ok (.newarray .int, 2) := by decide +kernel
theorem dX3_init_17 : decode cX3_init 17 = .ok (.putfield 15, 3) := by decide +kernel
theorem dX3_init_20 : decode cX3_init 20 = .ok (.aload_n 0, 1) := by decide +kernel
theorem dX3_init_21 : decode cX3_init 21 = .ok (.bipush 6, 2) := by decide +kernel
theorem dX3_init_23 : decode cX3_init 23 = .ok (.newarray .int, 2) := by decide +kernel
theorem dX3_init_25 : decode cX3_init 25 = .ok (.putfield 18, 3) := by decide +kernel
theorem dX3_init_28 : decode cX3_init 28 = .ok (.aload_n 0, 1) := by decide +kernel
theorem dX3_init_29 : decode cX3_init 29 = .ok (.bipush 6, 2) := by decide +kernel
theorem dX3_init_31 : decode cX3_init 31 = .ok (.newarray .int, 2) := by decide +kernel
theorem dX3_init_33 : decode cX3_init 33 = .ok (.putfield 21, 3) := by decide +kernel
theorem dX3_init_36 : decode cX3_init 36 = .ok (.aload_n 0, 1) := by decide +kernel
theorem dX3_init_37 : decode cX3_init 37 = .ok (.bipush 21, 2) := by decide +kernel
theorem dX3_init_39 : decode cX3_init 39 = .ok (.newarray .int, 2) := by decide +kernel
theorem dX3_init_41 : decode cX3_init 41 = .ok (.putfield 24, 3) := by decide +kernel
theorem dX3_init_44 : decode cX3_init 44 = .ok (.aload_n 0, 1) := by decide +kernel
theorem dX3_init_45 : decode cX3_init 45 = .ok (.aload_n 1, 1) := by decide +kernel
theorem dX3_init_46 : decode cX3_init 46 = .ok (.putfield 27, 3) := by decide +kernel
theorem dX3_init_49 : decode cX3_init 49 = .ok (.aload_n 0, 1) := by decide +kernel
theorem dX3_init_50 : decode cX3_init 50 = .ok (.aload_n 2, 1) := by decide +kernel
theorem dX3_init_51 : decode cX3_init 51 = .ok (.putfield 31, 3) := by decide +kernel
theorem dX3_init_54 : decode cX3_init 54 = .ok (.return_, 1) := by decide +kernel
theorem ko_RX3_3 : Cond.methodLink RX3 3 Lib.objectInit ∈ aU ∧ Cond.instanceMethod Lib.objectInit ∈ aU ∧ Cond.code Lib.objectInit ⟨#[0xb1]⟩ 1 none ∈ aU := ⟨aU_2 164 rfl rfl, aU_1 32 rfl rfl, aU_1 33 rfl rfl⟩
def sh_187 : List aSh := sh_186 ++ [.inl (1, 6, [])]
def sh_188 : List aSh := sh_187.set 68 (.inr (3, [some none, some none, none, some (some 69), some none, some none, some none, some none, none, none]))
def sh_189 : List aSh := sh_188 ++ [.inl (1, 6, [])]
def sh_190 : List aSh := sh_189.set 68 (.inr (3, [some none, some none, none, some (some 69), some (some 70), some none, some none, some none, none, none]))
def sh_191 : List aSh := sh_190 ++ [.inl (1, 6, [])]
def sh_192 : List aSh := sh_191.set 68 (.inr (3, [some none, some none, none, some (some 69), some (some 70), some (some 71), some none, some none, none, none]))
def sh_193 : List aSh := sh_192 ++ [.inl (1, 6, [])]
def sh_194 : List aSh := sh_193.set 68 (.inr (3, [some none, some none, none, some (some 69), some (some 70), some (some 71), some (some 72), some none, none, none]))
def sh_195 : List aSh := sh_194 ++ [.inl (1, 21, [])]
def sh_196 : List aSh := sh_195.set 68 (.inr (3, [some none, some none, none, some (some 69), some (some 70), some (some 71), some (some 72), some (some 73), none, none]))
def sh_197 : List aSh := sh_196.set 68 (.inr (3, [some (some 2), some none, none, some (some 69), some (some 70), some (some 71), some (some 72), some (some 73), none, none]))
def sh_198 : List aSh := sh_197.set 68 (.inr (3, [some (some 2), some (some 60), none, some (some 69), some (some 70), some (some 71), some (some 72), some (some 73), none, none]))
def sh_199 : List aSh := [.inr (11, [some (some 1), none, none, some (some 2), some (some 21), some (some 40), some (some 48), none, some (some 56), some (some 57), some (some 60), some none, some none, some none]), .inl (0, 700, []), .inr (6, [some (some 3), some (some 7), none, none, none, none, none, none, none, none, some (some 8), some (some 9), some (some 10), some (some 11), some (some 12), some (some 13), some (some 14)]), .inr (4, [none, none, some (some 4), some (some 5), some (some 6)]), .inl (1, 64, []), .inl (1, 64, []), .inl (3, 64, []), .inl (4, 6, [some 15, some 16, some 17, some 18, some 19, some 20]), .inl (1, 12, []), .inl (1, 12, []), .inl (1, 12, []), .inl (1, 5, []), .inl (1, 36, []), .inl (3, 6, []), .inl (1, 5, []), .inr (8, [none, none, none, none, none, none, none]), .inr (8, [none, none, none, none, none, none, none]), .inr (8, [none, none, none, none, none, none, none]), .inr (8, [none, none, none, none, none, none, none]), .inr (8, [none, none, none, none, none, none, none]), .inr (8, [none, none, none, none, none, none, none]), .inr (6, [some (some 22), some (some 26), none, none, none, none, none, none, none, none, some (some 27), some (some 28), some (some 29), some (some 30), some (some 31), some (some 32), some (some 33)]), .inr (4, [none, none, some (some 23), some (some 24), some (some 25)]), .inl (1, 64, []), .inl (1, 64, []), .inl (3, 64, []), .inl (4, 6, [some 34, some 35, some 36, some 37, some 38, some 39]), .inl (1, 12, []), .inl (1, 12, []), .inl (1, 12, []), .inl (1, 5, []), .inl (1, 36, []), .inl (3, 6, []), .inl (1, 5, []), .inr (8, [none, none, none, none, none, none, none]), .inr (8, [none, none, none, none, none, none, none]), .inr (8, [none, none, none, none, none, none, none]), .inr (8, [none, none, none, none, none, none, none]), .inr (8, [none, none, none, none, none, none, none]), .inr (8, [none, none, none, none, none, none, none]), .inr (9, [some (some 41), some (some 42), none, none, none, some (some 43), some (some 44), some (some 45), some (some 46), some (some 47)]), .inl (1, 12, []), .inl (1, 5, []), .inl (1, 12, []), .inl (1, 12, []), .inl (1, 12, []), .inl (1, 12, []), .inl (1, 3, []), .inr (9, [some (some 49), some (some 50), none, none, none, some (some 51), some (some 52), some (some 53), some (some 54), some (some 55)]), .inl (1, 12, []), .inl (1, 5, []), .inl (1, 12, []), .inl (1, 12, []), .inl (1, 12, []), .inl (1, 12, []), .inl (1, 3, []), .inr (7, [some (some 1), some (some 21), none, none, none, none, none, none, none]), .inr (0, [some (some 2), some (some 40), some (some 58), some (some 59)]), .inl (1, 6, []), .inl (1, 30, []), .inr (1, [some (some 2), some (some 40), some (some 57), none, some (some 61), some (some 62), some (some 63), some (some 64), some (some 65), some (some 66), some (some 67)]), .inl (1, 12, []), .inl (1, 12, []), .inl (1, 12, []), .inl (1, 300, []), .inl (1, 300, []), .inl (1, 5, []), .inl (1, 5, []), .inr (3, [some (some 2), some (some 60), none, some (some 69), some (some 70), some (some 71), some (some 72), some (some 73), none, none]), .inl (1, 6, []), .inl (1, 6, []), .inl (1, 6, []), .inl (1, 6, []), .inl (1, 21, [])]
def f_new_X3_68 (D : aD) : Option aD :=
  aLet (z0 D 69) (fun D_1 => aLet (z0 D_1 70) (fun D_2 => aLet (z0 D_2 71) (fun D_3 => aLet (z0 D_3 72) (fun D_4 => aLet (z0 D_4 73) (fun D_5 => some D_5)))))
set_option maxRecDepth 100000 in
set_option maxHeartbeats 4000000 in
theorem c_new_X3_68 {G : aG} (hG : gOK G) (hN : gNest G) {D : aD} {K : aD → Prop} (h : Ok (f_new_X3_68 D) K) : AC G (aRm 2 5 45) M_X3_init [.ref 68, .ref 2, .ref 60] (some 69) sh_186 D (aQv sh_199 K) := by
  unfold f_new_X3_68 at h
  refine AC.of (al := [some (.ref 68), some (.ref 2), some (.ref 60)]) (r := 0) (by decide) (Nat.le_of_ble_eq_true rfl) rfl ?_
  refine aw_aload_n (n := 1) (i := 0) dX3_init_0 rfl rfl rfl ?_
  refine aw_objInit (M := M_X3_init) (n := 4) ko_RX3_3.1 ko_RX3_3.2.1 ko_RX3_3.2.2 (by decide) (by decide) dX3_init_1 rfl ?_
  refine aw_aload_n (n := 5) (i := 0) dX3_init_4 rfl rfl rfl ?_
  refine aw_bipush (n := 7) (v := 6) dX3_init_5 rfl (by decide) ?_
  obtain ⟨D_1, e_D_1, h⟩ := Ok.let_ h
  refine aw_newa (M := M_X3_init) (n := 9) (t := 1) (N := 6) (ty := .int) (L := 69) (n0 := 69) (shp' := sh_187) (D' := D_1) hG.1 rfl rfl rfl (by decide) aw_int rfl rfl (fun _ _ h => h) (at_z1) (by decide) rfl (by decide) (by decide) (by decide) dX3_init_7 rfl rfl (kc' := 1) (ks' := 6) rfl rfl e_D_1 ?_
  refine aw_putR (M := M_X3_init) (n := 12) (j := 3) (k := 68) (r := 69) (shp' := sh_188) hG.1 fl_RX3_9 ⟨rfl, fun _ => ⟨rfl, rfl⟩⟩ ⟨_, _, rfl⟩ rfl (fs := [some none, some none, none, some none, some none, some none, some none, some none, none, none]) (rfl : sh_187[68]? = _) (by decide) rfl dX3_init_9 rfl ?_
  refine aw_aload_n (n := 13) (i := 0) dX3_init_12 rfl rfl rfl ?_
  refine aw_bipush (n := 15) (v := 6) dX3_init_13 rfl (by decide) ?_
  obtain ⟨D_2, e_D_2, h⟩ := Ok.let_ h
  refine aw_newa (M := M_X3_init) (n := 17) (t := 1) (N := 6) (ty := .int) (L := 70) (n0 := 69) (shp' := sh_189) (D' := D_2) hG.1 rfl rfl rfl (by decide) aw_int rfl rfl (fun _ _ h => h) (at_z1) (by decide) rfl (by decide) (by decide) (by decide) dX3_init_15 rfl rfl (kc' := 2) (ks' := 12) rfl rfl e_D_2 ?_
  refine aw_putR (M := M_X3_init) (n := 20) (j := 4) (k := 68) (r := 70) (shp' := sh_190) hG.1 fl_RX3_15 ⟨rfl, fun _ => ⟨rfl, rfl⟩⟩ ⟨_, _, rfl⟩ rfl (fs := [some none, some none, none, some (some 69), some none, some none, some none, some none, none, none]) (rfl : sh_189[68]? = _) (by decide) rfl dX3_init_17 rfl ?_
  refine aw_aload_n (n := 21) (i := 0) dX3_init_20 rfl rfl rfl ?_
  refine aw_bipush (n := 23) (v := 6) dX3_init_21 rfl (by decide) ?_
  obtain ⟨D_3, e_D_3, h⟩ := Ok.let_ h
  refine aw_newa (M := M_X3_init) (n := 25) (t := 1) (N := 6) (ty := .int) (L := 71) (n0 := 69) (shp' := sh_191) (D' := D_3) hG.1 rfl rfl rfl (by decide) aw_int rfl rfl (fun _ _ h => h) (at_z1) (by decide) rfl (by decide) (by decide) (by decide) dX3_init_23 rfl rfl (kc' := 3) (ks' := 18) rfl rfl e_D_3 ?_
  refine aw_putR (M := M_X3_init) (n := 28) (j := 5) (k := 68) (r := 71) (shp' := sh_192) hG.1 fl_RX3_18 ⟨rfl, fun _ => ⟨rfl, rfl⟩⟩ ⟨_, _, rfl⟩ rfl (fs := [some none, some none, none, some (some 69), some (some 70), some none, some none, some none, none, none]) (rfl : sh_191[68]? = _) (by decide) rfl dX3_init_25 rfl ?_
  refine aw_aload_n (n := 29) (i := 0) dX3_init_28 rfl rfl rfl ?_
  refine aw_bipush (n := 31) (v := 6) dX3_init_29 rfl (by decide) ?_
  obtain ⟨D_4, e_D_4, h⟩ := Ok.let_ h
  refine aw_newa (M := M_X3_init) (n := 33) (t := 1) (N := 6) (ty := .int) (L := 72) (n0 := 69) (shp' := sh_193) (D' := D_4) hG.1 rfl rfl rfl (by decide) aw_int rfl rfl (fun _ _ h => h) (at_z1) (by decide) rfl (by decide) (by decide) (by decide) dX3_init_31 rfl rfl (kc' := 4) (ks' := 24) rfl rfl e_D_4 ?_
  refine aw_putR (M := M_X3_init) (n := 36) (j := 6) (k := 68) (r := 72) (shp' := sh_194) hG.1 fl_RX3_21 ⟨rfl, fun _ => ⟨rfl, rfl⟩⟩ ⟨_, _, rfl⟩ rfl (fs := [some none, some none, none, some (some 69), some (some 70), some (some 71), some none, some none, none, none]) (rfl : sh_193[68]? = _) (by decide) rfl dX3_init_33 rfl ?_
  refine aw_aload_n (n := 37) (i := 0) dX3_init_36 rfl rfl rfl ?_
  refine aw_bipush (n := 39) (v := 21) dX3_init_37 rfl (by decide) ?_
  obtain ⟨D_5, e_D_5, h⟩ := Ok.let_ h
  refine aw_newa (M := M_X3_init) (n := 41) (t := 1) (N := 21) (ty := .int) (L := 73) (n0 := 69) (shp' := sh_195) (D' := D_5) hG.1 rfl rfl rfl (by decide) aw_int rfl rfl (fun _ _ h => h) (at_z1) (by decide) rfl (by decide) (by decide) (by decide) dX3_init_39 rfl rfl (kc' := 5) (ks' := 45) rfl rfl e_D_5 ?_
  refine aw_putR (M := M_X3_init) (n := 44) (j := 7) (k := 68) (r := 73) (shp' := sh_196) hG.1 fl_RX3_24 ⟨rfl, fun _ => ⟨rfl, rfl⟩⟩ ⟨_, _, rfl⟩ rfl (fs := [some none, some none, none, some (some 69), some (some 70), some (some 71), some (some 72), some none, none, none]) (rfl : sh_195[68]? = _) (by decide) rfl dX3_init_41 rfl ?_
  refine aw_aload_n (n := 45) (i := 0) dX3_init_44 rfl rfl rfl ?_
  refine aw_aload_n (n := 46) (i := 1) dX3_init_45 rfl rfl rfl ?_
  refine aw_putR (M := M_X3_init) (n := 49) (j := 0) (k := 68) (r := 2) (shp' := sh_197) hG.1 fl_RX3_27 ⟨rfl, fun _ => ⟨rfl, rfl⟩⟩ ⟨_, _, rfl⟩ rfl (fs := [some none, some none, none, some (some 69), some (some 70), some (some 71), some (some 72), some (some 73), none, none]) (rfl : sh_196[68]? = _) (by decide) rfl dX3_init_46 rfl ?_
  refine aw_aload_n (n := 50) (i := 0) dX3_init_49 rfl rfl rfl ?_
  refine aw_aload_n (n := 51) (i := 2) dX3_init_50 rfl rfl rfl ?_
  refine aw_putR (M := M_X3_init) (n := 54) (j := 1) (k := 68) (r := 60) (shp' := sh_198) hG.1 fl_RX3_31 ⟨rfl, fun _ => ⟨rfl, rfl⟩⟩ ⟨_, _, rfl⟩ rfl (fs := [some (some 2), some none, none, some (some 69), some (some 70), some (some 71), some (some 72), some (some 73), none, none]) (rfl : sh_197[68]? = _) (by decide) rfl dX3_init_51 rfl ?_
  exact aw_vret rfl (by decide) (by decide) dX3_init_54 ⟨rfl, (rfl : sh_198 = sh_199), (Ok.dn h :)⟩
theorem ki_RX11_66 : aLkI RX11 66 3 M_X3_init ∧ aNp M_X3_init = some 2 := ⟨⟨aU_2 161 rfl rfl, aU_2 162 rfl rfl, aU_1 10 rfl rfl, aU_2 163 rfl rfl, rfl, rfl, ⟨by decide +kernel, by decide +kernel⟩⟩, by decide +kernel⟩
def sh_200 : List aSh := sh_199.set 0 (.inr (11, [some (some 1), none, none, some (some 2), some (some 21), some (some 40), some (some 48), none, some (some 56), some (some 57), some (some 60), some (some 68), some none, some none]))
def sh_201 : List aSh := sh_200 ++ [.inr (2, [some none, some none, some none, some none, some none, some none, some none])]
theorem kw_RX11_73 : Cond.classLink RX11 73 "NoseTown$Fairness" ∈ aU ∧ Cond.instantiable "NoseTown$Fairness" 7 ∈ aU ∧ Cond.initialized "NoseTown$Fairness" ∈ aU := ⟨aU_2 198 rfl rfl, aU_2 199 rfl rfl, aU_1 11 rfl rfl⟩
def sh_202 : List aSh := [.inr (11, [some (some 1), none, none, some (some 2), some (some 21), some (some 40), some (some 48), none, some (some 56), some (some 57), some (some 60), some (some 68), some none, some none]), .inl (0, 700, []), .inr (6, [some (some 3), some (some 7), none, none, none, none, none, none, none, none, some (some 8), some (some 9), some (some 10), some (some 11), some (some 12), some (some 13), some (some 14)]), .inr (4, [none, none, some (some 4), some (some 5), some (some 6)]), .inl (1, 64, []), .inl (1, 64, []), .inl (3, 64, []), .inl (4, 6, [some 15, some 16, some 17, some 18, some 19, some 20]), .inl (1, 12, []), .inl (1, 12, []), .inl (1, 12, []), .inl (1, 5, []), .inl (1, 36, []), .inl (3, 6, []), .inl (1, 5, []), .inr (8, [none, none, none, none, none, none, none]), .inr (8, [none, none, none, none, none, none, none]), .inr (8, [none, none, none, none, none, none, none]), .inr (8, [none, none, none, none, none, none, none]), .inr (8, [none, none, none, none, none, none, none]), .inr (8, [none, none, none, none, none, none, none]), .inr (6, [some (some 22), some (some 26), none, none, none, none, none, none, none, none, some (some 27), some (some 28), some (some 29), some (some 30), some (some 31), some (some 32), some (some 33)]), .inr (4, [none, none, some (some 23), some (some 24), some (some 25)]), .inl (1, 64, []), .inl (1, 64, []), .inl (3, 64, []), .inl (4, 6, [some 34, some 35, some 36, some 37, some 38, some 39]), .inl (1, 12, []), .inl (1, 12, []), .inl (1, 12, []), .inl (1, 5, []), .inl (1, 36, []), .inl (3, 6, []), .inl (1, 5, []), .inr (8, [none, none, none, none, none, none, none]), .inr (8, [none, none, none, none, none, none, none]), .inr (8, [none, none, none, none, none, none, none]), .inr (8, [none, none, none, none, none, none, none]), .inr (8, [none, none, none, none, none, none, none]), .inr (8, [none, none, none, none, none, none, none]), .inr (9, [some (some 41), some (some 42), none, none, none, some (some 43), some (some 44), some (some 45), some (some 46), some (some 47)]), .inl (1, 12, []), .inl (1, 5, []), .inl (1, 12, []), .inl (1, 12, []), .inl (1, 12, []), .inl (1, 12, []), .inl (1, 3, []), .inr (9, [some (some 49), some (some 50), none, none, none, some (some 51), some (some 52), some (some 53), some (some 54), some (some 55)]), .inl (1, 12, []), .inl (1, 5, []), .inl (1, 12, []), .inl (1, 12, []), .inl (1, 12, []), .inl (1, 12, []), .inl (1, 3, []), .inr (7, [some (some 1), some (some 21), none, none, none, none, none, none, none]), .inr (0, [some (some 2), some (some 40), some (some 58), some (some 59)]), .inl (1, 6, []), .inl (1, 30, []), .inr (1, [some (some 2), some (some 40), some (some 57), none, some (some 61), some (some 62), some (some 63), some (some 64), some (some 65), some (some 66), some (some 67)]), .inl (1, 12, []), .inl (1, 12, []), .inl (1, 12, []), .inl (1, 300, []), .inl (1, 300, []), .inl (1, 5, []), .inl (1, 5, []), .inr (3, [some (some 2), some (some 60), none, some (some 69), some (some 70), some (some 71), some (some 72), some (some 73), none, none]), .inl (1, 6, []), .inl (1, 6, []), .inl (1, 6, []), .inl (1, 6, []), .inl (1, 21, []), .inr (2, [some none, some none, some none, some none, some none, some none, some none])]
def M_X2_init : aM := (yX2_init, cX2_init, 4, none, [])
theorem dX2_init_0 : decode cX2_init 0 = .ok (.aload_n 0, 1) := by decide +kernel
theorem dX2_init_1 : decode cX2_init 1 = .ok (.invokespecial 3, 3) := by decide +kernel
theorem dX2_init_4 : decode cX2_init 4 = .ok (.aload_n 0, 1) := by decide +kernel
theorem dX2_init_5 : decode cX2_init 5 = .ok (.iconst 5, 1) := by decide +kernel
theorem dX2_init_6 : decode cX2_init 6 = .ok (.newarray .int, 2) := by decide +kernel
theorem dX2_init_8 : decode cX2_init 8 = .ok (.putfield 9, 3) := by decide +kernel
theorem dX2_init_11 : decode cX2_init 11 = .ok (.aload_n 0, 1) := by decide +kernel
theorem dX2_init_12 : decode cX2_init 12 = .ok (.iconst 5, 1) := by decide +kernel
theorem dX2_init_13 : decode cX2_init 13 = .ok (.newarray .int, 2) := by decide +kernel
theorem dX2_init_15 : decode cX2_init 15 = .ok (.putfield 15, 3) := by decide +kernel
theorem dX2_init_18 : decode cX2_init 18 = .ok (.aload_n 0, 1) := by decide +kernel
theorem dX2_init_19 : decode cX2_init 19 = .ok (.iconst 5, 1) := by decide +kernel
theorem dX2_init_20 : decode cX2_init 20 = .ok (.newarray .int, 2) := by decide +kernel
theorem dX2_init_22 : decode cX2_init 22 = .ok (.putfield 18, 3) := by decide +kernel
theorem dX2_init_25 : decode cX2_init 25 = .ok (.aload_n 0, 1) := by decide +kernel
theorem dX2_init_26 : decode cX2_init 26 = .ok (.sipush 625, 3) := by decide +kernel
theorem dX2_init_29 : decode cX2_init 29 = .ok (.newarray .int, 2) := by decide +kernel
theorem dX2_init_31 : decode cX2_init 31 = .ok (.putfield 21, 3) := by decide +kernel
theorem dX2_init_34 : decode cX2_init 34 = .ok (.aload_n 0, 1) := by decide +kernel
theorem dX2_init_35 : decode cX2_init 35 = .ok (.aload_n 1, 1) := by decide +kernel
theorem dX2_init_36 : decode cX2_init 36 = .ok (.putfield 24, 3) := by decide +kernel
theorem dX2_init_39 : decode cX2_init 39 = .ok (.aload_n 0, 1) := by decide +kernel
theorem dX2_init_40 : decode cX2_init 40 = .ok (.aload_n 2, 1) := by decide +kernel
theorem dX2_init_41 : decode cX2_init 41 = .ok (.putfield 28, 3) := by decide +kernel
theorem dX2_init_44 : decode cX2_init 44 = .ok (.aload_n 0, 1) := by decide +kernel
theorem dX2_init_45 : decode cX2_init 45 = .ok (.aload_n 3, 1) := by decide +kernel
theorem dX2_init_46 : decode cX2_init 46 = .ok (.putfield 32, 3) := by decide +kernel
theorem dX2_init_49 : decode cX2_init 49 = .ok (.return_, 1) := by decide +kernel
theorem ko_RX2_3 : Cond.methodLink RX2 3 Lib.objectInit ∈ aU ∧ Cond.instanceMethod Lib.objectInit ∈ aU ∧ Cond.code Lib.objectInit ⟨#[0xb1]⟩ 1 none ∈ aU := ⟨aU_2 203 rfl rfl, aU_1 32 rfl rfl, aU_1 33 rfl rfl⟩
def sh_203 : List aSh := sh_202 ++ [.inl (1, 5, [])]
def sh_204 : List aSh := sh_203.set 74 (.inr (2, [some none, some none, some none, some (some 75), some none, some none, some none]))
def sh_205 : List aSh := sh_204 ++ [.inl (1, 5, [])]
def sh_206 : List aSh := sh_205.set 74 (.inr (2, [some none, some none, some none, some (some 75), some (some 76), some none, some none]))
def sh_207 : List aSh := sh_206 ++ [.inl (1, 5, [])]
def sh_208 : List aSh := sh_207.set 74 (.inr (2, [some none, some none, some none, some (some 75), some (some 76), some (some 77), some none]))
def sh_209 : List aSh := sh_208 ++ [.inl (1, 625, [])]
def sh_210 : List aSh := sh_209.set 74 (.inr (2, [some none, some none, some none, some (some 75), some (some 76), some (some 77), some (some 78)]))
def sh_211 : List aSh := sh_210.set 74 (.inr (2, [some (some 2), some none, some none, some (some 75), some (some 76), some (some 77), some (some 78)]))
def sh_212 : List aSh := sh_211.set 74 (.inr (2, [some (some 2), some (some 40), some none, some (some 75), some (some 76), some (some 77), some (some 78)]))
def sh_213 : List aSh := sh_212.set 74 (.inr (2, [some (some 2), some (some 40), some (some 57), some (some 75), some (some 76), some (some 77), some (some 78)]))
def sh_214 : List aSh := [.inr (11, [some (some 1), none, none, some (some 2), some (some 21), some (some 40), some (some 48), none, some (some 56), some (some 57), some (some 60), some (some 68), some none, some none]), .inl (0, 700, []), .inr (6, [some (some 3), some (some 7), none, none, none, none, none, none, none, none, some (some 8), some (some 9), some (some 10), some (some 11), some (some 12), some (some 13), some (some 14)]), .inr (4, [none, none, some (some 4), some (some 5), some (some 6)]), .inl (1, 64, []), .inl (1, 64, []), .inl (3, 64, []), .inl (4, 6, [some 15, some 16, some 17, some 18, some 19, some 20]), .inl (1, 12, []), .inl (1, 12, []), .inl (1, 12, []), .inl (1, 5, []), .inl (1, 36, []), .inl (3, 6, []), .inl (1, 5, []), .inr (8, [none, none, none, none, none, none, none]), .inr (8, [none, none, none, none, none, none, none]), .inr (8, [none, none, none, none, none, none, none]), .inr (8, [none, none, none, none, none, none, none]), .inr (8, [none, none, none, none, none, none, none]), .inr (8, [none, none, none, none, none, none, none]), .inr (6, [some (some 22), some (some 26), none, none, none, none, none, none, none, none, some (some 27), some (some 28), some (some 29), some (some 30), some (some 31), some (some 32), some (some 33)]), .inr (4, [none, none, some (some 23), some (some 24), some (some 25)]), .inl (1, 64, []), .inl (1, 64, []), .inl (3, 64, []), .inl (4, 6, [some 34, some 35, some 36, some 37, some 38, some 39]), .inl (1, 12, []), .inl (1, 12, []), .inl (1, 12, []), .inl (1, 5, []), .inl (1, 36, []), .inl (3, 6, []), .inl (1, 5, []), .inr (8, [none, none, none, none, none, none, none]), .inr (8, [none, none, none, none, none, none, none]), .inr (8, [none, none, none, none, none, none, none]), .inr (8, [none, none, none, none, none, none, none]), .inr (8, [none, none, none, none, none, none, none]), .inr (8, [none, none, none, none, none, none, none]), .inr (9, [some (some 41), some (some 42), none, none, none, some (some 43), some (some 44), some (some 45), some (some 46), some (some 47)]), .inl (1, 12, []), .inl (1, 5, []), .inl (1, 12, []), .inl (1, 12, []), .inl (1, 12, []), .inl (1, 12, []), .inl (1, 3, []), .inr (9, [some (some 49), some (some 50), none, none, none, some (some 51), some (some 52), some (some 53), some (some 54), some (some 55)]), .inl (1, 12, []), .inl (1, 5, []), .inl (1, 12, []), .inl (1, 12, []), .inl (1, 12, []), .inl (1, 12, []), .inl (1, 3, []), .inr (7, [some (some 1), some (some 21), none, none, none, none, none, none, none]), .inr (0, [some (some 2), some (some 40), some (some 58), some (some 59)]), .inl (1, 6, []), .inl (1, 30, []), .inr (1, [some (some 2), some (some 40), some (some 57), none, some (some 61), some (some 62), some (some 63), some (some 64), some (some 65), some (some 66), some (some 67)]), .inl (1, 12, []), .inl (1, 12, []), .inl (1, 12, []), .inl (1, 300, []), .inl (1, 300, []), .inl (1, 5, []), .inl (1, 5, []), .inr (3, [some (some 2), some (some 60), none, some (some 69), some (some 70), some (some 71), some (some 72), some (some 73), none, none]), .inl (1, 6, []), .inl (1, 6, []), .inl (1, 6, []), .inl (1, 6, []), .inl (1, 21, []), .inr (2, [some (some 2), some (some 40), some (some 57), some (some 75), some (some 76), some (some 77), some (some 78)]), .inl (1, 5, []), .inl (1, 5, []), .inl (1, 5, []), .inl (1, 625, [])]
def f_new_X2_74 (D : aD) : Option aD :=
  aLet (z0 D 75) (fun D_1 => aLet (z0 D_1 76) (fun D_2 => aLet (z0 D_2 77) (fun D_3 => aLet (z0 D_3 78) (fun D_4 => some D_4))))
set_option maxRecDepth 100000 in
set_option maxHeartbeats 4000000 in
theorem c_new_X2_74 {G : aG} (hG : gOK G) (hN : gNest G) {D : aD} {K : aD → Prop} (h : Ok (f_new_X2_74 D) K) : AC G (aRm 2 4 640) M_X2_init [.ref 74, .ref 2, .ref 40, .ref 57] (some 75) sh_202 D (aQv sh_214 K) := by
  unfold f_new_X2_74 at h
  refine AC.of (al := [some (.ref 74), some (.ref 2), some (.ref 40), some (.ref 57)]) (r := 0) (by decide) (Nat.le_of_ble_eq_true rfl) rfl ?_
  refine aw_aload_n (n := 1) (i := 0) dX2_init_0 rfl rfl rfl ?_
  refine aw_objInit (M := M_X2_init) (n := 4) ko_RX2_3.1 ko_RX2_3.2.1 ko_RX2_3.2.2 (by decide) (by decide) dX2_init_1 rfl ?_
  refine aw_aload_n (n := 5) (i := 0) dX2_init_4 rfl rfl rfl ?_
  refine aw_iconst (n := 6) (v := 5) dX2_init_5 rfl (by decide) ?_
  obtain ⟨D_1, e_D_1, h⟩ := Ok.let_ h
  refine aw_newa (M := M_X2_init) (n := 8) (t := 1) (N := 5) (ty := .int) (L := 75) (n0 := 75) (shp' := sh_203) (D' := D_1) hG.1 rfl rfl rfl (by decide) aw_int rfl rfl (fun _ _ h => h) (at_z1) (by decide) rfl (by decide) (by decide) (by decide) dX2_init_6 rfl rfl (kc' := 1) (ks' := 5) rfl rfl e_D_1 ?_
  refine aw_putR (M := M_X2_init) (n := 11) (j := 3) (k := 74) (r := 75) (shp' := sh_204) hG.1 fl_RX2_9 ⟨rfl, fun _ => ⟨rfl, rfl⟩⟩ ⟨_, _, rfl⟩ rfl (fs := [some none, some none, some none, some none, some none, some none, some none]) (rfl : sh_203[74]? = _) (by decide) rfl dX2_init_8 rfl ?_
  refine aw_aload_n (n := 12) (i := 0) dX2_init_11 rfl rfl rfl ?_
  refine aw_iconst (n := 13) (v := 5) dX2_init_12 rfl (by decide) ?_
  obtain ⟨D_2, e_D_2, h⟩ := Ok.let_ h
  refine aw_newa (M := M_X2_init) (n := 15) (t := 1) (N := 5) (ty := .int) (L := 76) (n0 := 75) (shp' := sh_205) (D' := D_2) hG.1 rfl rfl rfl (by decide) aw_int rfl rfl (fun _ _ h => h) (at_z1) (by decide) rfl (by decide) (by decide) (by decide) dX2_init_13 rfl rfl (kc' := 2) (ks' := 10) rfl rfl e_D_2 ?_
  refine aw_putR (M := M_X2_init) (n := 18) (j := 4) (k := 74) (r := 76) (shp' := sh_206) hG.1 fl_RX2_15 ⟨rfl, fun _ => ⟨rfl, rfl⟩⟩ ⟨_, _, rfl⟩ rfl (fs := [some none, some none, some none, some (some 75), some none, some none, some none]) (rfl : sh_205[74]? = _) (by decide) rfl dX2_init_15 rfl ?_
  refine aw_aload_n (n := 19) (i := 0) dX2_init_18 rfl rfl rfl ?_
  refine aw_iconst (n := 20) (v := 5) dX2_init_19 rfl (by decide) ?_
  obtain ⟨D_3, e_D_3, h⟩ := Ok.let_ h
  refine aw_newa (M := M_X2_init) (n := 22) (t := 1) (N := 5) (ty := .int) (L := 77) (n0 := 75) (shp' := sh_207) (D' := D_3) hG.1 rfl rfl rfl (by decide) aw_int rfl rfl (fun _ _ h => h) (at_z1) (by decide) rfl (by decide) (by decide) (by decide) dX2_init_20 rfl rfl (kc' := 3) (ks' := 15) rfl rfl e_D_3 ?_
  refine aw_putR (M := M_X2_init) (n := 25) (j := 5) (k := 74) (r := 77) (shp' := sh_208) hG.1 fl_RX2_18 ⟨rfl, fun _ => ⟨rfl, rfl⟩⟩ ⟨_, _, rfl⟩ rfl (fs := [some none, some none, some none, some (some 75), some (some 76), some none, some none]) (rfl : sh_207[74]? = _) (by decide) rfl dX2_init_22 rfl ?_
  refine aw_aload_n (n := 26) (i := 0) dX2_init_25 rfl rfl rfl ?_
  refine aw_sipush (n := 29) (v := 625) dX2_init_26 rfl (by decide) ?_
  obtain ⟨D_4, e_D_4, h⟩ := Ok.let_ h
  refine aw_newa (M := M_X2_init) (n := 31) (t := 1) (N := 625) (ty := .int) (L := 78) (n0 := 75) (shp' := sh_209) (D' := D_4) hG.1 rfl rfl rfl (by decide) aw_int rfl rfl (fun _ _ h => h) (at_z1) (by decide) rfl (by decide) (by decide) (by decide) dX2_init_29 rfl rfl (kc' := 4) (ks' := 640) rfl rfl e_D_4 ?_
  refine aw_putR (M := M_X2_init) (n := 34) (j := 6) (k := 74) (r := 78) (shp' := sh_210) hG.1 fl_RX2_21 ⟨rfl, fun _ => ⟨rfl, rfl⟩⟩ ⟨_, _, rfl⟩ rfl (fs := [some none, some none, some none, some (some 75), some (some 76), some (some 77), some none]) (rfl : sh_209[74]? = _) (by decide) rfl dX2_init_31 rfl ?_
  refine aw_aload_n (n := 35) (i := 0) dX2_init_34 rfl rfl rfl ?_
  refine aw_aload_n (n := 36) (i := 1) dX2_init_35 rfl rfl rfl ?_
  refine aw_putR (M := M_X2_init) (n := 39) (j := 0) (k := 74) (r := 2) (shp' := sh_211) hG.1 fl_RX2_24 ⟨rfl, fun _ => ⟨rfl, rfl⟩⟩ ⟨_, _, rfl⟩ rfl (fs := [some none, some none, some none, some (some 75), some (some 76), some (some 77), some (some 78)]) (rfl : sh_210[74]? = _) (by decide) rfl dX2_init_36 rfl ?_
  refine aw_aload_n (n := 40) (i := 0) dX2_init_39 rfl rfl rfl ?_
  refine aw_aload_n (n := 41) (i := 2) dX2_init_40 rfl rfl rfl ?_
  refine aw_putR (M := M_X2_init) (n := 44) (j := 1) (k := 74) (r := 40) (shp' := sh_212) hG.1 fl_RX2_28 ⟨rfl, fun _ => ⟨rfl, rfl⟩⟩ ⟨_, _, rfl⟩ rfl (fs := [some (some 2), some none, some none, some (some 75), some (some 76), some (some 77), some (some 78)]) (rfl : sh_211[74]? = _) (by decide) rfl dX2_init_41 rfl ?_
  refine aw_aload_n (n := 45) (i := 0) dX2_init_44 rfl rfl rfl ?_
  refine aw_aload_n (n := 46) (i := 3) dX2_init_45 rfl rfl rfl ?_
  refine aw_putR (M := M_X2_init) (n := 49) (j := 2) (k := 74) (r := 57) (shp' := sh_213) hG.1 fl_RX2_32 ⟨rfl, fun _ => ⟨rfl, rfl⟩⟩ ⟨_, _, rfl⟩ rfl (fs := [some (some 2), some (some 40), some none, some (some 75), some (some 76), some (some 77), some (some 78)]) (rfl : sh_212[74]? = _) (by decide) rfl dX2_init_46 rfl ?_
  exact aw_vret rfl (by decide) (by decide) dX2_init_49 ⟨rfl, (rfl : sh_213 = sh_214), (Ok.dn h :)⟩
theorem ki_RX11_75 : aLkI RX11 75 2 M_X2_init ∧ aNp M_X2_init = some 3 := ⟨⟨aU_2 200 rfl rfl, aU_2 201 rfl rfl, aU_1 11 rfl rfl, aU_2 202 rfl rfl, rfl, rfl, ⟨by decide +kernel, by decide +kernel⟩⟩, by decide +kernel⟩
def sh_215 : List aSh := sh_214.set 0 (.inr (11, [some (some 1), none, none, some (some 2), some (some 21), some (some 40), some (some 48), none, some (some 56), some (some 57), some (some 60), some (some 68), some (some 74), some none]))
def sh_216 : List aSh := sh_215 ++ [.inr (10, [some none, some none, some none, some none, none, none, some none, some none])]
theorem kw_RX11_80 : Cond.classLink RX11 80 "NoseTown$Unseen" ∈ aU ∧ Cond.instantiable "NoseTown$Unseen" 8 ∈ aU ∧ Cond.initialized "NoseTown$Unseen" ∈ aU := ⟨aU_2 227 rfl rfl, aU_2 228 rfl rfl, aU_1 12 rfl rfl⟩
def sh_217 : List aSh := [.inr (11, [some (some 1), none, none, some (some 2), some (some 21), some (some 40), some (some 48), none, some (some 56), some (some 57), some (some 60), some (some 68), some (some 74), some none]), .inl (0, 700, []), .inr (6, [some (some 3), some (some 7), none, none, none, none, none, none, none, none, some (some 8), some (some 9), some (some 10), some (some 11), some (some 12), some (some 13), some (some 14)]), .inr (4, [none, none, some (some 4), some (some 5), some (some 6)]), .inl (1, 64, []), .inl (1, 64, []), .inl (3, 64, []), .inl (4, 6, [some 15, some 16, some 17, some 18, some 19, some 20]), .inl (1, 12, []), .inl (1, 12, []), .inl (1, 12, []), .inl (1, 5, []), .inl (1, 36, []), .inl (3, 6, []), .inl (1, 5, []), .inr (8, [none, none, none, none, none, none, none]), .inr (8, [none, none, none, none, none, none, none]), .inr (8, [none, none, none, none, none, none, none]), .inr (8, [none, none, none, none, none, none, none]), .inr (8, [none, none, none, none, none, none, none]), .inr (8, [none, none, none, none, none, none, none]), .inr (6, [some (some 22), some (some 26), none, none, none, none, none, none, none, none, some (some 27), some (some 28), some (some 29), some (some 30), some (some 31), some (some 32), some (some 33)]), .inr (4, [none, none, some (some 23), some (some 24), some (some 25)]), .inl (1, 64, []), .inl (1, 64, []), .inl (3, 64, []), .inl (4, 6, [some 34, some 35, some 36, some 37, some 38, some 39]), .inl (1, 12, []), .inl (1, 12, []), .inl (1, 12, []), .inl (1, 5, []), .inl (1, 36, []), .inl (3, 6, []), .inl (1, 5, []), .inr (8, [none, none, none, none, none, none, none]), .inr (8, [none, none, none, none, none, none, none]), .inr (8, [none, none, none, none, none, none, none]), .inr (8, [none, none, none, none, none, none, none]), .inr (8, [none, none, none, none, none, none, none]), .inr (8, [none, none, none, none, none, none, none]), .inr (9, [some (some 41), some (some 42), none, none, none, some (some 43), some (some 44), some (some 45), some (some 46), some (some 47)]), .inl (1, 12, []), .inl (1, 5, []), .inl (1, 12, []), .inl (1, 12, []), .inl (1, 12, []), .inl (1, 12, []), .inl (1, 3, []), .inr (9, [some (some 49), some (some 50), none, none, none, some (some 51), some (some 52), some (some 53), some (some 54), some (some 55)]), .inl (1, 12, []), .inl (1, 5, []), .inl (1, 12, []), .inl (1, 12, []), .inl (1, 12, []), .inl (1, 12, []), .inl (1, 3, []), .inr (7, [some (some 1), some (some 21), none, none, none, none, none, none, none]), .inr (0, [some (some 2), some (some 40), some (some 58), some (some 59)]), .inl (1, 6, []), .inl (1, 30, []), .inr (1, [some (some 2), some (some 40), some (some 57), none, some (some 61), some (some 62), some (some 63), some (some 64), some (some 65), some (some 66), some (some 67)]), .inl (1, 12, []), .inl (1, 12, []), .inl (1, 12, []), .inl (1, 300, []), .inl (1, 300, []), .inl (1, 5, []), .inl (1, 5, []), .inr (3, [some (some 2), some (some 60), none, some (some 69), some (some 70), some (some 71), some (some 72), some (some 73), none, none]), .inl (1, 6, []), .inl (1, 6, []), .inl (1, 6, []), .inl (1, 6, []), .inl (1, 21, []), .inr (2, [some (some 2), some (some 40), some (some 57), some (some 75), some (some 76), some (some 77), some (some 78)]), .inl (1, 5, []), .inl (1, 5, []), .inl (1, 5, []), .inl (1, 625, []), .inr (10, [some none, some none, some none, some none, none, none, some none, some none])]
def M_X10_init : aM := (yX10_init, cX10_init, 4, none, [])
theorem dX10_init_0 : decode cX10_init 0 = .ok (.aload_n 0, 1) := by decide +kernel
theorem dX10_init_1 : decode cX10_init 1 = .ok (.invokespecial 3, 3) := by decide +kernel
theorem dX10_init_4 : decode cX10_init 4 = .ok (.aload_n 0, 1) := by decide +kernel
theorem dX10_init_5 : decode cX10_init 5 = .ok (.sipush 1925, 3) := by decide +kernel
theorem dX10_init_8 : decode cX10_init 8 = .ok (.newarray .int, 2) := by decide +kernel
theorem dX10_init_10 : decode cX10_init 10 = .ok (.putfield 11, 3) := by decide +kernel
theorem dX10_init_13 : decode cX10_init 13 = .ok (.aload_n 0, 1) := by decide +kernel
theorem dX10_init_14 : decode cX10_init 14 = .ok (.bipush 72, 2) := by decide +kernel
theorem dX10_init_16 : decode cX10_init 16 = .ok (.newarray .int, 2) := by decide +kernel
theorem dX10_init_18 : decode cX10_init 18 = .ok (.putfield 15, 3) := by decide +kernel
theorem dX10_init_21 : decode cX10_init 21 = .ok (.aload_n 0, 1) := by decide +kernel
theorem dX10_init_22 : decode cX10_init 22 = .ok (.new 18, 3) := by decide +kernel
theorem dX10_init_25 : decode cX10_init 25 = .ok (.dup, 1) := by decide +kernel
theorem dX10_init_26 : decode cX10_init 26 = .ok (.sipush 1925, 3) := by decide +kernel
theorem dX10_init_29 : decode cX10_init 29 = .ok (.invokespecial 20, 3) := by decide +kernel
theorem dX10_init_32 : decode cX10_init 32 = .ok (.putfield 23, 3) := by decide +kernel
theorem dX10_init_35 : decode cX10_init 35 = .ok (.aload_n 0, 1) := by decide +kernel
theorem dX10_init_36 : decode cX10_init 36 = .ok (.aload_n 1, 1) := by decide +kernel
theorem dX10_init_37 : decode cX10_init 37 = .ok (.putfield 27, 3) := by decide +kernel
theorem dX10_init_40 : decode cX10_init 40 = .ok (.aload_n 0, 1) := by decide +kernel
theorem dX10_init_41 : decode cX10_init 41 = .ok (.aload_n 2, 1) := by decide +kernel
theorem dX10_init_42 : decode cX10_init 42 = .ok (.putfield 31, 3) := by decide +kernel
theorem dX10_init_45 : decode cX10_init 45 = .ok (.aload_n 0, 1) := by decide +kernel
theorem dX10_init_46 : decode cX10_init 46 = .ok (.aload_n 3, 1) := by decide +kernel
theorem dX10_init_47 : decode cX10_init 47 = .ok (.putfield 35, 3) := by decide +kernel
theorem dX10_init_50 : decode cX10_init 50 = .ok (.return_, 1) := by decide +kernel
theorem ko_RX10_3 : Cond.methodLink RX10 3 Lib.objectInit ∈ aU ∧ Cond.instanceMethod Lib.objectInit ∈ aU ∧ Cond.code Lib.objectInit ⟨#[0xb1]⟩ 1 none ∈ aU := ⟨aU_2 232 rfl rfl, aU_1 32 rfl rfl, aU_1 33 rfl rfl⟩
def sh_218 : List aSh := sh_217 ++ [.inl (1, 1925, [])]
def sh_219 : List aSh := sh_218.set 79 (.inr (10, [some none, some none, some none, some (some 80), none, none, some none, some none]))
def sh_220 : List aSh := sh_219 ++ [.inl (1, 72, [])]
def sh_221 : List aSh := sh_220.set 79 (.inr (10, [some none, some none, some none, some (some 80), none, none, some (some 81), some none]))
def sh_222 : List aSh := sh_221 ++ [.inr (5, [some none, some none, some none, some none, some none, none, none])]
theorem kw_RX10_18 : Cond.classLink RX10 18 "NoseTown$Groups" ∈ aU ∧ Cond.instantiable "NoseTown$Groups" 7 ∈ aU ∧ Cond.initialized "NoseTown$Groups" ∈ aU := ⟨aU_2 233 rfl rfl, aU_2 234 rfl rfl, aU_1 13 rfl rfl⟩
def sh_223 : List aSh := [.inr (11, [some (some 1), none, none, some (some 2), some (some 21), some (some 40), some (some 48), none, some (some 56), some (some 57), some (some 60), some (some 68), some (some 74), some none]), .inl (0, 700, []), .inr (6, [some (some 3), some (some 7), none, none, none, none, none, none, none, none, some (some 8), some (some 9), some (some 10), some (some 11), some (some 12), some (some 13), some (some 14)]), .inr (4, [none, none, some (some 4), some (some 5), some (some 6)]), .inl (1, 64, []), .inl (1, 64, []), .inl (3, 64, []), .inl (4, 6, [some 15, some 16, some 17, some 18, some 19, some 20]), .inl (1, 12, []), .inl (1, 12, []), .inl (1, 12, []), .inl (1, 5, []), .inl (1, 36, []), .inl (3, 6, []), .inl (1, 5, []), .inr (8, [none, none, none, none, none, none, none]), .inr (8, [none, none, none, none, none, none, none]), .inr (8, [none, none, none, none, none, none, none]), .inr (8, [none, none, none, none, none, none, none]), .inr (8, [none, none, none, none, none, none, none]), .inr (8, [none, none, none, none, none, none, none]), .inr (6, [some (some 22), some (some 26), none, none, none, none, none, none, none, none, some (some 27), some (some 28), some (some 29), some (some 30), some (some 31), some (some 32), some (some 33)]), .inr (4, [none, none, some (some 23), some (some 24), some (some 25)]), .inl (1, 64, []), .inl (1, 64, []), .inl (3, 64, []), .inl (4, 6, [some 34, some 35, some 36, some 37, some 38, some 39]), .inl (1, 12, []), .inl (1, 12, []), .inl (1, 12, []), .inl (1, 5, []), .inl (1, 36, []), .inl (3, 6, []), .inl (1, 5, []), .inr (8, [none, none, none, none, none, none, none]), .inr (8, [none, none, none, none, none, none, none]), .inr (8, [none, none, none, none, none, none, none]), .inr (8, [none, none, none, none, none, none, none]), .inr (8, [none, none, none, none, none, none, none]), .inr (8, [none, none, none, none, none, none, none]), .inr (9, [some (some 41), some (some 42), none, none, none, some (some 43), some (some 44), some (some 45), some (some 46), some (some 47)]), .inl (1, 12, []), .inl (1, 5, []), .inl (1, 12, []), .inl (1, 12, []), .inl (1, 12, []), .inl (1, 12, []), .inl (1, 3, []), .inr (9, [some (some 49), some (some 50), none, none, none, some (some 51), some (some 52), some (some 53), some (some 54), some (some 55)]), .inl (1, 12, []), .inl (1, 5, []), .inl (1, 12, []), .inl (1, 12, []), .inl (1, 12, []), .inl (1, 12, []), .inl (1, 3, []), .inr (7, [some (some 1), some (some 21), none, none, none, none, none, none, none]), .inr (0, [some (some 2), some (some 40), some (some 58), some (some 59)]), .inl (1, 6, []), .inl (1, 30, []), .inr (1, [some (some 2), some (some 40), some (some 57), none, some (some 61), some (some 62), some (some 63), some (some 64), some (some 65), some (some 66), some (some 67)]), .inl (1, 12, []), .inl (1, 12, []), .inl (1, 12, []), .inl (1, 300, []), .inl (1, 300, []), .inl (1, 5, []), .inl (1, 5, []), .inr (3, [some (some 2), some (some 60), none, some (some 69), some (some 70), some (some 71), some (some 72), some (some 73), none, none]), .inl (1, 6, []), .inl (1, 6, []), .inl (1, 6, []), .inl (1, 6, []), .inl (1, 21, []), .inr (2, [some (some 2), some (some 40), some (some 57), some (some 75), some (some 76), some (some 77), some (some 78)]), .inl (1, 5, []), .inl (1, 5, []), .inl (1, 5, []), .inl (1, 625, []), .inr (10, [some none, some none, some none, some (some 80), none, none, some (some 81), some none]), .inl (1, 1925, []), .inl (1, 72, []), .inr (5, [some none, some none, some none, some none, some none, none, none])]
def M_X5_init : aM := (yX5_init, cX5_init, 2, none, [])
theorem dX5_init_0 : decode cX5_init 0 = .ok (.aload_n 0, 1) := by decide +kernel
theorem dX5_init_1 : decode cX5_init 1 = .ok (.invokespecial 1, 3) := by decide +kernel
theorem dX5_init_4 : decode cX5_init 4 = .ok (.aload_n 0, 1) := by decide +kernel
theorem dX5_init_5 : decode cX5_init 5 = .ok (.sipush 1024, 3) := by decide +kernel
theorem dX5_init_8 : decode cX5_init 8 = .ok (.newarray .int, 2) := by decide +kernel
theorem dX5_init_10 : decode cX5_init 10 = .ok (.putfield 9, 3) := by decide +kernel
theorem dX5_init_13 : decode cX5_init 13 = .ok (.aload_n 0, 1) := by decide +kernel
theorem dX5_init_14 : decode cX5_init 14 = .ok (.iload_n 1, 1) := by decide +kernel
theorem dX5_init_15 : decode cX5_init 15 = .ok (.newarray .long, 2) := by decide +kernel
theorem dX5_init_17 : decode cX5_init 17 = .ok (.putfield 13, 3) := by decide +kernel
theorem dX5_init_20 : decode cX5_init 20 = .ok (.aload_n 0, 1) := by decide +kernel
theorem dX5_init_21 : decode cX5_init 21 = .ok (.iload_n 1, 1) := by decide +kernel
theorem dX5_init_22 : decode cX5_init 22 = .ok (.newarray .long, 2) := by decide +kernel
theorem dX5_init_24 : decode cX5_init 24 = .ok (.putfield 17, 3) := by decide +kernel
theorem dX5_init_27 : decode cX5_init 27 = .ok (.aload_n 0, 1) := by decide +kernel
theorem dX5_init_28 : decode cX5_init 28 = .ok (.iload_n 1, 1) := by decide +kernel
theorem dX5_init_29 : decode cX5_init 29 = .ok (.newarray .int, 2) := by decide +kernel
theorem dX5_init_31 : decode cX5_init 31 = .ok (.putfield 20, 3) := by decide +kernel
theorem dX5_init_34 : decode cX5_init 34 = .ok (.aload_n 0, 1) := by decide +kernel
theorem dX5_init_35 : decode cX5_init 35 = .ok (.iload_n 1, 1) := by decide +kernel
theorem dX5_init_36 : decode cX5_init 36 = .ok (.newarray .int, 2) := by decide +kernel
theorem dX5_init_38 : decode cX5_init 38 = .ok (.putfield 23, 3) := by decide +kernel
theorem dX5_init_41 : decode cX5_init 41 = .ok (.return_, 1) := by decide +kernel
theorem ko_RX5_1 : Cond.methodLink RX5 1 Lib.objectInit ∈ aU ∧ Cond.instanceMethod Lib.objectInit ∈ aU ∧ Cond.code Lib.objectInit ⟨#[0xb1]⟩ 1 none ∈ aU := ⟨aU_2 238 rfl rfl, aU_1 32 rfl rfl, aU_1 33 rfl rfl⟩
def sh_224 : List aSh := sh_223 ++ [.inl (1, 1024, [])]
def sh_225 : List aSh := sh_224.set 82 (.inr (5, [some (some 83), some none, some none, some none, some none, none, none]))
def sh_226 : List aSh := sh_225 ++ [.inl (2, 1925, [])]
def sh_227 : List aSh := sh_226.set 82 (.inr (5, [some (some 83), some (some 84), some none, some none, some none, none, none]))
def sh_228 : List aSh := sh_227 ++ [.inl (2, 1925, [])]
def sh_229 : List aSh := sh_228.set 82 (.inr (5, [some (some 83), some (some 84), some (some 85), some none, some none, none, none]))
def sh_230 : List aSh := sh_229 ++ [.inl (1, 1925, [])]
def sh_231 : List aSh := sh_230.set 82 (.inr (5, [some (some 83), some (some 84), some (some 85), some (some 86), some none, none, none]))
def sh_232 : List aSh := sh_231 ++ [.inl (1, 1925, [])]
def sh_233 : List aSh := sh_232.set 82 (.inr (5, [some (some 83), some (some 84), some (some 85), some (some 86), some (some 87), none, none]))
def sh_234 : List aSh := [.inr (11, [some (some 1), none, none, some (some 2), some (some 21), some (some 40), some (some 48), none, some (some 56), some (some 57), some (some 60), some (some 68), some (some 74), some none]), .inl (0, 700, []), .inr (6, [some (some 3), some (some 7), none, none, none, none, none, none, none, none, some (some 8), some (some 9), some (some 10), some (some 11), some (some 12), some (some 13), some (some 14)]), .inr (4, [none, none, some (some 4), some (some 5), some (some 6)]), .inl (1, 64, []), .inl (1, 64, []), .inl (3, 64, []), .inl (4, 6, [some 15, some 16, some 17, some 18, some 19, some 20]), .inl (1, 12, []), .inl (1, 12, []), .inl (1, 12, []), .inl (1, 5, []), .inl (1, 36, []), .inl (3, 6, []), .inl (1, 5, []), .inr (8, [none, none, none, none, none, none, none]), .inr (8, [none, none, none, none, none, none, none]), .inr (8, [none, none, none, none, none, none, none]), .inr (8, [none, none, none, none, none, none, none]), .inr (8, [none, none, none, none, none, none, none]), .inr (8, [none, none, none, none, none, none, none]), .inr (6, [some (some 22), some (some 26), none, none, none, none, none, none, none, none, some (some 27), some (some 28), some (some 29), some (some 30), some (some 31), some (some 32), some (some 33)]), .inr (4, [none, none, some (some 23), some (some 24), some (some 25)]), .inl (1, 64, []), .inl (1, 64, []), .inl (3, 64, []), .inl (4, 6, [some 34, some 35, some 36, some 37, some 38, some 39]), .inl (1, 12, []), .inl (1, 12, []), .inl (1, 12, []), .inl (1, 5, []), .inl (1, 36, []), .inl (3, 6, []), .inl (1, 5, []), .inr (8, [none, none, none, none, none, none, none]), .inr (8, [none, none, none, none, none, none, none]), .inr (8, [none, none, none, none, none, none, none]), .inr (8, [none, none, none, none, none, none, none]), .inr (8, [none, none, none, none, none, none, none]), .inr (8, [none, none, none, none, none, none, none]), .inr (9, [some (some 41), some (some 42), none, none, none, some (some 43), some (some 44), some (some 45), some (some 46), some (some 47)]), .inl (1, 12, []), .inl (1, 5, []), .inl (1, 12, []), .inl (1, 12, []), .inl (1, 12, []), .inl (1, 12, []), .inl (1, 3, []), .inr (9, [some (some 49), some (some 50), none, none, none, some (some 51), some (some 52), some (some 53), some (some 54), some (some 55)]), .inl (1, 12, []), .inl (1, 5, []), .inl (1, 12, []), .inl (1, 12, []), .inl (1, 12, []), .inl (1, 12, []), .inl (1, 3, []), .inr (7, [some (some 1), some (some 21), none, none, none, none, none, none, none]), .inr (0, [some (some 2), some (some 40), some (some 58), some (some 59)]), .inl (1, 6, []), .inl (1, 30, []), .inr (1, [some (some 2), some (some 40), some (some 57), none, some (some 61), some (some 62), some (some 63), some (some 64), some (some 65), some (some 66), some (some 67)]), .inl (1, 12, []), .inl (1, 12, []), .inl (1, 12, []), .inl (1, 300, []), .inl (1, 300, []), .inl (1, 5, []), .inl (1, 5, []), .inr (3, [some (some 2), some (some 60), none, some (some 69), some (some 70), some (some 71), some (some 72), some (some 73), none, none]), .inl (1, 6, []), .inl (1, 6, []), .inl (1, 6, []), .inl (1, 6, []), .inl (1, 21, []), .inr (2, [some (some 2), some (some 40), some (some 57), some (some 75), some (some 76), some (some 77), some (some 78)]), .inl (1, 5, []), .inl (1, 5, []), .inl (1, 5, []), .inl (1, 625, []), .inr (10, [some none, some none, some none, some (some 80), none, none, some (some 81), some none]), .inl (1, 1925, []), .inl (1, 72, []), .inr (5, [some (some 83), some (some 84), some (some 85), some (some 86), some (some 87), none, none]), .inl (1, 1024, []), .inl (2, 1925, []), .inl (2, 1925, []), .inl (1, 1925, []), .inl (1, 1925, [])]
def f_new_X5_82 (D : aD) : Option aD :=
  aLet (z0 D 83) (fun D_1 => aLet (z0 D_1 84) (fun D_2 => aLet (z0 D_2 85) (fun D_3 => aLet (z0 D_3 86) (fun D_4 => aLet (z0 D_4 87) (fun D_5 => some D_5)))))
set_option maxRecDepth 100000 in
set_option maxHeartbeats 4000000 in
theorem c_new_X5_82 {G : aG} (hG : gOK G) (hN : gNest G) {D : aD} {K : aD → Prop} (h : Ok (f_new_X5_82 D) K) : AC G (aRm 2 5 8724) M_X5_init [.ref 82, .int 1925] (some 83) sh_223 D (aQv sh_234 K) := by
  unfold f_new_X5_82 at h
  refine AC.of (al := [some (.ref 82), some (.int 1925)]) (r := 0) (by decide) (Nat.le_of_ble_eq_true rfl) rfl ?_
  refine aw_aload_n (n := 1) (i := 0) dX5_init_0 rfl rfl rfl ?_
  refine aw_objInit (M := M_X5_init) (n := 4) ko_RX5_1.1 ko_RX5_1.2.1 ko_RX5_1.2.2 (by decide) (by decide) dX5_init_1 rfl ?_
  refine aw_aload_n (n := 5) (i := 0) dX5_init_4 rfl rfl rfl ?_
  refine aw_sipush (n := 8) (v := 1024) dX5_init_5 rfl (by decide) ?_
  obtain ⟨D_1, e_D_1, h⟩ := Ok.let_ h
  refine aw_newa (M := M_X5_init) (n := 10) (t := 1) (N := 1024) (ty := .int) (L := 83) (n0 := 83) (shp' := sh_224) (D' := D_1) hG.1 rfl rfl rfl (by decide) aw_int rfl rfl (fun _ _ h => h) (at_z1) (by decide) rfl (by decide) (by decide) (by decide) dX5_init_8 rfl rfl (kc' := 1) (ks' := 1024) rfl rfl e_D_1 ?_
  refine aw_putR (M := M_X5_init) (n := 13) (j := 0) (k := 82) (r := 83) (shp' := sh_225) hG.1 fl_RX5_9 ⟨rfl, fun _ => ⟨rfl, rfl⟩⟩ ⟨_, _, rfl⟩ rfl (fs := [some none, some none, some none, some none, some none, none, none]) (rfl : sh_224[82]? = _) (by decide) rfl dX5_init_10 rfl ?_
  refine aw_aload_n (n := 14) (i := 0) dX5_init_13 rfl rfl rfl ?_
  refine aw_iload_n (n := 15) (i := 1) dX5_init_14 rfl rfl rfl ?_
  obtain ⟨D_2, e_D_2, h⟩ := Ok.let_ h
  refine aw_newa (M := M_X5_init) (n := 17) (t := 2) (N := 1925) (ty := .long) (L := 84) (n0 := 83) (shp' := sh_226) (D' := D_2) hG.1 rfl rfl rfl (by decide) aw_long rfl rfl (fun _ _ h => h) (at_z2) (by decide) rfl (by decide) (by decide) (by decide) dX5_init_15 rfl rfl (kc' := 2) (ks' := 2949) rfl rfl e_D_2 ?_
  refine aw_putR (M := M_X5_init) (n := 20) (j := 1) (k := 82) (r := 84) (shp' := sh_227) hG.1 fl_RX5_13 ⟨rfl, fun _ => ⟨rfl, rfl⟩⟩ ⟨_, _, rfl⟩ rfl (fs := [some (some 83), some none, some none, some none, some none, none, none]) (rfl : sh_226[82]? = _) (by decide) rfl dX5_init_17 rfl ?_
  refine aw_aload_n (n := 21) (i := 0) dX5_init_20 rfl rfl rfl ?_
  refine aw_iload_n (n := 22) (i := 1) dX5_init_21 rfl rfl rfl ?_
  obtain ⟨D_3, e_D_3, h⟩ := Ok.let_ h
  refine aw_newa (M := M_X5_init) (n := 24) (t := 2) (N := 1925) (ty := .long) (L := 85) (n0 := 83) (shp' := sh_228) (D' := D_3) hG.1 rfl rfl rfl (by decide) aw_long rfl rfl (fun _ _ h => h) (at_z2) (by decide) rfl (by decide) (by decide) (by decide) dX5_init_22 rfl rfl (kc' := 3) (ks' := 4874) rfl rfl e_D_3 ?_
  refine aw_putR (M := M_X5_init) (n := 27) (j := 2) (k := 82) (r := 85) (shp' := sh_229) hG.1 fl_RX5_17 ⟨rfl, fun _ => ⟨rfl, rfl⟩⟩ ⟨_, _, rfl⟩ rfl (fs := [some (some 83), some (some 84), some none, some none, some none, none, none]) (rfl : sh_228[82]? = _) (by decide) rfl dX5_init_24 rfl ?_
  refine aw_aload_n (n := 28) (i := 0) dX5_init_27 rfl rfl rfl ?_
  refine aw_iload_n (n := 29) (i := 1) dX5_init_28 rfl rfl rfl ?_
  obtain ⟨D_4, e_D_4, h⟩ := Ok.let_ h
  refine aw_newa (M := M_X5_init) (n := 31) (t := 1) (N := 1925) (ty := .int) (L := 86) (n0 := 83) (shp' := sh_230) (D' := D_4) hG.1 rfl rfl rfl (by decide) aw_int rfl rfl (fun _ _ h => h) (at_z1) (by decide) rfl (by decide) (by decide) (by decide) dX5_init_29 rfl rfl (kc' := 4) (ks' := 6799) rfl rfl e_D_4 ?_
  refine aw_putR (M := M_X5_init) (n := 34) (j := 3) (k := 82) (r := 86) (shp' := sh_231) hG.1 fl_RX5_20 ⟨rfl, fun _ => ⟨rfl, rfl⟩⟩ ⟨_, _, rfl⟩ rfl (fs := [some (some 83), some (some 84), some (some 85), some none, some none, none, none]) (rfl : sh_230[82]? = _) (by decide) rfl dX5_init_31 rfl ?_
  refine aw_aload_n (n := 35) (i := 0) dX5_init_34 rfl rfl rfl ?_
  refine aw_iload_n (n := 36) (i := 1) dX5_init_35 rfl rfl rfl ?_
  obtain ⟨D_5, e_D_5, h⟩ := Ok.let_ h
  refine aw_newa (M := M_X5_init) (n := 38) (t := 1) (N := 1925) (ty := .int) (L := 87) (n0 := 83) (shp' := sh_232) (D' := D_5) hG.1 rfl rfl rfl (by decide) aw_int rfl rfl (fun _ _ h => h) (at_z1) (by decide) rfl (by decide) (by decide) (by decide) dX5_init_36 rfl rfl (kc' := 5) (ks' := 8724) rfl rfl e_D_5 ?_
  refine aw_putR (M := M_X5_init) (n := 41) (j := 4) (k := 82) (r := 87) (shp' := sh_233) hG.1 fl_RX5_23 ⟨rfl, fun _ => ⟨rfl, rfl⟩⟩ ⟨_, _, rfl⟩ rfl (fs := [some (some 83), some (some 84), some (some 85), some (some 86), some none, none, none]) (rfl : sh_232[82]? = _) (by decide) rfl dX5_init_38 rfl ?_
  exact aw_vret rfl (by decide) (by decide) dX5_init_41 ⟨rfl, (rfl : sh_233 = sh_234), (Ok.dn h :)⟩
theorem ki_RX10_20 : aLkI RX10 20 5 M_X5_init ∧ aNp M_X5_init = some 1 := ⟨⟨aU_2 235 rfl rfl, aU_2 236 rfl rfl, aU_1 13 rfl rfl, aU_2 237 rfl rfl, rfl, rfl, ⟨by decide +kernel, by decide +kernel⟩⟩, by decide +kernel⟩
def sh_235 : List aSh := sh_234.set 79 (.inr (10, [some none, some none, some none, some (some 80), none, none, some (some 81), some (some 82)]))
def sh_236 : List aSh := sh_235.set 79 (.inr (10, [some (some 2), some none, some none, some (some 80), none, none, some (some 81), some (some 82)]))
def sh_237 : List aSh := sh_236.set 79 (.inr (10, [some (some 2), some (some 40), some none, some (some 80), none, none, some (some 81), some (some 82)]))
def sh_238 : List aSh := sh_237.set 79 (.inr (10, [some (some 2), some (some 40), some (some 57), some (some 80), none, none, some (some 81), some (some 82)]))
def sh_239 : List aSh := [.inr (11, [some (some 1), none, none, some (some 2), some (some 21), some (some 40), some (some 48), none, some (some 56), some (some 57), some (some 60), some (some 68), some (some 74), some none]), .inl (0, 700, []), .inr (6, [some (some 3), some (some 7), none, none, none, none, none, none, none, none, some (some 8), some (some 9), some (some 10), some (some 11), some (some 12), some (some 13), some (some 14)]), .inr (4, [none, none, some (some 4), some (some 5), some (some 6)]), .inl (1, 64, []), .inl (1, 64, []), .inl (3, 64, []), .inl (4, 6, [some 15, some 16, some 17, some 18, some 19, some 20]), .inl (1, 12, []), .inl (1, 12, []), .inl (1, 12, []), .inl (1, 5, []), .inl (1, 36, []), .inl (3, 6, []), .inl (1, 5, []), .inr (8, [none, none, none, none, none, none, none]), .inr (8, [none, none, none, none, none, none, none]), .inr (8, [none, none, none, none, none, none, none]), .inr (8, [none, none, none, none, none, none, none]), .inr (8, [none, none, none, none, none, none, none]), .inr (8, [none, none, none, none, none, none, none]), .inr (6, [some (some 22), some (some 26), none, none, none, none, none, none, none, none, some (some 27), some (some 28), some (some 29), some (some 30), some (some 31), some (some 32), some (some 33)]), .inr (4, [none, none, some (some 23), some (some 24), some (some 25)]), .inl (1, 64, []), .inl (1, 64, []), .inl (3, 64, []), .inl (4, 6, [some 34, some 35, some 36, some 37, some 38, some 39]), .inl (1, 12, []), .inl (1, 12, []), .inl (1, 12, []), .inl (1, 5, []), .inl (1, 36, []), .inl (3, 6, []), .inl (1, 5, []), .inr (8, [none, none, none, none, none, none, none]), .inr (8, [none, none, none, none, none, none, none]), .inr (8, [none, none, none, none, none, none, none]), .inr (8, [none, none, none, none, none, none, none]), .inr (8, [none, none, none, none, none, none, none]), .inr (8, [none, none, none, none, none, none, none]), .inr (9, [some (some 41), some (some 42), none, none, none, some (some 43), some (some 44), some (some 45), some (some 46), some (some 47)]), .inl (1, 12, []), .inl (1, 5, []), .inl (1, 12, []), .inl (1, 12, []), .inl (1, 12, []), .inl (1, 12, []), .inl (1, 3, []), .inr (9, [some (some 49), some (some 50), none, none, none, some (some 51), some (some 52), some (some 53), some (some 54), some (some 55)]), .inl (1, 12, []), .inl (1, 5, []), .inl (1, 12, []), .inl (1, 12, []), .inl (1, 12, []), .inl (1, 12, []), .inl (1, 3, []), .inr (7, [some (some 1), some (some 21), none, none, none, none, none, none, none]), .inr (0, [some (some 2), some (some 40), some (some 58), some (some 59)]), .inl (1, 6, []), .inl (1, 30, []), .inr (1, [some (some 2), some (some 40), some (some 57), none, some (some 61), some (some 62), some (some 63), some (some 64), some (some 65), some (some 66), some (some 67)]), .inl (1, 12, []), .inl (1, 12, []), .inl (1, 12, []), .inl (1, 300, []), .inl (1, 300, []), .inl (1, 5, []), .inl (1, 5, []), .inr (3, [some (some 2), some (some 60), none, some (some 69), some (some 70), some (some 71), some (some 72), some (some 73), none, none]), .inl (1, 6, []), .inl (1, 6, []), .inl (1, 6, []), .inl (1, 6, []), .inl (1, 21, []), .inr (2, [some (some 2), some (some 40), some (some 57), some (some 75), some (some 76), some (some 77), some (some 78)]), .inl (1, 5, []), .inl (1, 5, []), .inl (1, 5, []), .inl (1, 625, []), .inr (10, [some (some 2), some (some 40), some (some 57), some (some 80), none, none, some (some 81), some (some 82)]), .inl (1, 1925, []), .inl (1, 72, []), .inr (5, [some (some 83), some (some 84), some (some 85), some (some 86), some (some 87), none, none]), .inl (1, 1024, []), .inl (2, 1925, []), .inl (2, 1925, []), .inl (1, 1925, []), .inl (1, 1925, [])]
def f_new_X10_79 (D : aD) : Option aD :=
  aLet (z0 D 80) (fun D_1 => aLet (z0 D_1 81) (fun D_2 => aLet (z0 D_2 82) (fun D_3 => (f_new_X5_82 D_3).bind (fun D_4 => some D_4))))
set_option maxRecDepth 100000 in
set_option maxHeartbeats 4000000 in
theorem c_new_X10_79 {G : aG} (hG : gOK G) (hN : gNest G) {D : aD} {K : aD → Prop} (h : Ok (f_new_X10_79 D) K) : AC G (aRm 3 8 10728) M_X10_init [.ref 79, .ref 2, .ref 40, .ref 57] (some 80) sh_217 D (aQv sh_239 K) := by
  unfold f_new_X10_79 at h
  refine AC.of (al := [some (.ref 79), some (.ref 2), some (.ref 40), some (.ref 57)]) (r := 0) (by decide) (Nat.le_of_ble_eq_true rfl) rfl ?_
  refine aw_aload_n (n := 1) (i := 0) dX10_init_0 rfl rfl rfl ?_
  refine aw_objInit (M := M_X10_init) (n := 4) ko_RX10_3.1 ko_RX10_3.2.1 ko_RX10_3.2.2 (by decide) (by decide) dX10_init_1 rfl ?_
  refine aw_aload_n (n := 5) (i := 0) dX10_init_4 rfl rfl rfl ?_
  refine aw_sipush (n := 8) (v := 1925) dX10_init_5 rfl (by decide) ?_
  obtain ⟨D_1, e_D_1, h⟩ := Ok.let_ h
  refine aw_newa (M := M_X10_init) (n := 10) (t := 1) (N := 1925) (ty := .int) (L := 80) (n0 := 80) (shp' := sh_218) (D' := D_1) hG.1 rfl rfl rfl (by decide) aw_int rfl rfl (fun _ _ h => h) (at_z1) (by decide) rfl (by decide) (by decide) (by decide) dX10_init_8 rfl rfl (kc' := 1) (ks' := 1925) rfl rfl e_D_1 ?_
  refine aw_putR (M := M_X10_init) (n := 13) (j := 3) (k := 79) (r := 80) (shp' := sh_219) hG.1 fl_RX10_11 ⟨rfl, fun _ => ⟨rfl, rfl⟩⟩ ⟨_, _, rfl⟩ rfl (fs := [some none, some none, some none, some none, none, none, some none, some none]) (rfl : sh_218[79]? = _) (by decide) rfl dX10_init_10 rfl ?_
  refine aw_aload_n (n := 14) (i := 0) dX10_init_13 rfl rfl rfl ?_
  refine aw_bipush (n := 16) (v := 72) dX10_init_14 rfl (by decide) ?_
  obtain ⟨D_2, e_D_2, h⟩ := Ok.let_ h
  refine aw_newa (M := M_X10_init) (n := 18) (t := 1) (N := 72) (ty := .int) (L := 81) (n0 := 80) (shp' := sh_220) (D' := D_2) hG.1 rfl rfl rfl (by decide) aw_int rfl rfl (fun _ _ h => h) (at_z1) (by decide) rfl (by decide) (by decide) (by decide) dX10_init_16 rfl rfl (kc' := 2) (ks' := 1997) rfl rfl e_D_2 ?_
  refine aw_putR (M := M_X10_init) (n := 21) (j := 6) (k := 79) (r := 81) (shp' := sh_221) hG.1 fl_RX10_15 ⟨rfl, fun _ => ⟨rfl, rfl⟩⟩ ⟨_, _, rfl⟩ rfl (fs := [some none, some none, some none, some (some 80), none, none, some none, some none]) (rfl : sh_220[79]? = _) (by decide) rfl dX10_init_18 rfl ?_
  refine aw_aload_n (n := 22) (i := 0) dX10_init_21 rfl rfl rfl ?_
  obtain ⟨D_3, e_D_3, h⟩ := Ok.let_ h
  refine aw_new (M := M_X10_init) (n := 25) (ci := 5) (N := 7) (C := RX5) (T := TX5) (L := 82) (n0 := 80) (shp' := sh_222) (D' := D_3) tyX5 hG.1 rfl rfl rfl (by decide) rfl aU_X5 tyX5_ok (by decide) (by unfold aNF; decide) kw_RX10_18.1 kw_RX10_18.2.1 kw_RX10_18.2.2 (by decide) (by decide) dX10_init_22 rfl rfl (kc' := 3) (ks' := 2004) rfl rfl e_D_3 ?_
  refine aw_dup (n := 26) dX10_init_25 rfl rfl ?_
  refine aw_sipush (n := 29) (v := 1925) dX10_init_26 rfl (by decide) ?_
  refine aw_init (M := M_X10_init) (n := 32) (L := 83) (n0 := 80) (As := [.int 1925]) (rest := [.ref 82, .ref 79]) ki_RX10_20 rfl rfl (by rw [(rfl : sh_222 = sh_223)]; exact c_new_X5_82 hG hN (h := Ok.bind h)) rfl rfl rfl (by decide) (Nat.le_of_ble_eq_true rfl) (kn := 8) (kn2 := 10728) rfl rfl (by decide) (by decide) dX10_init_29 rfl (fun D_4 h => ?_)
  refine aw_putR (M := M_X10_init) (n := 35) (j := 7) (k := 79) (r := 82) (shp' := sh_235) hG.1 fl_RX10_23 ⟨rfl, fun _ => ⟨rfl, rfl⟩⟩ ⟨_, _, rfl⟩ rfl (fs := [some none, some none, some none, some (some 80), none, none, some (some 81), some none]) (rfl : sh_234[79]? = _) (by decide) rfl dX10_init_32 rfl ?_
  refine aw_aload_n (n := 36) (i := 0) dX10_init_35 rfl rfl rfl ?_
  refine aw_aload_n (n := 37) (i := 1) dX10_init_36 rfl rfl rfl ?_
  refine aw_putR (M := M_X10_init) (n := 40) (j := 0) (k := 79) (r := 2) (shp' := sh_236) hG.1 fl_RX10_27 ⟨rfl, fun _ => ⟨rfl, rfl⟩⟩ ⟨_, _, rfl⟩ rfl (fs := [some none, some none, some none, some (some 80), none, none, some (some 81), some (some 82)]) (rfl : sh_235[79]? = _) (by decide) rfl dX10_init_37 rfl ?_
  refine aw_aload_n (n := 41) (i := 0) dX10_init_40 rfl rfl rfl ?_
  refine aw_aload_n (n := 42) (i := 2) dX10_init_41 rfl rfl rfl ?_
  refine aw_putR (M := M_X10_init) (n := 45) (j := 1) (k := 79) (r := 40) (shp' := sh_237) hG.1 fl_RX10_31 ⟨rfl, fun _ => ⟨rfl, rfl⟩⟩ ⟨_, _, rfl⟩ rfl (fs := [some (some 2), some none, some none, some (some 80), none, none, some (some 81), some (some 82)]) (rfl : sh_236[79]? = _) (by decide) rfl dX10_init_42 rfl ?_
  refine aw_aload_n (n := 46) (i := 0) dX10_init_45 rfl rfl rfl ?_
  refine aw_aload_n (n := 47) (i := 3) dX10_init_46 rfl rfl rfl ?_
  refine aw_putR (M := M_X10_init) (n := 50) (j := 2) (k := 79) (r := 57) (shp' := sh_238) hG.1 fl_RX10_35 ⟨rfl, fun _ => ⟨rfl, rfl⟩⟩ ⟨_, _, rfl⟩ rfl (fs := [some (some 2), some (some 40), some none, some (some 80), none, none, some (some 81), some (some 82)]) (rfl : sh_237[79]? = _) (by decide) rfl dX10_init_47 rfl ?_
  exact aw_vret rfl (by decide) (by decide) dX10_init_50 ⟨rfl, (rfl : sh_238 = sh_239), (Ok.dn h :)⟩
theorem ki_RX11_82 : aLkI RX11 82 10 M_X10_init ∧ aNp M_X10_init = some 3 := ⟨⟨aU_2 229 rfl rfl, aU_2 230 rfl rfl, aU_1 12 rfl rfl, aU_2 231 rfl rfl, rfl, rfl, ⟨by decide +kernel, by decide +kernel⟩⟩, by decide +kernel⟩
def sh_240 : List aSh := sh_239.set 0 (.inr (11, [some (some 1), none, none, some (some 2), some (some 21), some (some 40), some (some 48), none, some (some 56), some (some 57), some (some 60), some (some 68), some (some 74), some (some 79)]))
def sh_241 : List aSh := [.inr (11, [some (some 1), none, none, some (some 2), some (some 21), some (some 40), some (some 48), none, some (some 56), some (some 57), some (some 60), some (some 68), some (some 74), some (some 79)]), .inl (0, 700, []), .inr (6, [some (some 3), some (some 7), none, none, none, none, none, none, none, none, some (some 8), some (some 9), some (some 10), some (some 11), some (some 12), some (some 13), some (some 14)]), .inr (4, [none, none, some (some 4), some (some 5), some (some 6)]), .inl (1, 64, []), .inl (1, 64, []), .inl (3, 64, []), .inl (4, 6, [some 15, some 16, some 17, some 18, some 19, some 20]), .inl (1, 12, []), .inl (1, 12, []), .inl (1, 12, []), .inl (1, 5, []), .inl (1, 36, []), .inl (3, 6, []), .inl (1, 5, []), .inr (8, [none, none, none, none, none, none, none]), .inr (8, [none, none, none, none, none, none, none]), .inr (8, [none, none, none, none, none, none, none]), .inr (8, [none, none, none, none, none, none, none]), .inr (8, [none, none, none, none, none, none, none]), .inr (8, [none, none, none, none, none, none, none]), .inr (6, [some (some 22), some (some 26), none, none, none, none, none, none, none, none, some (some 27), some (some 28), some (some 29), some (some 30), some (some 31), some (some 32), some (some 33)]), .inr (4, [none, none, some (some 23), some (some 24), some (some 25)]), .inl (1, 64, []), .inl (1, 64, []), .inl (3, 64, []), .inl (4, 6, [some 34, some 35, some 36, some 37, some 38, some 39]), .inl (1, 12, []), .inl (1, 12, []), .inl (1, 12, []), .inl (1, 5, []), .inl (1, 36, []), .inl (3, 6, []), .inl (1, 5, []), .inr (8, [none, none, none, none, none, none, none]), .inr (8, [none, none, none, none, none, none, none]), .inr (8, [none, none, none, none, none, none, none]), .inr (8, [none, none, none, none, none, none, none]), .inr (8, [none, none, none, none, none, none, none]), .inr (8, [none, none, none, none, none, none, none]), .inr (9, [some (some 41), some (some 42), none, none, none, some (some 43), some (some 44), some (some 45), some (some 46), some (some 47)]), .inl (1, 12, []), .inl (1, 5, []), .inl (1, 12, []), .inl (1, 12, []), .inl (1, 12, []), .inl (1, 12, []), .inl (1, 3, []), .inr (9, [some (some 49), some (some 50), none, none, none, some (some 51), some (some 52), some (some 53), some (some 54), some (some 55)]), .inl (1, 12, []), .inl (1, 5, []), .inl (1, 12, []), .inl (1, 12, []), .inl (1, 12, []), .inl (1, 12, []), .inl (1, 3, []), .inr (7, [some (some 1), some (some 21), none, none, none, none, none, none, none]), .inr (0, [some (some 2), some (some 40), some (some 58), some (some 59)]), .inl (1, 6, []), .inl (1, 30, []), .inr (1, [some (some 2), some (some 40), some (some 57), none, some (some 61), some (some 62), some (some 63), some (some 64), some (some 65), some (some 66), some (some 67)]), .inl (1, 12, []), .inl (1, 12, []), .inl (1, 12, []), .inl (1, 300, []), .inl (1, 300, []), .inl (1, 5, []), .inl (1, 5, []), .inr (3, [some (some 2), some (some 60), none, some (some 69), some (some 70), some (some 71), some (some 72), some (some 73), none, none]), .inl (1, 6, []), .inl (1, 6, []), .inl (1, 6, []), .inl (1, 6, []), .inl (1, 21, []), .inr (2, [some (some 2), some (some 40), some (some 57), some (some 75), some (some 76), some (some 77), some (some 78)]), .inl (1, 5, []), .inl (1, 5, []), .inl (1, 5, []), .inl (1, 625, []), .inr (10, [some (some 2), some (some 40), some (some 57), some (some 80), none, none, some (some 81), some (some 82)]), .inl (1, 1925, []), .inl (1, 72, []), .inr (5, [some (some 83), some (some 84), some (some 85), some (some 86), some (some 87), none, none]), .inl (1, 1024, []), .inl (2, 1925, []), .inl (2, 1925, []), .inl (1, 1925, []), .inl (1, 1925, [])]
def f_new_X11_0 (D : aD) : Option aD :=
  aLet (z0 D 1) (fun D_1 => aLet (pI D_1 0 2 (-1)) (fun D_2 => aLet (z0 D_2 2) (fun D_3 => (f_new_X6_2 D_3).bind (fun D_4 => aLet (z0 D_4 21) (fun D_5 => (f_new_X6_21 D_5).bind (fun D_6 => aLet (z0 D_6 40) (fun D_7 => (f_new_X9_40 D_7).bind (fun D_8 => aLet (z0 D_8 48) (fun D_9 => (f_new_X9_48 D_9).bind (fun D_10 => aLet (z0 D_10 56) (fun D_11 => (f_new_X7_56 D_11).bind (fun D_12 => aLet (z0 D_12 57) (fun D_13 => (f_new_X0_57 D_13).bind (fun D_14 => aLet (z0 D_14 60) (fun D_15 => (f_new_X1_60 D_15).bind (fun D_16 => aLet (z0 D_16 68) (fun D_17 => (f_new_X3_68 D_17).bind (fun D_18 => aLet (z0 D_18 74) (fun D_19 => (f_new_X2_74 D_19).bind (fun D_20 => aLet (z0 D_20 79) (fun D_21 => (f_new_X10_79 D_21).bind (fun D_22 => some D_22))))))))))))))))))))))
set_option maxRecDepth 100000 in
set_option maxHeartbeats 4000000 in
theorem c_new_X11_0 {G : aG} (hG : gOK G) (hN : gNest G) {D : aD} {K : aD → Prop} (h : Ok (f_new_X11_0 D) K) : AC G (aRm 5 87 13700) M_X11_init [.ref 0] (some 1) sh_1 D (aQv sh_241 K) := by
  unfold f_new_X11_0 at h
  refine AC.of (al := [some (.ref 0)]) (r := 0) (by decide) (Nat.le_of_ble_eq_true rfl) rfl ?_
  refine aw_aload_n (n := 1) (i := 0) dX11_init_0 rfl rfl rfl ?_
  refine aw_objInit (M := M_X11_init) (n := 4) ko_RX11_1.1 ko_RX11_1.2.1 ko_RX11_1.2.2 (by decide) (by decide) dX11_init_1 rfl ?_
  refine aw_aload_n (n := 5) (i := 0) dX11_init_4 rfl rfl rfl ?_
  refine aw_sipush (n := 8) (v := 700) dX11_init_5 rfl (by decide) ?_
  obtain ⟨D_1, e_D_1, h⟩ := Ok.let_ h
  refine aw_newa (M := M_X11_init) (n := 10) (t := 0) (N := 700) (ty := .byte) (L := 1) (n0 := 1) (shp' := sh_2) (D' := D_1) hG.1 rfl rfl rfl (by decide) aw_byte rfl rfl (fun _ _ h => h) (at_z0) (by decide) rfl (by decide) (by decide) (by decide) dX11_init_8 rfl rfl (kc' := 1) (ks' := 700) rfl rfl e_D_1 ?_
  refine aw_putR (M := M_X11_init) (n := 13) (j := 0) (k := 0) (r := 1) (shp' := sh_3) hG.1 fl_RX11_9 ⟨rfl, fun _ => ⟨rfl, rfl⟩⟩ ⟨_, _, rfl⟩ rfl (fs := [some none, none, none, some none, some none, some none, some none, none, some none, some none, some none, some none, some none, some none]) (rfl : sh_2[0]? = _) (by decide) rfl dX11_init_10 rfl ?_
  refine aw_aload_n (n := 14) (i := 0) dX11_init_13 rfl rfl rfl ?_
  refine aw_iconst (n := 15) (v := (-1)) dX11_init_14 rfl (by decide) ?_
  obtain ⟨D_2, e_D_2, h⟩ := Ok.let_ h
  refine aw_putI (n := 18) (j := 2) (k := 0) hG.1 fl_RX11_13 (fs := [some (some 1), none, none, some none, some none, some none, some none, none, some none, some none, some none, some none, some none, some none]) (rfl : sh_3[0]? = _) rfl e_D_2 dX11_init_15 rfl ?_
  refine aw_aload_n (n := 19) (i := 0) dX11_init_18 rfl rfl rfl ?_
  obtain ⟨D_3, e_D_3, h⟩ := Ok.let_ h
  refine aw_new (M := M_X11_init) (n := 22) (ci := 6) (N := 17) (C := RX6) (T := TX6) (L := 2) (n0 := 1) (shp' := sh_4) (D' := D_3) tyX6 hG.1 rfl rfl rfl (by decide) rfl aU_X6 tyX6_ok (by decide) (by unfold aNF; decide) kw_RX11_17.1 kw_RX11_17.2.1 kw_RX11_17.2.2 (by decide) (by decide) dX11_init_19 rfl rfl (kc' := 2) (ks' := 717) rfl rfl e_D_3 ?_
  refine aw_dup (n := 23) dX11_init_22 rfl rfl ?_
  refine aw_init (M := M_X11_init) (n := 26) (L := 3) (n0 := 1) (As := []) (rest := [.ref 2, .ref 0]) ki_RX11_19 rfl rfl (by rw [(rfl : sh_4 = sh_5)]; exact c_new_X6_2 hG hN (h := Ok.bind h)) rfl rfl rfl (by decide) (Nat.le_of_ble_eq_true rfl) (kn := 20) (kn2 := 1050) rfl rfl (by decide) (by decide) dX11_init_23 rfl (fun D_4 h => ?_)
  refine aw_putR (M := M_X11_init) (n := 29) (j := 3) (k := 0) (r := 2) (shp' := sh_57) hG.1 fl_RX11_20 ⟨rfl, fun _ => ⟨rfl, rfl⟩⟩ ⟨_, _, rfl⟩ rfl (fs := [some (some 1), none, none, some none, some none, some none, some none, none, some none, some none, some none, some none, some none, some none]) (rfl : sh_56[0]? = _) (by decide) rfl dX11_init_26 rfl ?_
  refine aw_aload_n (n := 30) (i := 0) dX11_init_29 rfl rfl rfl ?_
  obtain ⟨D_5, e_D_5, h⟩ := Ok.let_ h
  refine aw_new (M := M_X11_init) (n := 33) (ci := 6) (N := 17) (C := RX6) (T := TX6) (L := 21) (n0 := 1) (shp' := sh_58) (D' := D_5) tyX6 hG.1 rfl rfl rfl (by decide) rfl aU_X6 tyX6_ok (by decide) (by unfold aNF; decide) kw_RX11_17.1 kw_RX11_17.2.1 kw_RX11_17.2.2 (by decide) (by decide) dX11_init_30 rfl rfl (kc' := 21) (ks' := 1067) rfl rfl e_D_5 ?_
  refine aw_dup (n := 34) dX11_init_33 rfl rfl ?_
  refine aw_init (M := M_X11_init) (n := 37) (L := 22) (n0 := 1) (As := []) (rest := [.ref 21, .ref 0]) ki_RX11_19 rfl rfl (by rw [(rfl : sh_58 = sh_59)]; exact c_new_X6_21 hG hN (h := Ok.bind h)) rfl rfl rfl (by decide) (Nat.le_of_ble_eq_true rfl) (kn := 39) (kn2 := 1400) rfl rfl (by decide) (by decide) dX11_init_34 rfl (fun D_6 h => ?_)
  refine aw_putR (M := M_X11_init) (n := 40) (j := 4) (k := 0) (r := 21) (shp' := sh_111) hG.1 fl_RX11_24 ⟨rfl, fun _ => ⟨rfl, rfl⟩⟩ ⟨_, _, rfl⟩ rfl (fs := [some (some 1), none, none, some (some 2), some none, some none, some none, none, some none, some none, some none, some none, some none, some none]) (rfl : sh_110[0]? = _) (by decide) rfl dX11_init_37 rfl ?_
  refine aw_aload_n (n := 41) (i := 0) dX11_init_40 rfl rfl rfl ?_
  obtain ⟨D_7, e_D_7, h⟩ := Ok.let_ h
  refine aw_new (M := M_X11_init) (n := 44) (ci := 9) (N := 10) (C := RX9) (T := TX9) (L := 40) (n0 := 1) (shp' := sh_112) (D' := D_7) tyX9 hG.1 rfl rfl rfl (by decide) rfl aU_X9 tyX9_ok (by decide) (by unfold aNF; decide) kw_RX11_27.1 kw_RX11_27.2.1 kw_RX11_27.2.2 (by decide) (by decide) dX11_init_41 rfl rfl (kc' := 40) (ks' := 1410) rfl rfl e_D_7 ?_
  refine aw_dup (n := 45) dX11_init_44 rfl rfl ?_
  refine aw_init (M := M_X11_init) (n := 48) (L := 41) (n0 := 1) (As := []) (rest := [.ref 40, .ref 0]) ki_RX11_29 rfl rfl (by rw [(rfl : sh_112 = sh_113)]; exact c_new_X9_40 hG hN (h := Ok.bind h)) rfl rfl rfl (by decide) (Nat.le_of_ble_eq_true rfl) (kn := 47) (kn2 := 1478) rfl rfl (by decide) (by decide) dX11_init_45 rfl (fun D_8 h => ?_)
  refine aw_putR (M := M_X11_init) (n := 51) (j := 5) (k := 0) (r := 40) (shp' := sh_129) hG.1 fl_RX11_30 ⟨rfl, fun _ => ⟨rfl, rfl⟩⟩ ⟨_, _, rfl⟩ rfl (fs := [some (some 1), none, none, some (some 2), some (some 21), some none, some none, none, some none, some none, some none, some none, some none, some none]) (rfl : sh_128[0]? = _) (by decide) rfl dX11_init_48 rfl ?_
  refine aw_aload_n (n := 52) (i := 0) dX11_init_51 rfl rfl rfl ?_
  obtain ⟨D_9, e_D_9, h⟩ := Ok.let_ h
  refine aw_new (M := M_X11_init) (n := 55) (ci := 9) (N := 10) (C := RX9) (T := TX9) (L := 48) (n0 := 1) (shp' := sh_130) (D' := D_9) tyX9 hG.1 rfl rfl rfl (by decide) rfl aU_X9 tyX9_ok (by decide) (by unfold aNF; decide) kw_RX11_27.1 kw_RX11_27.2.1 kw_RX11_27.2.2 (by decide) (by decide) dX11_init_52 rfl rfl (kc' := 48) (ks' := 1488) rfl rfl e_D_9 ?_
  refine aw_dup (n := 56) dX11_init_55 rfl rfl ?_
  refine aw_init (M := M_X11_init) (n := 59) (L := 49) (n0 := 1) (As := []) (rest := [.ref 48, .ref 0]) ki_RX11_29 rfl rfl (by rw [(rfl : sh_130 = sh_131)]; exact c_new_X9_48 hG hN (h := Ok.bind h)) rfl rfl rfl (by decide) (Nat.le_of_ble_eq_true rfl) (kn := 55) (kn2 := 1556) rfl rfl (by decide) (by decide) dX11_init_56 rfl (fun D_10 h => ?_)
  refine aw_putR (M := M_X11_init) (n := 62) (j := 6) (k := 0) (r := 48) (shp' := sh_147) hG.1 fl_RX11_34 ⟨rfl, fun _ => ⟨rfl, rfl⟩⟩ ⟨_, _, rfl⟩ rfl (fs := [some (some 1), none, none, some (some 2), some (some 21), some (some 40), some none, none, some none, some none, some none, some none, some none, some none]) (rfl : sh_146[0]? = _) (by decide) rfl dX11_init_59 rfl ?_
  refine aw_aload_n (n := 63) (i := 0) dX11_init_62 rfl rfl rfl ?_
  obtain ⟨D_11, e_D_11, h⟩ := Ok.let_ h
  refine aw_new (M := M_X11_init) (n := 66) (ci := 7) (N := 9) (C := RX7) (T := TX7) (L := 56) (n0 := 1) (shp' := sh_148) (D' := D_11) tyX7 hG.1 rfl rfl rfl (by decide) rfl aU_X7 tyX7_ok (by decide) (by unfold aNF; decide) kw_RX11_37.1 kw_RX11_37.2.1 kw_RX11_37.2.2 (by decide) (by decide) dX11_init_63 rfl rfl (kc' := 56) (ks' := 1565) rfl rfl e_D_11 ?_
  refine aw_dup (n := 67) dX11_init_66 rfl rfl ?_
  refine aw_aload_n (n := 68) (i := 0) dX11_init_67 rfl rfl rfl ?_
  refine aw_getR (n := 71) (j := 0) (k := 0) (r := 1) hG.1 fl_RX11_9 (rfl : sh_148[0]? = _) rfl dX11_init_68 rfl ?_
  refine aw_aload_n (n := 72) (i := 0) dX11_init_71 rfl rfl rfl ?_
  refine aw_getR (n := 75) (j := 4) (k := 0) (r := 21) hG.1 fl_RX11_24 (rfl : sh_148[0]? = _) rfl dX11_init_72 rfl ?_
  refine aw_init (M := M_X11_init) (n := 78) (L := 57) (n0 := 1) (As := [.ref 1, .ref 21]) (rest := [.ref 56, .ref 0]) ki_RX11_39 rfl rfl (by rw [(rfl : sh_148 = sh_149)]; exact c_new_X7_56 hG hN (h := Ok.bind h)) rfl rfl rfl (by decide) (Nat.le_of_ble_eq_true rfl) (kn := 56) (kn2 := 1565) rfl rfl (by decide) (by decide) dX11_init_75 rfl (fun D_12 h => ?_)
  refine aw_putR (M := M_X11_init) (n := 81) (j := 8) (k := 0) (r := 56) (shp' := sh_153) hG.1 fl_RX11_42 ⟨rfl, fun _ => ⟨rfl, rfl⟩⟩ ⟨_, _, rfl⟩ rfl (fs := [some (some 1), none, none, some (some 2), some (some 21), some (some 40), some (some 48), none, some none, some none, some none, some none, some none, some none]) (rfl : sh_152[0]? = _) (by decide) rfl dX11_init_78 rfl ?_
  refine aw_aload_n (n := 82) (i := 0) dX11_init_81 rfl rfl rfl ?_
  obtain ⟨D_13, e_D_13, h⟩ := Ok.let_ h
  refine aw_new (M := M_X11_init) (n := 85) (ci := 0) (N := 4) (C := RX0) (T := TX0) (L := 57) (n0 := 1) (shp' := sh_154) (D' := D_13) tyX0 hG.1 rfl rfl rfl (by decide) rfl aU_X0 tyX0_ok (by decide) (by unfold aNF; decide) kw_RX11_46.1 kw_RX11_46.2.1 kw_RX11_46.2.2 (by decide) (by decide) dX11_init_82 rfl rfl (kc' := 57) (ks' := 1569) rfl rfl e_D_13 ?_
  refine aw_dup (n := 86) dX11_init_85 rfl rfl ?_
  refine aw_aload_n (n := 87) (i := 0) dX11_init_86 rfl rfl rfl ?_
  refine aw_getR (n := 90) (j := 3) (k := 0) (r := 2) hG.1 fl_RX11_20 (rfl : sh_154[0]? = _) rfl dX11_init_87 rfl ?_
  refine aw_aload_n (n := 91) (i := 0) dX11_init_90 rfl rfl rfl ?_
  refine aw_getR (n := 94) (j := 5) (k := 0) (r := 40) hG.1 fl_RX11_30 (rfl : sh_154[0]? = _) rfl dX11_init_91 rfl ?_
  refine aw_init (M := M_X11_init) (n := 97) (L := 58) (n0 := 1) (As := [.ref 2, .ref 40]) (rest := [.ref 57, .ref 0]) ki_RX11_48 rfl rfl (by rw [(rfl : sh_154 = sh_155)]; exact c_new_X0_57 hG hN (h := Ok.bind h)) rfl rfl rfl (by decide) (Nat.le_of_ble_eq_true rfl) (kn := 59) (kn2 := 1605) rfl rfl (by decide) (by decide) dX11_init_94 rfl (fun D_14 h => ?_)
  refine aw_putR (M := M_X11_init) (n := 100) (j := 9) (k := 0) (r := 57) (shp' := sh_163) hG.1 fl_RX11_51 ⟨rfl, fun _ => ⟨rfl, rfl⟩⟩ ⟨_, _, rfl⟩ rfl (fs := [some (some 1), none, none, some (some 2), some (some 21), some (some 40), some (some 48), none, some (some 56), some none, some none, some none, some none, some none]) (rfl : sh_162[0]? = _) (by decide) rfl dX11_init_97 rfl ?_
  refine aw_aload_n (n := 101) (i := 0) dX11_init_100 rfl rfl rfl ?_
  obtain ⟨D_15, e_D_15, h⟩ := Ok.let_ h
  refine aw_new (M := M_X11_init) (n := 104) (ci := 1) (N := 11) (C := RX1) (T := TX1) (L := 60) (n0 := 1) (shp' := sh_164) (D' := D_15) tyX1 hG.1 rfl rfl rfl (by decide) rfl aU_X1 tyX1_ok (by decide) (by unfold aNF; decide) kw_RX11_55.1 kw_RX11_55.2.1 kw_RX11_55.2.2 (by decide) (by decide) dX11_init_101 rfl rfl (kc' := 60) (ks' := 1616) rfl rfl e_D_15 ?_
  refine aw_dup (n := 105) dX11_init_104 rfl rfl ?_
  refine aw_aload_n (n := 106) (i := 0) dX11_init_105 rfl rfl rfl ?_
  refine aw_getR (n := 109) (j := 3) (k := 0) (r := 2) hG.1 fl_RX11_20 (rfl : sh_164[0]? = _) rfl dX11_init_106 rfl ?_
  refine aw_aload_n (n := 110) (i := 0) dX11_init_109 rfl rfl rfl ?_
  refine aw_getR (n := 113) (j := 5) (k := 0) (r := 40) hG.1 fl_RX11_30 (rfl : sh_164[0]? = _) rfl dX11_init_110 rfl ?_
  refine aw_aload_n (n := 114) (i := 0) dX11_init_113 rfl rfl rfl ?_
  refine aw_getR (n := 117) (j := 9) (k := 0) (r := 57) hG.1 fl_RX11_51 (rfl : sh_164[0]? = _) rfl dX11_init_114 rfl ?_
  refine aw_init (M := M_X11_init) (n := 120) (L := 61) (n0 := 1) (As := [.ref 2, .ref 40, .ref 57]) (rest := [.ref 60, .ref 0]) ki_RX11_57 rfl rfl (by rw [(rfl : sh_164 = sh_165)]; exact c_new_X1_60 hG hN (h := Ok.bind h)) rfl rfl rfl (by decide) (Nat.le_of_ble_eq_true rfl) (kn := 67) (kn2 := 2262) rfl rfl (by decide) (by decide) dX11_init_117 rfl (fun D_16 h => ?_)
  refine aw_putR (M := M_X11_init) (n := 123) (j := 10) (k := 0) (r := 60) (shp' := sh_184) hG.1 fl_RX11_60 ⟨rfl, fun _ => ⟨rfl, rfl⟩⟩ ⟨_, _, rfl⟩ rfl (fs := [some (some 1), none, none, some (some 2), some (some 21), some (some 40), some (some 48), none, some (some 56), some (some 57), some none, some none, some none, some none]) (rfl : sh_183[0]? = _) (by decide) rfl dX11_init_120 rfl ?_
  refine aw_aload_n (n := 124) (i := 0) dX11_init_123 rfl rfl rfl ?_
  obtain ⟨D_17, e_D_17, h⟩ := Ok.let_ h
  refine aw_new (M := M_X11_init) (n := 127) (ci := 3) (N := 10) (C := RX3) (T := TX3) (L := 68) (n0 := 1) (shp' := sh_185) (D' := D_17) tyX3 hG.1 rfl rfl rfl (by decide) rfl aU_X3 tyX3_ok (by decide) (by unfold aNF; decide) kw_RX11_64.1 kw_RX11_64.2.1 kw_RX11_64.2.2 (by decide) (by decide) dX11_init_124 rfl rfl (kc' := 68) (ks' := 2272) rfl rfl e_D_17 ?_
  refine aw_dup (n := 128) dX11_init_127 rfl rfl ?_
  refine aw_aload_n (n := 129) (i := 0) dX11_init_128 rfl rfl rfl ?_
  refine aw_getR (n := 132) (j := 3) (k := 0) (r := 2) hG.1 fl_RX11_20 (rfl : sh_185[0]? = _) rfl dX11_init_129 rfl ?_
  refine aw_aload_n (n := 133) (i := 0) dX11_init_132 rfl rfl rfl ?_
  refine aw_getR (n := 136) (j := 10) (k := 0) (r := 60) hG.1 fl_RX11_60 (rfl : sh_185[0]? = _) rfl dX11_init_133 rfl ?_
  refine aw_init (M := M_X11_init) (n := 139) (L := 69) (n0 := 1) (As := [.ref 2, .ref 60]) (rest := [.ref 68, .ref 0]) ki_RX11_66 rfl rfl (by rw [(rfl : sh_185 = sh_186)]; exact c_new_X3_68 hG hN (h := Ok.bind h)) rfl rfl rfl (by decide) (Nat.le_of_ble_eq_true rfl) (kn := 73) (kn2 := 2317) rfl rfl (by decide) (by decide) dX11_init_136 rfl (fun D_18 h => ?_)
  refine aw_putR (M := M_X11_init) (n := 142) (j := 11) (k := 0) (r := 68) (shp' := sh_200) hG.1 fl_RX11_69 ⟨rfl, fun _ => ⟨rfl, rfl⟩⟩ ⟨_, _, rfl⟩ rfl (fs := [some (some 1), none, none, some (some 2), some (some 21), some (some 40), some (some 48), none, some (some 56), some (some 57), some (some 60), some none, some none, some none]) (rfl : sh_199[0]? = _) (by decide) rfl dX11_init_139 rfl ?_
  refine aw_aload_n (n := 143) (i := 0) dX11_init_142 rfl rfl rfl ?_
  obtain ⟨D_19, e_D_19, h⟩ := Ok.let_ h
  refine aw_new (M := M_X11_init) (n := 146) (ci := 2) (N := 7) (C := RX2) (T := TX2) (L := 74) (n0 := 1) (shp' := sh_201) (D' := D_19) tyX2 hG.1 rfl rfl rfl (by decide) rfl aU_X2 tyX2_ok (by decide) (by unfold aNF; decide) kw_RX11_73.1 kw_RX11_73.2.1 kw_RX11_73.2.2 (by decide) (by decide) dX11_init_143 rfl rfl (kc' := 74) (ks' := 2324) rfl rfl e_D_19 ?_
  refine aw_dup (n := 147) dX11_init_146 rfl rfl ?_
  refine aw_aload_n (n := 148) (i := 0) dX11_init_147 rfl rfl rfl ?_
  refine aw_getR (n := 151) (j := 3) (k := 0) (r := 2) hG.1 fl_RX11_20 (rfl : sh_201[0]? = _) rfl dX11_init_148 rfl ?_
  refine aw_aload_n (n := 152) (i := 0) dX11_init_151 rfl rfl rfl ?_
  refine aw_getR (n := 155) (j := 5) (k := 0) (r := 40) hG.1 fl_RX11_30 (rfl : sh_201[0]? = _) rfl dX11_init_152 rfl ?_
  refine aw_aload_n (n := 156) (i := 0) dX11_init_155 rfl rfl rfl ?_
  refine aw_getR (n := 159) (j := 9) (k := 0) (r := 57) hG.1 fl_RX11_51 (rfl : sh_201[0]? = _) rfl dX11_init_156 rfl ?_
  refine aw_init (M := M_X11_init) (n := 162) (L := 75) (n0 := 1) (As := [.ref 2, .ref 40, .ref 57]) (rest := [.ref 74, .ref 0]) ki_RX11_75 rfl rfl (by rw [(rfl : sh_201 = sh_202)]; exact c_new_X2_74 hG hN (h := Ok.bind h)) rfl rfl rfl (by decide) (Nat.le_of_ble_eq_true rfl) (kn := 78) (kn2 := 2964) rfl rfl (by decide) (by decide) dX11_init_159 rfl (fun D_20 h => ?_)
  refine aw_putR (M := M_X11_init) (n := 165) (j := 12) (k := 0) (r := 74) (shp' := sh_215) hG.1 fl_RX11_76 ⟨rfl, fun _ => ⟨rfl, rfl⟩⟩ ⟨_, _, rfl⟩ rfl (fs := [some (some 1), none, none, some (some 2), some (some 21), some (some 40), some (some 48), none, some (some 56), some (some 57), some (some 60), some (some 68), some none, some none]) (rfl : sh_214[0]? = _) (by decide) rfl dX11_init_162 rfl ?_
  refine aw_aload_n (n := 166) (i := 0) dX11_init_165 rfl rfl rfl ?_
  obtain ⟨D_21, e_D_21, h⟩ := Ok.let_ h
  refine aw_new (M := M_X11_init) (n := 169) (ci := 10) (N := 8) (C := RX10) (T := TX10) (L := 79) (n0 := 1) (shp' := sh_216) (D' := D_21) tyX10 hG.1 rfl rfl rfl (by decide) rfl aU_X10 tyX10_ok (by decide) (by unfold aNF; decide) kw_RX11_80.1 kw_RX11_80.2.1 kw_RX11_80.2.2 (by decide) (by decide) dX11_init_166 rfl rfl (kc' := 79) (ks' := 2972) rfl rfl e_D_21 ?_
  refine aw_dup (n := 170) dX11_init_169 rfl rfl ?_
  refine aw_aload_n (n := 171) (i := 0) dX11_init_170 rfl rfl rfl ?_
  refine aw_getR (n := 174) (j := 3) (k := 0) (r := 2) hG.1 fl_RX11_20 (rfl : sh_216[0]? = _) rfl dX11_init_171 rfl ?_
  refine aw_aload_n (n := 175) (i := 0) dX11_init_174 rfl rfl rfl ?_
  refine aw_getR (n := 178) (j := 5) (k := 0) (r := 40) hG.1 fl_RX11_30 (rfl : sh_216[0]? = _) rfl dX11_init_175 rfl ?_
  refine aw_aload_n (n := 179) (i := 0) dX11_init_178 rfl rfl rfl ?_
  refine aw_getR (n := 182) (j := 9) (k := 0) (r := 57) hG.1 fl_RX11_51 (rfl : sh_216[0]? = _) rfl dX11_init_179 rfl ?_
  refine aw_init (M := M_X11_init) (n := 185) (L := 80) (n0 := 1) (As := [.ref 2, .ref 40, .ref 57]) (rest := [.ref 79, .ref 0]) ki_RX11_82 rfl rfl (by rw [(rfl : sh_216 = sh_217)]; exact c_new_X10_79 hG hN (h := Ok.bind h)) rfl rfl rfl (by decide) (Nat.le_of_ble_eq_true rfl) (kn := 87) (kn2 := 13700) rfl rfl (by decide) (by decide) dX11_init_182 rfl (fun D_22 h => ?_)
  refine aw_putR (M := M_X11_init) (n := 188) (j := 13) (k := 0) (r := 79) (shp' := sh_240) hG.1 fl_RX11_83 ⟨rfl, fun _ => ⟨rfl, rfl⟩⟩ ⟨_, _, rfl⟩ rfl (fs := [some (some 1), none, none, some (some 2), some (some 21), some (some 40), some (some 48), none, some (some 56), some (some 57), some (some 60), some (some 68), some (some 74), some none]) (rfl : sh_239[0]? = _) (by decide) rfl dX11_init_185 rfl ?_
  exact aw_vret rfl (by decide) (by decide) dX11_init_188 ⟨rfl, (rfl : sh_240 = sh_241), (Ok.dn h :)⟩
def sh_242 : List aSh := [.inr (11, [some (some 1), none, none, some (some 2), some (some 21), some (some 40), some (some 48), none, some (some 56), some (some 57), some (some 60), some (some 68), some (some 74), some (some 79)]), .inl (0, 700, []), .inr (6, [some (some 3), some (some 7), none, none, none, none, none, none, none, none, some (some 8), some (some 9), some (some 10), some (some 11), some (some 12), some (some 13), some (some 14)]), .inr (4, [none, none, some (some 4), some (some 5), some (some 6)]), .inl (1, 64, []), .inl (1, 64, []), .inl (3, 64, []), .inl (4, 6, [some 15, some 16, some 17, some 18, some 19, some 20]), .inl (1, 12, []), .inl (1, 12, []), .inl (1, 12, []), .inl (1, 5, []), .inl (1, 36, []), .inl (3, 6, []), .inl (1, 5, []), .inr (8, [none, none, none, none, none, none, none]), .inr (8, [none, none, none, none, none, none, none]), .inr (8, [none, none, none, none, none, none, none]), .inr (8, [none, none, none, none, none, none, none]), .inr (8, [none, none, none, none, none, none, none]), .inr (8, [none, none, none, none, none, none, none]), .inr (6, [some (some 22), some (some 26), none, none, none, none, none, none, none, none, some (some 27), some (some 28), some (some 29), some (some 30), some (some 31), some (some 32), some (some 33)]), .inr (4, [none, none, some (some 23), some (some 24), some (some 25)]), .inl (1, 64, []), .inl (1, 64, []), .inl (3, 64, []), .inl (4, 6, [some 34, some 35, some 36, some 37, some 38, some 39]), .inl (1, 12, []), .inl (1, 12, []), .inl (1, 12, []), .inl (1, 5, []), .inl (1, 36, []), .inl (3, 6, []), .inl (1, 5, []), .inr (8, [none, none, none, none, none, none, none]), .inr (8, [none, none, none, none, none, none, none]), .inr (8, [none, none, none, none, none, none, none]), .inr (8, [none, none, none, none, none, none, none]), .inr (8, [none, none, none, none, none, none, none]), .inr (8, [none, none, none, none, none, none, none]), .inr (9, [some (some 41), some (some 42), none, none, none, some (some 43), some (some 44), some (some 45), some (some 46), some (some 47)]), .inl (1, 12, []), .inl (1, 5, []), .inl (1, 12, []), .inl (1, 12, []), .inl (1, 12, []), .inl (1, 12, []), .inl (1, 3, []), .inr (9, [some (some 49), some (some 50), none, none, none, some (some 51), some (some 52), some (some 53), some (some 54), some (some 55)]), .inl (1, 12, []), .inl (1, 5, []), .inl (1, 12, []), .inl (1, 12, []), .inl (1, 12, []), .inl (1, 12, []), .inl (1, 3, []), .inr (7, [some (some 1), some (some 21), none, none, none, none, none, none, none]), .inr (0, [some (some 2), some (some 40), some (some 58), some (some 59)]), .inl (1, 6, []), .inl (1, 30, []), .inr (1, [some (some 2), some (some 40), some (some 57), none, some (some 61), some (some 62), some (some 63), some (some 64), some (some 65), some (some 66), some (some 67)]), .inl (1, 12, []), .inl (1, 12, []), .inl (1, 12, []), .inl (1, 300, []), .inl (1, 300, []), .inl (1, 5, []), .inl (1, 5, []), .inr (3, [some (some 2), some (some 60), none, some (some 69), some (some 70), some (some 71), some (some 72), some (some 73), none, none]), .inl (1, 6, []), .inl (1, 6, []), .inl (1, 6, []), .inl (1, 6, []), .inl (1, 21, []), .inr (2, [some (some 2), some (some 40), some (some 57), some (some 75), some (some 76), some (some 77), some (some 78)]), .inl (1, 5, []), .inl (1, 5, []), .inl (1, 5, []), .inl (1, 625, []), .inr (10, [some (some 2), some (some 40), some (some 57), some (some 80), none, none, some (some 81), some (some 82)]), .inl (1, 1925, []), .inl (1, 72, []), .inr (5, [some (some 83), some (some 84), some (some 85), some (some 86), some (some 87), none, none]), .inl (1, 1024, []), .inl (2, 1925, []), .inl (2, 1925, []), .inl (1, 1925, []), .inl (1, 1925, []), .inr (12, [some none, some none, none, some none, some none, some none, some none, some none, some none, some none, some none, some none, some none, some none, some none, some none, some none, some none, none, none, none, none, none, none, none, none, none, none, some none, some none, none, none, none, none, some none, some none, some none, some none, some none, some none, some none, none, none, some none, some none, some none, none, some none, some none, some none, some none, some none, none, some none, some none, none, none, none, none, some none, some none, some none, some none, some none, some none, some none])]
def M_X12_init : aM := (yX12_init, cX12_init, 1, none, [])
theorem dX12_init_0 : decode cX12_init 0 = .ok (.aload_n 0, 1) := by decide +kernel
theorem dX12_init_1 : decode cX12_init 1 = .ok (.invokespecial 1, 3) := by decide +kernel
theorem dX12_init_4 : decode cX12_init 4 = .ok (.aload_n 0, 1) := by decide +kernel
theorem dX12_init_5 : decode cX12_init 5 = .ok (.iconst 4, 1) := by decide +kernel
theorem dX12_init_6 : decode cX12_init 6 = .ok (.anewarray 7, 3) := by decide +kernel
theorem dX12_init_9 : decode cX12_init 9 = .ok (.dup, 1) := by decide +kernel
theorem dX12_init_10 : decode cX12_init 10 = .ok (.iconst 0, 1) := by decide +kernel
theorem dX12_init_11 : decode cX12_init 11 = .ok (.ldc 9, 2) := by decide +kernel
theorem dX12_init_13 : decode cX12_init 13 = .ok (.aastore, 1) := by decide +kernel
theorem dX12_init_14 : decode cX12_init 14 = .ok (.dup, 1) := by decide +kernel
theorem dX12_init_15 : decode cX12_init 15 = .ok (.iconst 1, 1) := by decide +kernel
theorem dX12_init_16 : decode cX12_init 16 = .ok (.ldc 11, 2) := by decide +kernel
theorem dX12_init_18 : decode cX12_init 18 = .ok (.aastore, 1) := by decide +kernel
theorem dX12_init_19 : decode cX12_init 19 = .ok (.dup, 1) := by decide +kernel
theorem dX12_init_20 : decode cX12_init 20 = .ok (.iconst 2, 1) := by decide +kernel
theorem dX12_init_21 : decode cX12_init 21 = .ok (.ldc 13, 2) := by decide +kernel
theorem dX12_init_23 : decode cX12_init 23 = .ok (.aastore, 1) := by decide +kernel
theorem dX12_init_24 : decode cX12_init 24 = .ok (.dup, 1) := by decide +kernel
theorem dX12_init_25 : decode cX12_init 25 = .ok (.iconst 3, 1) := by decide +kernel
theorem dX12_init_26 : decode cX12_init 26 = .ok (.ldc 15, 2) := by decide +kernel
theorem dX12_init_28 : decode cX12_init 28 = .ok (.aastore, 1) := by decide +kernel
theorem dX12_init_29 : decode cX12_init 29 = .ok (.putfield 17, 3) := by decide +kernel
theorem dX12_init_32 : decode cX12_init 32 = .ok (.aload_n 0, 1) := by decide +kernel
theorem dX12_init_33 : decode cX12_init 33 = .ok (.iconst 4, 1) := by decide +kernel
theorem dX12_init_34 : decode cX12_init 34 = .ok (.newarray .int, 2) := by decide +kernel
theorem dX12_init_36 : decode cX12_init 36 = .ok (.dup, 1) := by decide +kernel
theorem dX12_init_37 : decode cX12_init 37 = .ok (.iconst 0, 1) := by decide +kernel
theorem dX12_init_38 : decode cX12_init 38 = .ok (.bipush 20, 2) := by decide +kernel
theorem dX12_init_40 : decode cX12_init 40 = .ok (.iastore, 1) := by decide +kernel
theorem dX12_init_41 : decode cX12_init 41 = .ok (.dup, 1) := by decide +kernel
theorem dX12_init_42 : decode cX12_init 42 = .ok (.iconst 1, 1) := by decide +kernel
theorem dX12_init_43 : decode cX12_init 43 = .ok (.bipush 9, 2) := by decide +kernel
theorem dX12_init_45 : decode cX12_init 45 = .ok (.iastore, 1) := by decide +kernel
theorem dX12_init_46 : decode cX12_init 46 = .ok (.dup, 1) := by decide +kernel
theorem dX12_init_47 : decode cX12_init 47 = .ok (.iconst 2, 1) := by decide +kernel
theorem dX12_init_48 : decode cX12_init 48 = .ok (.bipush 14, 2) := by decide +kernel
theorem dX12_init_50 : decode cX12_init 50 = .ok (.iastore, 1) := by decide +kernel
theorem dX12_init_51 : decode cX12_init 51 = .ok (.dup, 1) := by decide +kernel
theorem dX12_init_52 : decode cX12_init 52 = .ok (.iconst 3, 1) := by decide +kernel
theorem dX12_init_53 : decode cX12_init 53 = .ok (.bipush 99, 2) := by decide +kernel
theorem dX12_init_55 : decode cX12_init 55 = .ok (.iastore, 1) := by decide +kernel
theorem dX12_init_56 : decode cX12_init 56 = .ok (.putfield 23, 3) := by decide +kernel
theorem dX12_init_59 : decode cX12_init 59 = .ok (.aload_n 0, 1) := by decide +kernel
theorem dX12_init_60 : decode cX12_init 60 = .ok (.bipush 32, 2) := by decide +kernel
theorem dX12_init_62 : decode cX12_init 62 = .ok (.newarray .int, 2) := by decide +kernel
theorem dX12_init_64 : decode cX12_init 64 = .ok (.dup, 1) := by decide +kernel
theorem dX12_init_65 : decode cX12_init 65 = .ok (.iconst 0, 1) := by decide +kernel
theorem dX12_init_66 : decode cX12_init 66 = .ok (.bipush 6, 2) := by decide +kernel
theorem dX12_init_68 : decode cX12_init 68 = .ok (.iastore, 1) := by decide +kernel
theorem dX12_init_69 : decode cX12_init 69 = .ok (.dup, 1) := by decide +kernel
theorem dX12_init_70 : decode cX12_init 70 = .ok (.iconst 1, 1) := by decide +kernel
theorem dX12_init_71 : decode cX12_init 71 = .ok (.bipush 6, 2) := by decide +kernel
theorem dX12_init_73 : decode cX12_init 73 = .ok (.iastore, 1) := by decide +kernel
theorem dX12_init_74 : decode cX12_init 74 = .ok (.dup, 1) := by decide +kernel
theorem dX12_init_75 : decode cX12_init 75 = .ok (.iconst 2, 1) := by decide +kernel
theorem dX12_init_76 : decode cX12_init 76 = .ok (.iconst 0, 1) := by decide +kernel
theorem dX12_init_77 : decode cX12_init 77 = .ok (.iastore, 1) := by decide +kernel
theorem dX12_init_78 : decode cX12_init 78 = .ok (.dup, 1) := by decide +kernel
theorem dX12_init_79 : decode cX12_init 79 = .ok (.iconst 3, 1) := by decide +kernel
theorem dX12_init_80 : decode cX12_init 80 = .ok (.iconst 0, 1) := by decide +kernel
theorem dX12_init_81 : decode cX12_init 81 = .ok (.iastore, 1) := by decide +kernel
theorem dX12_init_82 : decode cX12_init 82 = .ok (.dup, 1) := by decide +kernel
theorem dX12_init_83 : decode cX12_init 83 = .ok (.iconst 4, 1) := by decide +kernel
theorem dX12_init_84 : decode cX12_init 84 = .ok (.iconst 0, 1) := by decide +kernel
theorem dX12_init_85 : decode cX12_init 85 = .ok (.iastore, 1) := by decide +kernel
theorem dX12_init_86 : decode cX12_init 86 = .ok (.dup, 1) := by decide +kernel
theorem dX12_init_87 : decode cX12_init 87 = .ok (.iconst 5, 1) := by decide +kernel
theorem dX12_init_88 : decode cX12_init 88 = .ok (.iconst 0, 1) := by decide +kernel
theorem dX12_init_89 : decode cX12_init 89 = .ok (.iastore, 1) := by decide +kernel
theorem dX12_init_90 : decode cX12_init 90 = .ok (.dup, 1) := by decide +kernel
theorem dX12_init_91 : decode cX12_init 91 = .ok (.bipush 6, 2) := by decide +kernel
theorem dX12_init_93 : decode cX12_init 93 = .ok (.iconst 5, 1) := by decide +kernel
theorem dX12_init_94 : decode cX12_init 94 = .ok (.iastore, 1) := by decide +kernel
theorem dX12_init_95 : decode cX12_init 95 = .ok (.dup, 1) := by decide +kernel
theorem dX12_init_96 : decode cX12_init 96 = .ok (.bipush 7, 2) := by decide +kernel
theorem dX12_init_98 : decode cX12_init 98 = .ok (.iconst 2, 1) := by decide +kernel
theorem dX12_init_99 : decode cX12_init 99 = .ok (.iastore, 1) := by decide +kernel
theorem dX12_init_100 : decode cX12_init 100 = .ok (.dup, 1) := by decide +kernel
theorem dX12_init_101 : decode cX12_init 101 = .ok (.bipush 8, 2) := by decide +kernel
theorem dX12_init_103 : decode cX12_init 103 = .ok (.iconst 2, 1) := by decide +kernel
theorem dX12_init_104 : decode cX12_init 104 = .ok (.iastore, 1) := by decide +kernel
theorem dX12_init_105 : decode cX12_init 105 = .ok (.dup, 1) := by decide +kernel
theorem dX12_init_106 : decode cX12_init 106 = .ok (.bipush 9, 2) := by decide +kernel
theorem dX12_init_108 : decode cX12_init 108 = .ok (.iconst 0, 1) := by decide +kernel
theorem dX12_init_109 : decode cX12_init 109 = .ok (.iastore, 1) := by decide +kernel
theorem dX12_init_110 : decode cX12_init 110 = .ok (.dup, 1) := by decide +kernel
theorem dX12_init_111 : decode cX12_init 111 = .ok (.bipush 10, 2) := by decide +kernel
theorem dX12_init_113 : decode cX12_init 113 = .ok (.iconst 1, 1) := by decide +kernel
theorem dX12_init_114 : decode cX12_init 114 = .ok (.iastore, 1) := by decide +kernel
theorem dX12_init_115 : decode cX12_init 115 = .ok (.dup, 1) := by decide +kernel
theorem dX12_init_116 : decode cX12_init 116 = .ok (.bipush 11, 2) := by decide +kernel
theorem dX12_init_118 : decode cX12_init 118 = .ok (.iconst 1, 1) := by decide +kernel
theorem dX12_init_119 : decode cX12_init 119 = .ok (.iastore, 1) := by decide +kernel
theorem dX12_init_120 : decode cX12_init 120 = .ok (.dup, 1) := by decide +kernel
theorem dX12_init_121 : decode cX12_init 121 = .ok (.bipush 12, 2) := by decide +kernel
theorem dX12_init_123 : decode cX12_init 123 = .ok (.iconst 1, 1) := by decide +kernel
theorem dX12_init_124 : decode cX12_init 124 = .ok (.iastore, 1) := by decide +kernel
theorem dX12_init_125 : decode cX12_init 125 = .ok (.dup, 1) := by decide +kernel
theorem dX12_init_126 : decode cX12_init 126 = .ok (.bipush 13, 2) := by decide +kernel
theorem dX12_init_128 : decode cX12_init 128 = .ok (.iconst 1, 1) := by decide +kernel
theorem dX12_init_129 : decode cX12_init 129 = .ok (.iastore, 1) := by decide +kernel
theorem dX12_init_130 : decode cX12_init 130 = .ok (.dup, 1) := by decide +kernel
theorem dX12_init_131 : decode cX12_init 131 = .ok (.bipush 14, 2) := by decide +kernel
theorem dX12_init_133 : decode cX12_init 133 = .ok (.iconst 1, 1) := by decide +kernel
theorem dX12_init_134 : decode cX12_init 134 = .ok (.iastore, 1) := by decide +kernel
theorem dX12_init_135 : decode cX12_init 135 = .ok (.dup, 1) := by decide +kernel
theorem dX12_init_136 : decode cX12_init 136 = .ok (.bipush 15, 2) := by decide +kernel
theorem dX12_init_138 : decode cX12_init 138 = .ok (.iconst 0, 1) := by decide +kernel
theorem dX12_init_139 : decode cX12_init 139 = .ok (.iastore, 1) := by decide +kernel
theorem dX12_init_140 : decode cX12_init 140 = .ok (.dup, 1) := by decide +kernel
theorem dX12_init_141 : decode cX12_init 141 = .ok (.bipush 16, 2) := by decide +kernel
theorem dX12_init_143 : decode cX12_init 143 = .ok (.bipush 6, 2) := by decide +kernel
theorem dX12_init_145 : decode cX12_init 145 = .ok (.iastore, 1) := by decide +kernel
theorem dX12_init_146 : decode cX12_init 146 = .ok (.dup, 1) := by decide +kernel
theorem dX12_init_147 : decode cX12_init 147 = .ok (.bipush 17, 2) := by decide +kernel
theorem dX12_init_149 : decode cX12_init 149 = .ok (.bipush 6, 2) := by decide +kernel
theorem dX12_init_151 : decode cX12_init 151 = .ok (.iastore, 1) := by decide +kernel
theorem dX12_init_152 : decode cX12_init 152 = .ok (.dup, 1) := by decide +kernel
theorem dX12_init_153 : decode cX12_init 153 = .ok (.bipush 18, 2) := by decide +kernel
theorem dX12_init_155 : decode cX12_init 155 = .ok (.iconst 0, 1) := by decide +kernel
theorem dX12_init_156 : decode cX12_init 156 = .ok (.iastore, 1) := by decide +kernel
theorem dX12_init_157 : decode cX12_init 157 = .ok (.dup, 1) := by decide +kernel
theorem dX12_init_158 : decode cX12_init 158 = .ok (.bipush 19, 2) := by decide +kernel
theorem dX12_init_160 : decode cX12_init 160 = .ok (.iconst 0, 1) := by decide +kernel
theorem dX12_init_161 : decode cX12_init 161 = .ok (.iastore, 1) := by decide +kernel
theorem dX12_init_162 : decode cX12_init 162 = .ok (.dup, 1) := by decide +kernel
theorem dX12_init_163 : decode cX12_init 163 = .ok (.bipush 20, 2) := by decide +kernel
theorem dX12_init_165 : decode cX12_init 165 = .ok (.iconst 0, 1) := by decide +kernel
theorem dX12_init_166 : decode cX12_init 166 = .ok (.iastore, 1) := by decide +kernel
theorem dX12_init_167 : decode cX12_init 167 = .ok (.dup, 1) := by decide +kernel
theorem dX12_init_168 : decode cX12_init 168 = .ok (.bipush 21, 2) := by decide +kernel
theorem dX12_init_170 : decode cX12_init 170 = .ok (.iconst 0, 1) := by decide +kernel
theorem dX12_init_171 : decode cX12_init 171 = .ok (.iastore, 1) := by decide +kernel
theorem dX12_init_172 : decode cX12_init 172 = .ok (.dup, 1) := by decide +kernel
theorem dX12_init_173 : decode cX12_init 173 = .ok (.bipush 22, 2) := by decide +kernel
theorem dX12_init_175 : decode cX12_init 175 = .ok (.iconst 5, 1) := by decide +kernel
theorem dX12_init_176 : decode cX12_init 176 = .ok (.iastore, 1) := by decide +kernel
theorem dX12_init_177 : decode cX12_init 177 = .ok (.dup, 1) := by decide +kernel
theorem dX12_init_178 : decode cX12_init 178 = .ok (.bipush 23, 2) := by decide +kernel
theorem dX12_init_180 : decode cX12_init 180 = .ok (.iconst 2, 1) := by decide +kernel
theorem dX12_init_181 : decode cX12_init 181 = .ok (.iastore, 1) := by decide +kernel
theorem dX12_init_182 : decode cX12_init 182 = .ok (.dup, 1) := by decide +kernel
theorem dX12_init_183 : decode cX12_init 183 = .ok (.bipush 24, 2) := by decide +kernel
theorem dX12_init_185 : decode cX12_init 185 = .ok (.iconst 2, 1) := by decide +kernel
theorem dX12_init_186 : decode cX12_init 186 = .ok (.iastore, 1) := by decide +kernel
theorem dX12_init_187 : decode cX12_init 187 = .ok (.dup, 1) := by decide +kernel
theorem dX12_init_188 : decode cX12_init 188 = .ok (.bipush 25, 2) := by decide +kernel
theorem dX12_init_190 : decode cX12_init 190 = .ok (.iconst 0, 1) := by decide +kernel
theorem dX12_init_191 : decode cX12_init 191 = .ok (.iastore, 1) := by decide +kernel
theorem dX12_init_192 : decode cX12_init 192 = .ok (.dup, 1) := by decide +kernel
theorem dX12_init_193 : decode cX12_init 193 = .ok (.bipush 26, 2) := by decide +kernel
theorem dX12_init_195 : decode cX12_init 195 = .ok (.iconst 1, 1) := by decide +kernel
theorem dX12_init_196 : decode cX12_init 196 = .ok (.iastore, 1) := by decide +kernel
theorem dX12_init_197 : decode cX12_init 197 = .ok (.dup, 1) := by decide +kernel
theorem dX12_init_198 : decode cX12_init 198 = .ok (.bipush 27, 2) := by decide +kernel
theorem dX12_init_200 : decode cX12_init 200 = .ok (.iconst 1, 1) := by decide +kernel
theorem dX12_init_201 : decode cX12_init 201 = .ok (.iastore, 1) := by decide +kernel
theorem dX12_init_202 : decode cX12_init 202 = .ok (.dup, 1) := by decide +kernel
theorem dX12_init_203 : decode cX12_init 203 = .ok (.bipush 28, 2) := by decide +kernel
theorem dX12_init_205 : decode cX12_init 205 = .ok (.iconst 1, 1) := by decide +kernel
theorem dX12_init_206 : decode cX12_init 206 = .ok (.iastore, 1) := by decide +kernel
theorem dX12_init_207 : decode cX12_init 207 = .ok (.dup, 1) := by decide +kernel
theorem dX12_init_208 : decode cX12_init 208 = .ok (.bipush 29, 2) := by decide +kernel
theorem dX12_init_210 : decode cX12_init 210 = .ok (.iconst 1, 1) := by decide +kernel
theorem dX12_init_211 : decode cX12_init 211 = .ok (.iastore, 1) := by decide +kernel
theorem dX12_init_212 : decode cX12_init 212 = .ok (.dup, 1) := by decide +kernel
theorem dX12_init_213 : decode cX12_init 213 = .ok (.bipush 30, 2) := by decide +kernel
theorem dX12_init_215 : decode cX12_init 215 = .ok (.iconst 1, 1) := by decide +kernel
theorem dX12_init_216 : decode cX12_init 216 = .ok (.iastore, 1) := by decide +kernel
theorem dX12_init_217 : decode cX12_init 217 = .ok (.dup, 1) := by decide +kernel
theorem dX12_init_218 : decode cX12_init 218 = .ok (.bipush 31, 2) := by decide +kernel
theorem dX12_init_220 : decode cX12_init 220 = .ok (.iconst 0, 1) := by decide +kernel
theorem dX12_init_221 : decode cX12_init 221 = .ok (.iastore, 1) := by decide +kernel
theorem dX12_init_222 : decode cX12_init 222 = .ok (.putfield 27, 3) := by decide +kernel
theorem dX12_init_225 : decode cX12_init 225 = .ok (.aload_n 0, 1) := by decide +kernel
theorem dX12_init_226 : decode cX12_init 226 = .ok (.bipush 12, 2) := by decide +kernel
theorem dX12_init_228 : decode cX12_init 228 = .ok (.newarray .int, 2) := by decide +kernel
theorem dX12_init_230 : decode cX12_init 230 = .ok (.putfield 30, 3) := by decide +kernel
theorem dX12_init_233 : decode cX12_init 233 = .ok (.aload_n 0, 1) := by decide +kernel
theorem dX12_init_234 : decode cX12_init 234 = .ok (.bipush 12, 2) := by decide +kernel
theorem dX12_init_236 : decode cX12_init 236 = .ok (.newarray .int, 2) := by decide +kernel
theorem dX12_init_238 : decode cX12_init 238 = .ok (.putfield 33, 3) := by decide +kernel
theorem dX12_init_241 : decode cX12_init 241 = .ok (.aload_n 0, 1) := by decide +kernel
theorem dX12_init_242 : decode cX12_init 242 = .ok (.bipush 12, 2) := by decide +kernel
theorem dX12_init_244 : decode cX12_init 244 = .ok (.newarray .int, 2) := by decide +kernel
theorem dX12_init_246 : decode cX12_init 246 = .ok (.putfield 36, 3) := by decide +kernel
theorem dX12_init_249 : decode cX12_init 249 = .ok (.aload_n 0, 1) := by decide +kernel
theorem dX12_init_250 : decode cX12_init 250 = .ok (.bipush 12, 2) := by decide +kernel
theorem dX12_init_252 : decode cX12_init 252 = .ok (.newarray .int, 2) := by decide +kernel
theorem dX12_init_254 : decode cX12_init 254 = .ok (.putfield 39, 3) := by decide +kernel
theorem dX12_init_257 : decode cX12_init 257 = .ok (.aload_n 0, 1) := by decide +kernel
theorem dX12_init_258 : decode cX12_init 258 = .ok (.bipush 12, 2) := by decide +kernel
theorem dX12_init_260 : decode cX12_init 260 = .ok (.newarray .int, 2) := by decide +kernel
theorem dX12_init_262 : decode cX12_init 262 = .ok (.putfield 42, 3) := by decide +kernel
theorem dX12_init_265 : decode cX12_init 265 = .ok (.aload_n 0, 1) := by decide +kernel
theorem dX12_init_266 : decode cX12_init 266 = .ok (.bipush 12, 2) := by decide +kernel
theorem dX12_init_268 : decode cX12_init 268 = .ok (.newarray .int, 2) := by decide +kernel
theorem dX12_init_270 : decode cX12_init 270 = .ok (.putfield 45, 3) := by decide +kernel
theorem dX12_init_273 : decode cX12_init 273 = .ok (.aload_n 0, 1) := by decide +kernel
theorem dX12_init_274 : decode cX12_init 274 = .ok (.bipush 12, 2) := by decide +kernel
theorem dX12_init_276 : decode cX12_init 276 = .ok (.newarray .int, 2) := by decide +kernel
theorem dX12_init_278 : decode cX12_init 278 = .ok (.putfield 48, 3) := by decide +kernel
theorem dX12_init_281 : decode cX12_init 281 = .ok (.aload_n 0, 1) := by decide +kernel
theorem dX12_init_282 : decode cX12_init 282 = .ok (.bipush 26, 2) := by decide +kernel
theorem dX12_init_284 : decode cX12_init 284 = .ok (.newarray .int, 2) := by decide +kernel
theorem dX12_init_286 : decode cX12_init 286 = .ok (.putfield 51, 3) := by decide +kernel
theorem dX12_init_289 : decode cX12_init 289 = .ok (.aload_n 0, 1) := by decide +kernel
theorem dX12_init_290 : decode cX12_init 290 = .ok (.bipush 26, 2) := by decide +kernel
theorem dX12_init_292 : decode cX12_init 292 = .ok (.newarray .int, 2) := by decide +kernel
theorem dX12_init_294 : decode cX12_init 294 = .ok (.putfield 54, 3) := by decide +kernel
theorem dX12_init_297 : decode cX12_init 297 = .ok (.aload_n 0, 1) := by decide +kernel
theorem dX12_init_298 : decode cX12_init 298 = .ok (.bipush 26, 2) := by decide +kernel
theorem dX12_init_300 : decode cX12_init 300 = .ok (.newarray .int, 2) := by decide +kernel
theorem dX12_init_302 : decode cX12_init 302 = .ok (.putfield 57, 3) := by decide +kernel
theorem dX12_init_305 : decode cX12_init 305 = .ok (.aload_n 0, 1) := by decide +kernel
theorem dX12_init_306 : decode cX12_init 306 = .ok (.bipush 10, 2) := by decide +kernel
theorem dX12_init_308 : decode cX12_init 308 = .ok (.newarray .int, 2) := by decide +kernel
theorem dX12_init_310 : decode cX12_init 310 = .ok (.putfield 60, 3) := by decide +kernel
theorem dX12_init_313 : decode cX12_init 313 = .ok (.aload_n 0, 1) := by decide +kernel
theorem dX12_init_314 : decode cX12_init 314 = .ok (.bipush 72, 2) := by decide +kernel
theorem dX12_init_316 : decode cX12_init 316 = .ok (.newarray .int, 2) := by decide +kernel
theorem dX12_init_318 : decode cX12_init 318 = .ok (.putfield 63, 3) := by decide +kernel
theorem dX12_init_321 : decode cX12_init 321 = .ok (.aload_n 0, 1) := by decide +kernel
theorem dX12_init_322 : decode cX12_init 322 = .ok (.iconst 3, 1) := by decide +kernel
theorem dX12_init_323 : decode cX12_init 323 = .ok (.newarray .int, 2) := by decide +kernel
theorem dX12_init_325 : decode cX12_init 325 = .ok (.putfield 66, 3) := by decide +kernel
theorem dX12_init_328 : decode cX12_init 328 = .ok (.aload_n 0, 1) := by decide +kernel
theorem dX12_init_329 : decode cX12_init 329 = .ok (.sipush 700, 3) := by decide +kernel
theorem dX12_init_332 : decode cX12_init 332 = .ok (.newarray .int, 2) := by decide +kernel
theorem dX12_init_334 : decode cX12_init 334 = .ok (.putfield 69, 3) := by decide +kernel
theorem dX12_init_337 : decode cX12_init 337 = .ok (.aload_n 0, 1) := by decide +kernel
theorem dX12_init_338 : decode cX12_init 338 = .ok (.iconst (-1), 1) := by decide +kernel
theorem dX12_init_339 : decode cX12_init 339 = .ok (.putfield 72, 3) := by decide +kernel
theorem dX12_init_342 : decode cX12_init 342 = .ok (.aload_n 0, 1) := by decide +kernel
theorem dX12_init_343 : decode cX12_init 343 = .ok (.bipush 13, 2) := by decide +kernel
theorem dX12_init_345 : decode cX12_init 345 = .ok (.newarray .int, 2) := by decide +kernel
theorem dX12_init_347 : decode cX12_init 347 = .ok (.putfield 76, 3) := by decide +kernel
theorem dX12_init_350 : decode cX12_init 350 = .ok (.aload_n 0, 1) := by decide +kernel
theorem dX12_init_351 : decode cX12_init 351 = .ok (.iconst 5, 1) := by decide +kernel
theorem dX12_init_352 : decode cX12_init 352 = .ok (.newarray .int, 2) := by decide +kernel
theorem dX12_init_354 : decode cX12_init 354 = .ok (.dup, 1) := by decide +kernel
theorem dX12_init_355 : decode cX12_init 355 = .ok (.iconst 0, 1) := by decide +kernel
theorem dX12_init_356 : decode cX12_init 356 = .ok (.iconst 0, 1) := by decide +kernel
theorem dX12_init_357 : decode cX12_init 357 = .ok (.iastore, 1) := by decide +kernel
theorem dX12_init_358 : decode cX12_init 358 = .ok (.dup, 1) := by decide +kernel
theorem dX12_init_359 : decode cX12_init 359 = .ok (.iconst 1, 1) := by decide +kernel
theorem dX12_init_360 : decode cX12_init 360 = .ok (.iconst 1, 1) := by decide +kernel
theorem dX12_init_361 : decode cX12_init 361 = .ok (.iastore, 1) := by decide +kernel
theorem dX12_init_362 : decode cX12_init 362 = .ok (.dup, 1) := by decide +kernel
theorem dX12_init_363 : decode cX12_init 363 = .ok (.iconst 2, 1) := by decide +kernel
theorem dX12_init_364 : decode cX12_init 364 = .ok (.iconst 2, 1) := by decide +kernel
theorem dX12_init_365 : decode cX12_init 365 = .ok (.iastore, 1) := by decide +kernel
theorem dX12_init_366 : decode cX12_init 366 = .ok (.dup, 1) := by decide +kernel
theorem dX12_init_367 : decode cX12_init 367 = .ok (.iconst 3, 1) := by decide +kernel
theorem dX12_init_368 : decode cX12_init 368 = .ok (.iconst 3, 1) := by decide +kernel
theorem dX12_init_369 : decode cX12_init 369 = .ok (.iastore, 1) := by decide +kernel
theorem dX12_init_370 : decode cX12_init 370 = .ok (.dup, 1) := by decide +kernel
theorem dX12_init_371 : decode cX12_init 371 = .ok (.iconst 4, 1) := by decide +kernel
theorem dX12_init_372 : decode cX12_init 372 = .ok (.iconst 4, 1) := by decide +kernel
theorem dX12_init_373 : decode cX12_init 373 = .ok (.iastore, 1) := by decide +kernel
theorem dX12_init_374 : decode cX12_init 374 = .ok (.putfield 79, 3) := by decide +kernel
theorem dX12_init_377 : decode cX12_init 377 = .ok (.aload_n 0, 1) := by decide +kernel
theorem dX12_init_378 : decode cX12_init 378 = .ok (.bipush 12, 2) := by decide +kernel
theorem dX12_init_380 : decode cX12_init 380 = .ok (.putfield 82, 3) := by decide +kernel
theorem dX12_init_383 : decode cX12_init 383 = .ok (.aload_n 0, 1) := by decide +kernel
theorem dX12_init_384 : decode cX12_init 384 = .ok (.bipush 6, 2) := by decide +kernel
theorem dX12_init_386 : decode cX12_init 386 = .ok (.newarray .int, 2) := by decide +kernel
theorem dX12_init_388 : decode cX12_init 388 = .ok (.putfield 85, 3) := by decide +kernel
theorem dX12_init_391 : decode cX12_init 391 = .ok (.aload_n 0, 1) := by decide +kernel
theorem dX12_init_392 : decode cX12_init 392 = .ok (.bipush 30, 2) := by decide +kernel
theorem dX12_init_394 : decode cX12_init 394 = .ok (.newarray .int, 2) := by decide +kernel
theorem dX12_init_396 : decode cX12_init 396 = .ok (.putfield 88, 3) := by decide +kernel
theorem dX12_init_399 : decode cX12_init 399 = .ok (.aload_n 0, 1) := by decide +kernel
theorem dX12_init_400 : decode cX12_init 400 = .ok (.bipush 6, 2) := by decide +kernel
theorem dX12_init_402 : decode cX12_init 402 = .ok (.newarray .int, 2) := by decide +kernel
theorem dX12_init_404 : decode cX12_init 404 = .ok (.putfield 91, 3) := by decide +kernel
theorem dX12_init_407 : decode cX12_init 407 = .ok (.aload_n 0, 1) := by decide +kernel
theorem dX12_init_408 : decode cX12_init 408 = .ok (.bipush 6, 2) := by decide +kernel
theorem dX12_init_410 : decode cX12_init 410 = .ok (.newarray .int, 2) := by decide +kernel
theorem dX12_init_412 : decode cX12_init 412 = .ok (.putfield 94, 3) := by decide +kernel
theorem dX12_init_415 : decode cX12_init 415 = .ok (.aload_n 0, 1) := by decide +kernel
theorem dX12_init_416 : decode cX12_init 416 = .ok (.iconst 5, 1) := by decide +kernel
theorem dX12_init_417 : decode cX12_init 417 = .ok (.newarray .int, 2) := by decide +kernel
theorem dX12_init_419 : decode cX12_init 419 = .ok (.putfield 97, 3) := by decide +kernel
theorem dX12_init_422 : decode cX12_init 422 = .ok (.aload_n 0, 1) := by decide +kernel
theorem dX12_init_423 : decode cX12_init 423 = .ok (.bipush 12, 2) := by decide +kernel
theorem dX12_init_425 : decode cX12_init 425 = .ok (.newarray .int, 2) := by decide +kernel
theorem dX12_init_427 : decode cX12_init 427 = .ok (.putfield 100, 3) := by decide +kernel
theorem dX12_init_430 : decode cX12_init 430 = .ok (.aload_n 0, 1) := by decide +kernel
theorem dX12_init_431 : decode cX12_init 431 = .ok (.bipush 12, 2) := by decide +kernel
theorem dX12_init_433 : decode cX12_init 433 = .ok (.newarray .int, 2) := by decide +kernel
theorem dX12_init_435 : decode cX12_init 435 = .ok (.putfield 103, 3) := by decide +kernel
theorem dX12_init_438 : decode cX12_init 438 = .ok (.aload_n 0, 1) := by decide +kernel
theorem dX12_init_439 : decode cX12_init 439 = .ok (.bipush 13, 2) := by decide +kernel
theorem dX12_init_441 : decode cX12_init 441 = .ok (.newarray .int, 2) := by decide +kernel
theorem dX12_init_443 : decode cX12_init 443 = .ok (.putfield 106, 3) := by decide +kernel
theorem dX12_init_446 : decode cX12_init 446 = .ok (.aload_n 0, 1) := by decide +kernel
theorem dX12_init_447 : decode cX12_init 447 = .ok (.iconst 5, 1) := by decide +kernel
theorem dX12_init_448 : decode cX12_init 448 = .ok (.newarray .int, 2) := by decide +kernel
theorem dX12_init_450 : decode cX12_init 450 = .ok (.putfield 109, 3) := by decide +kernel
theorem dX12_init_453 : decode cX12_init 453 = .ok (.aload_n 0, 1) := by decide +kernel
theorem dX12_init_454 : decode cX12_init 454 = .ok (.iconst 5, 1) := by decide +kernel
theorem dX12_init_455 : decode cX12_init 455 = .ok (.newarray .int, 2) := by decide +kernel
theorem dX12_init_457 : decode cX12_init 457 = .ok (.putfield 112, 3) := by decide +kernel
theorem dX12_init_460 : decode cX12_init 460 = .ok (.aload_n 0, 1) := by decide +kernel
theorem dX12_init_461 : decode cX12_init 461 = .ok (.bipush 12, 2) := by decide +kernel
theorem dX12_init_463 : decode cX12_init 463 = .ok (.newarray .int, 2) := by decide +kernel
theorem dX12_init_465 : decode cX12_init 465 = .ok (.putfield 115, 3) := by decide +kernel
theorem dX12_init_468 : decode cX12_init 468 = .ok (.aload_n 0, 1) := by decide +kernel
theorem dX12_init_469 : decode cX12_init 469 = .ok (.bipush 12, 2) := by decide +kernel
theorem dX12_init_471 : decode cX12_init 471 = .ok (.newarray .int, 2) := by decide +kernel
theorem dX12_init_473 : decode cX12_init 473 = .ok (.putfield 118, 3) := by decide +kernel
theorem dX12_init_476 : decode cX12_init 476 = .ok (.aload_n 0, 1) := by decide +kernel
theorem dX12_init_477 : decode cX12_init 477 = .ok (.bipush 12, 2) := by decide +kernel
theorem dX12_init_479 : decode cX12_init 479 = .ok (.newarray .int, 2) := by decide +kernel
theorem dX12_init_481 : decode cX12_init 481 = .ok (.putfield 121, 3) := by decide +kernel
theorem dX12_init_484 : decode cX12_init 484 = .ok (.aload_n 0, 1) := by decide +kernel
theorem dX12_init_485 : decode cX12_init 485 = .ok (.bipush 12, 2) := by decide +kernel
theorem dX12_init_487 : decode cX12_init 487 = .ok (.newarray .int, 2) := by decide +kernel
theorem dX12_init_489 : decode cX12_init 489 = .ok (.putfield 124, 3) := by decide +kernel
theorem dX12_init_492 : decode cX12_init 492 = .ok (.aload_n 0, 1) := by decide +kernel
theorem dX12_init_493 : decode cX12_init 493 = .ok (.sipush 1925, 3) := by decide +kernel
theorem dX12_init_496 : decode cX12_init 496 = .ok (.newarray .int, 2) := by decide +kernel
theorem dX12_init_498 : decode cX12_init 498 = .ok (.putfield 127, 3) := by decide +kernel
theorem dX12_init_501 : decode cX12_init 501 = .ok (.aload_n 0, 1) := by decide +kernel
theorem dX12_init_502 : decode cX12_init 502 = .ok (.sipush 11550, 3) := by decide +kernel
theorem dX12_init_505 : decode cX12_init 505 = .ok (.newarray .int, 2) := by decide +kernel
theorem dX12_init_507 : decode cX12_init 507 = .ok (.putfield 130, 3) := by decide +kernel
theorem dX12_init_510 : decode cX12_init 510 = .ok (.aload_n 0, 1) := by decide +kernel
theorem dX12_init_511 : decode cX12_init 511 = .ok (.iconst 5, 1) := by decide +kernel
theorem dX12_init_512 : decode cX12_init 512 = .ok (.newarray .int, 2) := by decide +kernel
theorem dX12_init_514 : decode cX12_init 514 = .ok (.putfield 133, 3) := by decide +kernel
theorem dX12_init_517 : decode cX12_init 517 = .ok (.aload_n 0, 1) := by decide +kernel
theorem dX12_init_518 : decode cX12_init 518 = .ok (.bipush 13, 2) := by decide +kernel
theorem dX12_init_520 : decode cX12_init 520 = .ok (.newarray .int, 2) := by decide +kernel
theorem dX12_init_522 : decode cX12_init 522 = .ok (.putfield 136, 3) := by decide +kernel
theorem dX12_init_525 : decode cX12_init 525 = .ok (.aload_n 0, 1) := by decide +kernel
theorem dX12_init_526 : decode cX12_init 526 = .ok (.iconst 5, 1) := by decide +kernel
theorem dX12_init_527 : decode cX12_init 527 = .ok (.newarray .int, 2) := by decide +kernel
theorem dX12_init_529 : decode cX12_init 529 = .ok (.putfield 139, 3) := by decide +kernel
theorem dX12_init_532 : decode cX12_init 532 = .ok (.aload_n 0, 1) := by decide +kernel
theorem dX12_init_533 : decode cX12_init 533 = .ok (.bipush 12, 2) := by decide +kernel
theorem dX12_init_535 : decode cX12_init 535 = .ok (.newarray .int, 2) := by decide +kernel
theorem dX12_init_537 : decode cX12_init 537 = .ok (.putfield 142, 3) := by decide +kernel
theorem dX12_init_540 : decode cX12_init 540 = .ok (.aload_n 0, 1) := by decide +kernel
theorem dX12_init_541 : decode cX12_init 541 = .ok (.bipush 12, 2) := by decide +kernel
theorem dX12_init_543 : decode cX12_init 543 = .ok (.newarray .int, 2) := by decide +kernel
theorem dX12_init_545 : decode cX12_init 545 = .ok (.putfield 145, 3) := by decide +kernel
theorem dX12_init_548 : decode cX12_init 548 = .ok (.aload_n 0, 1) := by decide +kernel
theorem dX12_init_549 : decode cX12_init 549 = .ok (.bipush 12, 2) := by decide +kernel
theorem dX12_init_551 : decode cX12_init 551 = .ok (.newarray .int, 2) := by decide +kernel
theorem dX12_init_553 : decode cX12_init 553 = .ok (.putfield 148, 3) := by decide +kernel
theorem dX12_init_556 : decode cX12_init 556 = .ok (.aload_n 0, 1) := by decide +kernel
theorem dX12_init_557 : decode cX12_init 557 = .ok (.bipush 12, 2) := by decide +kernel
theorem dX12_init_559 : decode cX12_init 559 = .ok (.newarray .int, 2) := by decide +kernel
theorem dX12_init_561 : decode cX12_init 561 = .ok (.putfield 151, 3) := by decide +kernel
theorem dX12_init_564 : decode cX12_init 564 = .ok (.aload_n 0, 1) := by decide +kernel
theorem dX12_init_565 : decode cX12_init 565 = .ok (.iconst 3, 1) := by decide +kernel
theorem dX12_init_566 : decode cX12_init 566 = .ok (.newarray .int, 2) := by decide +kernel
theorem dX12_init_568 : decode cX12_init 568 = .ok (.putfield 154, 3) := by decide +kernel
theorem dX12_init_571 : decode cX12_init 571 = .ok (.return_, 1) := by decide +kernel
theorem ko_RX12_1 : Cond.methodLink RX12 1 Lib.objectInit ∈ aU ∧ Cond.instanceMethod Lib.objectInit ∈ aU ∧ Cond.code Lib.objectInit ⟨#[0xb1]⟩ 1 none ∈ aU := ⟨aU_6 130 rfl rfl, aU_1 32 rfl rfl, aU_1 33 rfl rfl⟩
def sh_243 : List aSh := sh_242 ++ [.inl (5, 4, [none, none, none, none])]
theorem ka_RX12_7 : Cond.classLink RX12 7 "java/lang/String" ∈ aU := aU_6 131 rfl rfl
def sh_244 : List aSh := sh_243.set 89 (.inl (5, 4, [some 10000, none, none, none]))
def sh_245 : List aSh := sh_244.set 89 (.inl (5, 4, [some 10000, some 10001, none, none]))
def sh_246 : List aSh := sh_245.set 89 (.inl (5, 4, [some 10000, some 10001, some 10002, none]))
def sh_247 : List aSh := sh_246.set 89 (.inl (5, 4, [some 10000, some 10001, some 10002, some 10003]))
def sh_248 : List aSh := sh_247.set 88 (.inr (12, [some (some 89), some none, none, some none, some none, some none, some none, some none, some none, some none, some none, some none, some none, some none, some none, some none, some none, some none, none, none, none, none, none, none, none, none, none, none, some none, some none, none, none, none, none, some none, some none, some none, some none, some none, some none, some none, none, none, some none, some none, some none, none, some none, some none, some none, some none, some none, none, some none, some none, none, none, none, none, some none, some none, some none, some none, some none, some none, some none]))
def sh_249 : List aSh := sh_248 ++ [.inl (1, 4, [])]
def sh_250 : List aSh := sh_249.set 88 (.inr (12, [some (some 89), some (some 90), none, some none, some none, some none, some none, some none, some none, some none, some none, some none, some none, some none, some none, some none, some none, some none, none, none, none, none, none, none, none, none, none, none, some none, some none, none, none, none, none, some none, some none, some none, some none, some none, some none, some none, none, none, some none, some none, some none, none, some none, some none, some none, some none, some none, none, some none, some none, none, none, none, none, some none, some none, some none, some none, some none, some none, some none]))
def sh_251 : List aSh := sh_250 ++ [.inl (1, 32, [])]
def sh_252 : List aSh := sh_251.set 88 (.inr (12, [some (some 89), some (some 90), none, some (some 91), some none, some none, some none, some none, some none, some none, some none, some none, some none, some none, some none, some none, some none, some none, none, none, none, none, none, none, none, none, none, none, some none, some none, none, none, none, none, some none, some none, some none, some none, some none, some none, some none, none, none, some none, some none, some none, none, some none, some none, some none, some none, some none, none, some none, some none, none, none, none, none, some none, some none, some none, some none, some none, some none, some none]))
def sh_253 : List aSh := sh_252 ++ [.inl (1, 12, [])]
def sh_254 : List aSh := sh_253.set 88 (.inr (12, [some (some 89), some (some 90), none, some (some 91), some (some 92), some none, some none, some none, some none, some none, some none, some none, some none, some none, some none, some none, some none, some none, none, none, none, none, none, none, none, none, none, none, some none, some none, none, none, none, none, some none, some none, some none, some none, some none, some none, some none, none, none, some none, some none, some none, none, some none, some none, some none, some none, some none, none, some none, some none, none, none, none, none, some none, some none, some none, some none, some none, some none, some none]))
def sh_255 : List aSh := sh_254 ++ [.inl (1, 12, [])]
def sh_256 : List aSh := sh_255.set 88 (.inr (12, [some (some 89), some (some 90), none, some (some 91), some (some 92), some (some 93), some none, some none, some none, some none, some none, some none, some none, some none, some none, some none, some none, some none, none, none, none, none, none, none, none, none, none, none, some none, some none, none, none, none, none, some none, some none, some none, some none, some none, some none, some none, none, none, some none, some none, some none, none, some none, some none, some none, some none, some none, none, some none, some none, none, none, none, none, some none, some none, some none, some none, some none, some none, some none]))
def sh_257 : List aSh := sh_256 ++ [.inl (1, 12, [])]
def sh_258 : List aSh := sh_257.set 88 (.inr (12, [some (some 89), some (some 90), none, some (some 91), some (some 92), some (some 93), some (some 94), some none, some none, some none, some none, some none, some none, some none, some none, some none, some none, some none, none, none, none, none, none, none, none, none, none, none, some none, some none, none, none, none, none, some none, some none, some none, some none, some none, some none, some none, none, none, some none, some none, some none, none, some none, some none, some none, some none, some none, none, some none, some none, none, none, none, none, some none, some none, some none, some none, some none, some none, some none]))
def sh_259 : List aSh := sh_258 ++ [.inl (1, 12, [])]
def sh_260 : List aSh := sh_259.set 88 (.inr (12, [some (some 89), some (some 90), none, some (some 91), some (some 92), some (some 93), some (some 94), some (some 95), some none, some none, some none, some none, some none, some none, some none, some none, some none, some none, none, none, none, none, none, none, none, none, none, none, some none, some none, none, none, none, none, some none, some none, some none, some none, some none, some none, some none, none, none, some none, some none, some none, none, some none, some none, some none, some none, some none, none, some none, some none, none, none, none, none, some none, some none, some none, some none, some none, some none, some none]))
def sh_261 : List aSh := sh_260 ++ [.inl (1, 12, [])]
def sh_262 : List aSh := sh_261.set 88 (.inr (12, [some (some 89), some (some 90), none, some (some 91), some (some 92), some (some 93), some (some 94), some (some 95), some (some 96), some none, some none, some none, some none, some none, some none, some none, some none, some none, none, none, none, none, none, none, none, none, none, none, some none, some none, none, none, none, none, some none, some none, some none, some none, some none, some none, some none, none, none, some none, some none, some none, none, some none, some none, some none, some none, some none, none, some none, some none, none, none, none, none, some none, some none, some none, some none, some none, some none, some none]))
def sh_263 : List aSh := sh_262 ++ [.inl (1, 12, [])]
def sh_264 : List aSh := sh_263.set 88 (.inr (12, [some (some 89), some (some 90), none, some (some 91), some (some 92), some (some 93), some (some 94), some (some 95), some (some 96), some (some 97), some none, some none, some none, some none, some none, some none, some none, some none, none, none, none, none, none, none, none, none, none, none, some none, some none, none, none, none, none, some none, some none, some none, some none, some none, some none, some none, none, none, some none, some none, some none, none, some none, some none, some none, some none, some none, none, some none, some none, none, none, none, none, some none, some none, some none, some none, some none, some none, some none]))
def sh_265 : List aSh := sh_264 ++ [.inl (1, 12, [])]
def sh_266 : List aSh := sh_265.set 88 (.inr (12, [some (some 89), some (some 90), none, some (some 91), some (some 92), some (some 93), some (some 94), some (some 95), some (some 96), some (some 97), some (some 98), some none, some none, some none, some none, some none, some none, some none, none, none, none, none, none, none, none, none, none, none, some none, some none, none, none, none, none, some none, some none, some none, some none, some none, some none, some none, none, none, some none, some none, some none, none, some none, some none, some none, some none, some none, none, some none, some none, none, none, none, none, some none, some none, some none, some none, some none, some none, some none]))
def sh_267 : List aSh := sh_266 ++ [.inl (1, 26, [])]
def sh_268 : List aSh := sh_267.set 88 (.inr (12, [some (some 89), some (some 90), none, some (some 91), some (some 92), some (some 93), some (some 94), some (some 95), some (some 96), some (some 97), some (some 98), some (some 99), some none, some none, some none, some none, some none, some none, none, none, none, none, none, none, none, none, none, none, some none, some none, none, none, none, none, some none, some none, some none, some none, some none, some none, some none, none, none, some none, some none, some none, none, some none, some none, some none, some none, some none, none, some none, some none, none, none, none, none, some none, some none, some none, some none, some none, some none, some none]))
def sh_269 : List aSh := sh_268 ++ [.inl (1, 26, [])]
def sh_270 : List aSh := sh_269.set 88 (.inr (12, [some (some 89), some (some 90), none, some (some 91), some (some 92), some (some 93), some (some 94), some (some 95), some (some 96), some (some 97), some (some 98), some (some 99), some (some 100), some none, some none, some none, some none, some none, none, none, none, none, none, none, none, none, none, none, some none, some none, none, none, none, none, some none, some none, some none, some none, some none, some none, some none, none, none, some none, some none, some none, none, some none, some none, some none, some none, some none, none, some none, some none, none, none, none, none, some none, some none, some none, some none, some none, some none, some none]))
def sh_271 : List aSh := sh_270 ++ [.inl (1, 26, [])]
def sh_272 : List aSh := sh_271.set 88 (.inr (12, [some (some 89), some (some 90), none, some (some 91), some (some 92), some (some 93), some (some 94), some (some 95), some (some 96), some (some 97), some (some 98), some (some 99), some (some 100), some (some 101), some none, some none, some none, some none, none, none, none, none, none, none, none, none, none, none, some none, some none, none, none, none, none, some none, some none, some none, some none, some none, some none, some none, none, none, some none, some none, some none, none, some none, some none, some none, some none, some none, none, some none, some none, none, none, none, none, some none, some none, some none, some none, some none, some none, some none]))
def sh_273 : List aSh := sh_272 ++ [.inl (1, 10, [])]
def sh_274 : List aSh := sh_273.set 88 (.inr (12, [some (some 89), some (some 90), none, some (some 91), some (some 92), some (some 93), some (some 94), some (some 95), some (some 96), some (some 97), some (some 98), some (some 99), some (some 100), some (some 101), some (some 102), some none, some none, some none, none, none, none, none, none, none, none, none, none, none, some none, some none, none, none, none, none, some none, some none, some none, some none, some none, some none, some none, none, none, some none, some none, some none, none, some none, some none, some none, some none, some none, none, some none, some none, none, none, none, none, some none, some none, some none, some none, some none, some none, some none]))
def sh_275 : List aSh := sh_274 ++ [.inl (1, 72, [])]
def sh_276 : List aSh := sh_275.set 88 (.inr (12, [some (some 89), some (some 90), none, some (some 91), some (some 92), some (some 93), some (some 94), some (some 95), some (some 96), some (some 97), some (some 98), some (some 99), some (some 100), some (some 101), some (some 102), some (some 103), some none, some none, none, none, none, none, none, none, none, none, none, none, some none, some none, none, none, none, none, some none, some none, some none, some none, some none, some none, some none, none, none, some none, some none, some none, none, some none, some none, some none, some none, some none, none, some none, some none, none, none, none, none, some none, some none, some none, some none, some none, some none, some none]))
def sh_277 : List aSh := sh_276 ++ [.inl (1, 3, [])]
def sh_278 : List aSh := sh_277.set 88 (.inr (12, [some (some 89), some (some 90), none, some (some 91), some (some 92), some (some 93), some (some 94), some (some 95), some (some 96), some (some 97), some (some 98), some (some 99), some (some 100), some (some 101), some (some 102), some (some 103), some (some 104), some none, none, none, none, none, none, none, none, none, none, none, some none, some none, none, none, none, none, some none, some none, some none, some none, some none, some none, some none, none, none, some none, some none, some none, none, some none, some none, some none, some none, some none, none, some none, some none, none, none, none, none, some none, some none, some none, some none, some none, some none, some none]))
def sh_279 : List aSh := sh_278 ++ [.inl (1, 700, [])]
def sh_280 : List aSh := sh_279.set 88 (.inr (12, [some (some 89), some (some 90), none, some (some 91), some (some 92), some (some 93), some (some 94), some (some 95), some (some 96), some (some 97), some (some 98), some (some 99), some (some 100), some (some 101), some (some 102), some (some 103), some (some 104), some (some 105), none, none, none, none, none, none, none, none, none, none, some none, some none, none, none, none, none, some none, some none, some none, some none, some none, some none, some none, none, none, some none, some none, some none, none, some none, some none, some none, some none, some none, none, some none, some none, none, none, none, none, some none, some none, some none, some none, some none, some none, some none]))
def sh_281 : List aSh := sh_280 ++ [.inl (1, 13, [])]
def sh_282 : List aSh := sh_281.set 88 (.inr (12, [some (some 89), some (some 90), none, some (some 91), some (some 92), some (some 93), some (some 94), some (some 95), some (some 96), some (some 97), some (some 98), some (some 99), some (some 100), some (some 101), some (some 102), some (some 103), some (some 104), some (some 105), none, none, none, none, none, none, none, none, none, none, some (some 106), some none, none, none, none, none, some none, some none, some none, some none, some none, some none, some none, none, none, some none, some none, some none, none, some none, some none, some none, some none, some none, none, some none, some none, none, none, none, none, some none, some none, some none, some none, some none, some none, some none]))
def sh_283 : List aSh := sh_282 ++ [.inl (1, 5, [])]
def sh_284 : List aSh := sh_283.set 88 (.inr (12, [some (some 89), some (some 90), none, some (some 91), some (some 92), some (some 93), some (some 94), some (some 95), some (some 96), some (some 97), some (some 98), some (some 99), some (some 100), some (some 101), some (some 102), some (some 103), some (some 104), some (some 105), none, none, none, none, none, none, none, none, none, none, some (some 106), some (some 107), none, none, none, none, some none, some none, some none, some none, some none, some none, some none, none, none, some none, some none, some none, none, some none, some none, some none, some none, some none, none, some none, some none, none, none, none, none, some none, some none, some none, some none, some none, some none, some none]))
def sh_285 : List aSh := sh_284 ++ [.inl (1, 6, [])]
def sh_286 : List aSh := sh_285.set 88 (.inr (12, [some (some 89), some (some 90), none, some (some 91), some (some 92), some (some 93), some (some 94), some (some 95), some (some 96), some (some 97), some (some 98), some (some 99), some (some 100), some (some 101), some (some 102), some (some 103), some (some 104), some (some 105), none, none, none, none, none, none, none, none, none, none, some (some 106), some (some 107), none, none, none, none, some (some 108), some none, some none, some none, some none, some none, some none, none, none, some none, some none, some none, none, some none, some none, some none, some none, some none, none, some none, some none, none, none, none, none, some none, some none, some none, some none, some none, some none, some none]))
def sh_287 : List aSh := sh_286 ++ [.inl (1, 30, [])]
def sh_288 : List aSh := sh_287.set 88 (.inr (12, [some (some 89), some (some 90), none, some (some 91), some (some 92), some (some 93), some (some 94), some (some 95), some (some 96), some (some 97), some (some 98), some (some 99), some (some 100), some (some 101), some (some 102), some (some 103), some (some 104), some (some 105), none, none, none, none, none, none, none, none, none, none, some (some 106), some (some 107), none, none, none, none, some (some 108), some (some 109), some none, some none, some none, some none, some none, none, none, some none, some none, some none, none, some none, some none, some none, some none, some none, none, some none, some none, none, none, none, none, some none, some none, some none, some none, some none, some none, some none]))
def sh_289 : List aSh := sh_288 ++ [.inl (1, 6, [])]
def sh_290 : List aSh := sh_289.set 88 (.inr (12, [some (some 89), some (some 90), none, some (some 91), some (some 92), some (some 93), some (some 94), some (some 95), some (some 96), some (some 97), some (some 98), some (some 99), some (some 100), some (some 101), some (some 102), some (some 103), some (some 104), some (some 105), none, none, none, none, none, none, none, none, none, none, some (some 106), some (some 107), none, none, none, none, some (some 108), some (some 109), some (some 110), some none, some none, some none, some none, none, none, some none, some none, some none, none, some none, some none, some none, some none, some none, none, some none, some none, none, none, none, none, some none, some none, some none, some none, some none, some none, some none]))
def sh_291 : List aSh := sh_290 ++ [.inl (1, 6, [])]
def sh_292 : List aSh := sh_291.set 88 (.inr (12, [some (some 89), some (some 90), none, some (some 91), some (some 92), some (some 93), some (some 94), some (some 95), some (some 96), some (some 97), some (some 98), some (some 99), some (some 100), some (some 101), some (some 102), some (some 103), some (some 104), some (some 105), none, none, none, none, none, none, none, none, none, none, some (some 106), some (some 107), none, none, none, none, some (some 108), some (some 109), some (some 110), some (some 111), some none, some none, some none, none, none, some none, some none, some none, none, some none, some none, some none, some none, some none, none, some none, some none, none, none, none, none, some none, some none, some none, some none, some none, some none, some none]))
def sh_293 : List aSh := sh_292 ++ [.inl (1, 5, [])]
def sh_294 : List aSh := sh_293.set 88 (.inr (12, [some (some 89), some (some 90), none, some (some 91), some (some 92), some (some 93), some (some 94), some (some 95), some (some 96), some (some 97), some (some 98), some (some 99), some (some 100), some (some 101), some (some 102), some (some 103), some (some 104), some (some 105), none, none, none, none, none, none, none, none, none, none, some (some 106), some (some 107), none, none, none, none, some (some 108), some (some 109), some (some 110), some (some 111), some (some 112), some none, some none, none, none, some none, some none, some none, none, some none, some none, some none, some none, some none, none, some none, some none, none, none, none, none, some none, some none, some none, some none, some none, some none, some none]))
def sh_295 : List aSh := sh_294 ++ [.inl (1, 12, [])]
def sh_296 : List aSh := sh_295.set 88 (.inr (12, [some (some 89), some (some 90), none, some (some 91), some (some 92), some (some 93), some (some 94), some (some 95), some (some 96), some (some 97), some (some 98), some (some 99), some (some 100), some (some 101), some (some 102), some (some 103), some (some 104), some (some 105), none, none, none, none, none, none, none, none, none, none, some (some 106), some (some 107), none, none, none, none, some (some 108), some (some 109), some (some 110), some (some 111), some (some 112), some (some 113), some none, none, none, some none, some none, some none, none, some none, some none, some none, some none, some none, none, some none, some none, none, none, none, none, some none, some none, some none, some none, some none, some none, some none]))
def sh_297 : List aSh := sh_296 ++ [.inl (1, 12, [])]
def sh_298 : List aSh := sh_297.set 88 (.inr (12, [some (some 89), some (some 90), none, some (some 91), some (some 92), some (some 93), some (some 94), some (some 95), some (some 96), some (some 97), some (some 98), some (some 99), some (some 100), some (some 101), some (some 102), some (some 103), some (some 104), some (some 105), none, none, none, none, none, none, none, none, none, none, some (some 106), some (some 107), none, none, none, none, some (some 108), some (some 109), some (some 110), some (some 111), some (some 112), some (some 113), some (some 114), none, none, some none, some none, some none, none, some none, some none, some none, some none, some none, none, some none, some none, none, none, none, none, some none, some none, some none, some none, some none, some none, some none]))
def sh_299 : List aSh := sh_298 ++ [.inl (1, 13, [])]
def sh_300 : List aSh := sh_299.set 88 (.inr (12, [some (some 89), some (some 90), none, some (some 91), some (some 92), some (some 93), some (some 94), some (some 95), some (some 96), some (some 97), some (some 98), some (some 99), some (some 100), some (some 101), some (some 102), some (some 103), some (some 104), some (some 105), none, none, none, none, none, none, none, none, none, none, some (some 106), some (some 107), none, none, none, none, some (some 108), some (some 109), some (some 110), some (some 111), some (some 112), some (some 113), some (some 114), none, none, some (some 115), some none, some none, none, some none, some none, some none, some none, some none, none, some none, some none, none, none, none, none, some none, some none, some none, some none, some none, some none, some none]))
def sh_301 : List aSh := sh_300 ++ [.inl (1, 5, [])]
def sh_302 : List aSh := sh_301.set 88 (.inr (12, [some (some 89), some (some 90), none, some (some 91), some (some 92), some (some 93), some (some 94), some (some 95), some (some 96), some (some 97), some (some 98), some (some 99), some (some 100), some (some 101), some (some 102), some (some 103), some (some 104), some (some 105), none, none, none, none, none, none, none, none, none, none, some (some 106), some (some 107), none, none, none, none, some (some 108), some (some 109), some (some 110), some (some 111), some (some 112), some (some 113), some (some 114), none, none, some (some 115), some (some 116), some none, none, some none, some none, some none, some none, some none, none, some none, some none, none, none, none, none, some none, some none, some none, some none, some none, some none, some none]))
def sh_303 : List aSh := sh_302 ++ [.inl (1, 5, [])]
def sh_304 : List aSh := sh_303.set 88 (.inr (12, [some (some 89), some (some 90), none, some (some 91), some (some 92), some (some 93), some (some 94), some (some 95), some (some 96), some (some 97), some (some 98), some (some 99), some (some 100), some (some 101), some (some 102), some (some 103), some (some 104), some (some 105), none, none, none, none, none, none, none, none, none, none, some (some 106), some (some 107), none, none, none, none, some (some 108), some (some 109), some (some 110), some (some 111), some (some 112), some (some 113), some (some 114), none, none, some (some 115), some (some 116), some (some 117), none, some none, some none, some none, some none, some none, none, some none, some none, none, none, none, none, some none, some none, some none, some none, some none, some none, some none]))
def sh_305 : List aSh := sh_304 ++ [.inl (1, 12, [])]
def sh_306 : List aSh := sh_305.set 88 (.inr (12, [some (some 89), some (some 90), none, some (some 91), some (some 92), some (some 93), some (some 94), some (some 95), some (some 96), some (some 97), some (some 98), some (some 99), some (some 100), some (some 101), some (some 102), some (some 103), some (some 104), some (some 105), none, none, none, none, none, none, none, none, none, none, some (some 106), some (some 107), none, none, none, none, some (some 108), some (some 109), some (some 110), some (some 111), some (some 112), some (some 113), some (some 114), none, none, some (some 115), some (some 116), some (some 117), none, some (some 118), some none, some none, some none, some none, none, some none, some none, none, none, none, none, some none, some none, some none, some none, some none, some none, some none]))
def sh_307 : List aSh := sh_306 ++ [.inl (1, 12, [])]
def sh_308 : List aSh := sh_307.set 88 (.inr (12, [some (some 89), some (some 90), none, some (some 91), some (some 92), some (some 93), some (some 94), some (some 95), some (some 96), some (some 97), some (some 98), some (some 99), some (some 100), some (some 101), some (some 102), some (some 103), some (some 104), some (some 105), none, none, none, none, none, none, none, none, none, none, some (some 106), some (some 107), none, none, none, none, some (some 108), some (some 109), some (some 110), some (some 111), some (some 112), some (some 113), some (some 114), none, none, some (some 115), some (some 116), some (some 117), none, some (some 118), some (some 119), some none, some none, some none, none, some none, some none, none, none, none, none, some none, some none, some none, some none, some none, some none, some none]))
def sh_309 : List aSh := sh_308 ++ [.inl (1, 12, [])]
def sh_310 : List aSh := sh_309.set 88 (.inr (12, [some (some 89), some (some 90), none, some (some 91), some (some 92), some (some 93), some (some 94), some (some 95), some (some 96), some (some 97), some (some 98), some (some 99), some (some 100), some (some 101), some (some 102), some (some 103), some (some 104), some (some 105), none, none, none, none, none, none, none, none, none, none, some (some 106), some (some 107), none, none, none, none, some (some 108), some (some 109), some (some 110), some (some 111), some (some 112), some (some 113), some (some 114), none, none, some (some 115), some (some 116), some (some 117), none, some (some 118), some (some 119), some (some 120), some none, some none, none, some none, some none, none, none, none, none, some none, some none, some none, some none, some none, some none, some none]))
def sh_311 : List aSh := sh_310 ++ [.inl (1, 12, [])]
def sh_312 : List aSh := sh_311.set 88 (.inr (12, [some (some 89), some (some 90), none, some (some 91), some (some 92), some (some 93), some (some 94), some (some 95), some (some 96), some (some 97), some (some 98), some (some 99), some (some 100), some (some 101), some (some 102), some (some 103), some (some 104), some (some 105), none, none, none, none, none, none, none, none, none, none, some (some 106), some (some 107), none, none, none, none, some (some 108), some (some 109), some (some 110), some (some 111), some (some 112), some (some 113), some (some 114), none, none, some (some 115), some (some 116), some (some 117), none, some (some 118), some (some 119), some (some 120), some (some 121), some none, none, some none, some none, none, none, none, none, some none, some none, some none, some none, some none, some none, some none]))
def sh_313 : List aSh := sh_312 ++ [.inl (1, 1925, [])]
def sh_314 : List aSh := sh_313.set 88 (.inr (12, [some (some 89), some (some 90), none, some (some 91), some (some 92), some (some 93), some (some 94), some (some 95), some (some 96), some (some 97), some (some 98), some (some 99), some (some 100), some (some 101), some (some 102), some (some 103), some (some 104), some (some 105), none, none, none, none, none, none, none, none, none, none, some (some 106), some (some 107), none, none, none, none, some (some 108), some (some 109), some (some 110), some (some 111), some (some 112), some (some 113), some (some 114), none, none, some (some 115), some (some 116), some (some 117), none, some (some 118), some (some 119), some (some 120), some (some 121), some (some 122), none, some none, some none, none, none, none, none, some none, some none, some none, some none, some none, some none, some none]))
def sh_315 : List aSh := sh_314 ++ [.inl (1, 11550, [])]
def sh_316 : List aSh := sh_315.set 88 (.inr (12, [some (some 89), some (some 90), none, some (some 91), some (some 92), some (some 93), some (some 94), some (some 95), some (some 96), some (some 97), some (some 98), some (some 99), some (some 100), some (some 101), some (some 102), some (some 103), some (some 104), some (some 105), none, none, none, none, none, none, none, none, none, none, some (some 106), some (some 107), none, none, none, none, some (some 108), some (some 109), some (some 110), some (some 111), some (some 112), some (some 113), some (some 114), none, none, some (some 115), some (some 116), some (some 117), none, some (some 118), some (some 119), some (some 120), some (some 121), some (some 122), none, some (some 123), some none, none, none, none, none, some none, some none, some none, some none, some none, some none, some none]))
def sh_317 : List aSh := sh_316 ++ [.inl (1, 5, [])]
def sh_318 : List aSh := sh_317.set 88 (.inr (12, [some (some 89), some (some 90), none, some (some 91), some (some 92), some (some 93), some (some 94), some (some 95), some (some 96), some (some 97), some (some 98), some (some 99), some (some 100), some (some 101), some (some 102), some (some 103), some (some 104), some (some 105), none, none, none, none, none, none, none, none, none, none, some (some 106), some (some 107), none, none, none, none, some (some 108), some (some 109), some (some 110), some (some 111), some (some 112), some (some 113), some (some 114), none, none, some (some 115), some (some 116), some (some 117), none, some (some 118), some (some 119), some (some 120), some (some 121), some (some 122), none, some (some 123), some (some 124), none, none, none, none, some none, some none, some none, some none, some none, some none, some none]))
def sh_319 : List aSh := sh_318 ++ [.inl (1, 13, [])]
def sh_320 : List aSh := sh_319.set 88 (.inr (12, [some (some 89), some (some 90), none, some (some 91), some (some 92), some (some 93), some (some 94), some (some 95), some (some 96), some (some 97), some (some 98), some (some 99), some (some 100), some (some 101), some (some 102), some (some 103), some (some 104), some (some 105), none, none, none, none, none, none, none, none, none, none, some (some 106), some (some 107), none, none, none, none, some (some 108), some (some 109), some (some 110), some (some 111), some (some 112), some (some 113), some (some 114), none, none, some (some 115), some (some 116), some (some 117), none, some (some 118), some (some 119), some (some 120), some (some 121), some (some 122), none, some (some 123), some (some 124), none, none, none, none, some (some 125), some none, some none, some none, some none, some none, some none]))
def sh_321 : List aSh := sh_320 ++ [.inl (1, 5, [])]
def sh_322 : List aSh := sh_321.set 88 (.inr (12, [some (some 89), some (some 90), none, some (some 91), some (some 92), some (some 93), some (some 94), some (some 95), some (some 96), some (some 97), some (some 98), some (some 99), some (some 100), some (some 101), some (some 102), some (some 103), some (some 104), some (some 105), none, none, none, none, none, none, none, none, none, none, some (some 106), some (some 107), none, none, none, none, some (some 108), some (some 109), some (some 110), some (some 111), some (some 112), some (some 113), some (some 114), none, none, some (some 115), some (some 116), some (some 117), none, some (some 118), some (some 119), some (some 120), some (some 121), some (some 122), none, some (some 123), some (some 124), none, none, none, none, some (some 125), some (some 126), some none, some none, some none, some none, some none]))
def sh_323 : List aSh := sh_322 ++ [.inl (1, 12, [])]
def sh_324 : List aSh := sh_323.set 88 (.inr (12, [some (some 89), some (some 90), none, some (some 91), some (some 92), some (some 93), some (some 94), some (some 95), some (some 96), some (some 97), some (some 98), some (some 99), some (some 100), some (some 101), some (some 102), some (some 103), some (some 104), some (some 105), none, none, none, none, none, none, none, none, none, none, some (some 106), some (some 107), none, none, none, none, some (some 108), some (some 109), some (some 110), some (some 111), some (some 112), some (some 113), some (some 114), none, none, some (some 115), some (some 116), some (some 117), none, some (some 118), some (some 119), some (some 120), some (some 121), some (some 122), none, some (some 123), some (some 124), none, none, none, none, some (some 125), some (some 126), some (some 127), some none, some none, some none, some none]))
def sh_325 : List aSh := sh_324 ++ [.inl (1, 12, [])]
def sh_326 : List aSh := sh_325.set 88 (.inr (12, [some (some 89), some (some 90), none, some (some 91), some (some 92), some (some 93), some (some 94), some (some 95), some (some 96), some (some 97), some (some 98), some (some 99), some (some 100), some (some 101), some (some 102), some (some 103), some (some 104), some (some 105), none, none, none, none, none, none, none, none, none, none, some (some 106), some (some 107), none, none, none, none, some (some 108), some (some 109), some (some 110), some (some 111), some (some 112), some (some 113), some (some 114), none, none, some (some 115), some (some 116), some (some 117), none, some (some 118), some (some 119), some (some 120), some (some 121), some (some 122), none, some (some 123), some (some 124), none, none, none, none, some (some 125), some (some 126), some (some 127), some (some 128), some none, some none, some none]))
def sh_327 : List aSh := sh_326 ++ [.inl (1, 12, [])]
def sh_328 : List aSh := sh_327.set 88 (.inr (12, [some (some 89), some (some 90), none, some (some 91), some (some 92), some (some 93), some (some 94), some (some 95), some (some 96), some (some 97), some (some 98), some (some 99), some (some 100), some (some 101), some (some 102), some (some 103), some (some 104), some (some 105), none, none, none, none, none, none, none, none, none, none, some (some 106), some (some 107), none, none, none, none, some (some 108), some (some 109), some (some 110), some (some 111), some (some 112), some (some 113), some (some 114), none, none, some (some 115), some (some 116), some (some 117), none, some (some 118), some (some 119), some (some 120), some (some 121), some (some 122), none, some (some 123), some (some 124), none, none, none, none, some (some 125), some (some 126), some (some 127), some (some 128), some (some 129), some none, some none]))
def sh_329 : List aSh := sh_328 ++ [.inl (1, 12, [])]
def sh_330 : List aSh := sh_329.set 88 (.inr (12, [some (some 89), some (some 90), none, some (some 91), some (some 92), some (some 93), some (some 94), some (some 95), some (some 96), some (some 97), some (some 98), some (some 99), some (some 100), some (some 101), some (some 102), some (some 103), some (some 104), some (some 105), none, none, none, none, none, none, none, none, none, none, some (some 106), some (some 107), none, none, none, none, some (some 108), some (some 109), some (some 110), some (some 111), some (some 112), some (some 113), some (some 114), none, none, some (some 115), some (some 116), some (some 117), none, some (some 118), some (some 119), some (some 120), some (some 121), some (some 122), none, some (some 123), some (some 124), none, none, none, none, some (some 125), some (some 126), some (some 127), some (some 128), some (some 129), some (some 130), some none]))
def sh_331 : List aSh := sh_330 ++ [.inl (1, 3, [])]
def sh_332 : List aSh := sh_331.set 88 (.inr (12, [some (some 89), some (some 90), none, some (some 91), some (some 92), some (some 93), some (some 94), some (some 95), some (some 96), some (some 97), some (some 98), some (some 99), some (some 100), some (some 101), some (some 102), some (some 103), some (some 104), some (some 105), none, none, none, none, none, none, none, none, none, none, some (some 106), some (some 107), none, none, none, none, some (some 108), some (some 109), some (some 110), some (some 111), some (some 112), some (some 113), some (some 114), none, none, some (some 115), some (some 116), some (some 117), none, some (some 118), some (some 119), some (some 120), some (some 121), some (some 122), none, some (some 123), some (some 124), none, none, none, none, some (some 125), some (some 126), some (some 127), some (some 128), some (some 129), some (some 130), some (some 131)]))
def sh_333 : List aSh := [.inr (11, [some (some 1), none, none, some (some 2), some (some 21), some (some 40), some (some 48), none, some (some 56), some (some 57), some (some 60), some (some 68), some (some 74), some (some 79)]), .inl (0, 700, []), .inr (6, [some (some 3), some (some 7), none, none, none, none, none, none, none, none, some (some 8), some (some 9), some (some 10), some (some 11), some (some 12), some (some 13), some (some 14)]), .inr (4, [none, none, some (some 4), some (some 5), some (some 6)]), .inl (1, 64, []), .inl (1, 64, []), .inl (3, 64, []), .inl (4, 6, [some 15, some 16, some 17, some 18, some 19, some 20]), .inl (1, 12, []), .inl (1, 12, []), .inl (1, 12, []), .inl (1, 5, []), .inl (1, 36, []), .inl (3, 6, []), .inl (1, 5, []), .inr (8, [none, none, none, none, none, none, none]), .inr (8, [none, none, none, none, none, none, none]), .inr (8, [none, none, none, none, none, none, none]), .inr (8, [none, none, none, none, none, none, none]), .inr (8, [none, none, none, none, none, none, none]), .inr (8, [none, none, none, none, none, none, none]), .inr (6, [some (some 22), some (some 26), none, none, none, none, none, none, none, none, some (some 27), some (some 28), some (some 29), some (some 30), some (some 31), some (some 32), some (some 33)]), .inr (4, [none, none, some (some 23), some (some 24), some (some 25)]), .inl (1, 64, []), .inl (1, 64, []), .inl (3, 64, []), .inl (4, 6, [some 34, some 35, some 36, some 37, some 38, some 39]), .inl (1, 12, []), .inl (1, 12, []), .inl (1, 12, []), .inl (1, 5, []), .inl (1, 36, []), .inl (3, 6, []), .inl (1, 5, []), .inr (8, [none, none, none, none, none, none, none]), .inr (8, [none, none, none, none, none, none, none]), .inr (8, [none, none, none, none, none, none, none]), .inr (8, [none, none, none, none, none, none, none]), .inr (8, [none, none, none, none, none, none, none]), .inr (8, [none, none, none, none, none, none, none]), .inr (9, [some (some 41), some (some 42), none, none, none, some (some 43), some (some 44), some (some 45), some (some 46), some (some 47)]), .inl (1, 12, []), .inl (1, 5, []), .inl (1, 12, []), .inl (1, 12, []), .inl (1, 12, []), .inl (1, 12, []), .inl (1, 3, []), .inr (9, [some (some 49), some (some 50), none, none, none, some (some 51), some (some 52), some (some 53), some (some 54), some (some 55)]), .inl (1, 12, []), .inl (1, 5, []), .inl (1, 12, []), .inl (1, 12, []), .inl (1, 12, []), .inl (1, 12, []), .inl (1, 3, []), .inr (7, [some (some 1), some (some 21), none, none, none, none, none, none, none]), .inr (0, [some (some 2), some (some 40), some (some 58), some (some 59)]), .inl (1, 6, []), .inl (1, 30, []), .inr (1, [some (some 2), some (some 40), some (some 57), none, some (some 61), some (some 62), some (some 63), some (some 64), some (some 65), some (some 66), some (some 67)]), .inl (1, 12, []), .inl (1, 12, []), .inl (1, 12, []), .inl (1, 300, []), .inl (1, 300, []), .inl (1, 5, []), .inl (1, 5, []), .inr (3, [some (some 2), some (some 60), none, some (some 69), some (some 70), some (some 71), some (some 72), some (some 73), none, none]), .inl (1, 6, []), .inl (1, 6, []), .inl (1, 6, []), .inl (1, 6, []), .inl (1, 21, []), .inr (2, [some (some 2), some (some 40), some (some 57), some (some 75), some (some 76), some (some 77), some (some 78)]), .inl (1, 5, []), .inl (1, 5, []), .inl (1, 5, []), .inl (1, 625, []), .inr (10, [some (some 2), some (some 40), some (some 57), some (some 80), none, none, some (some 81), some (some 82)]), .inl (1, 1925, []), .inl (1, 72, []), .inr (5, [some (some 83), some (some 84), some (some 85), some (some 86), some (some 87), none, none]), .inl (1, 1024, []), .inl (2, 1925, []), .inl (2, 1925, []), .inl (1, 1925, []), .inl (1, 1925, []), .inr (12, [some (some 89), some (some 90), none, some (some 91), some (some 92), some (some 93), some (some 94), some (some 95), some (some 96), some (some 97), some (some 98), some (some 99), some (some 100), some (some 101), some (some 102), some (some 103), some (some 104), some (some 105), none, none, none, none, none, none, none, none, none, none, some (some 106), some (some 107), none, none, none, none, some (some 108), some (some 109), some (some 110), some (some 111), some (some 112), some (some 113), some (some 114), none, none, some (some 115), some (some 116), some (some 117), none, some (some 118), some (some 119), some (some 120), some (some 121), some (some 122), none, some (some 123), some (some 124), none, none, none, none, some (some 125), some (some 126), some (some 127), some (some 128), some (some 129), some (some 130), some (some 131)]), .inl (5, 4, [some 10000, some 10001, some 10002, some 10003]), .inl (1, 4, []), .inl (1, 32, []), .inl (1, 12, []), .inl (1, 12, []), .inl (1, 12, []), .inl (1, 12, []), .inl (1, 12, []), .inl (1, 12, []), .inl (1, 12, []), .inl (1, 26, []), .inl (1, 26, []), .inl (1, 26, []), .inl (1, 10, []), .inl (1, 72, []), .inl (1, 3, []), .inl (1, 700, []), .inl (1, 13, []), .inl (1, 5, []), .inl (1, 6, []), .inl (1, 30, []), .inl (1, 6, []), .inl (1, 6, []), .inl (1, 5, []), .inl (1, 12, []), .inl (1, 12, []), .inl (1, 13, []), .inl (1, 5, []), .inl (1, 5, []), .inl (1, 12, []), .inl (1, 12, []), .inl (1, 12, []), .inl (1, 12, []), .inl (1, 1925, []), .inl (1, 11550, []), .inl (1, 5, []), .inl (1, 13, []), .inl (1, 5, []), .inl (1, 12, []), .inl (1, 12, []), .inl (1, 12, []), .inl (1, 12, []), .inl (1, 3, [])]
def f_new_X12_88 (D : aD) : Option aD :=
  aLet (z0 D 89) (fun D_1 => aLet (z0 D_1 90) (fun D_2 => aLet (pI D_2 90 (0 : Int32).toNatClampNeg 20) (fun D_3 => aLet (pI D_3 90 (1 : Int32).toNatClampNeg 9) (fun D_4 => aLet (pI D_4 90 (2 : Int32).toNatClampNeg 14) (fun D_5 => aLet (pI D_5 90 (3 : Int32).toNatClampNeg 99) (fun D_6 => aLet (z0 D_6 91) (fun D_7 => aLet (pI D_7 91 (0 : Int32).toNatClampNeg 6) (fun D_8 => aLet (pI D_8 91 (1 : Int32).toNatClampNeg 6) (fun D_9 => aLet (pI D_9 91 (2 : Int32).toNatClampNeg 0) (fun D_10 => aLet (pI D_10 91 (3 : Int32).toNatClampNeg 0) (fun D_11 => aLet (pI D_11 91 (4 : Int32).toNatClampNeg 0) (fun D_12 => aLet (pI D_12 91 (5 : Int32).toNatClampNeg 0) (fun D_13 => aLet (pI D_13 91 (6 : Int32).toNatClampNeg 5) (fun D_14 => aLet (pI D_14 91 (7 : Int32).toNatClampNeg 2) (fun D_15 => aLet (pI D_15 91 (8 : Int32).toNatClampNeg 2) (fun D_16 => aLet (pI D_16 91 (9 : Int32).toNatClampNeg 0) (fun D_17 => aLet (pI D_17 91 (10 : Int32).toNatClampNeg 1) (fun D_18 => aLet (pI D_18 91 (11 : Int32).toNatClampNeg 1) (fun D_19 => aLet (pI D_19 91 (12 : Int32).toNatClampNeg 1) (fun D_20 => aLet (pI D_20 91 (13 : Int32).toNatClampNeg 1) (fun D_21 => aLet (pI D_21 91 (14 : Int32).toNatClampNeg 1) (fun D_22 => aLet (pI D_22 91 (15 : Int32).toNatClampNeg 0) (fun D_23 => aLet (pI D_23 91 (16 : Int32).toNatClampNeg 6) (fun D_24 => aLet (pI D_24 91 (17 : Int32).toNatClampNeg 6) (fun D_25 => aLet (pI D_25 91 (18 : Int32).toNatClampNeg 0) (fun D_26 => aLet (pI D_26 91 (19 : Int32).toNatClampNeg 0) (fun D_27 => aLet (pI D_27 91 (20 : Int32).toNatClampNeg 0) (fun D_28 => aLet (pI D_28 91 (21 : Int32).toNatClampNeg 0) (fun D_29 => aLet (pI D_29 91 (22 : Int32).toNatClampNeg 5) (fun D_30 => aLet (pI D_30 91 (23 : Int32).toNatClampNeg 2) (fun D_31 => aLet (pI D_31 91 (24 : Int32).toNatClampNeg 2) (fun D_32 => aLet (pI D_32 91 (25 : Int32).toNatClampNeg 0) (fun D_33 => aLet (pI D_33 91 (26 : Int32).toNatClampNeg 1) (fun D_34 => aLet (pI D_34 91 (27 : Int32).toNatClampNeg 1) (fun D_35 => aLet (pI D_35 91 (28 : Int32).toNatClampNeg 1) (fun D_36 => aLet (pI D_36 91 (29 : Int32).toNatClampNeg 1) (fun D_37 => aLet (pI D_37 91 (30 : Int32).toNatClampNeg 1) (fun D_38 => aLet (pI D_38 91 (31 : Int32).toNatClampNeg 0) (fun D_39 => aLet (z0 D_39 92) (fun D_40 => aLet (z0 D_40 93) (fun D_41 => aLet (z0 D_41 94) (fun D_42 => aLet (z0 D_42 95) (fun D_43 => aLet (z0 D_43 96) (fun D_44 => aLet (z0 D_44 97) (fun D_45 => aLet (z0 D_45 98) (fun D_46 => aLet (z0 D_46 99) (fun D_47 => aLet (z0 D_47 100) (fun D_48 => aLet (z0 D_48 101) (fun D_49 => aLet (z0 D_49 102) (fun D_50 => aLet (z0 D_50 103) (fun D_51 => aLet (z0 D_51 104) (fun D_52 => aLet (z0 D_52 105) (fun D_53 => aLet (pI D_53 88 27 (-1)) (fun D_54 => aLet (z0 D_54 106) (fun D_55 => aLet (z0 D_55 107) (fun D_56 => aLet (pI D_56 107 (0 : Int32).toNatClampNeg 0) (fun D_57 => aLet (pI D_57 107 (1 : Int32).toNatClampNeg 1) (fun D_58 => aLet (pI D_58 107 (2 : Int32).toNatClampNeg 2) (fun D_59 => aLet (pI D_59 107 (3 : Int32).toNatClampNeg 3) (fun D_60 => aLet (pI D_60 107 (4 : Int32).toNatClampNeg 4) (fun D_61 => aLet (pI D_61 88 31 12) (fun D_62 => aLet (z0 D_62 108) (fun D_63 => aLet (z0 D_63 109) (fun D_64 => aLet (z0 D_64 110) (fun D_65 => aLet (z0 D_65 111) (fun D_66 => aLet (z0 D_66 112) (fun D_67 => aLet (z0 D_67 113) (fun D_68 => aLet (z0 D_68 114) (fun D_69 => aLet (z0 D_69 115) (fun D_70 => aLet (z0 D_70 116) (fun D_71 => aLet (z0 D_71 117) (fun D_72 => aLet (z0 D_72 118) (fun D_73 => aLet (z0 D_73 119) (fun D_74 => aLet (z0 D_74 120) (fun D_75 => aLet (z0 D_75 121) (fun D_76 => aLet (z0 D_76 122) (fun D_77 => aLet (z0 D_77 123) (fun D_78 => aLet (z0 D_78 124) (fun D_79 => aLet (z0 D_79 125) (fun D_80 => aLet (z0 D_80 126) (fun D_81 => aLet (z0 D_81 127) (fun D_82 => aLet (z0 D_82 128) (fun D_83 => aLet (z0 D_83 129) (fun D_84 => aLet (z0 D_84 130) (fun D_85 => aLet (z0 D_85 131) (fun D_86 => some D_86))))))))))))))))))))))))))))))))))))))))))))))))))))))))))))))))))))))))))))))))))))))
set_option maxRecDepth 100000 in
set_option maxHeartbeats 4000000 in
theorem c_new_X12_88 {G : aG} (hG : gOK G) (hN : gNest G) {D : aD} {K : aD → Prop} (h : Ok (f_new_X12_88 D) K) : AC G (aRm 2 43 14702) M_X12_init [.ref 88] (some 89) sh_242 D (aQv sh_333 K) := by
  unfold f_new_X12_88 at h
  refine AC.of (al := [some (.ref 88)]) (r := 0) (by decide) (Nat.le_of_ble_eq_true rfl) rfl ?_
  refine aw_aload_n (n := 1) (i := 0) dX12_init_0 rfl rfl rfl ?_
  refine aw_objInit (M := M_X12_init) (n := 4) ko_RX12_1.1 ko_RX12_1.2.1 ko_RX12_1.2.2 (by decide) (by decide) dX12_init_1 rfl ?_
  refine aw_aload_n (n := 5) (i := 0) dX12_init_4 rfl rfl rfl ?_
  refine aw_iconst (n := 6) (v := 4) dX12_init_5 rfl (by decide) ?_
  obtain ⟨D_1, e_D_1, h⟩ := Ok.let_ h
  refine aw_anew (M := M_X12_init) (n := 9) (t := 5) (N := 4) (C := "java/lang/String") (L := 89) (n0 := 89) (shp' := sh_243) (D' := D_1) hG.1 rfl rfl rfl (by decide) ka_RX12_7 hN.2.2.2 (by decide) rfl (by decide) rfl (by decide) (by decide) (by decide) dX12_init_6 rfl rfl (kc' := 1) (ks' := 4) rfl rfl e_D_1 ?_
  refine aw_dup (n := 10) dX12_init_9 rfl rfl ?_
  refine aw_iconst (n := 11) (v := 0) dX12_init_10 rfl (by decide) ?_
  refine aw_ldcS (M := M_X12_init) (n := 13) (sk := 10000 + 0) (gS_RX12_9 hG) dX12_init_11 rfl ?_
  refine aw_aastoreS (M := M_X12_init) (n := 14) (k := 89) (w := 0) (shp' := sh_244) hG (by decide) (rfl : sh_243[89]? = _) (aIn_in rfl) (by decide) rfl dX12_init_13 rfl ?_
  refine aw_dup (n := 15) dX12_init_14 rfl rfl ?_
  refine aw_iconst (n := 16) (v := 1) dX12_init_15 rfl (by decide) ?_
  refine aw_ldcS (M := M_X12_init) (n := 18) (sk := 10000 + 1) (gS_RX12_11 hG) dX12_init_16 rfl ?_
  refine aw_aastoreS (M := M_X12_init) (n := 19) (k := 89) (w := 1) (shp' := sh_245) hG (by decide) (rfl : sh_244[89]? = _) (aIn_in rfl) (by decide) rfl dX12_init_18 rfl ?_
  refine aw_dup (n := 20) dX12_init_19 rfl rfl ?_
  refine aw_iconst (n := 21) (v := 2) dX12_init_20 rfl (by decide) ?_
  refine aw_ldcS (M := M_X12_init) (n := 23) (sk := 10000 + 2) (gS_RX12_13 hG) dX12_init_21 rfl ?_
  refine aw_aastoreS (M := M_X12_init) (n := 24) (k := 89) (w := 2) (shp' := sh_246) hG (by decide) (rfl : sh_245[89]? = _) (aIn_in rfl) (by decide) rfl dX12_init_23 rfl ?_
  refine aw_dup (n := 25) dX12_init_24 rfl rfl ?_
  refine aw_iconst (n := 26) (v := 3) dX12_init_25 rfl (by decide) ?_
  refine aw_ldcS (M := M_X12_init) (n := 28) (sk := 10000 + 3) (gS_RX12_15 hG) dX12_init_26 rfl ?_
  refine aw_aastoreS (M := M_X12_init) (n := 29) (k := 89) (w := 3) (shp' := sh_247) hG (by decide) (rfl : sh_246[89]? = _) (aIn_in rfl) (by decide) rfl dX12_init_28 rfl ?_
  refine aw_putR (M := M_X12_init) (n := 32) (j := 0) (k := 88) (r := 89) (shp' := sh_248) hG.1 fl_RX12_17 ⟨rfl, fun _ => ⟨rfl, rfl⟩⟩ ⟨_, _, rfl⟩ rfl (fs := [some none, some none, none, some none, some none, some none, some none, some none, some none, some none, some none, some none, some none, some none, some none, some none, some none, some none, none, none, none, none, none, none, none, none, none, none, some none, some none, none, none, none, none, some none, some none, some none, some none, some none, some none, some none, none, none, some none, some none, some none, none, some none, some none, some none, some none, some none, none, some none, some none, none, none, none, none, some none, some none, some none, some none, some none, some none, some none]) (rfl : sh_247[88]? = _) (by decide) rfl dX12_init_29 rfl ?_
  refine aw_aload_n (n := 33) (i := 0) dX12_init_32 rfl rfl rfl ?_
  refine aw_iconst (n := 34) (v := 4) dX12_init_33 rfl (by decide) ?_
  obtain ⟨D_2, e_D_2, h⟩ := Ok.let_ h
  refine aw_newa (M := M_X12_init) (n := 36) (t := 1) (N := 4) (ty := .int) (L := 90) (n0 := 89) (shp' := sh_249) (D' := D_2) hG.1 rfl rfl rfl (by decide) aw_int rfl rfl (fun _ _ h => h) (at_z1) (by decide) rfl (by decide) (by decide) (by decide) dX12_init_34 rfl rfl (kc' := 2) (ks' := 8) rfl rfl e_D_2 ?_
  refine aw_dup (n := 37) dX12_init_36 rfl rfl ?_
  refine aw_iconst (n := 38) (v := 0) dX12_init_37 rfl (by decide) ?_
  refine aw_bipush (n := 40) (v := 20) dX12_init_38 rfl (by decide) ?_
  obtain ⟨D_3, e_D_3, h⟩ := Ok.let_ h
  refine aw_iastore (n := 41) (k := 90) hG.1 (rfl : sh_249[90]? = _) (aIn_in rfl) e_D_3 dX12_init_40 rfl ?_
  refine aw_dup (n := 42) dX12_init_41 rfl rfl ?_
  refine aw_iconst (n := 43) (v := 1) dX12_init_42 rfl (by decide) ?_
  refine aw_bipush (n := 45) (v := 9) dX12_init_43 rfl (by decide) ?_
  obtain ⟨D_4, e_D_4, h⟩ := Ok.let_ h
  refine aw_iastore (n := 46) (k := 90) hG.1 (rfl : sh_249[90]? = _) (aIn_in rfl) e_D_4 dX12_init_45 rfl ?_
  refine aw_dup (n := 47) dX12_init_46 rfl rfl ?_
  refine aw_iconst (n := 48) (v := 2) dX12_init_47 rfl (by decide) ?_
  refine aw_bipush (n := 50) (v := 14) dX12_init_48 rfl (by decide) ?_
  obtain ⟨D_5, e_D_5, h⟩ := Ok.let_ h
  refine aw_iastore (n := 51) (k := 90) hG.1 (rfl : sh_249[90]? = _) (aIn_in rfl) e_D_5 dX12_init_50 rfl ?_
  refine aw_dup (n := 52) dX12_init_51 rfl rfl ?_
  refine aw_iconst (n := 53) (v := 3) dX12_init_52 rfl (by decide) ?_
  refine aw_bipush (n := 55) (v := 99) dX12_init_53 rfl (by decide) ?_
  obtain ⟨D_6, e_D_6, h⟩ := Ok.let_ h
  refine aw_iastore (n := 56) (k := 90) hG.1 (rfl : sh_249[90]? = _) (aIn_in rfl) e_D_6 dX12_init_55 rfl ?_
  refine aw_putR (M := M_X12_init) (n := 59) (j := 1) (k := 88) (r := 90) (shp' := sh_250) hG.1 fl_RX12_23 ⟨rfl, fun _ => ⟨rfl, rfl⟩⟩ ⟨_, _, rfl⟩ rfl (fs := [some (some 89), some none, none, some none, some none, some none, some none, some none, some none, some none, some none, some none, some none, some none, some none, some none, some none, some none, none, none, none, none, none, none, none, none, none, none, some none, some none, none, none, none, none, some none, some none, some none, some none, some none, some none, some none, none, none, some none, some none, some none, none, some none, some none, some none, some none, some none, none, some none, some none, none, none, none, none, some none, some none, some none, some none, some none, some none, some none]) (rfl : sh_249[88]? = _) (by decide) rfl dX12_init_56 rfl ?_
  refine aw_aload_n (n := 60) (i := 0) dX12_init_59 rfl rfl rfl ?_
  refine aw_bipush (n := 62) (v := 32) dX12_init_60 rfl (by decide) ?_
  obtain ⟨D_7, e_D_7, h⟩ := Ok.let_ h
  refine aw_newa (M := M_X12_init) (n := 64) (t := 1) (N := 32) (ty := .int) (L := 91) (n0 := 89) (shp' := sh_251) (D' := D_7) hG.1 rfl rfl rfl (by decide) aw_int rfl rfl (fun _ _ h => h) (at_z1) (by decide) rfl (by decide) (by decide) (by decide) dX12_init_62 rfl rfl (kc' := 3) (ks' := 40) rfl rfl e_D_7 ?_
  refine aw_dup (n := 65) dX12_init_64 rfl rfl ?_
  refine aw_iconst (n := 66) (v := 0) dX12_init_65 rfl (by decide) ?_
  refine aw_bipush (n := 68) (v := 6) dX12_init_66 rfl (by decide) ?_
  obtain ⟨D_8, e_D_8, h⟩ := Ok.let_ h
  refine aw_iastore (n := 69) (k := 91) hG.1 (rfl : sh_251[91]? = _) (aIn_in rfl) e_D_8 dX12_init_68 rfl ?_
  refine aw_dup (n := 70) dX12_init_69 rfl rfl ?_
  refine aw_iconst (n := 71) (v := 1) dX12_init_70 rfl (by decide) ?_
  refine aw_bipush (n := 73) (v := 6) dX12_init_71 rfl (by decide) ?_
  obtain ⟨D_9, e_D_9, h⟩ := Ok.let_ h
  refine aw_iastore (n := 74) (k := 91) hG.1 (rfl : sh_251[91]? = _) (aIn_in rfl) e_D_9 dX12_init_73 rfl ?_
  refine aw_dup (n := 75) dX12_init_74 rfl rfl ?_
  refine aw_iconst (n := 76) (v := 2) dX12_init_75 rfl (by decide) ?_
  refine aw_iconst (n := 77) (v := 0) dX12_init_76 rfl (by decide) ?_
  obtain ⟨D_10, e_D_10, h⟩ := Ok.let_ h
  refine aw_iastore (n := 78) (k := 91) hG.1 (rfl : sh_251[91]? = _) (aIn_in rfl) e_D_10 dX12_init_77 rfl ?_
  refine aw_dup (n := 79) dX12_init_78 rfl rfl ?_
  refine aw_iconst (n := 80) (v := 3) dX12_init_79 rfl (by decide) ?_
  refine aw_iconst (n := 81) (v := 0) dX12_init_80 rfl (by decide) ?_
  obtain ⟨D_11, e_D_11, h⟩ := Ok.let_ h
  refine aw_iastore (n := 82) (k := 91) hG.1 (rfl : sh_251[91]? = _) (aIn_in rfl) e_D_11 dX12_init_81 rfl ?_
  refine aw_dup (n := 83) dX12_init_82 rfl rfl ?_
  refine aw_iconst (n := 84) (v := 4) dX12_init_83 rfl (by decide) ?_
  refine aw_iconst (n := 85) (v := 0) dX12_init_84 rfl (by decide) ?_
  obtain ⟨D_12, e_D_12, h⟩ := Ok.let_ h
  refine aw_iastore (n := 86) (k := 91) hG.1 (rfl : sh_251[91]? = _) (aIn_in rfl) e_D_12 dX12_init_85 rfl ?_
  refine aw_dup (n := 87) dX12_init_86 rfl rfl ?_
  refine aw_iconst (n := 88) (v := 5) dX12_init_87 rfl (by decide) ?_
  refine aw_iconst (n := 89) (v := 0) dX12_init_88 rfl (by decide) ?_
  obtain ⟨D_13, e_D_13, h⟩ := Ok.let_ h
  refine aw_iastore (n := 90) (k := 91) hG.1 (rfl : sh_251[91]? = _) (aIn_in rfl) e_D_13 dX12_init_89 rfl ?_
  refine aw_dup (n := 91) dX12_init_90 rfl rfl ?_
  refine aw_bipush (n := 93) (v := 6) dX12_init_91 rfl (by decide) ?_
  refine aw_iconst (n := 94) (v := 5) dX12_init_93 rfl (by decide) ?_
  obtain ⟨D_14, e_D_14, h⟩ := Ok.let_ h
  refine aw_iastore (n := 95) (k := 91) hG.1 (rfl : sh_251[91]? = _) (aIn_in rfl) e_D_14 dX12_init_94 rfl ?_
  refine aw_dup (n := 96) dX12_init_95 rfl rfl ?_
  refine aw_bipush (n := 98) (v := 7) dX12_init_96 rfl (by decide) ?_
  refine aw_iconst (n := 99) (v := 2) dX12_init_98 rfl (by decide) ?_
  obtain ⟨D_15, e_D_15, h⟩ := Ok.let_ h
  refine aw_iastore (n := 100) (k := 91) hG.1 (rfl : sh_251[91]? = _) (aIn_in rfl) e_D_15 dX12_init_99 rfl ?_
  refine aw_dup (n := 101) dX12_init_100 rfl rfl ?_
  refine aw_bipush (n := 103) (v := 8) dX12_init_101 rfl (by decide) ?_
  refine aw_iconst (n := 104) (v := 2) dX12_init_103 rfl (by decide) ?_
  obtain ⟨D_16, e_D_16, h⟩ := Ok.let_ h
  refine aw_iastore (n := 105) (k := 91) hG.1 (rfl : sh_251[91]? = _) (aIn_in rfl) e_D_16 dX12_init_104 rfl ?_
  refine aw_dup (n := 106) dX12_init_105 rfl rfl ?_
  refine aw_bipush (n := 108) (v := 9) dX12_init_106 rfl (by decide) ?_
  refine aw_iconst (n := 109) (v := 0) dX12_init_108 rfl (by decide) ?_
  obtain ⟨D_17, e_D_17, h⟩ := Ok.let_ h
  refine aw_iastore (n := 110) (k := 91) hG.1 (rfl : sh_251[91]? = _) (aIn_in rfl) e_D_17 dX12_init_109 rfl ?_
  refine aw_dup (n := 111) dX12_init_110 rfl rfl ?_
  refine aw_bipush (n := 113) (v := 10) dX12_init_111 rfl (by decide) ?_
  refine aw_iconst (n := 114) (v := 1) dX12_init_113 rfl (by decide) ?_
  obtain ⟨D_18, e_D_18, h⟩ := Ok.let_ h
  refine aw_iastore (n := 115) (k := 91) hG.1 (rfl : sh_251[91]? = _) (aIn_in rfl) e_D_18 dX12_init_114 rfl ?_
  refine aw_dup (n := 116) dX12_init_115 rfl rfl ?_
  refine aw_bipush (n := 118) (v := 11) dX12_init_116 rfl (by decide) ?_
  refine aw_iconst (n := 119) (v := 1) dX12_init_118 rfl (by decide) ?_
  obtain ⟨D_19, e_D_19, h⟩ := Ok.let_ h
  refine aw_iastore (n := 120) (k := 91) hG.1 (rfl : sh_251[91]? = _) (aIn_in rfl) e_D_19 dX12_init_119 rfl ?_
  refine aw_dup (n := 121) dX12_init_120 rfl rfl ?_
  refine aw_bipush (n := 123) (v := 12) dX12_init_121 rfl (by decide) ?_
  refine aw_iconst (n := 124) (v := 1) dX12_init_123 rfl (by decide) ?_
  obtain ⟨D_20, e_D_20, h⟩ := Ok.let_ h
  refine aw_iastore (n := 125) (k := 91) hG.1 (rfl : sh_251[91]? = _) (aIn_in rfl) e_D_20 dX12_init_124 rfl ?_
  refine aw_dup (n := 126) dX12_init_125 rfl rfl ?_
  refine aw_bipush (n := 128) (v := 13) dX12_init_126 rfl (by decide) ?_
  refine aw_iconst (n := 129) (v := 1) dX12_init_128 rfl (by decide) ?_
  obtain ⟨D_21, e_D_21, h⟩ := Ok.let_ h
  refine aw_iastore (n := 130) (k := 91) hG.1 (rfl : sh_251[91]? = _) (aIn_in rfl) e_D_21 dX12_init_129 rfl ?_
  refine aw_dup (n := 131) dX12_init_130 rfl rfl ?_
  refine aw_bipush (n := 133) (v := 14) dX12_init_131 rfl (by decide) ?_
  refine aw_iconst (n := 134) (v := 1) dX12_init_133 rfl (by decide) ?_
  obtain ⟨D_22, e_D_22, h⟩ := Ok.let_ h
  refine aw_iastore (n := 135) (k := 91) hG.1 (rfl : sh_251[91]? = _) (aIn_in rfl) e_D_22 dX12_init_134 rfl ?_
  refine aw_dup (n := 136) dX12_init_135 rfl rfl ?_
  refine aw_bipush (n := 138) (v := 15) dX12_init_136 rfl (by decide) ?_
  refine aw_iconst (n := 139) (v := 0) dX12_init_138 rfl (by decide) ?_
  obtain ⟨D_23, e_D_23, h⟩ := Ok.let_ h
  refine aw_iastore (n := 140) (k := 91) hG.1 (rfl : sh_251[91]? = _) (aIn_in rfl) e_D_23 dX12_init_139 rfl ?_
  refine aw_dup (n := 141) dX12_init_140 rfl rfl ?_
  refine aw_bipush (n := 143) (v := 16) dX12_init_141 rfl (by decide) ?_
  refine aw_bipush (n := 145) (v := 6) dX12_init_143 rfl (by decide) ?_
  obtain ⟨D_24, e_D_24, h⟩ := Ok.let_ h
  refine aw_iastore (n := 146) (k := 91) hG.1 (rfl : sh_251[91]? = _) (aIn_in rfl) e_D_24 dX12_init_145 rfl ?_
  refine aw_dup (n := 147) dX12_init_146 rfl rfl ?_
  refine aw_bipush (n := 149) (v := 17) dX12_init_147 rfl (by decide) ?_
  refine aw_bipush (n := 151) (v := 6) dX12_init_149 rfl (by decide) ?_
  obtain ⟨D_25, e_D_25, h⟩ := Ok.let_ h
  refine aw_iastore (n := 152) (k := 91) hG.1 (rfl : sh_251[91]? = _) (aIn_in rfl) e_D_25 dX12_init_151 rfl ?_
  refine aw_dup (n := 153) dX12_init_152 rfl rfl ?_
  refine aw_bipush (n := 155) (v := 18) dX12_init_153 rfl (by decide) ?_
  refine aw_iconst (n := 156) (v := 0) dX12_init_155 rfl (by decide) ?_
  obtain ⟨D_26, e_D_26, h⟩ := Ok.let_ h
  refine aw_iastore (n := 157) (k := 91) hG.1 (rfl : sh_251[91]? = _) (aIn_in rfl) e_D_26 dX12_init_156 rfl ?_
  refine aw_dup (n := 158) dX12_init_157 rfl rfl ?_
  refine aw_bipush (n := 160) (v := 19) dX12_init_158 rfl (by decide) ?_
  refine aw_iconst (n := 161) (v := 0) dX12_init_160 rfl (by decide) ?_
  obtain ⟨D_27, e_D_27, h⟩ := Ok.let_ h
  refine aw_iastore (n := 162) (k := 91) hG.1 (rfl : sh_251[91]? = _) (aIn_in rfl) e_D_27 dX12_init_161 rfl ?_
  refine aw_dup (n := 163) dX12_init_162 rfl rfl ?_
  refine aw_bipush (n := 165) (v := 20) dX12_init_163 rfl (by decide) ?_
  refine aw_iconst (n := 166) (v := 0) dX12_init_165 rfl (by decide) ?_
  obtain ⟨D_28, e_D_28, h⟩ := Ok.let_ h
  refine aw_iastore (n := 167) (k := 91) hG.1 (rfl : sh_251[91]? = _) (aIn_in rfl) e_D_28 dX12_init_166 rfl ?_
  refine aw_dup (n := 168) dX12_init_167 rfl rfl ?_
  refine aw_bipush (n := 170) (v := 21) dX12_init_168 rfl (by decide) ?_
  refine aw_iconst (n := 171) (v := 0) dX12_init_170 rfl (by decide) ?_
  obtain ⟨D_29, e_D_29, h⟩ := Ok.let_ h
  refine aw_iastore (n := 172) (k := 91) hG.1 (rfl : sh_251[91]? = _) (aIn_in rfl) e_D_29 dX12_init_171 rfl ?_
  refine aw_dup (n := 173) dX12_init_172 rfl rfl ?_
  refine aw_bipush (n := 175) (v := 22) dX12_init_173 rfl (by decide) ?_
  refine aw_iconst (n := 176) (v := 5) dX12_init_175 rfl (by decide) ?_
  obtain ⟨D_30, e_D_30, h⟩ := Ok.let_ h
  refine aw_iastore (n := 177) (k := 91) hG.1 (rfl : sh_251[91]? = _) (aIn_in rfl) e_D_30 dX12_init_176 rfl ?_
  refine aw_dup (n := 178) dX12_init_177 rfl rfl ?_
  refine aw_bipush (n := 180) (v := 23) dX12_init_178 rfl (by decide) ?_
  refine aw_iconst (n := 181) (v := 2) dX12_init_180 rfl (by decide) ?_
  obtain ⟨D_31, e_D_31, h⟩ := Ok.let_ h
  refine aw_iastore (n := 182) (k := 91) hG.1 (rfl : sh_251[91]? = _) (aIn_in rfl) e_D_31 dX12_init_181 rfl ?_
  refine aw_dup (n := 183) dX12_init_182 rfl rfl ?_
  refine aw_bipush (n := 185) (v := 24) dX12_init_183 rfl (by decide) ?_
  refine aw_iconst (n := 186) (v := 2) dX12_init_185 rfl (by decide) ?_
  obtain ⟨D_32, e_D_32, h⟩ := Ok.let_ h
  refine aw_iastore (n := 187) (k := 91) hG.1 (rfl : sh_251[91]? = _) (aIn_in rfl) e_D_32 dX12_init_186 rfl ?_
  refine aw_dup (n := 188) dX12_init_187 rfl rfl ?_
  refine aw_bipush (n := 190) (v := 25) dX12_init_188 rfl (by decide) ?_
  refine aw_iconst (n := 191) (v := 0) dX12_init_190 rfl (by decide) ?_
  obtain ⟨D_33, e_D_33, h⟩ := Ok.let_ h
  refine aw_iastore (n := 192) (k := 91) hG.1 (rfl : sh_251[91]? = _) (aIn_in rfl) e_D_33 dX12_init_191 rfl ?_
  refine aw_dup (n := 193) dX12_init_192 rfl rfl ?_
  refine aw_bipush (n := 195) (v := 26) dX12_init_193 rfl (by decide) ?_
  refine aw_iconst (n := 196) (v := 1) dX12_init_195 rfl (by decide) ?_
  obtain ⟨D_34, e_D_34, h⟩ := Ok.let_ h
  refine aw_iastore (n := 197) (k := 91) hG.1 (rfl : sh_251[91]? = _) (aIn_in rfl) e_D_34 dX12_init_196 rfl ?_
  refine aw_dup (n := 198) dX12_init_197 rfl rfl ?_
  refine aw_bipush (n := 200) (v := 27) dX12_init_198 rfl (by decide) ?_
  refine aw_iconst (n := 201) (v := 1) dX12_init_200 rfl (by decide) ?_
  obtain ⟨D_35, e_D_35, h⟩ := Ok.let_ h
  refine aw_iastore (n := 202) (k := 91) hG.1 (rfl : sh_251[91]? = _) (aIn_in rfl) e_D_35 dX12_init_201 rfl ?_
  refine aw_dup (n := 203) dX12_init_202 rfl rfl ?_
  refine aw_bipush (n := 205) (v := 28) dX12_init_203 rfl (by decide) ?_
  refine aw_iconst (n := 206) (v := 1) dX12_init_205 rfl (by decide) ?_
  obtain ⟨D_36, e_D_36, h⟩ := Ok.let_ h
  refine aw_iastore (n := 207) (k := 91) hG.1 (rfl : sh_251[91]? = _) (aIn_in rfl) e_D_36 dX12_init_206 rfl ?_
  refine aw_dup (n := 208) dX12_init_207 rfl rfl ?_
  refine aw_bipush (n := 210) (v := 29) dX12_init_208 rfl (by decide) ?_
  refine aw_iconst (n := 211) (v := 1) dX12_init_210 rfl (by decide) ?_
  obtain ⟨D_37, e_D_37, h⟩ := Ok.let_ h
  refine aw_iastore (n := 212) (k := 91) hG.1 (rfl : sh_251[91]? = _) (aIn_in rfl) e_D_37 dX12_init_211 rfl ?_
  refine aw_dup (n := 213) dX12_init_212 rfl rfl ?_
  refine aw_bipush (n := 215) (v := 30) dX12_init_213 rfl (by decide) ?_
  refine aw_iconst (n := 216) (v := 1) dX12_init_215 rfl (by decide) ?_
  obtain ⟨D_38, e_D_38, h⟩ := Ok.let_ h
  refine aw_iastore (n := 217) (k := 91) hG.1 (rfl : sh_251[91]? = _) (aIn_in rfl) e_D_38 dX12_init_216 rfl ?_
  refine aw_dup (n := 218) dX12_init_217 rfl rfl ?_
  refine aw_bipush (n := 220) (v := 31) dX12_init_218 rfl (by decide) ?_
  refine aw_iconst (n := 221) (v := 0) dX12_init_220 rfl (by decide) ?_
  obtain ⟨D_39, e_D_39, h⟩ := Ok.let_ h
  refine aw_iastore (n := 222) (k := 91) hG.1 (rfl : sh_251[91]? = _) (aIn_in rfl) e_D_39 dX12_init_221 rfl ?_
  refine aw_putR (M := M_X12_init) (n := 225) (j := 3) (k := 88) (r := 91) (shp' := sh_252) hG.1 fl_RX12_27 ⟨rfl, fun _ => ⟨rfl, rfl⟩⟩ ⟨_, _, rfl⟩ rfl (fs := [some (some 89), some (some 90), none, some none, some none, some none, some none, some none, some none, some none, some none, some none, some none, some none, some none, some none, some none, some none, none, none, none, none, none, none, none, none, none, none, some none, some none, none, none, none, none, some none, some none, some none, some none, some none, some none, some none, none, none, some none, some none, some none, none, some none, some none, some none, some none, some none, none, some none, some none, none, none, none, none, some none, some none, some none, some none, some none, some none, some none]) (rfl : sh_251[88]? = _) (by decide) rfl dX12_init_222 rfl ?_
  refine aw_aload_n (n := 226) (i := 0) dX12_init_225 rfl rfl rfl ?_
  refine aw_bipush (n := 228) (v := 12) dX12_init_226 rfl (by decide) ?_
  obtain ⟨D_40, e_D_40, h⟩ := Ok.let_ h
  refine aw_newa (M := M_X12_init) (n := 230) (t := 1) (N := 12) (ty := .int) (L := 92) (n0 := 89) (shp' := sh_253) (D' := D_40) hG.1 rfl rfl rfl (by decide) aw_int rfl rfl (fun _ _ h => h) (at_z1) (by decide) rfl (by decide) (by decide) (by decide) dX12_init_228 rfl rfl (kc' := 4) (ks' := 52) rfl rfl e_D_40 ?_
  refine aw_putR (M := M_X12_init) (n := 233) (j := 4) (k := 88) (r := 92) (shp' := sh_254) hG.1 fl_RX12_30 ⟨rfl, fun _ => ⟨rfl, rfl⟩⟩ ⟨_, _, rfl⟩ rfl (fs := [some (some 89), some (some 90), none, some (some 91), some none, some none, some none, some none, some none, some none, some none, some none, some none, some none, some none, some none, some none, some none, none, none, none, none, none, none, none, none, none, none, some none, some none, none, none, none, none, some none, some none, some none, some none, some none, some none, some none, none, none, some none, some none, some none, none, some none, some none, some none, some none, some none, none, some none, some none, none, none, none, none, some none, some none, some none, some none, some none, some none, some none]) (rfl : sh_253[88]? = _) (by decide) rfl dX12_init_230 rfl ?_
  refine aw_aload_n (n := 234) (i := 0) dX12_init_233 rfl rfl rfl ?_
  refine aw_bipush (n := 236) (v := 12) dX12_init_234 rfl (by decide) ?_
  obtain ⟨D_41, e_D_41, h⟩ := Ok.let_ h
  refine aw_newa (M := M_X12_init) (n := 238) (t := 1) (N := 12) (ty := .int) (L := 93) (n0 := 89) (shp' := sh_255) (D' := D_41) hG.1 rfl rfl rfl (by decide) aw_int rfl rfl (fun _ _ h => h) (at_z1) (by decide) rfl (by decide) (by decide) (by decide) dX12_init_236 rfl rfl (kc' := 5) (ks' := 64) rfl rfl e_D_41 ?_
  refine aw_putR (M := M_X12_init) (n := 241) (j := 5) (k := 88) (r := 93) (shp' := sh_256) hG.1 fl_RX12_33 ⟨rfl, fun _ => ⟨rfl, rfl⟩⟩ ⟨_, _, rfl⟩ rfl (fs := [some (some 89), some (some 90), none, some (some 91), some (some 92), some none, some none, some none, some none, some none, some none, some none, some none, some none, some none, some none, some none, some none, none, none, none, none, none, none, none, none, none, none, some none, some none, none, none, none, none, some none, some none, some none, some none, some none, some none, some none, none, none, some none, some none, some none, none, some none, some none, some none, some none, some none, none, some none, some none, none, none, none, none, some none, some none, some none, some none, some none, some none, some none]) (rfl : sh_255[88]? = _) (by decide) rfl dX12_init_238 rfl ?_
  refine aw_aload_n (n := 242) (i := 0) dX12_init_241 rfl rfl rfl ?_
  refine aw_bipush (n := 244) (v := 12) dX12_init_242 rfl (by decide) ?_
  obtain ⟨D_42, e_D_42, h⟩ := Ok.let_ h
  refine aw_newa (M := M_X12_init) (n := 246) (t := 1) (N := 12) (ty := .int) (L := 94) (n0 := 89) (shp' := sh_257) (D' := D_42) hG.1 rfl rfl rfl (by decide) aw_int rfl rfl (fun _ _ h => h) (at_z1) (by decide) rfl (by decide) (by decide) (by decide) dX12_init_244 rfl rfl (kc' := 6) (ks' := 76) rfl rfl e_D_42 ?_
  refine aw_putR (M := M_X12_init) (n := 249) (j := 6) (k := 88) (r := 94) (shp' := sh_258) hG.1 fl_RX12_36 ⟨rfl, fun _ => ⟨rfl, rfl⟩⟩ ⟨_, _, rfl⟩ rfl (fs := [some (some 89), some (some 90), none, some (some 91), some (some 92), some (some 93), some none, some none, some none, some none, some none, some none, some none, some none, some none, some none, some none, some none, none, none, none, none, none, none, none, none, none, none, some none, some none, none, none, none, none, some none, some none, some none, some none, some none, some none, some none, none, none, some none, some none, some none, none, some none, some none, some none, some none, some none, none, some none, some none, none, none, none, none, some none, some none, some none, some none, some none, some none, some none]) (rfl : sh_257[88]? = _) (by decide) rfl dX12_init_246 rfl ?_
  refine aw_aload_n (n := 250) (i := 0) dX12_init_249 rfl rfl rfl ?_
  refine aw_bipush (n := 252) (v := 12) dX12_init_250 rfl (by decide) ?_
  obtain ⟨D_43, e_D_43, h⟩ := Ok.let_ h
  refine aw_newa (M := M_X12_init) (n := 254) (t := 1) (N := 12) (ty := .int) (L := 95) (n0 := 89) (shp' := sh_259) (D' := D_43) hG.1 rfl rfl rfl (by decide) aw_int rfl rfl (fun _ _ h => h) (at_z1) (by decide) rfl (by decide) (by decide) (by decide) dX12_init_252 rfl rfl (kc' := 7) (ks' := 88) rfl rfl e_D_43 ?_
  refine aw_putR (M := M_X12_init) (n := 257) (j := 7) (k := 88) (r := 95) (shp' := sh_260) hG.1 fl_RX12_39 ⟨rfl, fun _ => ⟨rfl, rfl⟩⟩ ⟨_, _, rfl⟩ rfl (fs := [some (some 89), some (some 90), none, some (some 91), some (some 92), some (some 93), some (some 94), some none, some none, some none, some none, some none, some none, some none, some none, some none, some none, some none, none, none, none, none, none, none, none, none, none, none, some none, some none, none, none, none, none, some none, some none, some none, some none, some none, some none, some none, none, none, some none, some none, some none, none, some none, some none, some none, some none, some none, none, some none, some none, none, none, none, none, some none, some none, some none, some none, some none, some none, some none]) (rfl : sh_259[88]? = _) (by decide) rfl dX12_init_254 rfl ?_
  refine aw_aload_n (n := 258) (i := 0) dX12_init_257 rfl rfl rfl ?_
  refine aw_bipush (n := 260) (v := 12) dX12_init_258 rfl (by decide) ?_
  obtain ⟨D_44, e_D_44, h⟩ := Ok.let_ h
  refine aw_newa (M := M_X12_init) (n := 262) (t := 1) (N := 12) (ty := .int) (L := 96) (n0 := 89) (shp' := sh_261) (D' := D_44) hG.1 rfl rfl rfl (by decide) aw_int rfl rfl (fun _ _ h => h) (at_z1) (by decide) rfl (by decide) (by decide) (by decide) dX12_init_260 rfl rfl (kc' := 8) (ks' := 100) rfl rfl e_D_44 ?_
  refine aw_putR (M := M_X12_init) (n := 265) (j := 8) (k := 88) (r := 96) (shp' := sh_262) hG.1 fl_RX12_42 ⟨rfl, fun _ => ⟨rfl, rfl⟩⟩ ⟨_, _, rfl⟩ rfl (fs := [some (some 89), some (some 90), none, some (some 91), some (some 92), some (some 93), some (some 94), some (some 95), some none, some none, some none, some none, some none, some none, some none, some none, some none, some none, none, none, none, none, none, none, none, none, none, none, some none, some none, none, none, none, none, some none, some none, some none, some none, some none, some none, some none, none, none, some none, some none, some none, none, some none, some none, some none, some none, some none, none, some none, some none, none, none, none, none, some none, some none, some none, some none, some none, some none, some none]) (rfl : sh_261[88]? = _) (by decide) rfl dX12_init_262 rfl ?_
  refine aw_aload_n (n := 266) (i := 0) dX12_init_265 rfl rfl rfl ?_
  refine aw_bipush (n := 268) (v := 12) dX12_init_266 rfl (by decide) ?_
  obtain ⟨D_45, e_D_45, h⟩ := Ok.let_ h
  refine aw_newa (M := M_X12_init) (n := 270) (t := 1) (N := 12) (ty := .int) (L := 97) (n0 := 89) (shp' := sh_263) (D' := D_45) hG.1 rfl rfl rfl (by decide) aw_int rfl rfl (fun _ _ h => h) (at_z1) (by decide) rfl (by decide) (by decide) (by decide) dX12_init_268 rfl rfl (kc' := 9) (ks' := 112) rfl rfl e_D_45 ?_
  refine aw_putR (M := M_X12_init) (n := 273) (j := 9) (k := 88) (r := 97) (shp' := sh_264) hG.1 fl_RX12_45 ⟨rfl, fun _ => ⟨rfl, rfl⟩⟩ ⟨_, _, rfl⟩ rfl (fs := [some (some 89), some (some 90), none, some (some 91), some (some 92), some (some 93), some (some 94), some (some 95), some (some 96), some none, some none, some none, some none, some none, some none, some none, some none, some none, none, none, none, none, none, none, none, none, none, none, some none, some none, none, none, none, none, some none, some none, some none, some none, some none, some none, some none, none, none, some none, some none, some none, none, some none, some none, some none, some none, some none, none, some none, some none, none, none, none, none, some none, some none, some none, some none, some none, some none, some none]) (rfl : sh_263[88]? = _) (by decide) rfl dX12_init_270 rfl ?_
  refine aw_aload_n (n := 274) (i := 0) dX12_init_273 rfl rfl rfl ?_
  refine aw_bipush (n := 276) (v := 12) dX12_init_274 rfl (by decide) ?_
  obtain ⟨D_46, e_D_46, h⟩ := Ok.let_ h
  refine aw_newa (M := M_X12_init) (n := 278) (t := 1) (N := 12) (ty := .int) (L := 98) (n0 := 89) (shp' := sh_265) (D' := D_46) hG.1 rfl rfl rfl (by decide) aw_int rfl rfl (fun _ _ h => h) (at_z1) (by decide) rfl (by decide) (by decide) (by decide) dX12_init_276 rfl rfl (kc' := 10) (ks' := 124) rfl rfl e_D_46 ?_
  refine aw_putR (M := M_X12_init) (n := 281) (j := 10) (k := 88) (r := 98) (shp' := sh_266) hG.1 fl_RX12_48 ⟨rfl, fun _ => ⟨rfl, rfl⟩⟩ ⟨_, _, rfl⟩ rfl (fs := [some (some 89), some (some 90), none, some (some 91), some (some 92), some (some 93), some (some 94), some (some 95), some (some 96), some (some 97), some none, some none, some none, some none, some none, some none, some none, some none, none, none, none, none, none, none, none, none, none, none, some none, some none, none, none, none, none, some none, some none, some none, some none, some none, some none, some none, none, none, some none, some none, some none, none, some none, some none, some none, some none, some none, none, some none, some none, none, none, none, none, some none, some none, some none, some none, some none, some none, some none]) (rfl : sh_265[88]? = _) (by decide) rfl dX12_init_278 rfl ?_
  refine aw_aload_n (n := 282) (i := 0) dX12_init_281 rfl rfl rfl ?_
  refine aw_bipush (n := 284) (v := 26) dX12_init_282 rfl (by decide) ?_
  obtain ⟨D_47, e_D_47, h⟩ := Ok.let_ h
  refine aw_newa (M := M_X12_init) (n := 286) (t := 1) (N := 26) (ty := .int) (L := 99) (n0 := 89) (shp' := sh_267) (D' := D_47) hG.1 rfl rfl rfl (by decide) aw_int rfl rfl (fun _ _ h => h) (at_z1) (by decide) rfl (by decide) (by decide) (by decide) dX12_init_284 rfl rfl (kc' := 11) (ks' := 150) rfl rfl e_D_47 ?_
  refine aw_putR (M := M_X12_init) (n := 289) (j := 11) (k := 88) (r := 99) (shp' := sh_268) hG.1 fl_RX12_51 ⟨rfl, fun _ => ⟨rfl, rfl⟩⟩ ⟨_, _, rfl⟩ rfl (fs := [some (some 89), some (some 90), none, some (some 91), some (some 92), some (some 93), some (some 94), some (some 95), some (some 96), some (some 97), some (some 98), some none, some none, some none, some none, some none, some none, some none, none, none, none, none, none, none, none, none, none, none, some none, some none, none, none, none, none, some none, some none, some none, some none, some none, some none, some none, none, none, some none, some none, some none, none, some none, some none, some none, some none, some none, none, some none, some none, none, none, none, none, some none, some none, some none, some none, some none, some none, some none]) (rfl : sh_267[88]? = _) (by decide) rfl dX12_init_286 rfl ?_
  refine aw_aload_n (n := 290) (i := 0) dX12_init_289 rfl rfl rfl ?_
  refine aw_bipush (n := 292) (v := 26) dX12_init_290 rfl (by decide) ?_
  obtain ⟨D_48, e_D_48, h⟩ := Ok.let_ h
  refine aw_newa (M := M_X12_init) (n := 294) (t := 1) (N := 26) (ty := .int) (L := 100) (n0 := 89) (shp' := sh_269) (D' := D_48) hG.1 rfl rfl rfl (by decide) aw_int rfl rfl (fun _ _ h => h) (at_z1) (by decide) rfl (by decide) (by decide) (by decide) dX12_init_292 rfl rfl (kc' := 12) (ks' := 176) rfl rfl e_D_48 ?_
  refine aw_putR (M := M_X12_init) (n := 297) (j := 12) (k := 88) (r := 100) (shp' := sh_270) hG.1 fl_RX12_54 ⟨rfl, fun _ => ⟨rfl, rfl⟩⟩ ⟨_, _, rfl⟩ rfl (fs := [some (some 89), some (some 90), none, some (some 91), some (some 92), some (some 93), some (some 94), some (some 95), some (some 96), some (some 97), some (some 98), some (some 99), some none, some none, some none, some none, some none, some none, none, none, none, none, none, none, none, none, none, none, some none, some none, none, none, none, none, some none, some none, some none, some none, some none, some none, some none, none, none, some none, some none, some none, none, some none, some none, some none, some none, some none, none, some none, some none, none, none, none, none, some none, some none, some none, some none, some none, some none, some none]) (rfl : sh_269[88]? = _) (by decide) rfl dX12_init_294 rfl ?_
  refine aw_aload_n (n := 298) (i := 0) dX12_init_297 rfl rfl rfl ?_
  refine aw_bipush (n := 300) (v := 26) dX12_init_298 rfl (by decide) ?_
  obtain ⟨D_49, e_D_49, h⟩ := Ok.let_ h
  refine aw_newa (M := M_X12_init) (n := 302) (t := 1) (N := 26) (ty := .int) (L := 101) (n0 := 89) (shp' := sh_271) (D' := D_49) hG.1 rfl rfl rfl (by decide) aw_int rfl rfl (fun _ _ h => h) (at_z1) (by decide) rfl (by decide) (by decide) (by decide) dX12_init_300 rfl rfl (kc' := 13) (ks' := 202) rfl rfl e_D_49 ?_
  refine aw_putR (M := M_X12_init) (n := 305) (j := 13) (k := 88) (r := 101) (shp' := sh_272) hG.1 fl_RX12_57 ⟨rfl, fun _ => ⟨rfl, rfl⟩⟩ ⟨_, _, rfl⟩ rfl (fs := [some (some 89), some (some 90), none, some (some 91), some (some 92), some (some 93), some (some 94), some (some 95), some (some 96), some (some 97), some (some 98), some (some 99), some (some 100), some none, some none, some none, some none, some none, none, none, none, none, none, none, none, none, none, none, some none, some none, none, none, none, none, some none, some none, some none, some none, some none, some none, some none, none, none, some none, some none, some none, none, some none, some none, some none, some none, some none, none, some none, some none, none, none, none, none, some none, some none, some none, some none, some none, some none, some none]) (rfl : sh_271[88]? = _) (by decide) rfl dX12_init_302 rfl ?_
  refine aw_aload_n (n := 306) (i := 0) dX12_init_305 rfl rfl rfl ?_
  refine aw_bipush (n := 308) (v := 10) dX12_init_306 rfl (by decide) ?_
  obtain ⟨D_50, e_D_50, h⟩ := Ok.let_ h
  refine aw_newa (M := M_X12_init) (n := 310) (t := 1) (N := 10) (ty := .int) (L := 102) (n0 := 89) (shp' := sh_273) (D' := D_50) hG.1 rfl rfl rfl (by decide) aw_int rfl rfl (fun _ _ h => h) (at_z1) (by decide) rfl (by decide) (by decide) (by decide) dX12_init_308 rfl rfl (kc' := 14) (ks' := 212) rfl rfl e_D_50 ?_
  refine aw_putR (M := M_X12_init) (n := 313) (j := 14) (k := 88) (r := 102) (shp' := sh_274) hG.1 fl_RX12_60 ⟨rfl, fun _ => ⟨rfl, rfl⟩⟩ ⟨_, _, rfl⟩ rfl (fs := [some (some 89), some (some 90), none, some (some 91), some (some 92), some (some 93), some (some 94), some (some 95), some (some 96), some (some 97), some (some 98), some (some 99), some (some 100), some (some 101), some none, some none, some none, some none, none, none, none, none, none, none, none, none, none, none, some none, some none, none, none, none, none, some none, some none, some none, some none, some none, some none, some none, none, none, some none, some none, some none, none, some none, some none, some none, some none, some none, none, some none, some none, none, none, none, none, some none, some none, some none, some none, some none, some none, some none]) (rfl : sh_273[88]? = _) (by decide) rfl dX12_init_310 rfl ?_
  refine aw_aload_n (n := 314) (i := 0) dX12_init_313 rfl rfl rfl ?_
  refine aw_bipush (n := 316) (v := 72) dX12_init_314 rfl (by decide) ?_
  obtain ⟨D_51, e_D_51, h⟩ := Ok.let_ h
  refine aw_newa (M := M_X12_init) (n := 318) (t := 1) (N := 72) (ty := .int) (L := 103) (n0 := 89) (shp' := sh_275) (D' := D_51) hG.1 rfl rfl rfl (by decide) aw_int rfl rfl (fun _ _ h => h) (at_z1) (by decide) rfl (by decide) (by decide) (by decide) dX12_init_316 rfl rfl (kc' := 15) (ks' := 284) rfl rfl e_D_51 ?_
  refine aw_putR (M := M_X12_init) (n := 321) (j := 15) (k := 88) (r := 103) (shp' := sh_276) hG.1 fl_RX12_63 ⟨rfl, fun _ => ⟨rfl, rfl⟩⟩ ⟨_, _, rfl⟩ rfl (fs := [some (some 89), some (some 90), none, some (some 91), some (some 92), some (some 93), some (some 94), some (some 95), some (some 96), some (some 97), some (some 98), some (some 99), some (some 100), some (some 101), some (some 102), some none, some none, some none, none, none, none, none, none, none, none, none, none, none, some none, some none, none, none, none, none, some none, some none, some none, some none, some none, some none, some none, none, none, some none, some none, some none, none, some none, some none, some none, some none, some none, none, some none, some none, none, none, none, none, some none, some none, some none, some none, some none, some none, some none]) (rfl : sh_275[88]? = _) (by decide) rfl dX12_init_318 rfl ?_
  refine aw_aload_n (n := 322) (i := 0) dX12_init_321 rfl rfl rfl ?_
  refine aw_iconst (n := 323) (v := 3) dX12_init_322 rfl (by decide) ?_
  obtain ⟨D_52, e_D_52, h⟩ := Ok.let_ h
  refine aw_newa (M := M_X12_init) (n := 325) (t := 1) (N := 3) (ty := .int) (L := 104) (n0 := 89) (shp' := sh_277) (D' := D_52) hG.1 rfl rfl rfl (by decide) aw_int rfl rfl (fun _ _ h => h) (at_z1) (by decide) rfl (by decide) (by decide) (by decide) dX12_init_323 rfl rfl (kc' := 16) (ks' := 287) rfl rfl e_D_52 ?_
  refine aw_putR (M := M_X12_init) (n := 328) (j := 16) (k := 88) (r := 104) (shp' := sh_278) hG.1 fl_RX12_66 ⟨rfl, fun _ => ⟨rfl, rfl⟩⟩ ⟨_, _, rfl⟩ rfl (fs := [some (some 89), some (some 90), none, some (some 91), some (some 92), some (some 93), some (some 94), some (some 95), some (some 96), some (some 97), some (some 98), some (some 99), some (some 100), some (some 101), some (some 102), some (some 103), some none, some none, none, none, none, none, none, none, none, none, none, none, some none, some none, none, none, none, none, some none, some none, some none, some none, some none, some none, some none, none, none, some none, some none, some none, none, some none, some none, some none, some none, some none, none, some none, some none, none, none, none, none, some none, some none, some none, some none, some none, some none, some none]) (rfl : sh_277[88]? = _) (by decide) rfl dX12_init_325 rfl ?_
  refine aw_aload_n (n := 329) (i := 0) dX12_init_328 rfl rfl rfl ?_
  refine aw_sipush (n := 332) (v := 700) dX12_init_329 rfl (by decide) ?_
  obtain ⟨D_53, e_D_53, h⟩ := Ok.let_ h
  refine aw_newa (M := M_X12_init) (n := 334) (t := 1) (N := 700) (ty := .int) (L := 105) (n0 := 89) (shp' := sh_279) (D' := D_53) hG.1 rfl rfl rfl (by decide) aw_int rfl rfl (fun _ _ h => h) (at_z1) (by decide) rfl (by decide) (by decide) (by decide) dX12_init_332 rfl rfl (kc' := 17) (ks' := 987) rfl rfl e_D_53 ?_
  refine aw_putR (M := M_X12_init) (n := 337) (j := 17) (k := 88) (r := 105) (shp' := sh_280) hG.1 fl_RX12_69 ⟨rfl, fun _ => ⟨rfl, rfl⟩⟩ ⟨_, _, rfl⟩ rfl (fs := [some (some 89), some (some 90), none, some (some 91), some (some 92), some (some 93), some (some 94), some (some 95), some (some 96), some (some 97), some (some 98), some (some 99), some (some 100), some (some 101), some (some 102), some (some 103), some (some 104), some none, none, none, none, none, none, none, none, none, none, none, some none, some none, none, none, none, none, some none, some none, some none, some none, some none, some none, some none, none, none, some none, some none, some none, none, some none, some none, some none, some none, some none, none, some none, some none, none, none, none, none, some none, some none, some none, some none, some none, some none, some none]) (rfl : sh_279[88]? = _) (by decide) rfl dX12_init_334 rfl ?_
  refine aw_aload_n (n := 338) (i := 0) dX12_init_337 rfl rfl rfl ?_
  refine aw_iconst (n := 339) (v := (-1)) dX12_init_338 rfl (by decide) ?_
  obtain ⟨D_54, e_D_54, h⟩ := Ok.let_ h
  refine aw_putI (n := 342) (j := 27) (k := 88) hG.1 fl_RX12_72 (fs := [some (some 89), some (some 90), none, some (some 91), some (some 92), some (some 93), some (some 94), some (some 95), some (some 96), some (some 97), some (some 98), some (some 99), some (some 100), some (some 101), some (some 102), some (some 103), some (some 104), some (some 105), none, none, none, none, none, none, none, none, none, none, some none, some none, none, none, none, none, some none, some none, some none, some none, some none, some none, some none, none, none, some none, some none, some none, none, some none, some none, some none, some none, some none, none, some none, some none, none, none, none, none, some none, some none, some none, some none, some none, some none, some none]) (rfl : sh_280[88]? = _) rfl e_D_54 dX12_init_339 rfl ?_
  refine aw_aload_n (n := 343) (i := 0) dX12_init_342 rfl rfl rfl ?_
  refine aw_bipush (n := 345) (v := 13) dX12_init_343 rfl (by decide) ?_
  obtain ⟨D_55, e_D_55, h⟩ := Ok.let_ h
  refine aw_newa (M := M_X12_init) (n := 347) (t := 1) (N := 13) (ty := .int) (L := 106) (n0 := 89) (shp' := sh_281) (D' := D_55) hG.1 rfl rfl rfl (by decide) aw_int rfl rfl (fun _ _ h => h) (at_z1) (by decide) rfl (by decide) (by decide) (by decide) dX12_init_345 rfl rfl (kc' := 18) (ks' := 1000) rfl rfl e_D_55 ?_
  refine aw_putR (M := M_X12_init) (n := 350) (j := 28) (k := 88) (r := 106) (shp' := sh_282) hG.1 fl_RX12_76 ⟨rfl, fun _ => ⟨rfl, rfl⟩⟩ ⟨_, _, rfl⟩ rfl (fs := [some (some 89), some (some 90), none, some (some 91), some (some 92), some (some 93), some (some 94), some (some 95), some (some 96), some (some 97), some (some 98), some (some 99), some (some 100), some (some 101), some (some 102), some (some 103), some (some 104), some (some 105), none, none, none, none, none, none, none, none, none, none, some none, some none, none, none, none, none, some none, some none, some none, some none, some none, some none, some none, none, none, some none, some none, some none, none, some none, some none, some none, some none, some none, none, some none, some none, none, none, none, none, some none, some none, some none, some none, some none, some none, some none]) (rfl : sh_281[88]? = _) (by decide) rfl dX12_init_347 rfl ?_
  refine aw_aload_n (n := 351) (i := 0) dX12_init_350 rfl rfl rfl ?_
  refine aw_iconst (n := 352) (v := 5) dX12_init_351 rfl (by decide) ?_
  obtain ⟨D_56, e_D_56, h⟩ := Ok.let_ h
  refine aw_newa (M := M_X12_init) (n := 354) (t := 1) (N := 5) (ty := .int) (L := 107) (n0 := 89) (shp' := sh_283) (D' := D_56) hG.1 rfl rfl rfl (by decide) aw_int rfl rfl (fun _ _ h => h) (at_z1) (by decide) rfl (by decide) (by decide) (by decide) dX12_init_352 rfl rfl (kc' := 19) (ks' := 1005) rfl rfl e_D_56 ?_
  refine aw_dup (n := 355) dX12_init_354 rfl rfl ?_
  refine aw_iconst (n := 356) (v := 0) dX12_init_355 rfl (by decide) ?_
  refine aw_iconst (n := 357) (v := 0) dX12_init_356 rfl (by decide) ?_
  obtain ⟨D_57, e_D_57, h⟩ := Ok.let_ h
  refine aw_iastore (n := 358) (k := 107) hG.1 (rfl : sh_283[107]? = _) (aIn_in rfl) e_D_57 dX12_init_357 rfl ?_
  refine aw_dup (n := 359) dX12_init_358 rfl rfl ?_
  refine aw_iconst (n := 360) (v := 1) dX12_init_359 rfl (by decide) ?_
  refine aw_iconst (n := 361) (v := 1) dX12_init_360 rfl (by decide) ?_
  obtain ⟨D_58, e_D_58, h⟩ := Ok.let_ h
  refine aw_iastore (n := 362) (k := 107) hG.1 (rfl : sh_283[107]? = _) (aIn_in rfl) e_D_58 dX12_init_361 rfl ?_
  refine aw_dup (n := 363) dX12_init_362 rfl rfl ?_
  refine aw_iconst (n := 364) (v := 2) dX12_init_363 rfl (by decide) ?_
  refine aw_iconst (n := 365) (v := 2) dX12_init_364 rfl (by decide) ?_
  obtain ⟨D_59, e_D_59, h⟩ := Ok.let_ h
  refine aw_iastore (n := 366) (k := 107) hG.1 (rfl : sh_283[107]? = _) (aIn_in rfl) e_D_59 dX12_init_365 rfl ?_
  refine aw_dup (n := 367) dX12_init_366 rfl rfl ?_
  refine aw_iconst (n := 368) (v := 3) dX12_init_367 rfl (by decide) ?_
  refine aw_iconst (n := 369) (v := 3) dX12_init_368 rfl (by decide) ?_
  obtain ⟨D_60, e_D_60, h⟩ := Ok.let_ h
  refine aw_iastore (n := 370) (k := 107) hG.1 (rfl : sh_283[107]? = _) (aIn_in rfl) e_D_60 dX12_init_369 rfl ?_
  refine aw_dup (n := 371) dX12_init_370 rfl rfl ?_
  refine aw_iconst (n := 372) (v := 4) dX12_init_371 rfl (by decide) ?_
  refine aw_iconst (n := 373) (v := 4) dX12_init_372 rfl (by decide) ?_
  obtain ⟨D_61, e_D_61, h⟩ := Ok.let_ h
  refine aw_iastore (n := 374) (k := 107) hG.1 (rfl : sh_283[107]? = _) (aIn_in rfl) e_D_61 dX12_init_373 rfl ?_
  refine aw_putR (M := M_X12_init) (n := 377) (j := 29) (k := 88) (r := 107) (shp' := sh_284) hG.1 fl_RX12_79 ⟨rfl, fun _ => ⟨rfl, rfl⟩⟩ ⟨_, _, rfl⟩ rfl (fs := [some (some 89), some (some 90), none, some (some 91), some (some 92), some (some 93), some (some 94), some (some 95), some (some 96), some (some 97), some (some 98), some (some 99), some (some 100), some (some 101), some (some 102), some (some 103), some (some 104), some (some 105), none, none, none, none, none, none, none, none, none, none, some (some 106), some none, none, none, none, none, some none, some none, some none, some none, some none, some none, some none, none, none, some none, some none, some none, none, some none, some none, some none, some none, some none, none, some none, some none, none, none, none, none, some none, some none, some none, some none, some none, some none, some none]) (rfl : sh_283[88]? = _) (by decide) rfl dX12_init_374 rfl ?_
  refine aw_aload_n (n := 378) (i := 0) dX12_init_377 rfl rfl rfl ?_
  refine aw_bipush (n := 380) (v := 12) dX12_init_378 rfl (by decide) ?_
  obtain ⟨D_62, e_D_62, h⟩ := Ok.let_ h
  refine aw_putI (n := 383) (j := 31) (k := 88) hG.1 fl_RX12_82 (fs := [some (some 89), some (some 90), none, some (some 91), some (some 92), some (some 93), some (some 94), some (some 95), some (some 96), some (some 97), some (some 98), some (some 99), some (some 100), some (some 101), some (some 102), some (some 103), some (some 104), some (some 105), none, none, none, none, none, none, none, none, none, none, some (some 106), some (some 107), none, none, none, none, some none, some none, some none, some none, some none, some none, some none, none, none, some none, some none, some none, none, some none, some none, some none, some none, some none, none, some none, some none, none, none, none, none, some none, some none, some none, some none, some none, some none, some none]) (rfl : sh_284[88]? = _) rfl e_D_62 dX12_init_380 rfl ?_
  refine aw_aload_n (n := 384) (i := 0) dX12_init_383 rfl rfl rfl ?_
  refine aw_bipush (n := 386) (v := 6) dX12_init_384 rfl (by decide) ?_
  obtain ⟨D_63, e_D_63, h⟩ := Ok.let_ h
  refine aw_newa (M := M_X12_init) (n := 388) (t := 1) (N := 6) (ty := .int) (L := 108) (n0 := 89) (shp' := sh_285) (D' := D_63) hG.1 rfl rfl rfl (by decide) aw_int rfl rfl (fun _ _ h => h) (at_z1) (by decide) rfl (by decide) (by decide) (by decide) dX12_init_386 rfl rfl (kc' := 20) (ks' := 1011) rfl rfl e_D_63 ?_
  refine aw_putR (M := M_X12_init) (n := 391) (j := 34) (k := 88) (r := 108) (shp' := sh_286) hG.1 fl_RX12_85 ⟨rfl, fun _ => ⟨rfl, rfl⟩⟩ ⟨_, _, rfl⟩ rfl (fs := [some (some 89), some (some 90), none, some (some 91), some (some 92), some (some 93), some (some 94), some (some 95), some (some 96), some (some 97), some (some 98), some (some 99), some (some 100), some (some 101), some (some 102), some (some 103), some (some 104), some (some 105), none, none, none, none, none, none, none, none, none, none, some (some 106), some (some 107), none, none, none, none, some none, some none, some none, some none, some none, some none, some none, none, none, some none, some none, some none, none, some none, some none, some none, some none, some none, none, some none, some none, none, none, none, none, some none, some none, some none, some none, some none, some none, some none]) (rfl : sh_285[88]? = _) (by decide) rfl dX12_init_388 rfl ?_
  refine aw_aload_n (n := 392) (i := 0) dX12_init_391 rfl rfl rfl ?_
  refine aw_bipush (n := 394) (v := 30) dX12_init_392 rfl (by decide) ?_
  obtain ⟨D_64, e_D_64, h⟩ := Ok.let_ h
  refine aw_newa (M := M_X12_init) (n := 396) (t := 1) (N := 30) (ty := .int) (L := 109) (n0 := 89) (shp' := sh_287) (D' := D_64) hG.1 rfl rfl rfl (by decide) aw_int rfl rfl (fun _ _ h => h) (at_z1) (by decide) rfl (by decide) (by decide) (by decide) dX12_init_394 rfl rfl (kc' := 21) (ks' := 1041) rfl rfl e_D_64 ?_
  refine aw_putR (M := M_X12_init) (n := 399) (j := 35) (k := 88) (r := 109) (shp' := sh_288) hG.1 fl_RX12_88 ⟨rfl, fun _ => ⟨rfl, rfl⟩⟩ ⟨_, _, rfl⟩ rfl (fs := [some (some 89), some (some 90), none, some (some 91), some (some 92), some (some 93), some (some 94), some (some 95), some (some 96), some (some 97), some (some 98), some (some 99), some (some 100), some (some 101), some (some 102), some (some 103), some (some 104), some (some 105), none, none, none, none, none, none, none, none, none, none, some (some 106), some (some 107), none, none, none, none, some (some 108), some none, some none, some none, some none, some none, some none, none, none, some none, some none, some none, none, some none, some none, some none, some none, some none, none, some none, some none, none, none, none, none, some none, some none, some none, some none, some none, some none, some none]) (rfl : sh_287[88]? = _) (by decide) rfl dX12_init_396 rfl ?_
  refine aw_aload_n (n := 400) (i := 0) dX12_init_399 rfl rfl rfl ?_
  refine aw_bipush (n := 402) (v := 6) dX12_init_400 rfl (by decide) ?_
  obtain ⟨D_65, e_D_65, h⟩ := Ok.let_ h
  refine aw_newa (M := M_X12_init) (n := 404) (t := 1) (N := 6) (ty := .int) (L := 110) (n0 := 89) (shp' := sh_289) (D' := D_65) hG.1 rfl rfl rfl (by decide) aw_int rfl rfl (fun _ _ h => h) (at_z1) (by decide) rfl (by decide) (by decide) (by decide) dX12_init_402 rfl rfl (kc' := 22) (ks' := 1047) rfl rfl e_D_65 ?_
  refine aw_putR (M := M_X12_init) (n := 407) (j := 36) (k := 88) (r := 110) (shp' := sh_290) hG.1 fl_RX12_91 ⟨rfl, fun _ => ⟨rfl, rfl⟩⟩ ⟨_, _, rfl⟩ rfl (fs := [some (some 89), some (some 90), none, some (some 91), some (some 92), some (some 93), some (some 94), some (some 95), some (some 96), some (some 97), some (some 98), some (some 99), some (some 100), some (some 101), some (some 102), some (some 103), some (some 104), some (some 105), none, none, none, none, none, none, none, none, none, none, some (some 106), some (some 107), none, none, none, none, some (some 108), some (some 109), some none, some none, some none, some none, some none, none, none, some none, some none, some none, none, some none, some none, some none, some none, some none, none, some none, some none, none, none, none, none, some none, some none, some none, some none, some none, some none, some none]) (rfl : sh_289[88]? = _) (by decide) rfl dX12_init_404 rfl ?_
  refine aw_aload_n (n := 408) (i := 0) dX12_init_407 rfl rfl rfl ?_
  refine aw_bipush (n := 410) (v := 6) dX12_init_408 rfl (by decide) ?_
  obtain ⟨D_66, e_D_66, h⟩ := Ok.let_ h
  refine aw_newa (M := M_X12_init) (n := 412) (t := 1) (N := 6) (ty := .int) (L := 111) (n0 := 89) (shp' := sh_291) (D' := D_66) hG.1 rfl rfl rfl (by decide) aw_int rfl rfl (fun _ _ h => h) (at_z1) (by decide) rfl (by decide) (by decide) (by decide) dX12_init_410 rfl rfl (kc' := 23) (ks' := 1053) rfl rfl e_D_66 ?_
  refine aw_putR (M := M_X12_init) (n := 415) (j := 37) (k := 88) (r := 111) (shp' := sh_292) hG.1 fl_RX12_94 ⟨rfl, fun _ => ⟨rfl, rfl⟩⟩ ⟨_, _, rfl⟩ rfl (fs := [some (some 89), some (some 90), none, some (some 91), some (some 92), some (some 93), some (some 94), some (some 95), some (some 96), some (some 97), some (some 98), some (some 99), some (some 100), some (some 101), some (some 102), some (some 103), some (some 104), some (some 105), none, none, none, none, none, none, none, none, none, none, some (some 106), some (some 107), none, none, none, none, some (some 108), some (some 109), some (some 110), some none, some none, some none, some none, none, none, some none, some none, some none, none, some none, some none, some none, some none, some none, none, some none, some none, none, none, none, none, some none, some none, some none, some none, some none, some none, some none]) (rfl : sh_291[88]? = _) (by decide) rfl dX12_init_412 rfl ?_
  refine aw_aload_n (n := 416) (i := 0) dX12_init_415 rfl rfl rfl ?_
  refine aw_iconst (n := 417) (v := 5) dX12_init_416 rfl (by decide) ?_
  obtain ⟨D_67, e_D_67, h⟩ := Ok.let_ h
  refine aw_newa (M := M_X12_init) (n := 419) (t := 1) (N := 5) (ty := .int) (L := 112) (n0 := 89) (shp' := sh_293) (D' := D_67) hG.1 rfl rfl rfl (by decide) aw_int rfl rfl (fun _ _ h => h) (at_z1) (by decide) rfl (by decide) (by decide) (by decide) dX12_init_417 rfl rfl (kc' := 24) (ks' := 1058) rfl rfl e_D_67 ?_
  refine aw_putR (M := M_X12_init) (n := 422) (j := 38) (k := 88) (r := 112) (shp' := sh_294) hG.1 fl_RX12_97 ⟨rfl, fun _ => ⟨rfl, rfl⟩⟩ ⟨_, _, rfl⟩ rfl (fs := [some (some 89), some (some 90), none, some (some 91), some (some 92), some (some 93), some (some 94), some (some 95), some (some 96), some (some 97), some (some 98), some (some 99), some (some 100), some (some 101), some (some 102), some (some 103), some (some 104), some (some 105), none, none, none, none, none, none, none, none, none, none, some (some 106), some (some 107), none, none, none, none, some (some 108), some (some 109), some (some 110), some (some 111), some none, some none, some none, none, none, some none, some none, some none, none, some none, some none, some none, some none, some none, none, some none, some none, none, none, none, none, some none, some none, some none, some none, some none, some none, some none]) (rfl : sh_293[88]? = _) (by decide) rfl dX12_init_419 rfl ?_
  refine aw_aload_n (n := 423) (i := 0) dX12_init_422 rfl rfl rfl ?_
  refine aw_bipush (n := 425) (v := 12) dX12_init_423 rfl (by decide) ?_
  obtain ⟨D_68, e_D_68, h⟩ := Ok.let_ h
  refine aw_newa (M := M_X12_init) (n := 427) (t := 1) (N := 12) (ty := .int) (L := 113) (n0 := 89) (shp' := sh_295) (D' := D_68) hG.1 rfl rfl rfl (by decide) aw_int rfl rfl (fun _ _ h => h) (at_z1) (by decide) rfl (by decide) (by decide) (by decide) dX12_init_425 rfl rfl (kc' := 25) (ks' := 1070) rfl rfl e_D_68 ?_
  refine aw_putR (M := M_X12_init) (n := 430) (j := 39) (k := 88) (r := 113) (shp' := sh_296) hG.1 fl_RX12_100 ⟨rfl, fun _ => ⟨rfl, rfl⟩⟩ ⟨_, _, rfl⟩ rfl (fs := [some (some 89), some (some 90), none, some (some 91), some (some 92), some (some 93), some (some 94), some (some 95), some (some 96), some (some 97), some (some 98), some (some 99), some (some 100), some (some 101), some (some 102), some (some 103), some (some 104), some (some 105), none, none, none, none, none, none, none, none, none, none, some (some 106), some (some 107), none, none, none, none, some (some 108), some (some 109), some (some 110), some (some 111), some (some 112), some none, some none, none, none, some none, some none, some none, none, some none, some none, some none, some none, some none, none, some none, some none, none, none, none, none, some none, some none, some none, some none, some none, some none, some none]) (rfl : sh_295[88]? = _) (by decide) rfl dX12_init_427 rfl ?_
  refine aw_aload_n (n := 431) (i := 0) dX12_init_430 rfl rfl rfl ?_
  refine aw_bipush (n := 433) (v := 12) dX12_init_431 rfl (by decide) ?_
  obtain ⟨D_69, e_D_69, h⟩ := Ok.let_ h
  refine aw_newa (M := M_X12_init) (n := 435) (t := 1) (N := 12) (ty := .int) (L := 114) (n0 := 89) (shp' := sh_297) (D' := D_69) hG.1 rfl rfl rfl (by decide) aw_int rfl rfl (fun _ _ h => h) (at_z1) (by decide) rfl (by decide) (by decide) (by decide) dX12_init_433 rfl rfl (kc' := 26) (ks' := 1082) rfl rfl e_D_69 ?_
  refine aw_putR (M := M_X12_init) (n := 438) (j := 40) (k := 88) (r := 114) (shp' := sh_298) hG.1 fl_RX12_103 ⟨rfl, fun _ => ⟨rfl, rfl⟩⟩ ⟨_, _, rfl⟩ rfl (fs := [some (some 89), some (some 90), none, some (some 91), some (some 92), some (some 93), some (some 94), some (some 95), some (some 96), some (some 97), some (some 98), some (some 99), some (some 100), some (some 101), some (some 102), some (some 103), some (some 104), some (some 105), none, none, none, none, none, none, none, none, none, none, some (some 106), some (some 107), none, none, none, none, some (some 108), some (some 109), some (some 110), some (some 111), some (some 112), some (some 113), some none, none, none, some none, some none, some none, none, some none, some none, some none, some none, some none, none, some none, some none, none, none, none, none, some none, some none, some none, some none, some none, some none, some none]) (rfl : sh_297[88]? = _) (by decide) rfl dX12_init_435 rfl ?_
  refine aw_aload_n (n := 439) (i := 0) dX12_init_438 rfl rfl rfl ?_
  refine aw_bipush (n := 441) (v := 13) dX12_init_439 rfl (by decide) ?_
  obtain ⟨D_70, e_D_70, h⟩ := Ok.let_ h
  refine aw_newa (M := M_X12_init) (n := 443) (t := 1) (N := 13) (ty := .int) (L := 115) (n0 := 89) (shp' := sh_299) (D' := D_70) hG.1 rfl rfl rfl (by decide) aw_int rfl rfl (fun _ _ h => h) (at_z1) (by decide) rfl (by decide) (by decide) (by decide) dX12_init_441 rfl rfl (kc' := 27) (ks' := 1095) rfl rfl e_D_70 ?_
  refine aw_putR (M := M_X12_init) (n := 446) (j := 43) (k := 88) (r := 115) (shp' := sh_300) hG.1 fl_RX12_106 ⟨rfl, fun _ => ⟨rfl, rfl⟩⟩ ⟨_, _, rfl⟩ rfl (fs := [some (some 89), some (some 90), none, some (some 91), some (some 92), some (some 93), some (some 94), some (some 95), some (some 96), some (some 97), some (some 98), some (some 99), some (some 100), some (some 101), some (some 102), some (some 103), some (some 104), some (some 105), none, none, none, none, none, none, none, none, none, none, some (some 106), some (some 107), none, none, none, none, some (some 108), some (some 109), some (some 110), some (some 111), some (some 112), some (some 113), some (some 114), none, none, some none, some none, some none, none, some none, some none, some none, some none, some none, none, some none, some none, none, none, none, none, some none, some none, some none, some none, some none, some none, some none]) (rfl : sh_299[88]? = _) (by decide) rfl dX12_init_443 rfl ?_
  refine aw_aload_n (n := 447) (i := 0) dX12_init_446 rfl rfl rfl ?_
  refine aw_iconst (n := 448) (v := 5) dX12_init_447 rfl (by decide) ?_
  obtain ⟨D_71, e_D_71, h⟩ := Ok.let_ h
  refine aw_newa (M := M_X12_init) (n := 450) (t := 1) (N := 5) (ty := .int) (L := 116) (n0 := 89) (shp' := sh_301) (D' := D_71) hG.1 rfl rfl rfl (by decide) aw_int rfl rfl (fun _ _ h => h) (at_z1) (by decide) rfl (by decide) (by decide) (by decide) dX12_init_448 rfl rfl (kc' := 28) (ks' := 1100) rfl rfl e_D_71 ?_
  refine aw_putR (M := M_X12_init) (n := 453) (j := 44) (k := 88) (r := 116) (shp' := sh_302) hG.1 fl_RX12_109 ⟨rfl, fun _ => ⟨rfl, rfl⟩⟩ ⟨_, _, rfl⟩ rfl (fs := [some (some 89), some (some 90), none, some (some 91), some (some 92), some (some 93), some (some 94), some (some 95), some (some 96), some (some 97), some (some 98), some (some 99), some (some 100), some (some 101), some (some 102), some (some 103), some (some 104), some (some 105), none, none, none, none, none, none, none, none, none, none, some (some 106), some (some 107), none, none, none, none, some (some 108), some (some 109), some (some 110), some (some 111), some (some 112), some (some 113), some (some 114), none, none, some (some 115), some none, some none, none, some none, some none, some none, some none, some none, none, some none, some none, none, none, none, none, some none, some none, some none, some none, some none, some none, some none]) (rfl : sh_301[88]? = _) (by decide) rfl dX12_init_450 rfl ?_
  refine aw_aload_n (n := 454) (i := 0) dX12_init_453 rfl rfl rfl ?_
  refine aw_iconst (n := 455) (v := 5) dX12_init_454 rfl (by decide) ?_
  obtain ⟨D_72, e_D_72, h⟩ := Ok.let_ h
  refine aw_newa (M := M_X12_init) (n := 457) (t := 1) (N := 5) (ty := .int) (L := 117) (n0 := 89) (shp' := sh_303) (D' := D_72) hG.1 rfl rfl rfl (by decide) aw_int rfl rfl (fun _ _ h => h) (at_z1) (by decide) rfl (by decide) (by decide) (by decide) dX12_init_455 rfl rfl (kc' := 29) (ks' := 1105) rfl rfl e_D_72 ?_
  refine aw_putR (M := M_X12_init) (n := 460) (j := 45) (k := 88) (r := 117) (shp' := sh_304) hG.1 fl_RX12_112 ⟨rfl, fun _ => ⟨rfl, rfl⟩⟩ ⟨_, _, rfl⟩ rfl (fs := [some (some 89), some (some 90), none, some (some 91), some (some 92), some (some 93), some (some 94), some (some 95), some (some 96), some (some 97), some (some 98), some (some 99), some (some 100), some (some 101), some (some 102), some (some 103), some (some 104), some (some 105), none, none, none, none, none, none, none, none, none, none, some (some 106), some (some 107), none, none, none, none, some (some 108), some (some 109), some (some 110), some (some 111), some (some 112), some (some 113), some (some 114), none, none, some (some 115), some (some 116), some none, none, some none, some none, some none, some none, some none, none, some none, some none, none, none, none, none, some none, some none, some none, some none, some none, some none, some none]) (rfl : sh_303[88]? = _) (by decide) rfl dX12_init_457 rfl ?_
  refine aw_aload_n (n := 461) (i := 0) dX12_init_460 rfl rfl rfl ?_
  refine aw_bipush (n := 463) (v := 12) dX12_init_461 rfl (by decide) ?_
  obtain ⟨D_73, e_D_73, h⟩ := Ok.let_ h
  refine aw_newa (M := M_X12_init) (n := 465) (t := 1) (N := 12) (ty := .int) (L := 118) (n0 := 89) (shp' := sh_305) (D' := D_73) hG.1 rfl rfl rfl (by decide) aw_int rfl rfl (fun _ _ h => h) (at_z1) (by decide) rfl (by decide) (by decide) (by decide) dX12_init_463 rfl rfl (kc' := 30) (ks' := 1117) rfl rfl e_D_73 ?_
  refine aw_putR (M := M_X12_init) (n := 468) (j := 47) (k := 88) (r := 118) (shp' := sh_306) hG.1 fl_RX12_115 ⟨rfl, fun _ => ⟨rfl, rfl⟩⟩ ⟨_, _, rfl⟩ rfl (fs := [some (some 89), some (some 90), none, some (some 91), some (some 92), some (some 93), some (some 94), some (some 95), some (some 96), some (some 97), some (some 98), some (some 99), some (some 100), some (some 101), some (some 102), some (some 103), some (some 104), some (some 105), none, none, none, none, none, none, none, none, none, none, some (some 106), some (some 107), none, none, none, none, some (some 108), some (some 109), some (some 110), some (some 111), some (some 112), some (some 113), some (some 114), none, none, some (some 115), some (some 116), some (some 117), none, some none, some none, some none, some none, some none, none, some none, some none, none, none, none, none, some none, some none, some none, some none, some none, some none, some none]) (rfl : sh_305[88]? = _) (by decide) rfl dX12_init_465 rfl ?_
  refine aw_aload_n (n := 469) (i := 0) dX12_init_468 rfl rfl rfl ?_
  refine aw_bipush (n := 471) (v := 12) dX12_init_469 rfl (by decide) ?_
  obtain ⟨D_74, e_D_74, h⟩ := Ok.let_ h
  refine aw_newa (M := M_X12_init) (n := 473) (t := 1) (N := 12) (ty := .int) (L := 119) (n0 := 89) (shp' := sh_307) (D' := D_74) hG.1 rfl rfl rfl (by decide) aw_int rfl rfl (fun _ _ h => h) (at_z1) (by decide) rfl (by decide) (by decide) (by decide) dX12_init_471 rfl rfl (kc' := 31) (ks' := 1129) rfl rfl e_D_74 ?_
  refine aw_putR (M := M_X12_init) (n := 476) (j := 48) (k := 88) (r := 119) (shp' := sh_308) hG.1 fl_RX12_118 ⟨rfl, fun _ => ⟨rfl, rfl⟩⟩ ⟨_, _, rfl⟩ rfl (fs := [some (some 89), some (some 90), none, some (some 91), some (some 92), some (some 93), some (some 94), some (some 95), some (some 96), some (some 97), some (some 98), some (some 99), some (some 100), some (some 101), some (some 102), some (some 103), some (some 104), some (some 105), none, none, none, none, none, none, none, none, none, none, some (some 106), some (some 107), none, none, none, none, some (some 108), some (some 109), some (some 110), some (some 111), some (some 112), some (some 113), some (some 114), none, none, some (some 115), some (some 116), some (some 117), none, some (some 118), some none, some none, some none, some none, none, some none, some none, none, none, none, none, some none, some none, some none, some none, some none, some none, some none]) (rfl : sh_307[88]? = _) (by decide) rfl dX12_init_473 rfl ?_
  refine aw_aload_n (n := 477) (i := 0) dX12_init_476 rfl rfl rfl ?_
  refine aw_bipush (n := 479) (v := 12) dX12_init_477 rfl (by decide) ?_
  obtain ⟨D_75, e_D_75, h⟩ := Ok.let_ h
  refine aw_newa (M := M_X12_init) (n := 481) (t := 1) (N := 12) (ty := .int) (L := 120) (n0 := 89) (shp' := sh_309) (D' := D_75) hG.1 rfl rfl rfl (by decide) aw_int rfl rfl (fun _ _ h => h) (at_z1) (by decide) rfl (by decide) (by decide) (by decide) dX12_init_479 rfl rfl (kc' := 32) (ks' := 1141) rfl rfl e_D_75 ?_
  refine aw_putR (M := M_X12_init) (n := 484) (j := 49) (k := 88) (r := 120) (shp' := sh_310) hG.1 fl_RX12_121 ⟨rfl, fun _ => ⟨rfl, rfl⟩⟩ ⟨_, _, rfl⟩ rfl (fs := [some (some 89), some (some 90), none, some (some 91), some (some 92), some (some 93), some (some 94), some (some 95), some (some 96), some (some 97), some (some 98), some (some 99), some (some 100), some (some 101), some (some 102), some (some 103), some (some 104), some (some 105), none, none, none, none, none, none, none, none, none, none, some (some 106), some (some 107), none, none, none, none, some (some 108), some (some 109), some (some 110), some (some 111), some (some 112), some (some 113), some (some 114), none, none, some (some 115), some (some 116), some (some 117), none, some (some 118), some (some 119), some none, some none, some none, none, some none, some none, none, none, none, none, some none, some none, some none, some none, some none, some none, some none]) (rfl : sh_309[88]? = _) (by decide) rfl dX12_init_481 rfl ?_
  refine aw_aload_n (n := 485) (i := 0) dX12_init_484 rfl rfl rfl ?_
  refine aw_bipush (n := 487) (v := 12) dX12_init_485 rfl (by decide) ?_
  obtain ⟨D_76, e_D_76, h⟩ := Ok.let_ h
  refine aw_newa (M := M_X12_init) (n := 489) (t := 1) (N := 12) (ty := .int) (L := 121) (n0 := 89) (shp' := sh_311) (D' := D_76) hG.1 rfl rfl rfl (by decide) aw_int rfl rfl (fun _ _ h => h) (at_z1) (by decide) rfl (by decide) (by decide) (by decide) dX12_init_487 rfl rfl (kc' := 33) (ks' := 1153) rfl rfl e_D_76 ?_
  refine aw_putR (M := M_X12_init) (n := 492) (j := 50) (k := 88) (r := 121) (shp' := sh_312) hG.1 fl_RX12_124 ⟨rfl, fun _ => ⟨rfl, rfl⟩⟩ ⟨_, _, rfl⟩ rfl (fs := [some (some 89), some (some 90), none, some (some 91), some (some 92), some (some 93), some (some 94), some (some 95), some (some 96), some (some 97), some (some 98), some (some 99), some (some 100), some (some 101), some (some 102), some (some 103), some (some 104), some (some 105), none, none, none, none, none, none, none, none, none, none, some (some 106), some (some 107), none, none, none, none, some (some 108), some (some 109), some (some 110), some (some 111), some (some 112), some (some 113), some (some 114), none, none, some (some 115), some (some 116), some (some 117), none, some (some 118), some (some 119), some (some 120), some none, some none, none, some none, some none, none, none, none, none, some none, some none, some none, some none, some none, some none, some none]) (rfl : sh_311[88]? = _) (by decide) rfl dX12_init_489 rfl ?_
  refine aw_aload_n (n := 493) (i := 0) dX12_init_492 rfl rfl rfl ?_
  refine aw_sipush (n := 496) (v := 1925) dX12_init_493 rfl (by decide) ?_
  obtain ⟨D_77, e_D_77, h⟩ := Ok.let_ h
  refine aw_newa (M := M_X12_init) (n := 498) (t := 1) (N := 1925) (ty := .int) (L := 122) (n0 := 89) (shp' := sh_313) (D' := D_77) hG.1 rfl rfl rfl (by decide) aw_int rfl rfl (fun _ _ h => h) (at_z1) (by decide) rfl (by decide) (by decide) (by decide) dX12_init_496 rfl rfl (kc' := 34) (ks' := 3078) rfl rfl e_D_77 ?_
  refine aw_putR (M := M_X12_init) (n := 501) (j := 51) (k := 88) (r := 122) (shp' := sh_314) hG.1 fl_RX12_127 ⟨rfl, fun _ => ⟨rfl, rfl⟩⟩ ⟨_, _, rfl⟩ rfl (fs := [some (some 89), some (some 90), none, some (some 91), some (some 92), some (some 93), some (some 94), some (some 95), some (some 96), some (some 97), some (some 98), some (some 99), some (some 100), some (some 101), some (some 102), some (some 103), some (some 104), some (some 105), none, none, none, none, none, none, none, none, none, none, some (some 106), some (some 107), none, none, none, none, some (some 108), some (some 109), some (some 110), some (some 111), some (some 112), some (some 113), some (some 114), none, none, some (some 115), some (some 116), some (some 117), none, some (some 118), some (some 119), some (some 120), some (some 121), some none, none, some none, some none, none, none, none, none, some none, some none, some none, some none, some none, some none, some none]) (rfl : sh_313[88]? = _) (by decide) rfl dX12_init_498 rfl ?_
  refine aw_aload_n (n := 502) (i := 0) dX12_init_501 rfl rfl rfl ?_
  refine aw_sipush (n := 505) (v := 11550) dX12_init_502 rfl (by decide) ?_
  obtain ⟨D_78, e_D_78, h⟩ := Ok.let_ h
  refine aw_newa (M := M_X12_init) (n := 507) (t := 1) (N := 11550) (ty := .int) (L := 123) (n0 := 89) (shp' := sh_315) (D' := D_78) hG.1 rfl rfl rfl (by decide) aw_int rfl rfl (fun _ _ h => h) (at_z1) (by decide) rfl (by decide) (by decide) (by decide) dX12_init_505 rfl rfl (kc' := 35) (ks' := 14628) rfl rfl e_D_78 ?_
  refine aw_putR (M := M_X12_init) (n := 510) (j := 53) (k := 88) (r := 123) (shp' := sh_316) hG.1 fl_RX12_130 ⟨rfl, fun _ => ⟨rfl, rfl⟩⟩ ⟨_, _, rfl⟩ rfl (fs := [some (some 89), some (some 90), none, some (some 91), some (some 92), some (some 93), some (some 94), some (some 95), some (some 96), some (some 97), some (some 98), some (some 99), some (some 100), some (some 101), some (some 102), some (some 103), some (some 104), some (some 105), none, none, none, none, none, none, none, none, none, none, some (some 106), some (some 107), none, none, none, none, some (some 108), some (some 109), some (some 110), some (some 111), some (some 112), some (some 113), some (some 114), none, none, some (some 115), some (some 116), some (some 117), none, some (some 118), some (some 119), some (some 120), some (some 121), some (some 122), none, some none, some none, none, none, none, none, some none, some none, some none, some none, some none, some none, some none]) (rfl : sh_315[88]? = _) (by decide) rfl dX12_init_507 rfl ?_
  refine aw_aload_n (n := 511) (i := 0) dX12_init_510 rfl rfl rfl ?_
  refine aw_iconst (n := 512) (v := 5) dX12_init_511 rfl (by decide) ?_
  obtain ⟨D_79, e_D_79, h⟩ := Ok.let_ h
  refine aw_newa (M := M_X12_init) (n := 514) (t := 1) (N := 5) (ty := .int) (L := 124) (n0 := 89) (shp' := sh_317) (D' := D_79) hG.1 rfl rfl rfl (by decide) aw_int rfl rfl (fun _ _ h => h) (at_z1) (by decide) rfl (by decide) (by decide) (by decide) dX12_init_512 rfl rfl (kc' := 36) (ks' := 14633) rfl rfl e_D_79 ?_
  refine aw_putR (M := M_X12_init) (n := 517) (j := 54) (k := 88) (r := 124) (shp' := sh_318) hG.1 fl_RX12_133 ⟨rfl, fun _ => ⟨rfl, rfl⟩⟩ ⟨_, _, rfl⟩ rfl (fs := [some (some 89), some (some 90), none, some (some 91), some (some 92), some (some 93), some (some 94), some (some 95), some (some 96), some (some 97), some (some 98), some (some 99), some (some 100), some (some 101), some (some 102), some (some 103), some (some 104), some (some 105), none, none, none, none, none, none, none, none, none, none, some (some 106), some (some 107), none, none, none, none, some (some 108), some (some 109), some (some 110), some (some 111), some (some 112), some (some 113), some (some 114), none, none, some (some 115), some (some 116), some (some 117), none, some (some 118), some (some 119), some (some 120), some (some 121), some (some 122), none, some (some 123), some none, none, none, none, none, some none, some none, some none, some none, some none, some none, some none]) (rfl : sh_317[88]? = _) (by decide) rfl dX12_init_514 rfl ?_
  refine aw_aload_n (n := 518) (i := 0) dX12_init_517 rfl rfl rfl ?_
  refine aw_bipush (n := 520) (v := 13) dX12_init_518 rfl (by decide) ?_
  obtain ⟨D_80, e_D_80, h⟩ := Ok.let_ h
  refine aw_newa (M := M_X12_init) (n := 522) (t := 1) (N := 13) (ty := .int) (L := 125) (n0 := 89) (shp' := sh_319) (D' := D_80) hG.1 rfl rfl rfl (by decide) aw_int rfl rfl (fun _ _ h => h) (at_z1) (by decide) rfl (by decide) (by decide) (by decide) dX12_init_520 rfl rfl (kc' := 37) (ks' := 14646) rfl rfl e_D_80 ?_
  refine aw_putR (M := M_X12_init) (n := 525) (j := 59) (k := 88) (r := 125) (shp' := sh_320) hG.1 fl_RX12_136 ⟨rfl, fun _ => ⟨rfl, rfl⟩⟩ ⟨_, _, rfl⟩ rfl (fs := [some (some 89), some (some 90), none, some (some 91), some (some 92), some (some 93), some (some 94), some (some 95), some (some 96), some (some 97), some (some 98), some (some 99), some (some 100), some (some 101), some (some 102), some (some 103), some (some 104), some (some 105), none, none, none, none, none, none, none, none, none, none, some (some 106), some (some 107), none, none, none, none, some (some 108), some (some 109), some (some 110), some (some 111), some (some 112), some (some 113), some (some 114), none, none, some (some 115), some (some 116), some (some 117), none, some (some 118), some (some 119), some (some 120), some (some 121), some (some 122), none, some (some 123), some (some 124), none, none, none, none, some none, some none, some none, some none, some none, some none, some none]) (rfl : sh_319[88]? = _) (by decide) rfl dX12_init_522 rfl ?_
  refine aw_aload_n (n := 526) (i := 0) dX12_init_525 rfl rfl rfl ?_
  refine aw_iconst (n := 527) (v := 5) dX12_init_526 rfl (by decide) ?_
  obtain ⟨D_81, e_D_81, h⟩ := Ok.let_ h
  refine aw_newa (M := M_X12_init) (n := 529) (t := 1) (N := 5) (ty := .int) (L := 126) (n0 := 89) (shp' := sh_321) (D' := D_81) hG.1 rfl rfl rfl (by decide) aw_int rfl rfl (fun _ _ h => h) (at_z1) (by decide) rfl (by decide) (by decide) (by decide) dX12_init_527 rfl rfl (kc' := 38) (ks' := 14651) rfl rfl e_D_81 ?_
  refine aw_putR (M := M_X12_init) (n := 532) (j := 60) (k := 88) (r := 126) (shp' := sh_322) hG.1 fl_RX12_139 ⟨rfl, fun _ => ⟨rfl, rfl⟩⟩ ⟨_, _, rfl⟩ rfl (fs := [some (some 89), some (some 90), none, some (some 91), some (some 92), some (some 93), some (some 94), some (some 95), some (some 96), some (some 97), some (some 98), some (some 99), some (some 100), some (some 101), some (some 102), some (some 103), some (some 104), some (some 105), none, none, none, none, none, none, none, none, none, none, some (some 106), some (some 107), none, none, none, none, some (some 108), some (some 109), some (some 110), some (some 111), some (some 112), some (some 113), some (some 114), none, none, some (some 115), some (some 116), some (some 117), none, some (some 118), some (some 119), some (some 120), some (some 121), some (some 122), none, some (some 123), some (some 124), none, none, none, none, some (some 125), some none, some none, some none, some none, some none, some none]) (rfl : sh_321[88]? = _) (by decide) rfl dX12_init_529 rfl ?_
  refine aw_aload_n (n := 533) (i := 0) dX12_init_532 rfl rfl rfl ?_
  refine aw_bipush (n := 535) (v := 12) dX12_init_533 rfl (by decide) ?_
  obtain ⟨D_82, e_D_82, h⟩ := Ok.let_ h
  refine aw_newa (M := M_X12_init) (n := 537) (t := 1) (N := 12) (ty := .int) (L := 127) (n0 := 89) (shp' := sh_323) (D' := D_82) hG.1 rfl rfl rfl (by decide) aw_int rfl rfl (fun _ _ h => h) (at_z1) (by decide) rfl (by decide) (by decide) (by decide) dX12_init_535 rfl rfl (kc' := 39) (ks' := 14663) rfl rfl e_D_82 ?_
  refine aw_putR (M := M_X12_init) (n := 540) (j := 61) (k := 88) (r := 127) (shp' := sh_324) hG.1 fl_RX12_142 ⟨rfl, fun _ => ⟨rfl, rfl⟩⟩ ⟨_, _, rfl⟩ rfl (fs := [some (some 89), some (some 90), none, some (some 91), some (some 92), some (some 93), some (some 94), some (some 95), some (some 96), some (some 97), some (some 98), some (some 99), some (some 100), some (some 101), some (some 102), some (some 103), some (some 104), some (some 105), none, none, none, none, none, none, none, none, none, none, some (some 106), some (some 107), none, none, none, none, some (some 108), some (some 109), some (some 110), some (some 111), some (some 112), some (some 113), some (some 114), none, none, some (some 115), some (some 116), some (some 117), none, some (some 118), some (some 119), some (some 120), some (some 121), some (some 122), none, some (some 123), some (some 124), none, none, none, none, some (some 125), some (some 126), some none, some none, some none, some none, some none]) (rfl : sh_323[88]? = _) (by decide) rfl dX12_init_537 rfl ?_
  refine aw_aload_n (n := 541) (i := 0) dX12_init_540 rfl rfl rfl ?_
  refine aw_bipush (n := 543) (v := 12) dX12_init_541 rfl (by decide) ?_
  obtain ⟨D_83, e_D_83, h⟩ := Ok.let_ h
  refine aw_newa (M := M_X12_init) (n := 545) (t := 1) (N := 12) (ty := .int) (L := 128) (n0 := 89) (shp' := sh_325) (D' := D_83) hG.1 rfl rfl rfl (by decide) aw_int rfl rfl (fun _ _ h => h) (at_z1) (by decide) rfl (by decide) (by decide) (by decide) dX12_init_543 rfl rfl (kc' := 40) (ks' := 14675) rfl rfl e_D_83 ?_
  refine aw_putR (M := M_X12_init) (n := 548) (j := 62) (k := 88) (r := 128) (shp' := sh_326) hG.1 fl_RX12_145 ⟨rfl, fun _ => ⟨rfl, rfl⟩⟩ ⟨_, _, rfl⟩ rfl (fs := [some (some 89), some (some 90), none, some (some 91), some (some 92), some (some 93), some (some 94), some (some 95), some (some 96), some (some 97), some (some 98), some (some 99), some (some 100), some (some 101), some (some 102), some (some 103), some (some 104), some (some 105), none, none, none, none, none, none, none, none, none, none, some (some 106), some (some 107), none, none, none, none, some (some 108), some (some 109), some (some 110), some (some 111), some (some 112), some (some 113), some (some 114), none, none, some (some 115), some (some 116), some (some 117), none, some (some 118), some (some 119), some (some 120), some (some 121), some (some 122), none, some (some 123), some (some 124), none, none, none, none, some (some 125), some (some 126), some (some 127), some none, some none, some none, some none]) (rfl : sh_325[88]? = _) (by decide) rfl dX12_init_545 rfl ?_
  refine aw_aload_n (n := 549) (i := 0) dX12_init_548 rfl rfl rfl ?_
  refine aw_bipush (n := 551) (v := 12) dX12_init_549 rfl (by decide) ?_
  obtain ⟨D_84, e_D_84, h⟩ := Ok.let_ h
  refine aw_newa (M := M_X12_init) (n := 553) (t := 1) (N := 12) (ty := .int) (L := 129) (n0 := 89) (shp' := sh_327) (D' := D_84) hG.1 rfl rfl rfl (by decide) aw_int rfl rfl (fun _ _ h => h) (at_z1) (by decide) rfl (by decide) (by decide) (by decide) dX12_init_551 rfl rfl (kc' := 41) (ks' := 14687) rfl rfl e_D_84 ?_
  refine aw_putR (M := M_X12_init) (n := 556) (j := 63) (k := 88) (r := 129) (shp' := sh_328) hG.1 fl_RX12_148 ⟨rfl, fun _ => ⟨rfl, rfl⟩⟩ ⟨_, _, rfl⟩ rfl (fs := [some (some 89), some (some 90), none, some (some 91), some (some 92), some (some 93), some (some 94), some (some 95), some (some 96), some (some 97), some (some 98), some (some 99), some (some 100), some (some 101), some (some 102), some (some 103), some (some 104), some (some 105), none, none, none, none, none, none, none, none, none, none, some (some 106), some (some 107), none, none, none, none, some (some 108), some (some 109), some (some 110), some (some 111), some (some 112), some (some 113), some (some 114), none, none, some (some 115), some (some 116), some (some 117), none, some (some 118), some (some 119), some (some 120), some (some 121), some (some 122), none, some (some 123), some (some 124), none, none, none, none, some (some 125), some (some 126), some (some 127), some (some 128), some none, some none, some none]) (rfl : sh_327[88]? = _) (by decide) rfl dX12_init_553 rfl ?_
  refine aw_aload_n (n := 557) (i := 0) dX12_init_556 rfl rfl rfl ?_
  refine aw_bipush (n := 559) (v := 12) dX12_init_557 rfl (by decide) ?_
  obtain ⟨D_85, e_D_85, h⟩ := Ok.let_ h
  refine aw_newa (M := M_X12_init) (n := 561) (t := 1) (N := 12) (ty := .int) (L := 130) (n0 := 89) (shp' := sh_329) (D' := D_85) hG.1 rfl rfl rfl (by decide) aw_int rfl rfl (fun _ _ h => h) (at_z1) (by decide) rfl (by decide) (by decide) (by decide) dX12_init_559 rfl rfl (kc' := 42) (ks' := 14699) rfl rfl e_D_85 ?_
  refine aw_putR (M := M_X12_init) (n := 564) (j := 64) (k := 88) (r := 130) (shp' := sh_330) hG.1 fl_RX12_151 ⟨rfl, fun _ => ⟨rfl, rfl⟩⟩ ⟨_, _, rfl⟩ rfl (fs := [some (some 89), some (some 90), none, some (some 91), some (some 92), some (some 93), some (some 94), some (some 95), some (some 96), some (some 97), some (some 98), some (some 99), some (some 100), some (some 101), some (some 102), some (some 103), some (some 104), some (some 105), none, none, none, none, none, none, none, none, none, none, some (some 106), some (some 107), none, none, none, none, some (some 108), some (some 109), some (some 110), some (some 111), some (some 112), some (some 113), some (some 114), none, none, some (some 115), some (some 116), some (some 117), none, some (some 118), some (some 119), some (some 120), some (some 121), some (some 122), none, some (some 123), some (some 124), none, none, none, none, some (some 125), some (some 126), some (some 127), some (some 128), some (some 129), some none, some none]) (rfl : sh_329[88]? = _) (by decide) rfl dX12_init_561 rfl ?_
  refine aw_aload_n (n := 565) (i := 0) dX12_init_564 rfl rfl rfl ?_
  refine aw_iconst (n := 566) (v := 3) dX12_init_565 rfl (by decide) ?_
  obtain ⟨D_86, e_D_86, h⟩ := Ok.let_ h
  refine aw_newa (M := M_X12_init) (n := 568) (t := 1) (N := 3) (ty := .int) (L := 131) (n0 := 89) (shp' := sh_331) (D' := D_86) hG.1 rfl rfl rfl (by decide) aw_int rfl rfl (fun _ _ h => h) (at_z1) (by decide) rfl (by decide) (by decide) (by decide) dX12_init_566 rfl rfl (kc' := 43) (ks' := 14702) rfl rfl e_D_86 ?_
  refine aw_putR (M := M_X12_init) (n := 571) (j := 65) (k := 88) (r := 131) (shp' := sh_332) hG.1 fl_RX12_154 ⟨rfl, fun _ => ⟨rfl, rfl⟩⟩ ⟨_, _, rfl⟩ rfl (fs := [some (some 89), some (some 90), none, some (some 91), some (some 92), some (some 93), some (some 94), some (some 95), some (some 96), some (some 97), some (some 98), some (some 99), some (some 100), some (some 101), some (some 102), some (some 103), some (some 104), some (some 105), none, none, none, none, none, none, none, none, none, none, some (some 106), some (some 107), none, none, none, none, some (some 108), some (some 109), some (some 110), some (some 111), some (some 112), some (some 113), some (some 114), none, none, some (some 115), some (some 116), some (some 117), none, some (some 118), some (some 119), some (some 120), some (some 121), some (some 122), none, some (some 123), some (some 124), none, none, none, none, some (some 125), some (some 126), some (some 127), some (some 128), some (some 129), some (some 130), some none]) (rfl : sh_331[88]? = _) (by decide) rfl dX12_init_568 rfl ?_
  exact aw_vret rfl (by decide) (by decide) dX12_init_571 ⟨rfl, (rfl : sh_332 = sh_333), (Ok.dn h :)⟩
