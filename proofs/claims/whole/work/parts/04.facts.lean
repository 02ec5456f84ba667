/-! WHAT THE TABLES SAY, decided -/
def fd_jname (kd : Nat) : MethodName := if kd = 6 then objectInit else if kd = 7 then Lib.Math.min.name else if kd = 8 then Lib.Math.max.name else if kd = 9 then Lib.Math.abs.name else if kd = 10 then arraycopyName else if kd = 11 then yJ0_length_8abf5 else yJ0_charAt_5068e
def fd_lword (c : Nat) (q : Nat × Nat × Nat × Nat × Nat) : Cond := if q.2.1 < 3 then .methodLink (fd_cn c) q.1 (fd_name q.2.2.1) else if q.2.1 < 6 then .methodLinkNest (fd_cn c) q.1 (fd_name q.2.2.1) RX9 else .methodLink (fd_cn c) q.1 (fd_jname q.2.1)
def fd_Pcode (m : Nat) : Prop := lw_tbl[fd_wcode.getD m 0]? = some (.code (fd_name m) (fd_code m) (fd_ml m) (fd_ret m))
set_option maxRecDepth 100000 in
theorem fd_pc_0 : fd_Pcode 0 := by rfl
set_option maxRecDepth 100000 in
theorem fd_pc_1 : fd_Pcode 1 := by rfl
set_option maxRecDepth 100000 in
theorem fd_pc_2 : fd_Pcode 2 := by rfl
set_option maxRecDepth 100000 in
theorem fd_pc_3 : fd_Pcode 3 := by rfl
set_option maxRecDepth 100000 in
theorem fd_pc_4 : fd_Pcode 4 := by rfl
set_option maxRecDepth 100000 in
theorem fd_pc_5 : fd_Pcode 5 := by rfl
set_option maxRecDepth 100000 in
theorem fd_pc_6 : fd_Pcode 6 := by rfl
set_option maxRecDepth 100000 in
theorem fd_pc_7 : fd_Pcode 7 := by rfl
set_option maxRecDepth 100000 in
theorem fd_pc_8 : fd_Pcode 8 := by rfl
set_option maxRecDepth 100000 in
theorem fd_pc_9 : fd_Pcode 9 := by rfl
set_option maxRecDepth 100000 in
theorem fd_pc_10 : fd_Pcode 10 := by rfl
set_option maxRecDepth 100000 in
theorem fd_pc_11 : fd_Pcode 11 := by rfl
set_option maxRecDepth 100000 in
theorem fd_pc_12 : fd_Pcode 12 := by rfl
set_option maxRecDepth 100000 in
theorem fd_pc_13 : fd_Pcode 13 := by rfl
set_option maxRecDepth 100000 in
theorem fd_pc_14 : fd_Pcode 14 := by rfl
set_option maxRecDepth 100000 in
theorem fd_pc_15 : fd_Pcode 15 := by rfl
set_option maxRecDepth 100000 in
theorem fd_pc_16 : fd_Pcode 16 := by rfl
set_option maxRecDepth 100000 in
theorem fd_pc_17 : fd_Pcode 17 := by rfl
set_option maxRecDepth 100000 in
theorem fd_pc_18 : fd_Pcode 18 := by rfl
set_option maxRecDepth 100000 in
theorem fd_pc_19 : fd_Pcode 19 := by rfl
set_option maxRecDepth 100000 in
theorem fd_pc_20 : fd_Pcode 20 := by rfl
set_option maxRecDepth 100000 in
theorem fd_pc_21 : fd_Pcode 21 := by rfl
set_option maxRecDepth 100000 in
theorem fd_pc_22 : fd_Pcode 22 := by rfl
set_option maxRecDepth 100000 in
theorem fd_pc_23 : fd_Pcode 23 := by rfl
set_option maxRecDepth 100000 in
theorem fd_pc_24 : fd_Pcode 24 := by rfl
set_option maxRecDepth 100000 in
theorem fd_pc_25 : fd_Pcode 25 := by rfl
set_option maxRecDepth 100000 in
theorem fd_pc_26 : fd_Pcode 26 := by rfl
set_option maxRecDepth 100000 in
theorem fd_pc_27 : fd_Pcode 27 := by rfl
set_option maxRecDepth 100000 in
theorem fd_pc_28 : fd_Pcode 28 := by rfl
set_option maxRecDepth 100000 in
theorem fd_pc_29 : fd_Pcode 29 := by rfl
set_option maxRecDepth 100000 in
theorem fd_pc_30 : fd_Pcode 30 := by rfl
set_option maxRecDepth 100000 in
theorem fd_pc_31 : fd_Pcode 31 := by rfl
set_option maxRecDepth 100000 in
theorem fd_pc_32 : fd_Pcode 32 := by rfl
set_option maxRecDepth 100000 in
theorem fd_pc_33 : fd_Pcode 33 := by rfl
set_option maxRecDepth 100000 in
theorem fd_pc_34 : fd_Pcode 34 := by rfl
set_option maxRecDepth 100000 in
theorem fd_pc_35 : fd_Pcode 35 := by rfl
set_option maxRecDepth 100000 in
theorem fd_pc_36 : fd_Pcode 36 := by rfl
set_option maxRecDepth 100000 in
theorem fd_pc_37 : fd_Pcode 37 := by rfl
set_option maxRecDepth 100000 in
theorem fd_pc_38 : fd_Pcode 38 := by rfl
set_option maxRecDepth 100000 in
theorem fd_pc_39 : fd_Pcode 39 := by rfl
set_option maxRecDepth 100000 in
theorem fd_pc_40 : fd_Pcode 40 := by rfl
set_option maxRecDepth 100000 in
theorem fd_pc_41 : fd_Pcode 41 := by rfl
set_option maxRecDepth 100000 in
theorem fd_pc_42 : fd_Pcode 42 := by rfl
set_option maxRecDepth 100000 in
theorem fd_pc_43 : fd_Pcode 43 := by rfl
set_option maxRecDepth 100000 in
theorem fd_pc_44 : fd_Pcode 44 := by rfl
set_option maxRecDepth 100000 in
theorem fd_pc_45 : fd_Pcode 45 := by rfl
set_option maxRecDepth 100000 in
theorem fd_pc_46 : fd_Pcode 46 := by rfl
set_option maxRecDepth 100000 in
theorem fd_pc_47 : fd_Pcode 47 := by rfl
set_option maxRecDepth 100000 in
theorem fd_pc_48 : fd_Pcode 48 := by rfl
set_option maxRecDepth 100000 in
theorem fd_pc_49 : fd_Pcode 49 := by rfl
set_option maxRecDepth 100000 in
theorem fd_pc_50 : fd_Pcode 50 := by rfl
set_option maxRecDepth 100000 in
theorem fd_pc_51 : fd_Pcode 51 := by rfl
set_option maxRecDepth 100000 in
theorem fd_pc_52 : fd_Pcode 52 := by rfl
set_option maxRecDepth 100000 in
theorem fd_pc_53 : fd_Pcode 53 := by rfl
set_option maxRecDepth 100000 in
theorem fd_pc_54 : fd_Pcode 54 := by rfl
set_option maxRecDepth 100000 in
theorem fd_pc_55 : fd_Pcode 55 := by rfl
set_option maxRecDepth 100000 in
theorem fd_pc_56 : fd_Pcode 56 := by rfl
set_option maxRecDepth 100000 in
theorem fd_pc_57 : fd_Pcode 57 := by rfl
set_option maxRecDepth 100000 in
theorem fd_pc_58 : fd_Pcode 58 := by rfl
set_option maxRecDepth 100000 in
theorem fd_pc_59 : fd_Pcode 59 := by rfl
set_option maxRecDepth 100000 in
theorem fd_pc_60 : fd_Pcode 60 := by rfl
set_option maxRecDepth 100000 in
theorem fd_pc_61 : fd_Pcode 61 := by rfl
set_option maxRecDepth 100000 in
theorem fd_pc_62 : fd_Pcode 62 := by rfl
set_option maxRecDepth 100000 in
theorem fd_pc_63 : fd_Pcode 63 := by rfl
set_option maxRecDepth 100000 in
theorem fd_pc_64 : fd_Pcode 64 := by rfl
set_option maxRecDepth 100000 in
theorem fd_pc_65 : fd_Pcode 65 := by rfl
set_option maxRecDepth 100000 in
theorem fd_pc_66 : fd_Pcode 66 := by rfl
set_option maxRecDepth 100000 in
theorem fd_pc_67 : fd_Pcode 67 := by rfl
set_option maxRecDepth 100000 in
theorem fd_pc_68 : fd_Pcode 68 := by rfl
set_option maxRecDepth 100000 in
theorem fd_pc_69 : fd_Pcode 69 := by rfl
set_option maxRecDepth 100000 in
theorem fd_pc_70 : fd_Pcode 70 := by rfl
set_option maxRecDepth 100000 in
theorem fd_pc_71 : fd_Pcode 71 := by rfl
set_option maxRecDepth 100000 in
theorem fd_pc_72 : fd_Pcode 72 := by rfl
set_option maxRecDepth 100000 in
theorem fd_pc_73 : fd_Pcode 73 := by rfl
set_option maxRecDepth 100000 in
theorem fd_pc_74 : fd_Pcode 74 := by rfl
set_option maxRecDepth 100000 in
theorem fd_pc_75 : fd_Pcode 75 := by rfl
set_option maxRecDepth 100000 in
theorem fd_pc_76 : fd_Pcode 76 := by rfl
set_option maxRecDepth 100000 in
theorem fd_pc_77 : fd_Pcode 77 := by rfl
set_option maxRecDepth 100000 in
theorem fd_pc_78 : fd_Pcode 78 := by rfl
set_option maxRecDepth 100000 in
theorem fd_pc_79 : fd_Pcode 79 := by rfl
set_option maxRecDepth 100000 in
theorem fd_pc_80 : fd_Pcode 80 := by rfl
set_option maxRecDepth 100000 in
theorem fd_pc_81 : fd_Pcode 81 := by rfl
set_option maxRecDepth 100000 in
theorem fd_pc_82 : fd_Pcode 82 := by rfl
set_option maxRecDepth 100000 in
theorem fd_pc_83 : fd_Pcode 83 := by rfl
set_option maxRecDepth 100000 in
theorem fd_pc_84 : fd_Pcode 84 := by rfl
set_option maxRecDepth 100000 in
theorem fd_pc_85 : fd_Pcode 85 := by rfl
set_option maxRecDepth 100000 in
theorem fd_pc_86 : fd_Pcode 86 := by rfl
set_option maxRecDepth 100000 in
theorem fd_pc_87 : fd_Pcode 87 := by rfl
set_option maxRecDepth 100000 in
theorem fd_pc_88 : fd_Pcode 88 := by rfl
set_option maxRecDepth 100000 in
theorem fd_pc_89 : fd_Pcode 89 := by rfl
set_option maxRecDepth 100000 in
theorem fd_pc_90 : fd_Pcode 90 := by rfl
set_option maxRecDepth 100000 in
theorem fd_pc_91 : fd_Pcode 91 := by rfl
set_option maxRecDepth 100000 in
theorem fd_pc_92 : fd_Pcode 92 := by rfl
set_option maxRecDepth 100000 in
theorem fd_pc_93 : fd_Pcode 93 := by rfl
set_option maxRecDepth 100000 in
theorem fd_pc_94 : fd_Pcode 94 := by rfl
set_option maxRecDepth 100000 in
theorem fd_pc_95 : fd_Pcode 95 := by rfl
set_option maxRecDepth 100000 in
theorem fd_pc_96 : fd_Pcode 96 := by rfl
set_option maxRecDepth 100000 in
theorem fd_pc_97 : fd_Pcode 97 := by rfl
set_option maxRecDepth 100000 in
theorem fd_pc_98 : fd_Pcode 98 := by rfl
set_option maxRecDepth 100000 in
theorem fd_pc_99 : fd_Pcode 99 := by rfl
set_option maxRecDepth 100000 in
theorem fd_pc_100 : fd_Pcode 100 := by rfl
set_option maxRecDepth 100000 in
theorem fd_pc_101 : fd_Pcode 101 := by rfl
set_option maxRecDepth 100000 in
theorem fd_pc_102 : fd_Pcode 102 := by rfl
set_option maxRecDepth 100000 in
theorem fd_pc_103 : fd_Pcode 103 := by rfl
set_option maxRecDepth 100000 in
theorem fd_pc_104 : fd_Pcode 104 := by rfl
set_option maxRecDepth 100000 in
theorem fd_pc_105 : fd_Pcode 105 := by rfl
set_option maxRecDepth 100000 in
theorem fd_pc_106 : fd_Pcode 106 := by rfl
set_option maxRecDepth 100000 in
theorem fd_pc_107 : fd_Pcode 107 := by rfl
set_option maxRecDepth 100000 in
theorem fd_pc_108 : fd_Pcode 108 := by rfl
set_option maxRecDepth 100000 in
theorem fd_pc_109 : fd_Pcode 109 := by rfl
set_option maxRecDepth 100000 in
theorem fd_pc_110 : fd_Pcode 110 := by rfl
set_option maxRecDepth 100000 in
theorem fd_pc_111 : fd_Pcode 111 := by rfl
set_option maxRecDepth 100000 in
theorem fd_pc_112 : fd_Pcode 112 := by rfl
set_option maxRecDepth 100000 in
theorem fd_pc_113 : fd_Pcode 113 := by rfl
set_option maxRecDepth 100000 in
theorem fd_pc_114 : fd_Pcode 114 := by rfl
set_option maxRecDepth 100000 in
theorem fd_pc_115 : fd_Pcode 115 := by rfl
set_option maxRecDepth 100000 in
theorem fd_pc_116 : fd_Pcode 116 := by rfl
set_option maxRecDepth 100000 in
theorem fd_pc_117 : fd_Pcode 117 := by rfl
set_option maxRecDepth 100000 in
theorem fd_pc_118 : fd_Pcode 118 := by rfl
set_option maxRecDepth 100000 in
theorem fd_pc_119 : fd_Pcode 119 := by rfl
set_option maxRecDepth 100000 in
theorem fd_pc_120 : fd_Pcode 120 := by rfl
set_option maxRecDepth 100000 in
theorem fd_pc_121 : fd_Pcode 121 := by rfl
set_option maxRecDepth 100000 in
theorem fd_pc_122 : fd_Pcode 122 := by rfl
set_option maxRecDepth 100000 in
theorem fd_pc_123 : fd_Pcode 123 := by rfl
set_option maxRecDepth 100000 in
theorem fd_pc_124 : fd_Pcode 124 := by rfl
set_option maxRecDepth 100000 in
theorem fd_pc_125 : fd_Pcode 125 := by rfl
set_option maxRecDepth 100000 in
theorem fd_pc_126 : fd_Pcode 126 := by rfl
set_option maxRecDepth 100000 in
theorem fd_pc_127 : fd_Pcode 127 := by rfl
set_option maxRecDepth 100000 in
theorem fd_pc_128 : fd_Pcode 128 := by rfl
set_option maxRecDepth 100000 in
theorem fd_pc_129 : fd_Pcode 129 := by rfl
set_option maxRecDepth 100000 in
theorem fd_pc_130 : fd_Pcode 130 := by rfl
set_option maxRecDepth 100000 in
theorem fd_pc_131 : fd_Pcode 131 := by rfl
set_option maxRecDepth 100000 in
theorem fd_pc_132 : fd_Pcode 132 := by rfl
set_option maxRecDepth 100000 in
theorem fd_pc_133 : fd_Pcode 133 := by rfl
set_option maxRecDepth 100000 in
theorem fd_pc_134 : fd_Pcode 134 := by rfl
set_option maxRecDepth 100000 in
theorem fd_pc_135 : fd_Pcode 135 := by rfl
set_option maxRecDepth 100000 in
theorem fd_pc_136 : fd_Pcode 136 := by rfl
set_option maxRecDepth 100000 in
theorem fd_pc_137 : fd_Pcode 137 := by rfl
set_option maxRecDepth 100000 in
theorem fd_pc_138 : fd_Pcode 138 := by rfl
set_option maxRecDepth 100000 in
theorem fd_pc_139 : fd_Pcode 139 := by rfl
set_option maxRecDepth 100000 in
theorem fd_pc_140 : fd_Pcode 140 := by rfl
set_option maxRecDepth 100000 in
theorem fd_pc_141 : fd_Pcode 141 := by rfl
set_option maxRecDepth 100000 in
theorem fd_pc_142 : fd_Pcode 142 := by rfl
set_option maxRecDepth 100000 in
theorem fd_pc_143 : fd_Pcode 143 := by rfl
set_option maxRecDepth 100000 in
theorem fd_pc_144 : fd_Pcode 144 := by rfl
set_option maxRecDepth 100000 in
theorem fd_pc_145 : fd_Pcode 145 := by rfl
set_option maxRecDepth 100000 in
theorem fd_pc_146 : fd_Pcode 146 := by rfl
set_option maxRecDepth 100000 in
theorem fd_pc_147 : fd_Pcode 147 := by rfl
set_option maxRecDepth 100000 in
theorem fd_pc_148 : fd_Pcode 148 := by rfl
set_option maxRecDepth 100000 in
theorem fd_pc_149 : fd_Pcode 149 := by rfl
set_option maxRecDepth 100000 in
theorem fd_pc_150 : fd_Pcode 150 := by rfl
set_option maxRecDepth 100000 in
theorem fd_pc_151 : fd_Pcode 151 := by rfl
set_option maxRecDepth 100000 in
theorem fd_pc_152 : fd_Pcode 152 := by rfl
set_option maxRecDepth 100000 in
theorem fd_pc_153 : fd_Pcode 153 := by rfl
set_option maxRecDepth 100000 in
theorem fd_pc_154 : fd_Pcode 154 := by rfl
set_option maxRecDepth 100000 in
theorem fd_pc_155 : fd_Pcode 155 := by rfl
set_option maxRecDepth 100000 in
theorem fd_pc_156 : fd_Pcode 156 := by rfl
set_option maxRecDepth 100000 in
theorem fd_pc_157 : fd_Pcode 157 := by rfl
set_option maxRecDepth 100000 in
theorem fd_pc_158 : fd_Pcode 158 := by rfl
set_option maxRecDepth 100000 in
theorem fd_pc_159 : fd_Pcode 159 := by rfl
set_option maxRecDepth 100000 in
theorem fd_pc_160 : fd_Pcode 160 := by rfl
set_option maxRecDepth 100000 in
theorem fd_pc_161 : fd_Pcode 161 := by rfl
set_option maxRecDepth 100000 in
theorem fd_pc_162 : fd_Pcode 162 := by rfl
set_option maxRecDepth 100000 in
theorem fd_pc_163 : fd_Pcode 163 := by rfl
set_option maxRecDepth 100000 in
theorem fd_pc_164 : fd_Pcode 164 := by rfl
set_option maxRecDepth 100000 in
theorem fd_pc_165 : fd_Pcode 165 := by rfl
set_option maxRecDepth 100000 in
theorem fd_pc_166 : fd_Pcode 166 := by rfl
set_option maxRecDepth 100000 in
theorem fd_pc_167 : fd_Pcode 167 := by rfl
set_option maxRecDepth 100000 in
theorem fd_pc_168 : fd_Pcode 168 := by rfl
set_option maxRecDepth 100000 in
theorem fd_pc_169 : fd_Pcode 169 := by rfl
set_option maxRecDepth 100000 in
theorem fd_pc_170 : fd_Pcode 170 := by rfl
set_option maxRecDepth 100000 in
theorem fd_pc_171 : fd_Pcode 171 := by rfl
set_option maxRecDepth 100000 in
theorem fd_pc_172 : fd_Pcode 172 := by rfl
set_option maxRecDepth 100000 in
theorem fd_pc_173 : fd_Pcode 173 := by rfl
set_option maxRecDepth 100000 in
theorem fd_pc_174 : fd_Pcode 174 := by rfl
set_option maxRecDepth 100000 in
theorem fd_pc_175 : fd_Pcode 175 := by rfl
set_option maxRecDepth 100000 in
theorem fd_pc_176 : fd_Pcode 176 := by rfl
set_option maxRecDepth 100000 in
theorem fd_pc_177 : fd_Pcode 177 := by rfl
set_option maxRecDepth 100000 in
theorem fd_pc_178 : fd_Pcode 178 := by rfl
set_option maxRecDepth 100000 in
theorem fd_pc_179 : fd_Pcode 179 := by rfl
set_option maxRecDepth 100000 in
theorem fd_pc_180 : fd_Pcode 180 := by rfl
set_option maxRecDepth 100000 in
theorem fd_pc_181 : fd_Pcode 181 := by rfl
set_option maxRecDepth 100000 in
theorem fd_pc_182 : fd_Pcode 182 := by rfl
set_option maxRecDepth 100000 in
theorem fd_pc_183 : fd_Pcode 183 := by rfl
set_option maxRecDepth 100000 in
theorem fd_pc_184 : fd_Pcode 184 := by rfl
set_option maxRecDepth 100000 in
theorem fd_pc_185 : fd_Pcode 185 := by rfl
set_option maxRecDepth 100000 in
theorem fd_pc_186 : fd_Pcode 186 := by rfl
set_option maxRecDepth 100000 in
theorem fd_pc_187 : fd_Pcode 187 := by rfl
set_option maxRecDepth 100000 in
theorem fd_pc_188 : fd_Pcode 188 := by rfl
set_option maxRecDepth 100000 in
theorem fd_pc_189 : fd_Pcode 189 := by rfl
set_option maxRecDepth 100000 in
theorem fd_pc_190 : fd_Pcode 190 := by rfl
set_option maxRecDepth 100000 in
theorem fd_pc_191 : fd_Pcode 191 := by rfl
set_option maxRecDepth 100000 in
theorem fd_pc_192 : fd_Pcode 192 := by rfl
set_option maxRecDepth 100000 in
theorem fd_pc_193 : fd_Pcode 193 := by rfl
set_option maxRecDepth 100000 in
theorem fd_pc_194 : fd_Pcode 194 := by rfl
set_option maxRecDepth 100000 in
theorem fd_pc_195 : fd_Pcode 195 := by rfl
set_option maxRecDepth 100000 in
theorem fd_pc_196 : fd_Pcode 196 := by rfl
set_option maxRecDepth 100000 in
theorem fd_pc_197 : fd_Pcode 197 := by rfl
set_option maxRecDepth 100000 in
theorem fd_pc_198 : fd_Pcode 198 := by rfl
set_option maxRecDepth 100000 in
theorem fd_pc_199 : fd_Pcode 199 := by rfl
set_option maxRecDepth 100000 in
theorem fd_pc_200 : fd_Pcode 200 := by rfl
theorem fd_pcs_20 : ∀ a, a < 20 → fd_Pcode a := (lt_s (lt_s (lt_s (lt_s (lt_s (lt_s (lt_s (lt_s (lt_s (lt_s (lt_s (lt_s (lt_s (lt_s (lt_s (lt_s (lt_s (lt_s (lt_s (lt_s (lt_0 (p := fd_Pcode)) fd_pc_0) fd_pc_1) fd_pc_2) fd_pc_3) fd_pc_4) fd_pc_5) fd_pc_6) fd_pc_7) fd_pc_8) fd_pc_9) fd_pc_10) fd_pc_11) fd_pc_12) fd_pc_13) fd_pc_14) fd_pc_15) fd_pc_16) fd_pc_17) fd_pc_18) fd_pc_19)
theorem fd_pcs_40 : ∀ a, a < 40 → fd_Pcode a := (lt_s (lt_s (lt_s (lt_s (lt_s (lt_s (lt_s (lt_s (lt_s (lt_s (lt_s (lt_s (lt_s (lt_s (lt_s (lt_s (lt_s (lt_s (lt_s (lt_s fd_pcs_20 fd_pc_20) fd_pc_21) fd_pc_22) fd_pc_23) fd_pc_24) fd_pc_25) fd_pc_26) fd_pc_27) fd_pc_28) fd_pc_29) fd_pc_30) fd_pc_31) fd_pc_32) fd_pc_33) fd_pc_34) fd_pc_35) fd_pc_36) fd_pc_37) fd_pc_38) fd_pc_39)
theorem fd_pcs_60 : ∀ a, a < 60 → fd_Pcode a := (lt_s (lt_s (lt_s (lt_s (lt_s (lt_s (lt_s (lt_s (lt_s (lt_s (lt_s (lt_s (lt_s (lt_s (lt_s (lt_s (lt_s (lt_s (lt_s (lt_s fd_pcs_40 fd_pc_40) fd_pc_41) fd_pc_42) fd_pc_43) fd_pc_44) fd_pc_45) fd_pc_46) fd_pc_47) fd_pc_48) fd_pc_49) fd_pc_50) fd_pc_51) fd_pc_52) fd_pc_53) fd_pc_54) fd_pc_55) fd_pc_56) fd_pc_57) fd_pc_58) fd_pc_59)
theorem fd_pcs_80 : ∀ a, a < 80 → fd_Pcode a := (lt_s (lt_s (lt_s (lt_s (lt_s (lt_s (lt_s (lt_s (lt_s (lt_s (lt_s (lt_s (lt_s (lt_s (lt_s (lt_s (lt_s (lt_s (lt_s (lt_s fd_pcs_60 fd_pc_60) fd_pc_61) fd_pc_62) fd_pc_63) fd_pc_64) fd_pc_65) fd_pc_66) fd_pc_67) fd_pc_68) fd_pc_69) fd_pc_70) fd_pc_71) fd_pc_72) fd_pc_73) fd_pc_74) fd_pc_75) fd_pc_76) fd_pc_77) fd_pc_78) fd_pc_79)
theorem fd_pcs_100 : ∀ a, a < 100 → fd_Pcode a := (lt_s (lt_s (lt_s (lt_s (lt_s (lt_s (lt_s (lt_s (lt_s (lt_s (lt_s (lt_s (lt_s (lt_s (lt_s (lt_s (lt_s (lt_s (lt_s (lt_s fd_pcs_80 fd_pc_80) fd_pc_81) fd_pc_82) fd_pc_83) fd_pc_84) fd_pc_85) fd_pc_86) fd_pc_87) fd_pc_88) fd_pc_89) fd_pc_90) fd_pc_91) fd_pc_92) fd_pc_93) fd_pc_94) fd_pc_95) fd_pc_96) fd_pc_97) fd_pc_98) fd_pc_99)
theorem fd_pcs_120 : ∀ a, a < 120 → fd_Pcode a := (lt_s (lt_s (lt_s (lt_s (lt_s (lt_s (lt_s (lt_s (lt_s (lt_s (lt_s (lt_s (lt_s (lt_s (lt_s (lt_s (lt_s (lt_s (lt_s (lt_s fd_pcs_100 fd_pc_100) fd_pc_101) fd_pc_102) fd_pc_103) fd_pc_104) fd_pc_105) fd_pc_106) fd_pc_107) fd_pc_108) fd_pc_109) fd_pc_110) fd_pc_111) fd_pc_112) fd_pc_113) fd_pc_114) fd_pc_115) fd_pc_116) fd_pc_117) fd_pc_118) fd_pc_119)
theorem fd_pcs_140 : ∀ a, a < 140 → fd_Pcode a := (lt_s (lt_s (lt_s (lt_s (lt_s (lt_s (lt_s (lt_s (lt_s (lt_s (lt_s (lt_s (lt_s (lt_s (lt_s (lt_s (lt_s (lt_s (lt_s (lt_s fd_pcs_120 fd_pc_120) fd_pc_121) fd_pc_122) fd_pc_123) fd_pc_124) fd_pc_125) fd_pc_126) fd_pc_127) fd_pc_128) fd_pc_129) fd_pc_130) fd_pc_131) fd_pc_132) fd_pc_133) fd_pc_134) fd_pc_135) fd_pc_136) fd_pc_137) fd_pc_138) fd_pc_139)
theorem fd_pcs_160 : ∀ a, a < 160 → fd_Pcode a := (lt_s (lt_s (lt_s (lt_s (lt_s (lt_s (lt_s (lt_s (lt_s (lt_s (lt_s (lt_s (lt_s (lt_s (lt_s (lt_s (lt_s (lt_s (lt_s (lt_s fd_pcs_140 fd_pc_140) fd_pc_141) fd_pc_142) fd_pc_143) fd_pc_144) fd_pc_145) fd_pc_146) fd_pc_147) fd_pc_148) fd_pc_149) fd_pc_150) fd_pc_151) fd_pc_152) fd_pc_153) fd_pc_154) fd_pc_155) fd_pc_156) fd_pc_157) fd_pc_158) fd_pc_159)
theorem fd_pcs_180 : ∀ a, a < 180 → fd_Pcode a := (lt_s (lt_s (lt_s (lt_s (lt_s (lt_s (lt_s (lt_s (lt_s (lt_s (lt_s (lt_s (lt_s (lt_s (lt_s (lt_s (lt_s (lt_s (lt_s (lt_s fd_pcs_160 fd_pc_160) fd_pc_161) fd_pc_162) fd_pc_163) fd_pc_164) fd_pc_165) fd_pc_166) fd_pc_167) fd_pc_168) fd_pc_169) fd_pc_170) fd_pc_171) fd_pc_172) fd_pc_173) fd_pc_174) fd_pc_175) fd_pc_176) fd_pc_177) fd_pc_178) fd_pc_179)
theorem fd_pcs_200 : ∀ a, a < 200 → fd_Pcode a := (lt_s (lt_s (lt_s (lt_s (lt_s (lt_s (lt_s (lt_s (lt_s (lt_s (lt_s (lt_s (lt_s (lt_s (lt_s (lt_s (lt_s (lt_s (lt_s (lt_s fd_pcs_180 fd_pc_180) fd_pc_181) fd_pc_182) fd_pc_183) fd_pc_184) fd_pc_185) fd_pc_186) fd_pc_187) fd_pc_188) fd_pc_189) fd_pc_190) fd_pc_191) fd_pc_192) fd_pc_193) fd_pc_194) fd_pc_195) fd_pc_196) fd_pc_197) fd_pc_198) fd_pc_199)
theorem fd_pcs_201 : ∀ a, a < 201 → fd_Pcode a := (lt_s fd_pcs_200 fd_pc_200)
theorem fd_tb_code : ∀ m, m < 201 → lw_tbl[fd_wcode.getD m 0]? = some (.code (fd_name m) (fd_code m) (fd_ml m) (fd_ret m)) := fd_pcs_201
set_option maxRecDepth 100000 in
theorem fd_tb_meth : ∀ m, m < 201 → (lw_tbl[fd_winit.getD m 0]? = some (.initialized (fd_name m).cls) ∧ ((fd_name m).cls ≠ "java/lang/invoke/MethodHandle" ∧ (fd_name m).cls ≠ "java/lang/invoke/VarHandle") ∧ fd_ml m ≤ 13 ∧ (fd_name m).cls = fd_cn (fd_own m) ∧ plainName (fd_name m).cls = true ∧ fd_own m < 12) := by decide +kernel
set_option maxRecDepth 100000 in
theorem fd_tb_fld : ∀ c, c < 13 → ∀ q ∈ fd_ftab.getD c [], (lw_tbl[q.2.2.2]? = some (.fieldLink (fd_cn c) q.1 (fd_T q.2.1 q.2.2.1).1 (fd_T q.2.1 q.2.2.1).2.1 (fd_T q.2.1 q.2.2.1).2.2.1) ∧ q.2.1 < 11 ∧ q.2.2.1 < fd_nf q.2.1) := by decide +kernel
set_option maxRecDepth 100000 in
theorem fd_tb_lnk : ∀ c, c < 13 → ∀ q ∈ fd_ltab.getD c [], lw_tbl[q.2.2.2.2]? = some (fd_lword c q) := by decide +kernel
set_option maxRecDepth 100000 in
theorem fd_tb_lnk2 : ∀ c, c < 13 → ∀ q ∈ fd_ltab.getD c [], (q.2.1 < 6 → (q.2.2.1 < 201 ∧ (parseMethodDescriptor (fd_name q.2.2.1).desc).map (fun d => d.parameters.length) = some q.2.2.2.1)) := by decide +kernel
set_option maxRecDepth 100000 in
theorem fd_tb_lnkV : ∀ c, c < 13 → ∀ q ∈ fd_ltab.getD c [], ((q.2.1 = 0 ∨ q.2.1 = 3) → (lw_tbl[fd_wkind.getD q.2.2.1 0]? = some (.instanceMethod (fd_name q.2.2.1)) ∧ lw_tbl[fd_wsel.getD q.2.2.1 0]? = some (.selects (fd_name q.2.2.1).cls (fd_name q.2.2.1) (fd_name q.2.2.1)))) := by decide +kernel
set_option maxRecDepth 100000 in
theorem fd_tb_lnkS : ∀ c, c < 13 → ∀ q ∈ fd_ltab.getD c [], ((q.2.1 = 1 ∨ q.2.1 = 4) → lw_tbl[fd_wkind.getD q.2.2.1 0]? = some (.static (fd_name q.2.2.1))) := by decide +kernel
set_option maxRecDepth 100000 in
theorem fd_tb_lnkI : ∀ c, c < 13 → ∀ q ∈ fd_ltab.getD c [], ((q.2.1 = 2 ∨ q.2.1 = 5) → (lw_tbl[fd_wkind.getD q.2.2.1 0]? = some (.instanceMethod (fd_name q.2.2.1)) ∧ (fd_name q.2.2.1).name = "<init>" ∧ fd_ret q.2.2.1 = none)) := by decide +kernel
set_option maxRecDepth 100000 in
theorem fd_tb_gst : ∀ c, c < 13 → ∀ q ∈ fd_gtab.getD c [], (q.2.1 = 1000 ∧ lw_tbl[q.2.2]? = some (.fieldLink (fd_cn c) q.1 "FleetDelegates" "MOST_TOLD" "[I")) ∨ (q.2.1 = 1001 ∧ lw_tbl[q.2.2]? = some (.fieldLink (fd_cn c) q.1 "FleetDelegates$Batteries" "STEP_X" "[I")) ∨ (q.2.1 = 1002 ∧ lw_tbl[q.2.2]? = some (.fieldLink (fd_cn c) q.1 "FleetDelegates$Batteries" "STEP_Y" "[I")) := by decide +kernel
/-- the pool places and texts of the eight constants -/
def fd_spl : List (Nat × String) := [(77, "owe"), (83, "voice"), (85, "carry"), (87, "pardon"), (89, "all"), (91, "but"), (93, "from"), (94, "to")]
def fd_cword (c : Nat) (q : Nat × Value × Nat) : Prop := match q.2.1 with
  | .int v => lw_tbl[q.2.2]? = some (.constant (fd_cn c) q.1 v)
  | .ref p => fd_cn c = RX7 ∧ 1010 ≤ p ∧ p < 1018 ∧ (fd_spl.getD (p - 1010) (0, "")).1 = q.1
  | _ => False
theorem fd_tb_con : ∀ c, c < 13 → ∀ q ∈ fd_ctab.getD c [], fd_cword c q := by
  have key : ∀ c, c < 13 → ∀ q ∈ fd_ctab.getD c [], (match q.2.1 with
    | .int v => decide (lw_tbl[q.2.2]? = some (.constant (fd_cn c) q.1 v))
    | .ref p => decide (fd_cn c = RX7 ∧ 1010 ≤ p ∧ p < 1018 ∧ (fd_spl.getD (p - 1010) (0, "")).1 = q.1)
    | _ => false) = true := by decide +kernel
  intro c hc q hq
  have h := key c hc q hq
  unfold fd_cword
  split at h <;> simp_all
set_option maxRecDepth 100000 in
theorem fd_tb_con2 : ∀ c, c < 13 → ∀ q ∈ fd_c2tab.getD c [], lw_tbl[q.2.2]? = some (.constantLong (fd_cn c) q.1 q.2.1) := by decide +kernel
set_option maxRecDepth 100000 in
theorem fd_tb_ncl : ∀ c, c < 13 → ∀ q ∈ fd_ntab.getD c [], (lw_tbl[q.2.2]? = some (.classLink (fd_cn c) q.1 (fd_cn q.2.1)) ∧ q.2.1 < 11) := by decide +kernel
theorem fd_tb_kind : ∀ c, c < 11 → ∀ j, j < fd_nf c → ((fd_kind c j = 0 ∧ fd_ty c j = .int) ∨ (fd_kind c j = 1 ∧ (match fd_ty c j with | .object _ => true | .array _ => true | _ => false) = true) ∨ (fd_kind c j = 2 ∧ fd_ty c j = .long ∧ ∀ i, i < fd_nf c → fd_kind c i = 2 → i = j)) := by decide +kernel
theorem fd_tb_decl : ∀ c, c < 11 → ∀ j, j < fd_nf c → (fd_T c j).1 = fd_cn c := by decide +kernel
theorem fd_vw : ∀ c, c < 11 → vwCl[c]? = some (fd_cn c, fd_T c, fd_nf c) := by
  intro c hc
  match c, hc with
  | 0, _ => rfl
  | 1, _ => rfl
  | 2, _ => rfl
  | 3, _ => rfl
  | 4, _ => rfl
  | 5, _ => rfl
  | 6, _ => rfl
  | 7, _ => rfl
  | 8, _ => rfl
  | 9, _ => rfl
  | 10, _ => rfl
theorem fd_typ : ∀ c, c < 11 → ∀ j, j < fd_nf c → parseFieldDescriptor (fd_T c j).2.2.1 = some (fd_ty c j) := by
  intro c hc
  match c, hc with
  | 0, _ => exact tyX0_ok
  | 1, _ => exact tyX1_ok
  | 2, _ => exact tyX2_ok
  | 3, _ => exact tyX3_ok
  | 4, _ => exact tyX4_ok
  | 5, _ => exact tyX5_ok
  | 6, _ => exact tyX6_ok
  | 7, _ => exact tyX7_ok
  | 8, _ => exact tyX8_ok
  | 9, _ => exact tyX9_ok
  | 10, _ => exact tyX10_ok
theorem fd_nm : ∀ c, c < 11 → ∀ a, a < fd_nf c → ∀ b, b < fd_nf c → a ≠ b → (fd_T c a).2.1 ≠ (fd_T c b).2.1 := by
  intro c hc
  match c, hc with
  | 0, _ => exact nmX0
  | 1, _ => exact nmX1
  | 2, _ => exact nmX2
  | 3, _ => exact nmX3
  | 4, _ => exact nmX4
  | 5, _ => exact nmX5
  | 6, _ => exact nmX6
  | 7, _ => exact nmX7
  | 8, _ => exact nmX8
  | 9, _ => exact nmX9
  | 10, _ => exact nmX10
def fd_tbl : List Cond := lw_tbl.filter goodWord
theorem fd_tbl_in {i : Nat} {w : Cond} (h : lw_tbl[i]? = some w) (hg : goodWord w = true) : w ∈ fd_tbl := List.mem_filter.mpr ⟨List.mem_of_getElem? h, hg⟩
theorem fd_good : GoodIn fd_tbl fd_tbl := fun w hw => ⟨hw, good_of_word (List.mem_filter.mp hw).2⟩
/-- the words of the fields, by their places -/
def fd_wlay : List (List Nat) := [[282, 284, 286, 288, 290, 292, 294], [98, 100, 102, 104, 106, 108], [238, 240, 242, 244, 246, 248], [262, 264, 266], [142, 144, 146, 148, 150, 152, 154, 156, 158, 160, 162, 164, 166, 168, 170, 172], [312, 314, 316, 318, 320, 322], [332], [205, 207, 209, 211, 213, 215, 217, 219, 221], [185, 187], [346, 348, 350, 352, 354, 356, 358, 360, 362, 364, 366], [961, 963, 965, 967, 969, 971, 973, 975, 977, 979, 981, 983, 985, 987, 989, 991, 993, 995, 997, 999, 1001, 1003, 1005, 1007, 1009, 1011, 1013, 1015, 1017, 1019, 1021, 1023, 1025, 1027, 1029, 1031, 1033, 1035, 1037, 1039, 1041, 1043, 1045, 1047, 1049, 1051, 1053, 1055, 1057]]
def fd_winst : List Nat := [270, 80, 225, 252, 74, 298, 326, 191, 176, 66, 907]
def fd_wini : List Nat := [54, 49, 52, 53, 48, 55, 56, 51, 50, 47, 57]
def fd_warr : Nat × Nat := (111, 1060)
set_option maxRecDepth 100000 in
theorem fd_tb_lay : ∀ c, c < 11 → ∀ j, j < fd_nf c → lw_tbl[(fd_wlay.getD c []).getD j 0]? = some (u_lay (fd_cn c) (fd_T c) j) := by decide +kernel
set_option maxRecDepth 100000 in
theorem fd_tb_cls : ∀ c, c < 11 → (lw_tbl[fd_winst.getD c 0]? = some (.instantiable (fd_cn c) (fd_nf c)) ∧ lw_tbl[fd_wini.getD c 0]? = some (.initialized (fd_cn c))) := by decide +kernel
theorem fd_tb_arr : lw_tbl[fd_warr.1]? = some (.arrayClass .int) ∧ lw_tbl[fd_warr.2]? = some (.arrayClass .boolean) := by decide +kernel
theorem fd_hin : ∀ c, c < 11 → ∀ w ∈ u_ws (fd_cn c) (fd_T c) (fd_nf c), w ∈ fd_tbl := by
  intro c hc w hw
  obtain ⟨j, hj, rfl⟩ := List.mem_map.mp hw
  refine fd_tbl_in (fd_tb_lay c hc j (List.mem_range.mp hj)) ?_
  unfold u_lay
  split <;> rfl
