theorem GT1 {w : Cond} (i : Nat) (h : tables_1_1[i]? = some w) (hg : goodWord w = true) : w ∈ GT := GT_mem (List.mem_append_right _ (List.mem_append_left _ (List.mem_of_getElem? h))) hg
theorem GT2 {w : Cond} (i : Nat) (h : tables_1_2[i]? = some w) (hg : goodWord w = true) : w ∈ GT := GT_mem (List.mem_append_right _ (List.mem_append_right _ (List.mem_append_left _ (List.mem_of_getElem? h)))) hg
theorem GT3 {w : Cond} (i : Nat) (h : tables_1_3[i]? = some w) (hg : goodWord w = true) : w ∈ GT := GT_mem (List.mem_append_right _ (List.mem_append_right _ (List.mem_append_right _ (List.mem_append_left _ (List.mem_of_getElem? h))))) hg
theorem GT4 {w : Cond} (i : Nat) (h : tables_1_4[i]? = some w) (hg : goodWord w = true) : w ∈ GT := GT_mem (List.mem_append_right _ (List.mem_append_right _ (List.mem_append_right _ (List.mem_append_right _ (List.mem_append_left _ (List.mem_of_getElem? h)))))) hg
theorem GT5 {w : Cond} (i : Nat) (h : tables_1_5[i]? = some w) (hg : goodWord w = true) : w ∈ GT := GT_mem (List.mem_append_right _ (List.mem_append_right _ (List.mem_append_right _ (List.mem_append_right _ (List.mem_append_right _ (List.mem_append_left _ (List.mem_of_getElem? h))))))) hg
theorem GT6 {w : Cond} (i : Nat) (h : tables_1_6[i]? = some w) (hg : goodWord w = true) : w ∈ GT := GT_mem (List.mem_append_right _ (List.mem_append_right _ (List.mem_append_right _ (List.mem_append_right _ (List.mem_append_right _ (List.mem_append_right _ (List.mem_append_left _ (List.mem_of_getElem? h)))))))) hg
theorem GT7 {w : Cond} (i : Nat) (h : tables_1_7[i]? = some w) (hg : goodWord w = true) : w ∈ GT := GT_mem (List.mem_append_right _ (List.mem_append_right _ (List.mem_append_right _ (List.mem_append_right _ (List.mem_append_right _ (List.mem_append_right _ (List.mem_append_right _ (List.mem_append_left _ (List.mem_of_getElem? h))))))))) hg
theorem GT8 {w : Cond} (i : Nat) (h : tables_1_8[i]? = some w) (hg : goodWord w = true) : w ∈ GT := GT_mem (List.mem_append_right _ (List.mem_append_right _ (List.mem_append_right _ (List.mem_append_right _ (List.mem_append_right _ (List.mem_append_right _ (List.mem_append_right _ (List.mem_append_right _ (List.mem_of_getElem? h))))))))) hg
set_option maxRecDepth 100000 in
theorem inG0 : ∀ w ∈ wsX00, w ∈ GT := (show ∀ w ∈ [u_lay RX0 TX0 0, u_lay RX0 TX0 1, u_lay RX0 TX0 2, u_lay RX0 TX0 3, u_lay RX0 TX0 4, u_lay RX0 TX0 5, u_lay RX0 TX0 6], w ∈ GT from GT_c (GT2 145 rfl rfl) (GT_c (GT2 147 rfl rfl) (GT_c (GT2 149 rfl rfl) (GT_c (GT2 151 rfl rfl) (GT_c (GT2 153 rfl rfl) (GT_c (GT2 155 rfl rfl) (GT_c (GT2 157 rfl rfl) (GT_n))))))))
set_option maxRecDepth 100000 in
theorem inG1 : ∀ w ∈ wsX10, w ∈ GT := (show ∀ w ∈ [u_lay RX1 TX1 0, u_lay RX1 TX1 1, u_lay RX1 TX1 2, u_lay RX1 TX1 3, u_lay RX1 TX1 4, u_lay RX1 TX1 5, u_lay RX1 TX1 6, u_lay RX1 TX1 7, u_lay RX1 TX1 8], w ∈ GT from GT_c (GT1 205 rfl rfl) (GT_c (GT1 207 rfl rfl) (GT_c (GT1 209 rfl rfl) (GT_c (GT1 211 rfl rfl) (GT_c (GT1 213 rfl rfl) (GT_c (GT1 215 rfl rfl) (GT_c (GT1 217 rfl rfl) (GT_c (GT1 219 rfl rfl) (GT_c (GT1 221 rfl rfl) (GT_n))))))))))
set_option maxRecDepth 100000 in
theorem inG2 : ∀ w ∈ wsX20, w ∈ GT := (show ∀ w ∈ [u_lay RX2 TX2 0, u_lay RX2 TX2 1, u_lay RX2 TX2 2, u_lay RX2 TX2 3, u_lay RX2 TX2 4], w ∈ GT from GT_c (GT1 53 rfl rfl) (GT_c (GT1 55 rfl rfl) (GT_c (GT1 57 rfl rfl) (GT_c (GT1 59 rfl rfl) (GT_c (GT1 61 rfl rfl) (GT_n))))))
set_option maxRecDepth 100000 in
theorem inG3 : ∀ w ∈ wsX30, w ∈ GT := (show ∀ w ∈ [u_lay RX3 TX3 0, u_lay RX3 TX3 1, u_lay RX3 TX3 2, u_lay RX3 TX3 3, u_lay RX3 TX3 4], w ∈ GT from GT_c (GT1 229 rfl rfl) (GT_c (GT1 231 rfl rfl) (GT_c (GT1 233 rfl rfl) (GT_c (GT1 235 rfl rfl) (GT_c (GT1 237 rfl rfl) (GT_n))))))
set_option maxRecDepth 100000 in
theorem inG4 : ∀ w ∈ wsX40, w ∈ GT := (show ∀ w ∈ [u_lay RX4 TX4 0, u_lay RX4 TX4 1, u_lay RX4 TX4 2, u_lay RX4 TX4 3, u_lay RX4 TX4 4, u_lay RX4 TX4 5, u_lay RX4 TX4 6, u_lay RX4 TX4 7, u_lay RX4 TX4 8, u_lay RX4 TX4 9, u_lay RX4 TX4 10, u_lay RX4 TX4 11, u_lay RX4 TX4 12, u_lay RX4 TX4 13, u_lay RX4 TX4 14], w ∈ GT from GT_c (GT2 55 rfl rfl) (GT_c (GT2 57 rfl rfl) (GT_c (GT2 59 rfl rfl) (GT_c (GT2 61 rfl rfl) (GT_c (GT2 63 rfl rfl) (GT_c (GT2 65 rfl rfl) (GT_c (GT2 67 rfl rfl) (GT_c (GT2 69 rfl rfl) (GT_c (GT2 71 rfl rfl) (GT_c (GT2 73 rfl rfl) (GT_c (GT2 75 rfl rfl) (GT_c (GT2 77 rfl rfl) (GT_c (GT2 79 rfl rfl) (GT_c (GT2 81 rfl rfl) (GT_c (GT2 83 rfl rfl) (GT_n))))))))))))))))
set_option maxRecDepth 100000 in
theorem inG5 : ∀ w ∈ wsX50, w ∈ GT := (show ∀ w ∈ [u_lay RX5 TX5 0, u_lay RX5 TX5 1, u_lay RX5 TX5 2, u_lay RX5 TX5 3, u_lay RX5 TX5 4, u_lay RX5 TX5 5], w ∈ GT from GT_c (GT2 114 rfl rfl) (GT_c (GT2 116 rfl rfl) (GT_c (GT2 118 rfl rfl) (GT_c (GT2 120 rfl rfl) (GT_c (GT2 122 rfl rfl) (GT_c (GT2 124 rfl rfl) (GT_n)))))))
set_option maxRecDepth 100000 in
theorem inG6 : ∀ w ∈ wsX60, w ∈ GT := (show ∀ w ∈ [u_lay RX6 TX6 0, u_lay RX6 TX6 1, u_lay RX6 TX6 2, u_lay RX6 TX6 3, u_lay RX6 TX6 4, u_lay RX6 TX6 5, u_lay RX6 TX6 6, u_lay RX6 TX6 7, u_lay RX6 TX6 8, u_lay RX6 TX6 9, u_lay RX6 TX6 10, u_lay RX6 TX6 11, u_lay RX6 TX6 12, u_lay RX6 TX6 13, u_lay RX6 TX6 14, u_lay RX6 TX6 15], w ∈ GT from GT_c (GT1 121 rfl rfl) (GT_c (GT1 123 rfl rfl) (GT_c (GT1 125 rfl rfl) (GT_c (GT1 127 rfl rfl) (GT_c (GT1 129 rfl rfl) (GT_c (GT1 131 rfl rfl) (GT_c (GT1 133 rfl rfl) (GT_c (GT1 135 rfl rfl) (GT_c (GT1 137 rfl rfl) (GT_c (GT1 139 rfl rfl) (GT_c (GT1 141 rfl rfl) (GT_c (GT1 143 rfl rfl) (GT_c (GT1 145 rfl rfl) (GT_c (GT1 147 rfl rfl) (GT_c (GT1 149 rfl rfl) (GT_c (GT1 151 rfl rfl) (GT_n)))))))))))))))))
set_option maxRecDepth 100000 in
theorem inG7 : ∀ w ∈ wsX70, w ∈ GT := (show ∀ w ∈ [u_lay RX7 TX7 0, u_lay RX7 TX7 1, u_lay RX7 TX7 2, u_lay RX7 TX7 3, u_lay RX7 TX7 4, u_lay RX7 TX7 5], w ∈ GT from GT_c (GT1 177 rfl rfl) (GT_c (GT1 179 rfl rfl) (GT_c (GT1 181 rfl rfl) (GT_c (GT1 183 rfl rfl) (GT_c (GT1 185 rfl rfl) (GT_c (GT1 187 rfl rfl) (GT_n)))))))
set_option maxRecDepth 100000 in
theorem inG8 : ∀ w ∈ wsX80, w ∈ GT := (show ∀ w ∈ [u_lay RX8 TX8 0, u_lay RX8 TX8 1], w ∈ GT from GT_c (GT2 95 rfl rfl) (GT_c (GT2 97 rfl rfl) (GT_n)))
set_option maxRecDepth 100000 in
theorem inG9 : ∀ w ∈ wsX90, w ∈ GT := (show ∀ w ∈ [u_lay RX9 TX9 0, u_lay RX9 TX9 1, u_lay RX9 TX9 2, u_lay RX9 TX9 3, u_lay RX9 TX9 4, u_lay RX9 TX9 5, u_lay RX9 TX9 6, u_lay RX9 TX9 7, u_lay RX9 TX9 8, u_lay RX9 TX9 9, u_lay RX9 TX9 10, u_lay RX9 TX9 11, u_lay RX9 TX9 12, u_lay RX9 TX9 13, u_lay RX9 TX9 14], w ∈ GT from GT_c (GT2 176 rfl rfl) (GT_c (GT2 178 rfl rfl) (GT_c (GT2 180 rfl rfl) (GT_c (GT2 182 rfl rfl) (GT_c (GT2 184 rfl rfl) (GT_c (GT2 186 rfl rfl) (GT_c (GT2 188 rfl rfl) (GT_c (GT2 190 rfl rfl) (GT_c (GT2 192 rfl rfl) (GT_c (GT2 194 rfl rfl) (GT_c (GT2 196 rfl rfl) (GT_c (GT2 198 rfl rfl) (GT_c (GT2 200 rfl rfl) (GT_c (GT2 202 rfl rfl) (GT_c (GT2 204 rfl rfl) (GT_n))))))))))))))))
set_option maxRecDepth 100000 in
theorem inG10 : ∀ w ∈ wsX100, w ∈ GT := (show ∀ w ∈ [u_lay RX10 TX10 0, u_lay RX10 TX10 1, u_lay RX10 TX10 2, u_lay RX10 TX10 3, u_lay RX10 TX10 4, u_lay RX10 TX10 5, u_lay RX10 TX10 6, u_lay RX10 TX10 7, u_lay RX10 TX10 8, u_lay RX10 TX10 9, u_lay RX10 TX10 10, u_lay RX10 TX10 11, u_lay RX10 TX10 12, u_lay RX10 TX10 13, u_lay RX10 TX10 14, u_lay RX10 TX10 15, u_lay RX10 TX10 16, u_lay RX10 TX10 17, u_lay RX10 TX10 18, u_lay RX10 TX10 19, u_lay RX10 TX10 20, u_lay RX10 TX10 21, u_lay RX10 TX10 22, u_lay RX10 TX10 23, u_lay RX10 TX10 24, u_lay RX10 TX10 25, u_lay RX10 TX10 26, u_lay RX10 TX10 27, u_lay RX10 TX10 28, u_lay RX10 TX10 29, u_lay RX10 TX10 30, u_lay RX10 TX10 31, u_lay RX10 TX10 32, u_lay RX10 TX10 33, u_lay RX10 TX10 34, u_lay RX10 TX10 35, u_lay RX10 TX10 36, u_lay RX10 TX10 37, u_lay RX10 TX10 38, u_lay RX10 TX10 39, u_lay RX10 TX10 40, u_lay RX10 TX10 41, u_lay RX10 TX10 42, u_lay RX10 TX10 43, u_lay RX10 TX10 44, u_lay RX10 TX10 45, u_lay RX10 TX10 46, u_lay RX10 TX10 47, u_lay RX10 TX10 48, u_lay RX10 TX10 49, u_lay RX10 TX10 50, u_lay RX10 TX10 51, u_lay RX10 TX10 52, u_lay RX10 TX10 53, u_lay RX10 TX10 54, u_lay RX10 TX10 55, u_lay RX10 TX10 56, u_lay RX10 TX10 57, u_lay RX10 TX10 58, u_lay RX10 TX10 59, u_lay RX10 TX10 60, u_lay RX10 TX10 61, u_lay RX10 TX10 62, u_lay RX10 TX10 63, u_lay RX10 TX10 64, u_lay RX10 TX10 65, u_lay RX10 TX10 66, u_lay RX10 TX10 67, u_lay RX10 TX10 68, u_lay RX10 TX10 69, u_lay RX10 TX10 70, u_lay RX10 TX10 71, u_lay RX10 TX10 72, u_lay RX10 TX10 73, u_lay RX10 TX10 74, u_lay RX10 TX10 75, u_lay RX10 TX10 76], w ∈ GT from GT_c (GT6 52 rfl rfl) (GT_c (GT6 54 rfl rfl) (GT_c (GT6 56 rfl rfl) (GT_c (GT6 58 rfl rfl) (GT_c (GT6 60 rfl rfl) (GT_c (GT6 62 rfl rfl) (GT_c (GT6 64 rfl rfl) (GT_c (GT6 66 rfl rfl) (GT_c (GT6 68 rfl rfl) (GT_c (GT6 70 rfl rfl) (GT_c (GT6 72 rfl rfl) (GT_c (GT6 74 rfl rfl) (GT_c (GT6 76 rfl rfl) (GT_c (GT6 78 rfl rfl) (GT_c (GT6 80 rfl rfl) (GT_c (GT6 82 rfl rfl) (GT_c (GT6 84 rfl rfl) (GT_c (GT6 86 rfl rfl) (GT_c (GT6 88 rfl rfl) (GT_c (GT6 90 rfl rfl) (GT_c (GT6 92 rfl rfl) (GT_c (GT6 94 rfl rfl) (GT_c (GT6 96 rfl rfl) (GT_c (GT6 98 rfl rfl) (GT_c (GT6 100 rfl rfl) (GT_c (GT6 102 rfl rfl) (GT_c (GT6 104 rfl rfl) (GT_c (GT6 106 rfl rfl) (GT_c (GT6 108 rfl rfl) (GT_c (GT6 110 rfl rfl) (GT_c (GT6 112 rfl rfl) (GT_c (GT6 114 rfl rfl) (GT_c (GT6 116 rfl rfl) (GT_c (GT6 118 rfl rfl) (GT_c (GT6 120 rfl rfl) (GT_c (GT6 122 rfl rfl) (GT_c (GT6 124 rfl rfl) (GT_c (GT6 126 rfl rfl) (GT_c (GT6 128 rfl rfl) (GT_c (GT6 130 rfl rfl) (GT_c (GT6 132 rfl rfl) (GT_c (GT6 134 rfl rfl) (GT_c (GT6 136 rfl rfl) (GT_c (GT6 138 rfl rfl) (GT_c (GT6 140 rfl rfl) (GT_c (GT6 142 rfl rfl) (GT_c (GT6 144 rfl rfl) (GT_c (GT6 146 rfl rfl) (GT_c (GT6 148 rfl rfl) (GT_c (GT6 150 rfl rfl) (GT_c (GT6 152 rfl rfl) (GT_c (GT6 154 rfl rfl) (GT_c (GT6 156 rfl rfl) (GT_c (GT6 158 rfl rfl) (GT_c (GT6 160 rfl rfl) (GT_c (GT6 162 rfl rfl) (GT_c (GT6 164 rfl rfl) (GT_c (GT6 166 rfl rfl) (GT_c (GT6 168 rfl rfl) (GT_c (GT6 170 rfl rfl) (GT_c (GT6 172 rfl rfl) (GT_c (GT6 174 rfl rfl) (GT_c (GT6 176 rfl rfl) (GT_c (GT6 178 rfl rfl) (GT_c (GT6 180 rfl rfl) (GT_c (GT6 182 rfl rfl) (GT_c (GT6 184 rfl rfl) (GT_c (GT6 186 rfl rfl) (GT_c (GT6 188 rfl rfl) (GT_c (GT6 190 rfl rfl) (GT_c (GT6 192 rfl rfl) (GT_c (GT6 194 rfl rfl) (GT_c (GT6 196 rfl rfl) (GT_c (GT6 198 rfl rfl) (GT_c (GT6 200 rfl rfl) (GT_c (GT6 202 rfl rfl) (GT_c (GT6 204 rfl rfl) (GT_n))))))))))))))))))))))))))))))))))))))))))))))))))))))))))))))))))))))))))))))
set_option maxRecDepth 100000 in
theorem mf_9_11 : Cond.fieldLink RX9 11 RX9 (TX9 0).2.1 (TX9 0).2.2.1 ∈ GT := GT2 161 rfl rfl
set_option maxRecDepth 100000 in
theorem mf_9_15 : Cond.fieldLink RX9 15 RX9 (TX9 1).2.1 (TX9 1).2.2.1 ∈ GT := GT2 162 rfl rfl
set_option maxRecDepth 100000 in
theorem mf_9_22 : Cond.fieldLink RX9 22 RX9 (TX9 2).2.1 (TX9 2).2.2.1 ∈ GT := GT2 163 rfl rfl
set_option maxRecDepth 100000 in
theorem mf_9_26 : Cond.fieldLink RX9 26 RX9 (TX9 3).2.1 (TX9 3).2.2.1 ∈ GT := GT2 164 rfl rfl
set_option maxRecDepth 100000 in
theorem mf_9_34 : Cond.fieldLink RX9 34 RX9 (TX9 4).2.1 (TX9 4).2.2.1 ∈ GT := GT2 165 rfl rfl
set_option maxRecDepth 100000 in
theorem mf_9_38 : Cond.fieldLink RX9 38 RX9 (TX9 5).2.1 (TX9 5).2.2.1 ∈ GT := GT2 166 rfl rfl
set_option maxRecDepth 100000 in
theorem mf_9_41 : Cond.fieldLink RX9 41 RX9 (TX9 6).2.1 (TX9 6).2.2.1 ∈ GT := GT2 167 rfl rfl
set_option maxRecDepth 100000 in
theorem mf_9_47 : Cond.fieldLink RX9 47 RX9 (TX9 7).2.1 (TX9 7).2.2.1 ∈ GT := GT2 168 rfl rfl
set_option maxRecDepth 100000 in
theorem mf_9_51 : Cond.fieldLink RX9 51 RX9 (TX9 8).2.1 (TX9 8).2.2.1 ∈ GT := GT2 169 rfl rfl
set_option maxRecDepth 100000 in
theorem mf_9_54 : Cond.fieldLink RX9 54 RX9 (TX9 9).2.1 (TX9 9).2.2.1 ∈ GT := GT2 170 rfl rfl
set_option maxRecDepth 100000 in
theorem mf_9_57 : Cond.fieldLink RX9 57 RX9 (TX9 10).2.1 (TX9 10).2.2.1 ∈ GT := GT2 171 rfl rfl
set_option maxRecDepth 100000 in
theorem mf_9_60 : Cond.fieldLink RX9 60 RX9 (TX9 11).2.1 (TX9 11).2.2.1 ∈ GT := GT2 172 rfl rfl
set_option maxRecDepth 100000 in
theorem mf_9_67 : Cond.fieldLink RX9 67 RX9 (TX9 12).2.1 (TX9 12).2.2.1 ∈ GT := GT2 173 rfl rfl
set_option maxRecDepth 100000 in
theorem mf_9_74 : Cond.fieldLink RX9 74 RX9 (TX9 13).2.1 (TX9 13).2.2.1 ∈ GT := GT2 174 rfl rfl
set_option maxRecDepth 100000 in
theorem mf_9_83 : Cond.fieldLink RX9 83 RX9 (TX9 14).2.1 (TX9 14).2.2.1 ∈ GT := GT2 175 rfl rfl
set_option maxRecDepth 100000 in
theorem mf_9_105 : Cond.fieldLink RX9 105 RX6 (TX6 0).2.1 (TX6 0).2.2.1 ∈ GT := GT1 67 rfl rfl
set_option maxRecDepth 100000 in
theorem mf_9_115 : Cond.fieldLink RX9 115 RX6 (TX6 2).2.1 (TX6 2).2.2.1 ∈ GT := GT1 75 rfl rfl
set_option maxRecDepth 100000 in
theorem mf_9_119 : Cond.fieldLink RX9 119 RX6 (TX6 1).2.1 (TX6 1).2.2.1 ∈ GT := GT1 72 rfl rfl
set_option maxRecDepth 100000 in
theorem mf_9_126 : Cond.fieldLink RX9 126 RX6 (TX6 9).2.1 (TX6 9).2.2.1 ∈ GT := GT1 99 rfl rfl
set_option maxRecDepth 100000 in
theorem mf_9_129 : Cond.fieldLink RX9 129 RX6 (TX6 8).2.1 (TX6 8).2.2.1 ∈ GT := GT1 96 rfl rfl
set_option maxRecDepth 100000 in
theorem mf_9_153 : Cond.fieldLink RX9 153 RX4 (TX4 0).2.1 (TX4 0).2.2.1 ∈ GT := GT2 9 rfl rfl
set_option maxRecDepth 100000 in
theorem mf_9_156 : Cond.fieldLink RX9 156 RX6 (TX6 4).2.1 (TX6 4).2.2.1 ∈ GT := GT1 82 rfl rfl
set_option maxRecDepth 100000 in
theorem mf_9_159 : Cond.fieldLink RX9 159 RX6 (TX6 5).2.1 (TX6 5).2.2.1 ∈ GT := GT1 87 rfl rfl
set_option maxRecDepth 100000 in
theorem mf_9_162 : Cond.fieldLink RX9 162 RX4 (TX4 1).2.1 (TX4 1).2.2.1 ∈ GT := GT2 12 rfl rfl
set_option maxRecDepth 100000 in
theorem mf_9_165 : Cond.fieldLink RX9 165 RX4 (TX4 2).2.1 (TX4 2).2.2.1 ∈ GT := GT2 16 rfl rfl
set_option maxRecDepth 100000 in
theorem mf_9_168 : Cond.fieldLink RX9 168 RX4 (TX4 3).2.1 (TX4 3).2.2.1 ∈ GT := GT2 19 rfl rfl
set_option maxRecDepth 100000 in
theorem mf_9_171 : Cond.fieldLink RX9 171 RX4 (TX4 4).2.1 (TX4 4).2.2.1 ∈ GT := GT2 23 rfl rfl
set_option maxRecDepth 100000 in
theorem mf_9_179 : Cond.fieldLink RX9 179 RX6 (TX6 10).2.1 (TX6 10).2.2.1 ∈ GT := GT1 104 rfl rfl
set_option maxRecDepth 100000 in
theorem mf_9_182 : Cond.fieldLink RX9 182 RX4 (TX4 5).2.1 (TX4 5).2.2.1 ∈ GT := GT2 26 rfl rfl
set_option maxRecDepth 100000 in
theorem mf_9_201 : Cond.fieldLink RX9 201 RX6 (TX6 15).2.1 (TX6 15).2.2.1 ∈ GT := GT1 120 rfl rfl
set_option maxRecDepth 100000 in
theorem mf_9_205 : Cond.fieldLink RX9 205 RX2 (TX2 4).2.1 (TX2 4).2.2.1 ∈ GT := GT1 52 rfl rfl
set_option maxRecDepth 100000 in
theorem mf_9_210 : Cond.fieldLink RX9 210 RX4 (TX4 8).2.1 (TX4 8).2.2.1 ∈ GT := GT2 34 rfl rfl
set_option maxRecDepth 100000 in
theorem mf_9_213 : Cond.fieldLink RX9 213 RX4 (TX4 9).2.1 (TX4 9).2.2.1 ∈ GT := GT2 38 rfl rfl
set_option maxRecDepth 100000 in
theorem mf_9_216 : Cond.fieldLink RX9 216 RX4 (TX4 10).2.1 (TX4 10).2.2.1 ∈ GT := GT2 42 rfl rfl
set_option maxRecDepth 100000 in
theorem mf_9_219 : Cond.fieldLink RX9 219 RX4 (TX4 11).2.1 (TX4 11).2.2.1 ∈ GT := GT2 46 rfl rfl
set_option maxRecDepth 100000 in
theorem mf_9_222 : Cond.fieldLink RX9 222 RX4 (TX4 14).2.1 (TX4 14).2.2.1 ∈ GT := GT2 54 rfl rfl
set_option maxRecDepth 100000 in
theorem mf_9_225 : Cond.fieldLink RX9 225 RX4 (TX4 6).2.1 (TX4 6).2.2.1 ∈ GT := GT2 30 rfl rfl
set_option maxRecDepth 100000 in
theorem mf_9_234 : Cond.fieldLink RX9 234 RX4 (TX4 12).2.1 (TX4 12).2.2.1 ∈ GT := GT2 49 rfl rfl
set_option maxRecDepth 100000 in
theorem mf_9_237 : Cond.fieldLink RX9 237 RX5 (TX5 4).2.1 (TX5 4).2.2.1 ∈ GT := GT2 111 rfl rfl
set_option maxRecDepth 100000 in
theorem mf_9_243 : Cond.fieldLink RX9 243 RX8 (TX8 1).2.1 (TX8 1).2.2.1 ∈ GT := GT2 94 rfl rfl
set_option maxRecDepth 100000 in
theorem mf_9_289 : Cond.fieldLink RX9 289 RX0 (TX0 3).2.1 (TX0 3).2.2.1 ∈ GT := GT2 138 rfl rfl
set_option maxRecDepth 100000 in
theorem mf_9_292 : Cond.fieldLink RX9 292 RX0 (TX0 4).2.1 (TX0 4).2.2.1 ∈ GT := GT2 140 rfl rfl
set_option maxRecDepth 100000 in
theorem mf_9_295 : Cond.fieldLink RX9 295 RX0 (TX0 6).2.1 (TX0 6).2.2.1 ∈ GT := GT2 144 rfl rfl
set_option maxRecDepth 100000 in
theorem mf_9_298 : Cond.fieldLink RX9 298 RX0 (TX0 5).2.1 (TX0 5).2.2.1 ∈ GT := GT2 142 rfl rfl
set_option maxRecDepth 100000 in
theorem mf_9_304 : Cond.fieldLink RX9 304 RX4 (TX4 13).2.1 (TX4 13).2.2.1 ∈ GT := GT2 51 rfl rfl
set_option maxRecDepth 100000 in
theorem mf_9_371 : Cond.fieldLink RX9 371 RX5 (TX5 5).2.1 (TX5 5).2.2.1 ∈ GT := GT2 113 rfl rfl
set_option maxRecDepth 100000 in
theorem mf_0_9 : Cond.fieldLink RX0 9 RX0 (TX0 0).2.1 (TX0 0).2.2.1 ∈ GT := GT2 134 rfl rfl
set_option maxRecDepth 100000 in
theorem mf_0_15 : Cond.fieldLink RX0 15 RX0 (TX0 1).2.1 (TX0 1).2.2.1 ∈ GT := GT2 135 rfl rfl
set_option maxRecDepth 100000 in
theorem mf_0_19 : Cond.fieldLink RX0 19 RX0 (TX0 2).2.1 (TX0 2).2.2.1 ∈ GT := GT2 136 rfl rfl
set_option maxRecDepth 100000 in
theorem mf_0_23 : Cond.fieldLink RX0 23 RX0 (TX0 3).2.1 (TX0 3).2.2.1 ∈ GT := GT2 137 rfl rfl
set_option maxRecDepth 100000 in
theorem mf_0_26 : Cond.fieldLink RX0 26 RX0 (TX0 4).2.1 (TX0 4).2.2.1 ∈ GT := GT2 139 rfl rfl
set_option maxRecDepth 100000 in
theorem mf_0_29 : Cond.fieldLink RX0 29 RX0 (TX0 5).2.1 (TX0 5).2.2.1 ∈ GT := GT2 141 rfl rfl
set_option maxRecDepth 100000 in
theorem mf_0_32 : Cond.fieldLink RX0 32 RX0 (TX0 6).2.1 (TX0 6).2.2.1 ∈ GT := GT2 143 rfl rfl
set_option maxRecDepth 100000 in
theorem mf_0_40 : Cond.fieldLink RX0 40 RX4 (TX4 14).2.1 (TX4 14).2.2.1 ∈ GT := GT2 53 rfl rfl
set_option maxRecDepth 100000 in
theorem mf_0_49 : Cond.fieldLink RX0 49 RX4 (TX4 6).2.1 (TX4 6).2.2.1 ∈ GT := GT2 29 rfl rfl
set_option maxRecDepth 100000 in
theorem mf_0_52 : Cond.fieldLink RX0 52 RX4 (TX4 10).2.1 (TX4 10).2.2.1 ∈ GT := GT2 41 rfl rfl
set_option maxRecDepth 100000 in
theorem mf_0_55 : Cond.fieldLink RX0 55 RX6 (TX6 1).2.1 (TX6 1).2.2.1 ∈ GT := GT1 71 rfl rfl
set_option maxRecDepth 100000 in
theorem mf_0_71 : Cond.fieldLink RX0 71 RX4 (TX4 11).2.1 (TX4 11).2.2.1 ∈ GT := GT2 45 rfl rfl
set_option maxRecDepth 100000 in
theorem mf_0_74 : Cond.fieldLink RX0 74 RX6 (TX6 12).2.1 (TX6 12).2.2.1 ∈ GT := GT1 109 rfl rfl
set_option maxRecDepth 100000 in
theorem mf_0_77 : Cond.fieldLink RX0 77 RX4 (TX4 8).2.1 (TX4 8).2.2.1 ∈ GT := GT2 33 rfl rfl
set_option maxRecDepth 100000 in
theorem mf_0_105 : Cond.fieldLink RX0 105 RX4 (TX4 1).2.1 (TX4 1).2.2.1 ∈ GT := GT2 11 rfl rfl
set_option maxRecDepth 100000 in
theorem mf_0_123 : Cond.fieldLink RX0 123 RX4 (TX4 12).2.1 (TX4 12).2.2.1 ∈ GT := GT2 48 rfl rfl
set_option maxRecDepth 100000 in
theorem mf_0_126 : Cond.fieldLink RX0 126 RX4 (TX4 2).2.1 (TX4 2).2.2.1 ∈ GT := GT2 15 rfl rfl
set_option maxRecDepth 100000 in
theorem mf_0_132 : Cond.fieldLink RX0 132 RX4 (TX4 0).2.1 (TX4 0).2.2.1 ∈ GT := GT2 8 rfl rfl
set_option maxRecDepth 100000 in
theorem mf_0_146 : Cond.fieldLink RX0 146 RX6 (TX6 5).2.1 (TX6 5).2.2.1 ∈ GT := GT1 86 rfl rfl
set_option maxRecDepth 100000 in
theorem mf_0_149 : Cond.fieldLink RX0 149 RX4 (TX4 9).2.1 (TX4 9).2.2.1 ∈ GT := GT2 37 rfl rfl
set_option maxRecDepth 100000 in
theorem mf_0_156 : Cond.fieldLink RX0 156 RX4 (TX4 3).2.1 (TX4 3).2.2.1 ∈ GT := GT2 20 rfl rfl
set_option maxRecDepth 100000 in
theorem mf_0_159 : Cond.fieldLink RX0 159 RX4 (TX4 4).2.1 (TX4 4).2.2.1 ∈ GT := GT2 24 rfl rfl
set_option maxRecDepth 100000 in
theorem mf_0_162 : Cond.fieldLink RX0 162 RX6 (TX6 15).2.1 (TX6 15).2.2.1 ∈ GT := GT1 119 rfl rfl
set_option maxRecDepth 100000 in
theorem mf_0_166 : Cond.fieldLink RX0 166 RX2 (TX2 2).2.1 (TX2 2).2.2.1 ∈ GT := GT1 46 rfl rfl
set_option maxRecDepth 100000 in
theorem mf_0_171 : Cond.fieldLink RX0 171 RX2 (TX2 3).2.1 (TX2 3).2.2.1 ∈ GT := GT1 49 rfl rfl
set_option maxRecDepth 100000 in
theorem mf_0_174 : Cond.fieldLink RX0 174 RX2 (TX2 0).2.1 (TX2 0).2.2.1 ∈ GT := GT1 41 rfl rfl
set_option maxRecDepth 100000 in
theorem mf_0_181 : Cond.fieldLink RX0 181 RX2 (TX2 1).2.1 (TX2 1).2.2.1 ∈ GT := GT1 43 rfl rfl
set_option maxRecDepth 100000 in
theorem mf_0_196 : Cond.fieldLink RX0 196 RX6 (TX6 4).2.1 (TX6 4).2.2.1 ∈ GT := GT1 83 rfl rfl
set_option maxRecDepth 100000 in
theorem mf_1_9 : Cond.fieldLink RX1 9 RX1 (TX1 2).2.1 (TX1 2).2.2.1 ∈ GT := GT1 198 rfl rfl
set_option maxRecDepth 100000 in
theorem mf_1_15 : Cond.fieldLink RX1 15 RX1 (TX1 0).2.1 (TX1 0).2.2.1 ∈ GT := GT1 196 rfl rfl
set_option maxRecDepth 100000 in
theorem mf_1_19 : Cond.fieldLink RX1 19 RX1 (TX1 1).2.1 (TX1 1).2.2.1 ∈ GT := GT1 197 rfl rfl
set_option maxRecDepth 100000 in
theorem mf_1_23 : Cond.fieldLink RX1 23 RX1 (TX1 8).2.1 (TX1 8).2.2.1 ∈ GT := GT1 204 rfl rfl
set_option maxRecDepth 100000 in
theorem mf_1_27 : Cond.fieldLink RX1 27 RX1 (TX1 3).2.1 (TX1 3).2.2.1 ∈ GT := GT1 199 rfl rfl
set_option maxRecDepth 100000 in
theorem mf_1_30 : Cond.fieldLink RX1 30 RX1 (TX1 4).2.1 (TX1 4).2.2.1 ∈ GT := GT1 200 rfl rfl
set_option maxRecDepth 100000 in
theorem mf_1_33 : Cond.fieldLink RX1 33 RX1 (TX1 5).2.1 (TX1 5).2.2.1 ∈ GT := GT1 201 rfl rfl
set_option maxRecDepth 100000 in
theorem mf_1_36 : Cond.fieldLink RX1 36 RX1 (TX1 6).2.1 (TX1 6).2.2.1 ∈ GT := GT1 202 rfl rfl
set_option maxRecDepth 100000 in
theorem mf_1_40 : Cond.fieldLink RX1 40 RX1 (TX1 7).2.1 (TX1 7).2.2.1 ∈ GT := GT1 203 rfl rfl
set_option maxRecDepth 100000 in
theorem mf_1_43 : Cond.fieldLink RX1 43 RX2 (TX2 4).2.1 (TX2 4).2.2.1 ∈ GT := GT1 51 rfl rfl
set_option maxRecDepth 100000 in
theorem mf_1_56 : Cond.fieldLink RX1 56 RX7 (TX7 3).2.1 (TX7 3).2.2.1 ∈ GT := GT1 170 rfl rfl
set_option maxRecDepth 100000 in
theorem mf_1_74 : Cond.fieldLink RX1 74 RX2 (TX2 2).2.1 (TX2 2).2.2.1 ∈ GT := GT1 45 rfl rfl
set_option maxRecDepth 100000 in
theorem mf_1_77 : Cond.fieldLink RX1 77 RX2 (TX2 3).2.1 (TX2 3).2.2.1 ∈ GT := GT1 48 rfl rfl
set_option maxRecDepth 100000 in
theorem mf_1_97 : Cond.fieldLink RX1 97 RX7 (TX7 5).2.1 (TX7 5).2.2.1 ∈ GT := GT1 175 rfl rfl
set_option maxRecDepth 100000 in
theorem mf_2_9 : Cond.fieldLink RX2 9 RX2 (TX2 0).2.1 (TX2 0).2.2.1 ∈ GT := GT1 40 rfl rfl
set_option maxRecDepth 100000 in
theorem mf_2_15 : Cond.fieldLink RX2 15 RX2 (TX2 1).2.1 (TX2 1).2.2.1 ∈ GT := GT1 42 rfl rfl
set_option maxRecDepth 100000 in
theorem mf_2_18 : Cond.fieldLink RX2 18 RX2 (TX2 2).2.1 (TX2 2).2.2.1 ∈ GT := GT1 44 rfl rfl
set_option maxRecDepth 100000 in
theorem mf_2_21 : Cond.fieldLink RX2 21 RX2 (TX2 3).2.1 (TX2 3).2.2.1 ∈ GT := GT1 47 rfl rfl
set_option maxRecDepth 100000 in
theorem mf_2_24 : Cond.fieldLink RX2 24 RX2 (TX2 4).2.1 (TX2 4).2.2.1 ∈ GT := GT1 50 rfl rfl
set_option maxRecDepth 100000 in
theorem mf_3_9 : Cond.fieldLink RX3 9 RX3 (TX3 2).2.1 (TX3 2).2.2.1 ∈ GT := GT1 226 rfl rfl
set_option maxRecDepth 100000 in
theorem mf_3_20 : Cond.fieldLink RX3 20 RX3 (TX3 0).2.1 (TX3 0).2.2.1 ∈ GT := GT1 224 rfl rfl
set_option maxRecDepth 100000 in
theorem mf_3_26 : Cond.fieldLink RX3 26 RX6 (TX6 15).2.1 (TX6 15).2.2.1 ∈ GT := GT1 117 rfl rfl
set_option maxRecDepth 100000 in
theorem mf_3_35 : Cond.fieldLink RX3 35 RX3 (TX3 1).2.1 (TX3 1).2.2.1 ∈ GT := GT1 225 rfl rfl
set_option maxRecDepth 100000 in
theorem mf_3_39 : Cond.fieldLink RX3 39 RX3 (TX3 3).2.1 (TX3 3).2.2.1 ∈ GT := GT1 227 rfl rfl
set_option maxRecDepth 100000 in
theorem mf_3_43 : Cond.fieldLink RX3 43 RX7 (TX7 4).2.1 (TX7 4).2.2.1 ∈ GT := GT1 172 rfl rfl
set_option maxRecDepth 100000 in
theorem mf_3_49 : Cond.fieldLink RX3 49 RX3 (TX3 4).2.1 (TX3 4).2.2.1 ∈ GT := GT1 228 rfl rfl
set_option maxRecDepth 100000 in
theorem mf_3_59 : Cond.fieldLink RX3 59 RX7 (TX7 3).2.1 (TX7 3).2.2.1 ∈ GT := GT1 171 rfl rfl
set_option maxRecDepth 100000 in
theorem mf_3_76 : Cond.fieldLink RX3 76 RX6 (TX6 0).2.1 (TX6 0).2.2.1 ∈ GT := GT1 68 rfl rfl
set_option maxRecDepth 100000 in
theorem mf_3_91 : Cond.fieldLink RX3 91 RX6 (TX6 1).2.1 (TX6 1).2.2.1 ∈ GT := GT1 73 rfl rfl
set_option maxRecDepth 100000 in
theorem mf_3_94 : Cond.fieldLink RX3 94 RX6 (TX6 2).2.1 (TX6 2).2.2.1 ∈ GT := GT1 76 rfl rfl
set_option maxRecDepth 100000 in
theorem mf_3_102 : Cond.fieldLink RX3 102 RX6 (TX6 3).2.1 (TX6 3).2.2.1 ∈ GT := GT1 79 rfl rfl
set_option maxRecDepth 100000 in
theorem mf_3_109 : Cond.fieldLink RX3 109 RX6 (TX6 4).2.1 (TX6 4).2.2.1 ∈ GT := GT1 81 rfl rfl
set_option maxRecDepth 100000 in
theorem mf_3_112 : Cond.fieldLink RX3 112 RX6 (TX6 5).2.1 (TX6 5).2.2.1 ∈ GT := GT1 85 rfl rfl
set_option maxRecDepth 100000 in
theorem mf_3_115 : Cond.fieldLink RX3 115 RX6 (TX6 6).2.1 (TX6 6).2.2.1 ∈ GT := GT1 90 rfl rfl
set_option maxRecDepth 100000 in
theorem mf_3_118 : Cond.fieldLink RX3 118 RX6 (TX6 7).2.1 (TX6 7).2.2.1 ∈ GT := GT1 93 rfl rfl
set_option maxRecDepth 100000 in
theorem mf_3_121 : Cond.fieldLink RX3 121 RX6 (TX6 8).2.1 (TX6 8).2.2.1 ∈ GT := GT1 97 rfl rfl
set_option maxRecDepth 100000 in
theorem mf_3_124 : Cond.fieldLink RX3 124 RX6 (TX6 9).2.1 (TX6 9).2.2.1 ∈ GT := GT1 100 rfl rfl
set_option maxRecDepth 100000 in
theorem mf_3_127 : Cond.fieldLink RX3 127 RX6 (TX6 10).2.1 (TX6 10).2.2.1 ∈ GT := GT1 102 rfl rfl
set_option maxRecDepth 100000 in
theorem mf_3_130 : Cond.fieldLink RX3 130 RX6 (TX6 11).2.1 (TX6 11).2.2.1 ∈ GT := GT1 107 rfl rfl
set_option maxRecDepth 100000 in
theorem mf_3_133 : Cond.fieldLink RX3 133 RX7 (TX7 5).2.1 (TX7 5).2.2.1 ∈ GT := GT1 176 rfl rfl
set_option maxRecDepth 100000 in
theorem mf_3_152 : Cond.fieldLink RX3 152 RX6 (TX6 12).2.1 (TX6 12).2.2.1 ∈ GT := GT1 110 rfl rfl
set_option maxRecDepth 100000 in
theorem mf_3_155 : Cond.fieldLink RX3 155 RX6 (TX6 13).2.1 (TX6 13).2.2.1 ∈ GT := GT1 113 rfl rfl
set_option maxRecDepth 100000 in
theorem mf_3_158 : Cond.fieldLink RX3 158 RX6 (TX6 14).2.1 (TX6 14).2.2.1 ∈ GT := GT1 116 rfl rfl
set_option maxRecDepth 100000 in
theorem mf_4_9 : Cond.fieldLink RX4 9 RX4 (TX4 0).2.1 (TX4 0).2.2.1 ∈ GT := GT2 6 rfl rfl
set_option maxRecDepth 100000 in
theorem mf_4_15 : Cond.fieldLink RX4 15 RX4 (TX4 1).2.1 (TX4 1).2.2.1 ∈ GT := GT2 10 rfl rfl
set_option maxRecDepth 100000 in
theorem mf_4_18 : Cond.fieldLink RX4 18 RX4 (TX4 2).2.1 (TX4 2).2.2.1 ∈ GT := GT2 13 rfl rfl
set_option maxRecDepth 100000 in
theorem mf_4_21 : Cond.fieldLink RX4 21 RX4 (TX4 3).2.1 (TX4 3).2.2.1 ∈ GT := GT2 17 rfl rfl
set_option maxRecDepth 100000 in
theorem mf_4_24 : Cond.fieldLink RX4 24 RX4 (TX4 4).2.1 (TX4 4).2.2.1 ∈ GT := GT2 21 rfl rfl
set_option maxRecDepth 100000 in
theorem mf_4_27 : Cond.fieldLink RX4 27 RX4 (TX4 5).2.1 (TX4 5).2.2.1 ∈ GT := GT2 25 rfl rfl
set_option maxRecDepth 100000 in
theorem mf_4_30 : Cond.fieldLink RX4 30 RX4 (TX4 10).2.1 (TX4 10).2.2.1 ∈ GT := GT2 39 rfl rfl
set_option maxRecDepth 100000 in
theorem mf_4_34 : Cond.fieldLink RX4 34 RX6 (TX6 1).2.1 (TX6 1).2.2.1 ∈ GT := GT1 69 rfl rfl
set_option maxRecDepth 100000 in
theorem mf_4_39 : Cond.fieldLink RX4 39 RX6 (TX6 3).2.1 (TX6 3).2.2.1 ∈ GT := GT1 78 rfl rfl
set_option maxRecDepth 100000 in
theorem mf_4_40 : Cond.fieldLink RX4 40 RX6 (TX6 6).2.1 (TX6 6).2.2.1 ∈ GT := GT1 89 rfl rfl
set_option maxRecDepth 100000 in
theorem mf_4_41 : Cond.fieldLink RX4 41 RX6 (TX6 7).2.1 (TX6 7).2.2.1 ∈ GT := GT1 92 rfl rfl
set_option maxRecDepth 100000 in
theorem mf_4_42 : Cond.fieldLink RX4 42 RX6 (TX6 8).2.1 (TX6 8).2.2.1 ∈ GT := GT1 95 rfl rfl
set_option maxRecDepth 100000 in
theorem mf_4_45 : Cond.fieldLink RX4 45 RX6 (TX6 11).2.1 (TX6 11).2.2.1 ∈ GT := GT1 106 rfl rfl
set_option maxRecDepth 100000 in
theorem mf_4_46 : Cond.fieldLink RX4 46 RX4 (TX4 6).2.1 (TX4 6).2.2.1 ∈ GT := GT2 27 rfl rfl
set_option maxRecDepth 100000 in
theorem mf_4_49 : Cond.fieldLink RX4 49 RX4 (TX4 7).2.1 (TX4 7).2.2.1 ∈ GT := GT2 31 rfl rfl
set_option maxRecDepth 100000 in
theorem mf_4_52 : Cond.fieldLink RX4 52 RX4 (TX4 8).2.1 (TX4 8).2.2.1 ∈ GT := GT2 32 rfl rfl
set_option maxRecDepth 100000 in
theorem mf_4_55 : Cond.fieldLink RX4 55 RX6 (TX6 13).2.1 (TX6 13).2.2.1 ∈ GT := GT1 112 rfl rfl
set_option maxRecDepth 100000 in
theorem mf_4_58 : Cond.fieldLink RX4 58 RX4 (TX4 9).2.1 (TX4 9).2.2.1 ∈ GT := GT2 35 rfl rfl
set_option maxRecDepth 100000 in
theorem mf_4_61 : Cond.fieldLink RX4 61 RX4 (TX4 11).2.1 (TX4 11).2.2.1 ∈ GT := GT2 43 rfl rfl
set_option maxRecDepth 100000 in
theorem mf_4_64 : Cond.fieldLink RX4 64 RX4 (TX4 12).2.1 (TX4 12).2.2.1 ∈ GT := GT2 47 rfl rfl
set_option maxRecDepth 100000 in
theorem mf_4_67 : Cond.fieldLink RX4 67 RX6 (TX6 14).2.1 (TX6 14).2.2.1 ∈ GT := GT1 115 rfl rfl
set_option maxRecDepth 100000 in
theorem mf_4_70 : Cond.fieldLink RX4 70 RX4 (TX4 13).2.1 (TX4 13).2.2.1 ∈ GT := GT2 50 rfl rfl
set_option maxRecDepth 100000 in
theorem mf_4_73 : Cond.fieldLink RX4 73 RX4 (TX4 14).2.1 (TX4 14).2.2.1 ∈ GT := GT2 52 rfl rfl
set_option maxRecDepth 100000 in
theorem mf_4_93 : Cond.fieldLink RX4 93 RX6 (TX6 10).2.1 (TX6 10).2.2.1 ∈ GT := GT1 103 rfl rfl
set_option maxRecDepth 100000 in
theorem mf_5_9 : Cond.fieldLink RX5 9 RX5 (TX5 0).2.1 (TX5 0).2.2.1 ∈ GT := GT2 106 rfl rfl
set_option maxRecDepth 100000 in
theorem mf_5_15 : Cond.fieldLink RX5 15 RX5 (TX5 1).2.1 (TX5 1).2.2.1 ∈ GT := GT2 107 rfl rfl
set_option maxRecDepth 100000 in
theorem mf_5_18 : Cond.fieldLink RX5 18 RX5 (TX5 2).2.1 (TX5 2).2.2.1 ∈ GT := GT2 108 rfl rfl
set_option maxRecDepth 100000 in
theorem mf_5_21 : Cond.fieldLink RX5 21 RX5 (TX5 3).2.1 (TX5 3).2.2.1 ∈ GT := GT2 109 rfl rfl
set_option maxRecDepth 100000 in
theorem mf_5_25 : Cond.fieldLink RX5 25 RX5 (TX5 5).2.1 (TX5 5).2.2.1 ∈ GT := GT2 112 rfl rfl
set_option maxRecDepth 100000 in
theorem mf_5_29 : Cond.fieldLink RX5 29 RX5 (TX5 4).2.1 (TX5 4).2.2.1 ∈ GT := GT2 110 rfl rfl
set_option maxRecDepth 100000 in
theorem mf_6_9 : Cond.fieldLink RX6 9 RX6 (TX6 2).2.1 (TX6 2).2.2.1 ∈ GT := GT1 74 rfl rfl
set_option maxRecDepth 100000 in
theorem mf_6_15 : Cond.fieldLink RX6 15 RX6 (TX6 3).2.1 (TX6 3).2.2.1 ∈ GT := GT1 77 rfl rfl
set_option maxRecDepth 100000 in
theorem mf_6_18 : Cond.fieldLink RX6 18 RX6 (TX6 4).2.1 (TX6 4).2.2.1 ∈ GT := GT1 80 rfl rfl
set_option maxRecDepth 100000 in
theorem mf_6_21 : Cond.fieldLink RX6 21 RX6 (TX6 5).2.1 (TX6 5).2.2.1 ∈ GT := GT1 84 rfl rfl
set_option maxRecDepth 100000 in
theorem mf_6_24 : Cond.fieldLink RX6 24 RX6 (TX6 6).2.1 (TX6 6).2.2.1 ∈ GT := GT1 88 rfl rfl
set_option maxRecDepth 100000 in
theorem mf_6_27 : Cond.fieldLink RX6 27 RX6 (TX6 7).2.1 (TX6 7).2.2.1 ∈ GT := GT1 91 rfl rfl
set_option maxRecDepth 100000 in
theorem mf_6_30 : Cond.fieldLink RX6 30 RX6 (TX6 9).2.1 (TX6 9).2.2.1 ∈ GT := GT1 98 rfl rfl
set_option maxRecDepth 100000 in
theorem mf_6_33 : Cond.fieldLink RX6 33 RX6 (TX6 10).2.1 (TX6 10).2.2.1 ∈ GT := GT1 101 rfl rfl
set_option maxRecDepth 100000 in
theorem mf_6_36 : Cond.fieldLink RX6 36 RX6 (TX6 11).2.1 (TX6 11).2.2.1 ∈ GT := GT1 105 rfl rfl
set_option maxRecDepth 100000 in
theorem mf_6_42 : Cond.fieldLink RX6 42 RX6 (TX6 15).2.1 (TX6 15).2.2.1 ∈ GT := GT1 118 rfl rfl
set_option maxRecDepth 100000 in
theorem mf_6_46 : Cond.fieldLink RX6 46 RX6 (TX6 12).2.1 (TX6 12).2.2.1 ∈ GT := GT1 108 rfl rfl
set_option maxRecDepth 100000 in
theorem mf_6_50 : Cond.fieldLink RX6 50 RX6 (TX6 0).2.1 (TX6 0).2.2.1 ∈ GT := GT1 66 rfl rfl
set_option maxRecDepth 100000 in
theorem mf_6_53 : Cond.fieldLink RX6 53 RX6 (TX6 1).2.1 (TX6 1).2.2.1 ∈ GT := GT1 70 rfl rfl
set_option maxRecDepth 100000 in
theorem mf_6_56 : Cond.fieldLink RX6 56 RX6 (TX6 8).2.1 (TX6 8).2.2.1 ∈ GT := GT1 94 rfl rfl
set_option maxRecDepth 100000 in
theorem mf_6_59 : Cond.fieldLink RX6 59 RX6 (TX6 13).2.1 (TX6 13).2.2.1 ∈ GT := GT1 111 rfl rfl
set_option maxRecDepth 100000 in
theorem mf_6_62 : Cond.fieldLink RX6 62 RX6 (TX6 14).2.1 (TX6 14).2.2.1 ∈ GT := GT1 114 rfl rfl
set_option maxRecDepth 100000 in
theorem mf_7_9 : Cond.fieldLink RX7 9 RX7 (TX7 0).2.1 (TX7 0).2.2.1 ∈ GT := GT1 166 rfl rfl
set_option maxRecDepth 100000 in
theorem mf_7_21 : Cond.fieldLink RX7 21 RX7 (TX7 1).2.1 (TX7 1).2.2.1 ∈ GT := GT1 167 rfl rfl
set_option maxRecDepth 100000 in
theorem mf_7_25 : Cond.fieldLink RX7 25 RX7 (TX7 2).2.1 (TX7 2).2.2.1 ∈ GT := GT1 168 rfl rfl
set_option maxRecDepth 100000 in
theorem mf_7_31 : Cond.fieldLink RX7 31 RX7 (TX7 4).2.1 (TX7 4).2.2.1 ∈ GT := GT1 173 rfl rfl
set_option maxRecDepth 100000 in
theorem mf_7_34 : Cond.fieldLink RX7 34 RX7 (TX7 5).2.1 (TX7 5).2.2.1 ∈ GT := GT1 174 rfl rfl
set_option maxRecDepth 100000 in
theorem mf_7_37 : Cond.fieldLink RX7 37 RX7 (TX7 3).2.1 (TX7 3).2.2.1 ∈ GT := GT1 169 rfl rfl
set_option maxRecDepth 100000 in
theorem mf_8_11 : Cond.fieldLink RX8 11 RX8 (TX8 0).2.1 (TX8 0).2.2.1 ∈ GT := GT2 92 rfl rfl
set_option maxRecDepth 100000 in
theorem mf_8_15 : Cond.fieldLink RX8 15 RX8 (TX8 1).2.1 (TX8 1).2.2.1 ∈ GT := GT2 93 rfl rfl
set_option maxRecDepth 100000 in
theorem mf_8_25 : Cond.fieldLink RX8 25 RX4 (TX4 0).2.1 (TX4 0).2.2.1 ∈ GT := GT2 7 rfl rfl
set_option maxRecDepth 100000 in
theorem mf_8_30 : Cond.fieldLink RX8 30 RX4 (TX4 2).2.1 (TX4 2).2.2.1 ∈ GT := GT2 14 rfl rfl
set_option maxRecDepth 100000 in
theorem mf_8_33 : Cond.fieldLink RX8 33 RX4 (TX4 3).2.1 (TX4 3).2.2.1 ∈ GT := GT2 18 rfl rfl
set_option maxRecDepth 100000 in
theorem mf_8_36 : Cond.fieldLink RX8 36 RX4 (TX4 4).2.1 (TX4 4).2.2.1 ∈ GT := GT2 22 rfl rfl
set_option maxRecDepth 100000 in
theorem mf_8_39 : Cond.fieldLink RX8 39 RX4 (TX4 6).2.1 (TX4 6).2.2.1 ∈ GT := GT2 28 rfl rfl
set_option maxRecDepth 100000 in
theorem mf_8_42 : Cond.fieldLink RX8 42 RX4 (TX4 9).2.1 (TX4 9).2.2.1 ∈ GT := GT2 36 rfl rfl
set_option maxRecDepth 100000 in
theorem mf_8_45 : Cond.fieldLink RX8 45 RX4 (TX4 10).2.1 (TX4 10).2.2.1 ∈ GT := GT2 40 rfl rfl
set_option maxRecDepth 100000 in
theorem mf_8_48 : Cond.fieldLink RX8 48 RX4 (TX4 11).2.1 (TX4 11).2.2.1 ∈ GT := GT2 44 rfl rfl
set_option maxRecDepth 100000 in
theorem mf_10_7 : Cond.fieldLink RX10 7 RX10 (TX10 0).2.1 (TX10 0).2.2.1 ∈ GT := GT5 215 rfl rfl
set_option maxRecDepth 100000 in
theorem mf_10_13 : Cond.fieldLink RX10 13 RX10 (TX10 3).2.1 (TX10 3).2.2.1 ∈ GT := GT5 218 rfl rfl
set_option maxRecDepth 100000 in
theorem mf_10_16 : Cond.fieldLink RX10 16 RX10 (TX10 5).2.1 (TX10 5).2.2.1 ∈ GT := GT5 220 rfl rfl
set_option maxRecDepth 100000 in
theorem mf_10_20 : Cond.fieldLink RX10 20 RX10 (TX10 18).2.1 (TX10 18).2.2.1 ∈ GT := GT5 233 rfl rfl
set_option maxRecDepth 100000 in
theorem mf_10_24 : Cond.fieldLink RX10 24 RX10 (TX10 19).2.1 (TX10 19).2.2.1 ∈ GT := GT5 234 rfl rfl
set_option maxRecDepth 100000 in
theorem mf_10_27 : Cond.fieldLink RX10 27 RX10 (TX10 20).2.1 (TX10 20).2.2.1 ∈ GT := GT5 235 rfl rfl
set_option maxRecDepth 100000 in
theorem mf_10_30 : Cond.fieldLink RX10 30 RX10 (TX10 21).2.1 (TX10 21).2.2.1 ∈ GT := GT5 236 rfl rfl
set_option maxRecDepth 100000 in
theorem mf_10_33 : Cond.fieldLink RX10 33 RX10 (TX10 22).2.1 (TX10 22).2.2.1 ∈ GT := GT5 237 rfl rfl
set_option maxRecDepth 100000 in
theorem mf_10_36 : Cond.fieldLink RX10 36 RX10 (TX10 23).2.1 (TX10 23).2.2.1 ∈ GT := GT5 238 rfl rfl
set_option maxRecDepth 100000 in
theorem mf_10_39 : Cond.fieldLink RX10 39 RX10 (TX10 24).2.1 (TX10 24).2.2.1 ∈ GT := GT5 239 rfl rfl
set_option maxRecDepth 100000 in
theorem mf_10_42 : Cond.fieldLink RX10 42 RX10 (TX10 25).2.1 (TX10 25).2.2.1 ∈ GT := GT6 0 rfl rfl
set_option maxRecDepth 100000 in
theorem mf_10_45 : Cond.fieldLink RX10 45 RX10 (TX10 26).2.1 (TX10 26).2.2.1 ∈ GT := GT6 1 rfl rfl
set_option maxRecDepth 100000 in
theorem mf_10_48 : Cond.fieldLink RX10 48 RX10 (TX10 27).2.1 (TX10 27).2.2.1 ∈ GT := GT6 2 rfl rfl
set_option maxRecDepth 100000 in
theorem mf_10_51 : Cond.fieldLink RX10 51 RX10 (TX10 28).2.1 (TX10 28).2.2.1 ∈ GT := GT6 3 rfl rfl
set_option maxRecDepth 100000 in
theorem mf_10_54 : Cond.fieldLink RX10 54 RX10 (TX10 29).2.1 (TX10 29).2.2.1 ∈ GT := GT6 4 rfl rfl
set_option maxRecDepth 100000 in
theorem mf_10_57 : Cond.fieldLink RX10 57 RX10 (TX10 30).2.1 (TX10 30).2.2.1 ∈ GT := GT6 5 rfl rfl
set_option maxRecDepth 100000 in
theorem mf_10_60 : Cond.fieldLink RX10 60 RX10 (TX10 31).2.1 (TX10 31).2.2.1 ∈ GT := GT6 6 rfl rfl
set_option maxRecDepth 100000 in
theorem mf_10_63 : Cond.fieldLink RX10 63 RX10 (TX10 32).2.1 (TX10 32).2.2.1 ∈ GT := GT6 7 rfl rfl
set_option maxRecDepth 100000 in
theorem mf_10_66 : Cond.fieldLink RX10 66 RX10 (TX10 33).2.1 (TX10 33).2.2.1 ∈ GT := GT6 8 rfl rfl
set_option maxRecDepth 100000 in
theorem mf_10_69 : Cond.fieldLink RX10 69 RX10 (TX10 34).2.1 (TX10 34).2.2.1 ∈ GT := GT6 9 rfl rfl
set_option maxRecDepth 100000 in
theorem mf_10_72 : Cond.fieldLink RX10 72 RX10 (TX10 35).2.1 (TX10 35).2.2.1 ∈ GT := GT6 10 rfl rfl
set_option maxRecDepth 100000 in
theorem mf_10_75 : Cond.fieldLink RX10 75 RX10 (TX10 36).2.1 (TX10 36).2.2.1 ∈ GT := GT6 11 rfl rfl
set_option maxRecDepth 100000 in
theorem mf_10_78 : Cond.fieldLink RX10 78 RX10 (TX10 43).2.1 (TX10 43).2.2.1 ∈ GT := GT6 18 rfl rfl
set_option maxRecDepth 100000 in
theorem mf_10_82 : Cond.fieldLink RX10 82 RX10 (TX10 44).2.1 (TX10 44).2.2.1 ∈ GT := GT6 19 rfl rfl
set_option maxRecDepth 100000 in
theorem mf_10_85 : Cond.fieldLink RX10 85 RX10 (TX10 46).2.1 (TX10 46).2.2.1 ∈ GT := GT6 21 rfl rfl
set_option maxRecDepth 100000 in
theorem mf_10_88 : Cond.fieldLink RX10 88 RX10 (TX10 47).2.1 (TX10 47).2.2.1 ∈ GT := GT6 22 rfl rfl
set_option maxRecDepth 100000 in
theorem mf_10_91 : Cond.fieldLink RX10 91 RX10 (TX10 48).2.1 (TX10 48).2.2.1 ∈ GT := GT6 23 rfl rfl
set_option maxRecDepth 100000 in
theorem mf_10_94 : Cond.fieldLink RX10 94 RX10 (TX10 49).2.1 (TX10 49).2.2.1 ∈ GT := GT6 24 rfl rfl
set_option maxRecDepth 100000 in
theorem mf_10_97 : Cond.fieldLink RX10 97 RX10 (TX10 50).2.1 (TX10 50).2.2.1 ∈ GT := GT6 25 rfl rfl
set_option maxRecDepth 100000 in
theorem mf_10_100 : Cond.fieldLink RX10 100 RX10 (TX10 51).2.1 (TX10 51).2.2.1 ∈ GT := GT6 26 rfl rfl
set_option maxRecDepth 100000 in
theorem mf_10_103 : Cond.fieldLink RX10 103 RX10 (TX10 52).2.1 (TX10 52).2.2.1 ∈ GT := GT6 27 rfl rfl
set_option maxRecDepth 100000 in
theorem mf_10_106 : Cond.fieldLink RX10 106 RX10 (TX10 53).2.1 (TX10 53).2.2.1 ∈ GT := GT6 28 rfl rfl
set_option maxRecDepth 100000 in
theorem mf_10_109 : Cond.fieldLink RX10 109 RX10 (TX10 54).2.1 (TX10 54).2.2.1 ∈ GT := GT6 29 rfl rfl
set_option maxRecDepth 100000 in
theorem mf_10_112 : Cond.fieldLink RX10 112 RX10 (TX10 55).2.1 (TX10 55).2.2.1 ∈ GT := GT6 30 rfl rfl
set_option maxRecDepth 100000 in
theorem mf_10_115 : Cond.fieldLink RX10 115 RX10 (TX10 56).2.1 (TX10 56).2.2.1 ∈ GT := GT6 31 rfl rfl
set_option maxRecDepth 100000 in
theorem mf_10_118 : Cond.fieldLink RX10 118 RX10 (TX10 57).2.1 (TX10 57).2.2.1 ∈ GT := GT6 32 rfl rfl
set_option maxRecDepth 100000 in
theorem mf_10_121 : Cond.fieldLink RX10 121 RX10 (TX10 58).2.1 (TX10 58).2.2.1 ∈ GT := GT6 33 rfl rfl
set_option maxRecDepth 100000 in
theorem mf_10_124 : Cond.fieldLink RX10 124 RX10 (TX10 59).2.1 (TX10 59).2.2.1 ∈ GT := GT6 34 rfl rfl
set_option maxRecDepth 100000 in
theorem mf_10_127 : Cond.fieldLink RX10 127 RX10 (TX10 68).2.1 (TX10 68).2.2.1 ∈ GT := GT6 43 rfl rfl
set_option maxRecDepth 100000 in
theorem mf_10_130 : Cond.fieldLink RX10 130 RX10 (TX10 69).2.1 (TX10 69).2.2.1 ∈ GT := GT6 44 rfl rfl
set_option maxRecDepth 100000 in
theorem mf_10_133 : Cond.fieldLink RX10 133 RX10 (TX10 70).2.1 (TX10 70).2.2.1 ∈ GT := GT6 45 rfl rfl
set_option maxRecDepth 100000 in
theorem mf_10_136 : Cond.fieldLink RX10 136 RX10 (TX10 72).2.1 (TX10 72).2.2.1 ∈ GT := GT6 47 rfl rfl
set_option maxRecDepth 100000 in
theorem mf_10_139 : Cond.fieldLink RX10 139 RX10 (TX10 74).2.1 (TX10 74).2.2.1 ∈ GT := GT6 49 rfl rfl
set_option maxRecDepth 100000 in
theorem mf_10_142 : Cond.fieldLink RX10 142 RX10 (TX10 75).2.1 (TX10 75).2.2.1 ∈ GT := GT6 50 rfl rfl
set_option maxRecDepth 100000 in
theorem mf_10_151 : Cond.fieldLink RX10 151 RX10 (TX10 2).2.1 (TX10 2).2.2.1 ∈ GT := GT5 217 rfl rfl
set_option maxRecDepth 100000 in
theorem mf_10_154 : Cond.fieldLink RX10 154 RX10 (TX10 1).2.1 (TX10 1).2.2.1 ∈ GT := GT5 216 rfl rfl
set_option maxRecDepth 100000 in
theorem mf_10_157 : Cond.fieldLink RX10 157 RX10 (TX10 4).2.1 (TX10 4).2.2.1 ∈ GT := GT5 219 rfl rfl
set_option maxRecDepth 100000 in
theorem mf_10_160 : Cond.fieldLink RX10 160 RX10 (TX10 10).2.1 (TX10 10).2.2.1 ∈ GT := GT5 225 rfl rfl
set_option maxRecDepth 100000 in
theorem mf_10_163 : Cond.fieldLink RX10 163 RX10 (TX10 6).2.1 (TX10 6).2.2.1 ∈ GT := GT5 221 rfl rfl
set_option maxRecDepth 100000 in
theorem mf_10_166 : Cond.fieldLink RX10 166 RX10 (TX10 7).2.1 (TX10 7).2.2.1 ∈ GT := GT5 222 rfl rfl
set_option maxRecDepth 100000 in
theorem mf_10_169 : Cond.fieldLink RX10 169 RX10 (TX10 8).2.1 (TX10 8).2.2.1 ∈ GT := GT5 223 rfl rfl
set_option maxRecDepth 100000 in
theorem mf_10_180 : Cond.fieldLink RX10 180 RX10 (TX10 9).2.1 (TX10 9).2.2.1 ∈ GT := GT5 224 rfl rfl
set_option maxRecDepth 100000 in
theorem mf_10_200 : Cond.fieldLink RX10 200 RX10 (TX10 11).2.1 (TX10 11).2.2.1 ∈ GT := GT5 226 rfl rfl
set_option maxRecDepth 100000 in
theorem mf_10_213 : Cond.fieldLink RX10 213 RX10 (TX10 15).2.1 (TX10 15).2.2.1 ∈ GT := GT5 230 rfl rfl
set_option maxRecDepth 100000 in
theorem mf_10_216 : Cond.fieldLink RX10 216 RX10 (TX10 16).2.1 (TX10 16).2.2.1 ∈ GT := GT5 231 rfl rfl
set_option maxRecDepth 100000 in
theorem mf_10_219 : Cond.fieldLink RX10 219 RX10 (TX10 17).2.1 (TX10 17).2.2.1 ∈ GT := GT5 232 rfl rfl
set_option maxRecDepth 100000 in
theorem mf_10_222 : Cond.fieldLink RX10 222 RX10 (TX10 40).2.1 (TX10 40).2.2.1 ∈ GT := GT6 15 rfl rfl
set_option maxRecDepth 100000 in
theorem mf_10_225 : Cond.fieldLink RX10 225 RX10 (TX10 12).2.1 (TX10 12).2.2.1 ∈ GT := GT5 227 rfl rfl
set_option maxRecDepth 100000 in
theorem mf_10_228 : Cond.fieldLink RX10 228 RX10 (TX10 13).2.1 (TX10 13).2.2.1 ∈ GT := GT5 228 rfl rfl
set_option maxRecDepth 100000 in
theorem mf_10_231 : Cond.fieldLink RX10 231 RX10 (TX10 14).2.1 (TX10 14).2.2.1 ∈ GT := GT5 229 rfl rfl
set_option maxRecDepth 100000 in
theorem mf_10_265 : Cond.fieldLink RX10 265 RX10 (TX10 38).2.1 (TX10 38).2.2.1 ∈ GT := GT6 13 rfl rfl
set_option maxRecDepth 100000 in
theorem mf_10_268 : Cond.fieldLink RX10 268 RX10 (TX10 37).2.1 (TX10 37).2.2.1 ∈ GT := GT6 12 rfl rfl
set_option maxRecDepth 100000 in
theorem mf_10_283 : Cond.fieldLink RX10 283 RX10 (TX10 39).2.1 (TX10 39).2.2.1 ∈ GT := GT6 14 rfl rfl
set_option maxRecDepth 100000 in
theorem mf_10_290 : Cond.fieldLink RX10 290 RX10 (TX10 42).2.1 (TX10 42).2.2.1 ∈ GT := GT6 17 rfl rfl
set_option maxRecDepth 100000 in
theorem mf_10_303 : Cond.fieldLink RX10 303 RX10 (TX10 41).2.1 (TX10 41).2.2.1 ∈ GT := GT6 16 rfl rfl
set_option maxRecDepth 100000 in
theorem mf_10_315 : Cond.fieldLink RX10 315 RX10 (TX10 45).2.1 (TX10 45).2.2.1 ∈ GT := GT6 20 rfl rfl
set_option maxRecDepth 100000 in
theorem mf_10_337 : Cond.fieldLink RX10 337 RX10 (TX10 60).2.1 (TX10 60).2.2.1 ∈ GT := GT6 35 rfl rfl
set_option maxRecDepth 100000 in
theorem mf_10_344 : Cond.fieldLink RX10 344 RX10 (TX10 67).2.1 (TX10 67).2.2.1 ∈ GT := GT6 42 rfl rfl
set_option maxRecDepth 100000 in
theorem mf_10_347 : Cond.fieldLink RX10 347 RX10 (TX10 71).2.1 (TX10 71).2.2.1 ∈ GT := GT6 46 rfl rfl
set_option maxRecDepth 100000 in
theorem mf_10_350 : Cond.fieldLink RX10 350 RX10 (TX10 73).2.1 (TX10 73).2.2.1 ∈ GT := GT6 48 rfl rfl
set_option maxRecDepth 100000 in
theorem mf_10_353 : Cond.fieldLink RX10 353 RX10 (TX10 61).2.1 (TX10 61).2.2.1 ∈ GT := GT6 36 rfl rfl
set_option maxRecDepth 100000 in
theorem mf_10_356 : Cond.fieldLink RX10 356 RX10 (TX10 62).2.1 (TX10 62).2.2.1 ∈ GT := GT6 37 rfl rfl
set_option maxRecDepth 100000 in
theorem mf_10_359 : Cond.fieldLink RX10 359 RX10 (TX10 63).2.1 (TX10 63).2.2.1 ∈ GT := GT6 38 rfl rfl
set_option maxRecDepth 100000 in
theorem mf_10_362 : Cond.fieldLink RX10 362 RX10 (TX10 64).2.1 (TX10 64).2.2.1 ∈ GT := GT6 39 rfl rfl
set_option maxRecDepth 100000 in
theorem mf_10_365 : Cond.fieldLink RX10 365 RX10 (TX10 65).2.1 (TX10 65).2.2.1 ∈ GT := GT6 40 rfl rfl
set_option maxRecDepth 100000 in
theorem mf_10_412 : Cond.fieldLink RX10 412 RX10 (TX10 66).2.1 (TX10 66).2.2.1 ∈ GT := GT6 41 rfl rfl
set_option maxRecDepth 100000 in
theorem mf_10_505 : Cond.fieldLink RX10 505 RX10 (TX10 76).2.1 (TX10 76).2.2.1 ∈ GT := GT6 51 rfl rfl
set_option maxRecDepth 100000 in
theorem mk_X9_341 : Cond.constant RX9 341 (2147483647) ∈ GT := GT4 234 rfl rfl
set_option maxRecDepth 100000 in
theorem mk_X3_161 : Cond.constant RX3 161 (99999) ∈ GT := GT3 77 rfl rfl
set_option maxRecDepth 100000 in
theorem mk_X4_99 : Cond.constant RX4 99 (1103515245) ∈ GT := GT4 97 rfl rfl
set_option maxRecDepth 100000 in
theorem mk_X4_102 : Cond.constant RX4 102 (2147483647) ∈ GT := GT4 98 rfl rfl
set_option maxRecDepth 100000 in
theorem mk_X4_103 : Cond.constant RX4 103 (65536) ∈ GT := GT4 99 rfl rfl
set_option maxRecDepth 100000 in
theorem mk_X7_65 : Cond.constant RX7 65 (1000000) ∈ GT := GT3 25 rfl rfl
set_option maxRecDepth 100000 in
theorem mk_X10_189 : Cond.constant RX10 189 (99999) ∈ GT := GT6 239 rfl rfl
set_option maxRecDepth 100000 in
theorem mk_J6_265 : Cond.constant RJ6 265 (1431655765) ∈ GT := GT3 222 rfl rfl
set_option maxRecDepth 100000 in
theorem mk_J6_266 : Cond.constant RJ6 266 (858993459) ∈ GT := GT3 223 rfl rfl
set_option maxRecDepth 100000 in
theorem mk_J6_267 : Cond.constant RJ6 267 (252645135) ∈ GT := GT3 224 rfl rfl
set_option maxRecDepth 100000 in
theorem mk2_X9_192 : Cond.constantLong RX9 192 (-9223372036854775808) ∈ GT := GT3 192 rfl rfl
set_option maxRecDepth 100000 in
theorem mk2_X9_307 : Cond.constantLong RX9 307 (-1) ∈ GT := GT4 187 rfl rfl
set_option maxRecDepth 100000 in
theorem mk2_X9_315 : Cond.constantLong RX9 315 (100) ∈ GT := GT4 190 rfl rfl
set_option maxRecDepth 100000 in
theorem mk2_X0_103 : Cond.constantLong RX0 103 (-9223372036854775808) ∈ GT := GT3 202 rfl rfl
set_option maxRecDepth 100000 in
theorem mk2_X0_115 : Cond.constantLong RX0 115 (100) ∈ GT := GT4 82 rfl rfl
set_option maxRecDepth 100000 in
theorem mk2_X0_135 : Cond.constantLong RX0 135 (9999) ∈ GT := GT4 105 rfl rfl
set_option maxRecDepth 100000 in
theorem mk2_X0_192 : Cond.constantLong RX0 192 (1000000000000) ∈ GT := GT3 213 rfl rfl
set_option maxRecDepth 100000 in
theorem mk2_X0_194 : Cond.constantLong RX0 194 (-1000000000000) ∈ GT := GT3 214 rfl rfl
set_option maxRecDepth 100000 in
theorem mk2_X10_318 : Cond.constantLong RX10 318 (1000000000000) ∈ GT := GT7 130 rfl rfl
set_option maxRecDepth 100000 in
theorem mk2_X10_320 : Cond.constantLong RX10 320 (-1000000000000) ∈ GT := GT7 131 rfl rfl
set_option maxRecDepth 100000 in
theorem mk2_X10_386 : Cond.constantLong RX10 386 (1103515245) ∈ GT := GT7 211 rfl rfl
set_option maxRecDepth 100000 in
theorem mk2_X10_388 : Cond.constantLong RX10 388 (12345) ∈ GT := GT7 212 rfl rfl
set_option maxRecDepth 100000 in
theorem mk2_X10_390 : Cond.constantLong RX10 390 (2147483647) ∈ GT := GT7 213 rfl rfl
set_option maxRecDepth 100000 in
theorem mk2_X10_392 : Cond.constantLong RX10 392 (65536) ∈ GT := GT7 214 rfl rfl
set_option maxRecDepth 100000 in
theorem mk2_X10_439 : Cond.constantLong RX10 439 (-9223372036854775808) ∈ GT := GT7 113 rfl rfl
set_option maxRecDepth 100000 in
theorem mk2_X10_483 : Cond.constantLong RX10 483 (-1) ∈ GT := GT8 101 rfl rfl
set_option maxRecDepth 100000 in
theorem mk2_X10_485 : Cond.constantLong RX10 485 (100) ∈ GT := GT8 102 rfl rfl
set_option maxRecDepth 100000 in
theorem mi_L : Cond.initialized RL ∈ GT := GT1 0 rfl rfl
set_option maxRecDepth 100000 in
theorem mi_X9 : Cond.initialized RX9 ∈ GT := GT1 1 rfl rfl
set_option maxRecDepth 100000 in
theorem mi_X6 : Cond.initialized RX6 ∈ GT := GT1 2 rfl rfl
set_option maxRecDepth 100000 in
theorem mi_X2 : Cond.initialized RX2 ∈ GT := GT1 3 rfl rfl
set_option maxRecDepth 100000 in
theorem mi_X3 : Cond.initialized RX3 ∈ GT := GT1 4 rfl rfl
set_option maxRecDepth 100000 in
theorem mi_X7 : Cond.initialized RX7 ∈ GT := GT1 5 rfl rfl
set_option maxRecDepth 100000 in
theorem mi_X1 : Cond.initialized RX1 ∈ GT := GT1 6 rfl rfl
set_option maxRecDepth 100000 in
theorem mi_X4 : Cond.initialized RX4 ∈ GT := GT1 7 rfl rfl
set_option maxRecDepth 100000 in
theorem mi_X8 : Cond.initialized RX8 ∈ GT := GT1 8 rfl rfl
set_option maxRecDepth 100000 in
theorem mi_X5 : Cond.initialized RX5 ∈ GT := GT1 9 rfl rfl
set_option maxRecDepth 100000 in
theorem mi_X0 : Cond.initialized RX0 ∈ GT := GT1 10 rfl rfl
set_option maxRecDepth 100000 in
theorem mi_X10 : Cond.initialized RX10 ∈ GT := GT1 11 rfl rfl
set_option maxRecDepth 100000 in
theorem mi_J9 : Cond.initialized RJ9 ∈ GT := GT1 12 rfl rfl
set_option maxRecDepth 100000 in
theorem mi_J10 : Cond.initialized RJ10 ∈ GT := GT1 18 rfl rfl
set_option maxRecDepth 100000 in
theorem mi_J6 : Cond.initialized RJ6 ∈ GT := GT1 19 rfl rfl
set_option maxRecDepth 100000 in
theorem mi_Math : Cond.initialized "java/lang/Math" ∈ GT := GT1 12 rfl rfl
set_option maxRecDepth 100000 in
theorem mi_System : Cond.initialized "java/lang/System" ∈ GT := GT1 18 rfl rfl
set_option maxRecDepth 100000 in
theorem mcode_X9_init : Cond.code yX9_init cX9_init 1 (none : Option Jvm.ClassFile.FieldType) ∈ GT := GT1 24 rfl rfl
set_option maxRecDepth 100000 in
theorem mint_X9_init : Cond.instanceMethod yX9_init ∈ GT := GT1 23 rfl rfl
set_option maxRecDepth 100000 in
theorem mcode_X9_against : Cond.code yX9_against cX9_against 10 (some .int) ∈ GT := GT5 20 rfl rfl
set_option maxRecDepth 100000 in
theorem mint_X9_against : Cond.instanceMethod yX9_against ∈ GT := GT5 18 rfl rfl
set_option maxRecDepth 100000 in
theorem msel_X9_against : Cond.selects RX9 yX9_against yX9_against ∈ GT := GT5 19 rfl rfl
set_option maxRecDepth 100000 in
theorem mcode_X9_agreesWithSeen : Cond.code yX9_agreesWithSeen cX9_agreesWithSeen 4 (some .boolean) ∈ GT := GT5 90 rfl rfl
set_option maxRecDepth 100000 in
theorem mint_X9_agreesWithSeen : Cond.instanceMethod yX9_agreesWithSeen ∈ GT := GT5 89 rfl rfl
set_option maxRecDepth 100000 in
theorem msel_X9_agreesWithSeen : Cond.selects RX9 yX9_agreesWithSeen yX9_agreesWithSeen ∈ GT := GT_s 43 rfl rfl
set_option maxRecDepth 100000 in
theorem mcode_X9_ahead : Cond.code yX9_ahead cX9_ahead 3 (some .int) ∈ GT := GT4 141 rfl rfl
set_option maxRecDepth 100000 in
theorem mint_X9_ahead : Cond.instanceMethod yX9_ahead ∈ GT := GT4 139 rfl rfl
set_option maxRecDepth 100000 in
theorem msel_X9_ahead : Cond.selects RX9 yX9_ahead yX9_ahead ∈ GT := GT4 140 rfl rfl
set_option maxRecDepth 100000 in
theorem mcode_X9_areThreeIn : Cond.code yX9_areThreeIn cX9_areThreeIn 4 (some .boolean) ∈ GT := GT5 16 rfl rfl
set_option maxRecDepth 100000 in
theorem mint_X9_areThreeIn : Cond.instanceMethod yX9_areThreeIn ∈ GT := GT5 15 rfl rfl
set_option maxRecDepth 100000 in
theorem msel_X9_areThreeIn : Cond.selects RX9 yX9_areThreeIn yX9_areThreeIn ∈ GT := GT_s 40 rfl rfl
set_option maxRecDepth 100000 in
theorem mcode_X9_areTwoIn : Cond.code yX9_areTwoIn cX9_areTwoIn 3 (some .boolean) ∈ GT := GT4 32 rfl rfl
set_option maxRecDepth 100000 in
theorem mint_X9_areTwoIn : Cond.instanceMethod yX9_areTwoIn ∈ GT := GT4 31 rfl rfl
set_option maxRecDepth 100000 in
theorem msel_X9_areTwoIn : Cond.selects RX9 yX9_areTwoIn yX9_areTwoIn ∈ GT := GT_s 28 rfl rfl
set_option maxRecDepth 100000 in
theorem mcode_X9_atMost : Cond.code yX9_atMost cX9_atMost 1 (some .int) ∈ GT := GT4 162 rfl rfl
set_option maxRecDepth 100000 in
theorem mint_X9_atMost : Cond.instanceMethod yX9_atMost ∈ GT := GT4 160 rfl rfl
set_option maxRecDepth 100000 in
theorem msel_X9_atMost : Cond.selects RX9 yX9_atMost yX9_atMost ∈ GT := GT4 161 rfl rfl
set_option maxRecDepth 100000 in
theorem mcode_X9_back : Cond.code yX9_back cX9_back 1 (some .int) ∈ GT := GT4 137 rfl rfl
set_option maxRecDepth 100000 in
theorem mint_X9_back : Cond.instanceMethod yX9_back ∈ GT := GT4 135 rfl rfl
set_option maxRecDepth 100000 in
theorem msel_X9_back : Cond.selects RX9 yX9_back yX9_back ∈ GT := GT4 136 rfl rfl
set_option maxRecDepth 100000 in
theorem mcode_X9_bounds : Cond.code yX9_bounds cX9_bounds 4 (some .int) ∈ GT := GT5 81 rfl rfl
set_option maxRecDepth 100000 in
theorem mint_X9_bounds : Cond.instanceMethod yX9_bounds ∈ GT := GT5 79 rfl rfl
set_option maxRecDepth 100000 in
theorem msel_X9_bounds : Cond.selects RX9 yX9_bounds yX9_bounds ∈ GT := GT5 80 rfl rfl
set_option maxRecDepth 100000 in
theorem mcode_X9_chance : Cond.code yX9_chance cX9_chance 7 (some .int) ∈ GT := GT4 182 rfl rfl
set_option maxRecDepth 100000 in
theorem mint_X9_chance : Cond.instanceMethod yX9_chance ∈ GT := GT4 180 rfl rfl
set_option maxRecDepth 100000 in
theorem msel_X9_chance : Cond.selects RX9 yX9_chance yX9_chance ∈ GT := GT4 181 rfl rfl
set_option maxRecDepth 100000 in
theorem mcode_X9_child : Cond.code yX9_child cX9_child 2 (some .int) ∈ GT := GT4 54 rfl rfl
set_option maxRecDepth 100000 in
theorem mint_X9_child : Cond.instanceMethod yX9_child ∈ GT := GT4 52 rfl rfl
set_option maxRecDepth 100000 in
theorem msel_X9_child : Cond.selects RX9 yX9_child yX9_child ∈ GT := GT4 53 rfl rfl
set_option maxRecDepth 100000 in
theorem mcode_X9_commonDivisor : Cond.code yX9_commonDivisor cX9_commonDivisor 11 (some .long) ∈ GT := GT4 193 rfl rfl
set_option maxRecDepth 100000 in
theorem mst_X9_commonDivisor : Cond.static yX9_commonDivisor ∈ GT := GT4 192 rfl rfl
set_option maxRecDepth 100000 in
theorem mcode_X9_count : Cond.code yX9_count cX9_count 2 (some .int) ∈ GT := GT3 218 rfl rfl
set_option maxRecDepth 100000 in
theorem mint_X9_count : Cond.instanceMethod yX9_count ∈ GT := GT3 216 rfl rfl
set_option maxRecDepth 100000 in
theorem msel_X9_count : Cond.selects RX9 yX9_count yX9_count ∈ GT := GT3 217 rfl rfl
set_option maxRecDepth 100000 in
theorem mcode_X9_falls : Cond.code yX9_falls cX9_falls 3 (some .int) ∈ GT := GT4 154 rfl rfl
set_option maxRecDepth 100000 in
theorem mint_X9_falls : Cond.instanceMethod yX9_falls ∈ GT := GT4 152 rfl rfl
set_option maxRecDepth 100000 in
theorem msel_X9_falls : Cond.selects RX9 yX9_falls yX9_falls ∈ GT := GT4 153 rfl rfl
set_option maxRecDepth 100000 in
theorem mcode_X9_fault : Cond.code yX9_fault cX9_fault 2 (some .int) ∈ GT := GT3 169 rfl rfl
set_option maxRecDepth 100000 in
theorem mint_X9_fault : Cond.instanceMethod yX9_fault ∈ GT := GT3 167 rfl rfl
set_option maxRecDepth 100000 in
theorem msel_X9_fault : Cond.selects RX9 yX9_fault yX9_fault ∈ GT := GT3 168 rfl rfl
set_option maxRecDepth 100000 in
theorem mcode_X9_feed : Cond.code yX9_feed cX9_feed 6 (some .int) ∈ GT := GT2 210 rfl rfl
set_option maxRecDepth 100000 in
theorem mint_X9_feed : Cond.instanceMethod yX9_feed ∈ GT := GT2 208 rfl rfl
set_option maxRecDepth 100000 in
theorem msel_X9_feed : Cond.selects RX9 yX9_feed yX9_feed ∈ GT := GT2 209 rfl rfl
set_option maxRecDepth 100000 in
theorem mcode_X9_gainOf : Cond.code yX9_gainOf cX9_gainOf 2 (some .int) ∈ GT := GT5 3 rfl rfl
set_option maxRecDepth 100000 in
theorem mint_X9_gainOf : Cond.instanceMethod yX9_gainOf ∈ GT := GT5 2 rfl rfl
set_option maxRecDepth 100000 in
theorem msel_X9_gainOf : Cond.selects RX9 yX9_gainOf yX9_gainOf ∈ GT := GT_s 38 rfl rfl
set_option maxRecDepth 100000 in
theorem mcode_X9_go : Cond.code yX9_go cX9_go 3 (some .int) ∈ GT := GT4 58 rfl rfl
set_option maxRecDepth 100000 in
theorem mint_X9_go : Cond.instanceMethod yX9_go ∈ GT := GT4 56 rfl rfl
set_option maxRecDepth 100000 in
theorem msel_X9_go : Cond.selects RX9 yX9_go yX9_go ∈ GT := GT4 57 rfl rfl
set_option maxRecDepth 100000 in
theorem mcode_X9_greatestWorth : Cond.code yX9_greatestWorth cX9_greatestWorth 4 (some .int) ∈ GT := GT5 7 rfl rfl
set_option maxRecDepth 100000 in
theorem mint_X9_greatestWorth : Cond.instanceMethod yX9_greatestWorth ∈ GT := GT5 6 rfl rfl
set_option maxRecDepth 100000 in
theorem msel_X9_greatestWorth : Cond.selects RX9 yX9_greatestWorth yX9_greatestWorth ∈ GT := GT_s 39 rfl rfl
set_option maxRecDepth 100000 in
theorem mcode_X9_house : Cond.code yX9_house cX9_house 3 (some .int) ∈ GT := GT5 103 rfl rfl
set_option maxRecDepth 100000 in
theorem mint_X9_house : Cond.instanceMethod yX9_house ∈ GT := GT5 101 rfl rfl
set_option maxRecDepth 100000 in
theorem msel_X9_house : Cond.selects RX9 yX9_house yX9_house ∈ GT := GT5 102 rfl rfl
set_option maxRecDepth 100000 in
theorem mcode_X9_hush : Cond.code yX9_hush cX9_hush 6 (some .int) ∈ GT := GT4 214 rfl rfl
set_option maxRecDepth 100000 in
theorem mint_X9_hush : Cond.instanceMethod yX9_hush ∈ GT := GT4 212 rfl rfl
set_option maxRecDepth 100000 in
theorem msel_X9_hush : Cond.selects RX9 yX9_hush yX9_hush ∈ GT := GT4 213 rfl rfl
set_option maxRecDepth 100000 in
theorem mcode_X9_isFewer : Cond.code yX9_isFewer cX9_isFewer 2 (some .boolean) ∈ GT := GT4 217 rfl rfl
set_option maxRecDepth 100000 in
theorem mst_X9_isFewer : Cond.static yX9_isFewer ∈ GT := GT4 216 rfl rfl
set_option maxRecDepth 100000 in
theorem mcode_X9_isHouse : Cond.code yX9_isHouse cX9_isHouse 2 (some .boolean) ∈ GT := GT3 191 rfl rfl
set_option maxRecDepth 100000 in
theorem mint_X9_isHouse : Cond.instanceMethod yX9_isHouse ∈ GT := GT3 190 rfl rfl
set_option maxRecDepth 100000 in
theorem msel_X9_isHouse : Cond.selects RX9 yX9_isHouse yX9_isHouse ∈ GT := GT_s 25 rfl rfl
set_option maxRecDepth 100000 in
theorem mcode_X9_isIn : Cond.code yX9_isIn cX9_isIn 2 (some .boolean) ∈ GT := GT4 36 rfl rfl
set_option maxRecDepth 100000 in
theorem mint_X9_isIn : Cond.instanceMethod yX9_isIn ∈ GT := GT4 35 rfl rfl
set_option maxRecDepth 100000 in
theorem msel_X9_isIn : Cond.selects RX9 yX9_isIn yX9_isIn ∈ GT := GT_s 29 rfl rfl
set_option maxRecDepth 100000 in
theorem mcode_X9_isWithin : Cond.code yX9_isWithin cX9_isWithin 3 (some .boolean) ∈ GT := GT3 65 rfl rfl
set_option maxRecDepth 100000 in
theorem mst_X9_isWithin : Cond.static yX9_isWithin ∈ GT := GT3 64 rfl rfl
set_option maxRecDepth 100000 in
theorem mcode_X9_keep : Cond.code yX9_keep cX9_keep 1 (some .int) ∈ GT := GT4 128 rfl rfl
set_option maxRecDepth 100000 in
theorem mint_X9_keep : Cond.instanceMethod yX9_keep ∈ GT := GT4 126 rfl rfl
set_option maxRecDepth 100000 in
theorem msel_X9_keep : Cond.selects RX9 yX9_keep yX9_keep ∈ GT := GT4 127 rfl rfl
set_option maxRecDepth 100000 in
theorem mcode_X9_known : Cond.code yX9_known cX9_known 2 (some .boolean) ∈ GT := GT5 77 rfl rfl
set_option maxRecDepth 100000 in
theorem mint_X9_known : Cond.instanceMethod yX9_known ∈ GT := GT5 75 rfl rfl
set_option maxRecDepth 100000 in
theorem msel_X9_known : Cond.selects RX9 yX9_known yX9_known ∈ GT := GT5 76 rfl rfl
set_option maxRecDepth 100000 in
theorem mcode_X9_law : Cond.code yX9_law cX9_law 3 (some .long) ∈ GT := GT3 186 rfl rfl
set_option maxRecDepth 100000 in
theorem mint_X9_law : Cond.instanceMethod yX9_law ∈ GT := GT3 184 rfl rfl
set_option maxRecDepth 100000 in
theorem msel_X9_law : Cond.selects RX9 yX9_law yX9_law ∈ GT := GT3 185 rfl rfl
set_option maxRecDepth 100000 in
theorem mcode_X9_leastStep : Cond.code yX9_leastStep cX9_leastStep 4 (some .int) ∈ GT := GT4 233 rfl rfl
set_option maxRecDepth 100000 in
theorem mint_X9_leastStep : Cond.instanceMethod yX9_leastStep ∈ GT := GT4 232 rfl rfl
set_option maxRecDepth 100000 in
theorem msel_X9_leastStep : Cond.selects RX9 yX9_leastStep yX9_leastStep ∈ GT := GT_s 37 rfl rfl
set_option maxRecDepth 100000 in
theorem mcode_X9_left : Cond.code yX9_left cX9_left 2 (some .int) ∈ GT := GT4 166 rfl rfl
set_option maxRecDepth 100000 in
theorem mint_X9_left : Cond.instanceMethod yX9_left ∈ GT := GT4 164 rfl rfl
set_option maxRecDepth 100000 in
theorem msel_X9_left : Cond.selects RX9 yX9_left yX9_left ∈ GT := GT4 165 rfl rfl
set_option maxRecDepth 100000 in
theorem mcode_X9_letGo : Cond.code yX9_letGo cX9_letGo 3 (some .int) ∈ GT := GT4 198 rfl rfl
set_option maxRecDepth 100000 in
theorem mint_X9_letGo : Cond.instanceMethod yX9_letGo ∈ GT := GT4 196 rfl rfl
set_option maxRecDepth 100000 in
theorem msel_X9_letGo : Cond.selects RX9 yX9_letGo yX9_letGo ∈ GT := GT4 197 rfl rfl
set_option maxRecDepth 100000 in
theorem mcode_X9_lives : Cond.code yX9_lives cX9_lives 10 (some .long) ∈ GT := GT4 186 rfl rfl
set_option maxRecDepth 100000 in
theorem mint_X9_lives : Cond.instanceMethod yX9_lives ∈ GT := GT4 184 rfl rfl
set_option maxRecDepth 100000 in
theorem msel_X9_lives : Cond.selects RX9 yX9_lives yX9_lives ∈ GT := GT4 185 rfl rfl
set_option maxRecDepth 100000 in
theorem mcode_X9_marry : Cond.code yX9_marry cX9_marry 3 (some .boolean) ∈ GT := GT4 28 rfl rfl
set_option maxRecDepth 100000 in
theorem mint_X9_marry : Cond.instanceMethod yX9_marry ∈ GT := GT4 26 rfl rfl
set_option maxRecDepth 100000 in
theorem msel_X9_marry : Cond.selects RX9 yX9_marry yX9_marry ∈ GT := GT4 27 rfl rfl
set_option maxRecDepth 100000 in
theorem mcode_X9_match : Cond.code yX9_match cX9_match 5 (some .int) ∈ GT := GT4 210 rfl rfl
set_option maxRecDepth 100000 in
theorem mint_X9_match : Cond.instanceMethod yX9_match ∈ GT := GT4 208 rfl rfl
set_option maxRecDepth 100000 in
theorem msel_X9_match : Cond.selects RX9 yX9_match yX9_match ∈ GT := GT4 209 rfl rfl
set_option maxRecDepth 100000 in
theorem mcode_X9_most : Cond.code yX9_most cX9_most 4 (some .int) ∈ GT := GT5 28 rfl rfl
set_option maxRecDepth 100000 in
theorem mint_X9_most : Cond.instanceMethod yX9_most ∈ GT := GT5 26 rfl rfl
set_option maxRecDepth 100000 in
theorem msel_X9_most : Cond.selects RX9 yX9_most yX9_most ∈ GT := GT5 27 rfl rfl
set_option maxRecDepth 100000 in
theorem mcode_X9_named : Cond.code yX9_named cX9_named 3 (some .int) ∈ GT := GT3 173 rfl rfl
set_option maxRecDepth 100000 in
theorem mint_X9_named : Cond.instanceMethod yX9_named ∈ GT := GT3 171 rfl rfl
set_option maxRecDepth 100000 in
theorem msel_X9_named : Cond.selects RX9 yX9_named yX9_named ∈ GT := GT3 172 rfl rfl
set_option maxRecDepth 100000 in
theorem mcode_X9_nextPart : Cond.code yX9_nextPart cX9_nextPart 6 (some .int) ∈ GT := GT5 61 rfl rfl
set_option maxRecDepth 100000 in
theorem mint_X9_nextPart : Cond.instanceMethod yX9_nextPart ∈ GT := GT5 59 rfl rfl
set_option maxRecDepth 100000 in
theorem msel_X9_nextPart : Cond.selects RX9 yX9_nextPart yX9_nextPart ∈ GT := GT5 60 rfl rfl
set_option maxRecDepth 100000 in
theorem mcode_X9_nextRaise : Cond.code yX9_nextRaise cX9_nextRaise 4 (some .int) ∈ GT := GT4 170 rfl rfl
set_option maxRecDepth 100000 in
theorem mint_X9_nextRaise : Cond.instanceMethod yX9_nextRaise ∈ GT := GT4 168 rfl rfl
set_option maxRecDepth 100000 in
theorem msel_X9_nextRaise : Cond.selects RX9 yX9_nextRaise yX9_nextRaise ∈ GT := GT4 169 rfl rfl
set_option maxRecDepth 100000 in
theorem mcode_X9_nod : Cond.code yX9_nod cX9_nod 2 (some .int) ∈ GT := GT4 5 rfl rfl
set_option maxRecDepth 100000 in
theorem mint_X9_nod : Cond.instanceMethod yX9_nod ∈ GT := GT4 3 rfl rfl
set_option maxRecDepth 100000 in
theorem msel_X9_nod : Cond.selects RX9 yX9_nod yX9_nod ∈ GT := GT4 4 rfl rfl
set_option maxRecDepth 100000 in
theorem mcode_X9_noneLeft : Cond.code yX9_noneLeft cX9_noneLeft 3 (some .int) ∈ GT := GT5 57 rfl rfl
set_option maxRecDepth 100000 in
theorem mint_X9_noneLeft : Cond.instanceMethod yX9_noneLeft ∈ GT := GT5 55 rfl rfl
set_option maxRecDepth 100000 in
theorem msel_X9_noneLeft : Cond.selects RX9 yX9_noneLeft yX9_noneLeft ∈ GT := GT5 56 rfl rfl
set_option maxRecDepth 100000 in
theorem mcode_X9_outbid : Cond.code yX9_outbid cX9_outbid 3 (some .int) ∈ GT := GT4 221 rfl rfl
set_option maxRecDepth 100000 in
theorem mint_X9_outbid : Cond.instanceMethod yX9_outbid ∈ GT := GT4 219 rfl rfl
set_option maxRecDepth 100000 in
theorem msel_X9_outbid : Cond.selects RX9 yX9_outbid yX9_outbid ∈ GT := GT4 220 rfl rfl
set_option maxRecDepth 100000 in
theorem mcode_X9_outbidsOthers : Cond.code yX9_outbidsOthers cX9_outbidsOthers 5 (some .boolean) ∈ GT := GT4 225 rfl rfl
set_option maxRecDepth 100000 in
theorem mint_X9_outbidsOthers : Cond.instanceMethod yX9_outbidsOthers ∈ GT := GT4 224 rfl rfl
set_option maxRecDepth 100000 in
theorem msel_X9_outbidsOthers : Cond.selects RX9 yX9_outbidsOthers yX9_outbidsOthers ∈ GT := GT_s 35 rfl rfl
set_option maxRecDepth 100000 in
theorem mcode_X9_part : Cond.code yX9_part cX9_part 3 (some .int) ∈ GT := GT3 178 rfl rfl
set_option maxRecDepth 100000 in
theorem mint_X9_part : Cond.instanceMethod yX9_part ∈ GT := GT3 176 rfl rfl
set_option maxRecDepth 100000 in
theorem msel_X9_part : Cond.selects RX9 yX9_part yX9_part ∈ GT := GT3 177 rfl rfl
set_option maxRecDepth 100000 in
theorem mcode_X9_partsLeftIn : Cond.code yX9_partsLeftIn cX9_partsLeftIn 4 (some .int) ∈ GT := GT5 44 rfl rfl
set_option maxRecDepth 100000 in
theorem mint_X9_partsLeftIn : Cond.instanceMethod yX9_partsLeftIn ∈ GT := GT5 43 rfl rfl
set_option maxRecDepth 100000 in
theorem msel_X9_partsLeftIn : Cond.selects RX9 yX9_partsLeftIn yX9_partsLeftIn ∈ GT := GT_s 42 rfl rfl
set_option maxRecDepth 100000 in
theorem mcode_X9_placeOf : Cond.code yX9_placeOf cX9_placeOf 4 (some .int) ∈ GT := GT3 17 rfl rfl
set_option maxRecDepth 100000 in
theorem mst_X9_placeOf : Cond.static yX9_placeOf ∈ GT := GT3 16 rfl rfl
set_option maxRecDepth 100000 in
theorem mcode_X9_putFourBytes : Cond.code yX9_putFourBytes cX9_putFourBytes 3 (none : Option Jvm.ClassFile.FieldType) ∈ GT := GT2 214 rfl rfl
set_option maxRecDepth 100000 in
theorem mint_X9_putFourBytes : Cond.instanceMethod yX9_putFourBytes ∈ GT := GT2 213 rfl rfl
set_option maxRecDepth 100000 in
theorem msel_X9_putFourBytes : Cond.selects RX9 yX9_putFourBytes yX9_putFourBytes ∈ GT := GT_s 0 rfl rfl
set_option maxRecDepth 100000 in
theorem mcode_X9_raisesInRow : Cond.code yX9_raisesInRow cX9_raisesInRow 3 (some .int) ∈ GT := GT5 32 rfl rfl
set_option maxRecDepth 100000 in
theorem mint_X9_raisesInRow : Cond.instanceMethod yX9_raisesInRow ∈ GT := GT5 31 rfl rfl
set_option maxRecDepth 100000 in
theorem msel_X9_raisesInRow : Cond.selects RX9 yX9_raisesInRow yX9_raisesInRow ∈ GT := GT_s 41 rfl rfl
set_option maxRecDepth 100000 in
theorem mcode_X9_rival : Cond.code yX9_rival cX9_rival 5 (some .int) ∈ GT := GT5 36 rfl rfl
set_option maxRecDepth 100000 in
theorem mint_X9_rival : Cond.instanceMethod yX9_rival ∈ GT := GT5 34 rfl rfl
set_option maxRecDepth 100000 in
theorem msel_X9_rival : Cond.selects RX9 yX9_rival yX9_rival ∈ GT := GT5 35 rfl rfl
set_option maxRecDepth 100000 in
theorem mcode_X9_same : Cond.code yX9_same cX9_same 1 (some .int) ∈ GT := GT5 40 rfl rfl
set_option maxRecDepth 100000 in
theorem mint_X9_same : Cond.instanceMethod yX9_same ∈ GT := GT5 38 rfl rfl
set_option maxRecDepth 100000 in
theorem msel_X9_same : Cond.selects RX9 yX9_same yX9_same ∈ GT := GT5 39 rfl rfl
set_option maxRecDepth 100000 in
theorem mcode_X9_sameIn : Cond.code yX9_sameIn cX9_sameIn 2 (some .int) ∈ GT := GT5 53 rfl rfl
set_option maxRecDepth 100000 in
theorem mint_X9_sameIn : Cond.instanceMethod yX9_sameIn ∈ GT := GT5 51 rfl rfl
set_option maxRecDepth 100000 in
theorem msel_X9_sameIn : Cond.selects RX9 yX9_sameIn yX9_sameIn ∈ GT := GT5 52 rfl rfl
set_option maxRecDepth 100000 in
theorem mcode_X9_see : Cond.code yX9_see cX9_see 4 (some .int) ∈ GT := GT5 65 rfl rfl
set_option maxRecDepth 100000 in
theorem mint_X9_see : Cond.instanceMethod yX9_see ∈ GT := GT5 63 rfl rfl
set_option maxRecDepth 100000 in
theorem msel_X9_see : Cond.selects RX9 yX9_see yX9_see ∈ GT := GT5 64 rfl rfl
set_option maxRecDepth 100000 in
theorem mcode_X9_shares : Cond.code yX9_shares cX9_shares 6 (some .int) ∈ GT := GT4 239 rfl rfl
set_option maxRecDepth 100000 in
theorem mint_X9_shares : Cond.instanceMethod yX9_shares ∈ GT := GT4 237 rfl rfl
set_option maxRecDepth 100000 in
theorem msel_X9_shares : Cond.selects RX9 yX9_shares yX9_shares ∈ GT := GT4 238 rfl rfl
set_option maxRecDepth 100000 in
theorem mcode_X9_startAnew : Cond.code yX9_startAnew cX9_startAnew 1 (none : Option Jvm.ClassFile.FieldType) ∈ GT := GT3 153 rfl rfl
set_option maxRecDepth 100000 in
theorem mint_X9_startAnew : Cond.instanceMethod yX9_startAnew ∈ GT := GT3 152 rfl rfl
set_option maxRecDepth 100000 in
theorem msel_X9_startAnew : Cond.selects RX9 yX9_startAnew yX9_startAnew ∈ GT := GT_s 24 rfl rfl
set_option maxRecDepth 100000 in
theorem mcode_X9_stays : Cond.code yX9_stays cX9_stays 13 (some .int) ∈ GT := GT5 12 rfl rfl
set_option maxRecDepth 100000 in
theorem mint_X9_stays : Cond.instanceMethod yX9_stays ∈ GT := GT5 10 rfl rfl
set_option maxRecDepth 100000 in
theorem msel_X9_stays : Cond.selects RX9 yX9_stays yX9_stays ∈ GT := GT5 11 rfl rfl
set_option maxRecDepth 100000 in
theorem mcode_X9_still : Cond.code yX9_still cX9_still 3 (some .int) ∈ GT := GT5 24 rfl rfl
set_option maxRecDepth 100000 in
theorem mint_X9_still : Cond.instanceMethod yX9_still ∈ GT := GT5 22 rfl rfl
set_option maxRecDepth 100000 in
theorem msel_X9_still : Cond.selects RX9 yX9_still yX9_still ∈ GT := GT5 23 rfl rfl
set_option maxRecDepth 100000 in
theorem mcode_X9_strike : Cond.code yX9_strike cX9_strike 2 (some .int) ∈ GT := GT5 73 rfl rfl
set_option maxRecDepth 100000 in
theorem mint_X9_strike : Cond.instanceMethod yX9_strike ∈ GT := GT5 71 rfl rfl
set_option maxRecDepth 100000 in
theorem msel_X9_strike : Cond.selects RX9 yX9_strike yX9_strike ∈ GT := GT5 72 rfl rfl
set_option maxRecDepth 100000 in
theorem mcode_X9_sumOfBounds : Cond.code yX9_sumOfBounds cX9_sumOfBounds 4 (some .int) ∈ GT := GT4 229 rfl rfl
set_option maxRecDepth 100000 in
theorem mint_X9_sumOfBounds : Cond.instanceMethod yX9_sumOfBounds ∈ GT := GT4 228 rfl rfl
set_option maxRecDepth 100000 in
theorem msel_X9_sumOfBounds : Cond.selects RX9 yX9_sumOfBounds yX9_sumOfBounds ∈ GT := GT_s 36 rfl rfl
set_option maxRecDepth 100000 in
theorem mcode_X9_text : Cond.code yX9_text cX9_text 4 (some .int) ∈ GT := GT2 218 rfl rfl
set_option maxRecDepth 100000 in
theorem mint_X9_text : Cond.instanceMethod yX9_text ∈ GT := GT2 216 rfl rfl
set_option maxRecDepth 100000 in
theorem msel_X9_text : Cond.selects RX9 yX9_text yX9_text ∈ GT := GT2 217 rfl rfl
set_option maxRecDepth 100000 in
theorem mcode_X9_tried : Cond.code yX9_tried cX9_tried 5 (some .int) ∈ GT := GT4 174 rfl rfl
set_option maxRecDepth 100000 in
theorem mint_X9_tried : Cond.instanceMethod yX9_tried ∈ GT := GT4 172 rfl rfl
set_option maxRecDepth 100000 in
theorem msel_X9_tried : Cond.selects RX9 yX9_tried yX9_tried ∈ GT := GT4 173 rfl rfl
set_option maxRecDepth 100000 in
theorem mcode_X9_tryAsItGoes : Cond.code yX9_tryAsItGoes cX9_tryAsItGoes 1 (none : Option Jvm.ClassFile.FieldType) ∈ GT := GT4 145 rfl rfl
set_option maxRecDepth 100000 in
theorem mint_X9_tryAsItGoes : Cond.instanceMethod yX9_tryAsItGoes ∈ GT := GT4 144 rfl rfl
set_option maxRecDepth 100000 in
theorem msel_X9_tryAsItGoes : Cond.selects RX9 yX9_tryAsItGoes yX9_tryAsItGoes ∈ GT := GT_s 34 rfl rfl
set_option maxRecDepth 100000 in
theorem mcode_X9_turn : Cond.code yX9_turn cX9_turn 2 (some .int) ∈ GT := GT3 233 rfl rfl
set_option maxRecDepth 100000 in
theorem mint_X9_turn : Cond.instanceMethod yX9_turn ∈ GT := GT3 231 rfl rfl
set_option maxRecDepth 100000 in
theorem msel_X9_turn : Cond.selects RX9 yX9_turn yX9_turn ∈ GT := GT3 232 rfl rfl
set_option maxRecDepth 100000 in
theorem mcode_X9_undo : Cond.code yX9_undo cX9_undo 1 (some .int) ∈ GT := GT4 120 rfl rfl
set_option maxRecDepth 100000 in
theorem mint_X9_undo : Cond.instanceMethod yX9_undo ∈ GT := GT4 118 rfl rfl
set_option maxRecDepth 100000 in
theorem msel_X9_undo : Cond.selects RX9 yX9_undo yX9_undo ∈ GT := GT4 119 rfl rfl
set_option maxRecDepth 100000 in
theorem mcode_X9_when : Cond.code yX9_when cX9_when 7 (some .int) ∈ GT := GT4 206 rfl rfl
set_option maxRecDepth 100000 in
theorem mint_X9_when : Cond.instanceMethod yX9_when ∈ GT := GT4 204 rfl rfl
set_option maxRecDepth 100000 in
theorem msel_X9_when : Cond.selects RX9 yX9_when yX9_when ∈ GT := GT4 205 rfl rfl
set_option maxRecDepth 100000 in
theorem mcode_X9_will : Cond.code yX9_will cX9_will 3 (some .boolean) ∈ GT := GT4 50 rfl rfl
set_option maxRecDepth 100000 in
theorem mint_X9_will : Cond.instanceMethod yX9_will ∈ GT := GT4 48 rfl rfl
set_option maxRecDepth 100000 in
theorem msel_X9_will : Cond.selects RX9 yX9_will yX9_will ∈ GT := GT4 49 rfl rfl
set_option maxRecDepth 100000 in
theorem mcode_X0_init : Cond.code yX0_init cX0_init 2 (none : Option Jvm.ClassFile.FieldType) ∈ GT := GT2 132 rfl rfl
set_option maxRecDepth 100000 in
theorem mint_X0_init : Cond.instanceMethod yX0_init ∈ GT := GT2 131 rfl rfl
set_option maxRecDepth 100000 in
theorem mcode_X0_asItGoes : Cond.code yX0_asItGoes cX0_asItGoes 2 (none : Option Jvm.ClassFile.FieldType) ∈ GT := GT3 196 rfl rfl
set_option maxRecDepth 100000 in
theorem mint_X0_asItGoes : Cond.instanceMethod yX0_asItGoes ∈ GT := GT3 194 rfl rfl
set_option maxRecDepth 100000 in
theorem msel_X0_asItGoes : Cond.selects RX0 yX0_asItGoes yX0_asItGoes ∈ GT := GT3 195 rfl rfl
set_option maxRecDepth 100000 in
theorem mcode_X0_byNumbers : Cond.code yX0_byNumbers cX0_byNumbers 2 (none : Option Jvm.ClassFile.FieldType) ∈ GT := GT4 62 rfl rfl
set_option maxRecDepth 100000 in
theorem mint_X0_byNumbers : Cond.instanceMethod yX0_byNumbers ∈ GT := GT4 60 rfl rfl
set_option maxRecDepth 100000 in
theorem msel_X0_byNumbers : Cond.selects RX0 yX0_byNumbers yX0_byNumbers ∈ GT := GT4 61 rfl rfl
set_option maxRecDepth 100000 in
theorem mcode_X0_deathOf : Cond.code yX0_deathOf cX0_deathOf 5 (some .int) ∈ GT := GT4 79 rfl rfl
set_option maxRecDepth 100000 in
theorem mint_X0_deathOf : Cond.instanceMethod yX0_deathOf ∈ GT := GT4 77 rfl rfl
set_option maxRecDepth 100000 in
theorem msel_X0_deathOf : Cond.selects RX0 yX0_deathOf yX0_deathOf ∈ GT := GT4 78 rfl rfl
set_option maxRecDepth 100000 in
theorem mcode_X0_handOn : Cond.code yX0_handOn cX0_handOn 5 (none : Option Jvm.ClassFile.FieldType) ∈ GT := GT4 103 rfl rfl
set_option maxRecDepth 100000 in
theorem mint_X0_handOn : Cond.instanceMethod yX0_handOn ∈ GT := GT4 102 rfl rfl
set_option maxRecDepth 100000 in
theorem msel_X0_handOn : Cond.selects RX0 yX0_handOn yX0_handOn ∈ GT := GT_s 32 rfl rfl
set_option maxRecDepth 100000 in
theorem mcode_X0_isDying : Cond.code yX0_isDying cX0_isDying 3 (some .boolean) ∈ GT := GT4 92 rfl rfl
set_option maxRecDepth 100000 in
theorem mint_X0_isDying : Cond.instanceMethod yX0_isDying ∈ GT := GT4 91 rfl rfl
set_option maxRecDepth 100000 in
theorem msel_X0_isDying : Cond.selects RX0 yX0_isDying yX0_isDying ∈ GT := GT_s 31 rfl rfl
set_option maxRecDepth 100000 in
theorem mcode_X0_join : Cond.code yX0_join cX0_join 5 (some .long) ∈ GT := GT3 209 rfl rfl
set_option maxRecDepth 100000 in
theorem mst_X0_join : Cond.static yX0_join ∈ GT := GT3 208 rfl rfl
set_option maxRecDepth 100000 in
theorem mcode_X0_mayNod : Cond.code yX0_mayNod cX0_mayNod 3 (some .boolean) ∈ GT := GT4 9 rfl rfl
set_option maxRecDepth 100000 in
theorem mint_X0_mayNod : Cond.instanceMethod yX0_mayNod ∈ GT := GT4 7 rfl rfl
set_option maxRecDepth 100000 in
theorem msel_X0_mayNod : Cond.selects RX0 yX0_mayNod yX0_mayNod ∈ GT := GT4 8 rfl rfl
set_option maxRecDepth 100000 in
theorem mcode_X0_nameOf : Cond.code yX0_nameOf cX0_nameOf 4 (some .int) ∈ GT := GT3 206 rfl rfl
set_option maxRecDepth 100000 in
theorem mint_X0_nameOf : Cond.instanceMethod yX0_nameOf ∈ GT := GT3 205 rfl rfl
set_option maxRecDepth 100000 in
theorem msel_X0_nameOf : Cond.selects RX0 yX0_nameOf yX0_nameOf ∈ GT := GT_s 26 rfl rfl
set_option maxRecDepth 100000 in
theorem mcode_X0_passHead : Cond.code yX0_passHead cX0_passHead 3 (none : Option Jvm.ClassFile.FieldType) ∈ GT := GT4 71 rfl rfl
set_option maxRecDepth 100000 in
theorem mint_X0_passHead : Cond.instanceMethod yX0_passHead ∈ GT := GT4 70 rfl rfl
set_option maxRecDepth 100000 in
theorem msel_X0_passHead : Cond.selects RX0 yX0_passHead yX0_passHead ∈ GT := GT_s 30 rfl rfl
set_option maxRecDepth 100000 in
theorem mcode_X0_passYear : Cond.code yX0_passYear cX0_passYear 4 (some .int) ∈ GT := GT4 67 rfl rfl
set_option maxRecDepth 100000 in
theorem mint_X0_passYear : Cond.instanceMethod yX0_passYear ∈ GT := GT4 65 rfl rfl
set_option maxRecDepth 100000 in
theorem msel_X0_passYear : Cond.selects RX0 yX0_passYear yX0_passYear ∈ GT := GT4 66 rfl rfl
set_option maxRecDepth 100000 in
theorem mcode_X0_passYears : Cond.code yX0_passYears cX0_passYears 4 (none : Option Jvm.ClassFile.FieldType) ∈ GT := GT4 149 rfl rfl
set_option maxRecDepth 100000 in
theorem mint_X0_passYears : Cond.instanceMethod yX0_passYears ∈ GT := GT4 147 rfl rfl
set_option maxRecDepth 100000 in
theorem msel_X0_passYears : Cond.selects RX0 yX0_passYears yX0_passYears ∈ GT := GT4 148 rfl rfl
set_option maxRecDepth 100000 in
theorem mcode_X0_raise : Cond.code yX0_raise cX0_raise 3 (none : Option Jvm.ClassFile.FieldType) ∈ GT := GT4 24 rfl rfl
set_option maxRecDepth 100000 in
theorem mint_X0_raise : Cond.instanceMethod yX0_raise ∈ GT := GT4 22 rfl rfl
set_option maxRecDepth 100000 in
theorem msel_X0_raise : Cond.selects RX0 yX0_raise yX0_raise ∈ GT := GT4 23 rfl rfl
set_option maxRecDepth 100000 in
theorem mcode_X0_stepOf : Cond.code yX0_stepOf cX0_stepOf 2 (some .int) ∈ GT := GT4 13 rfl rfl
set_option maxRecDepth 100000 in
theorem mint_X0_stepOf : Cond.instanceMethod yX0_stepOf ∈ GT := GT4 12 rfl rfl
set_option maxRecDepth 100000 in
theorem msel_X0_stepOf : Cond.selects RX0 yX0_stepOf yX0_stepOf ∈ GT := GT_s 27 rfl rfl
set_option maxRecDepth 100000 in
theorem mcode_X0_takeTurn : Cond.code yX0_takeTurn cX0_takeTurn 3 (some .int) ∈ GT := GT4 109 rfl rfl
set_option maxRecDepth 100000 in
theorem mint_X0_takeTurn : Cond.instanceMethod yX0_takeTurn ∈ GT := GT4 108 rfl rfl
set_option maxRecDepth 100000 in
theorem msel_X0_takeTurn : Cond.selects RX0 yX0_takeTurn yX0_takeTurn ∈ GT := GT_s 33 rfl rfl
set_option maxRecDepth 100000 in
theorem mcode_X0_valueOf : Cond.code yX0_valueOf cX0_valueOf 11 (some .long) ∈ GT := GT3 200 rfl rfl
set_option maxRecDepth 100000 in
theorem mint_X0_valueOf : Cond.instanceMethod yX0_valueOf ∈ GT := GT3 198 rfl rfl
set_option maxRecDepth 100000 in
theorem msel_X0_valueOf : Cond.selects RX0 yX0_valueOf yX0_valueOf ∈ GT := GT3 199 rfl rfl
set_option maxRecDepth 100000 in
theorem mcode_X0_whoseTurn : Cond.code yX0_whoseTurn cX0_whoseTurn 5 (some .int) ∈ GT := GT3 237 rfl rfl
set_option maxRecDepth 100000 in
theorem mint_X0_whoseTurn : Cond.instanceMethod yX0_whoseTurn ∈ GT := GT3 235 rfl rfl
set_option maxRecDepth 100000 in
theorem msel_X0_whoseTurn : Cond.selects RX0 yX0_whoseTurn yX0_whoseTurn ∈ GT := GT3 236 rfl rfl
set_option maxRecDepth 100000 in
theorem mcode_X0_yearsToFall : Cond.code yX0_yearsToFall cX0_yearsToFall 4 (some .int) ∈ GT := GT4 158 rfl rfl
set_option maxRecDepth 100000 in
theorem mint_X0_yearsToFall : Cond.instanceMethod yX0_yearsToFall ∈ GT := GT4 156 rfl rfl
set_option maxRecDepth 100000 in
theorem msel_X0_yearsToFall : Cond.selects RX0 yX0_yearsToFall yX0_yearsToFall ∈ GT := GT4 157 rfl rfl
set_option maxRecDepth 100000 in
theorem mcode_X1_init : Cond.code yX1_init cX1_init 3 (none : Option Jvm.ClassFile.FieldType) ∈ GT := GT1 194 rfl rfl
set_option maxRecDepth 100000 in
theorem mint_X1_init : Cond.instanceMethod yX1_init ∈ GT := GT1 193 rfl rfl
set_option maxRecDepth 100000 in
theorem mcode_X1_begin : Cond.code yX1_begin cX1_begin 1 (none : Option Jvm.ClassFile.FieldType) ∈ GT := GT2 234 rfl rfl
set_option maxRecDepth 100000 in
theorem mint_X1_begin : Cond.instanceMethod yX1_begin ∈ GT := GT2 232 rfl rfl
set_option maxRecDepth 100000 in
theorem msel_X1_begin : Cond.selects RX1 yX1_begin yX1_begin ∈ GT := GT2 233 rfl rfl
set_option maxRecDepth 100000 in
theorem mcode_X1_isEnd : Cond.code yX1_isEnd cX1_isEnd 1 (some .boolean) ∈ GT := GT3 93 rfl rfl
set_option maxRecDepth 100000 in
theorem mint_X1_isEnd : Cond.instanceMethod yX1_isEnd ∈ GT := GT3 92 rfl rfl
set_option maxRecDepth 100000 in
theorem msel_X1_isEnd : Cond.selects RX1 yX1_isEnd yX1_isEnd ∈ GT := GT_s 14 rfl rfl
set_option maxRecDepth 100000 in
theorem mcode_X1_meetKnot : Cond.code yX1_meetKnot cX1_meetKnot 1 (some .boolean) ∈ GT := GT3 106 rfl rfl
set_option maxRecDepth 100000 in
theorem mint_X1_meetKnot : Cond.instanceMethod yX1_meetKnot ∈ GT := GT3 105 rfl rfl
set_option maxRecDepth 100000 in
theorem msel_X1_meetKnot : Cond.selects RX1 yX1_meetKnot yX1_meetKnot ∈ GT := GT_s 17 rfl rfl
set_option maxRecDepth 100000 in
theorem mcode_X1_putOff : Cond.code yX1_putOff cX1_putOff 2 (none : Option Jvm.ClassFile.FieldType) ∈ GT := GT3 118 rfl rfl
set_option maxRecDepth 100000 in
theorem mint_X1_putOff : Cond.instanceMethod yX1_putOff ∈ GT := GT3 117 rfl rfl
set_option maxRecDepth 100000 in
theorem msel_X1_putOff : Cond.selects RX1 yX1_putOff yX1_putOff ∈ GT := GT_s 19 rfl rfl
set_option maxRecDepth 100000 in
theorem mcode_X1_rankOf : Cond.code yX1_rankOf cX1_rankOf 1 (some .int) ∈ GT := GT3 129 rfl rfl
set_option maxRecDepth 100000 in
theorem mst_X1_rankOf : Cond.static yX1_rankOf ∈ GT := GT3 128 rfl rfl
set_option maxRecDepth 100000 in
theorem mcode_X1_readFormula : Cond.code yX1_readFormula cX1_readFormula 6 (some .int) ∈ GT := GT3 89 rfl rfl
set_option maxRecDepth 100000 in
theorem mint_X1_readFormula : Cond.instanceMethod yX1_readFormula ∈ GT := GT3 87 rfl rfl
set_option maxRecDepth 100000 in
theorem msel_X1_readFormula : Cond.selects RX1 yX1_readFormula yX1_readFormula ∈ GT := GT3 88 rfl rfl
set_option maxRecDepth 100000 in
theorem mcode_X1_releaseDownTo : Cond.code yX1_releaseDownTo cX1_releaseDownTo 2 (none : Option Jvm.ClassFile.FieldType) ∈ GT := GT3 126 rfl rfl
set_option maxRecDepth 100000 in
theorem mint_X1_releaseDownTo : Cond.instanceMethod yX1_releaseDownTo ∈ GT := GT3 125 rfl rfl
set_option maxRecDepth 100000 in
theorem msel_X1_releaseDownTo : Cond.selects RX1 yX1_releaseDownTo yX1_releaseDownTo ∈ GT := GT_s 21 rfl rfl
set_option maxRecDepth 100000 in
theorem mcode_X1_takeClosing : Cond.code yX1_takeClosing cX1_takeClosing 1 (some .int) ∈ GT := GT3 122 rfl rfl
set_option maxRecDepth 100000 in
theorem mint_X1_takeClosing : Cond.instanceMethod yX1_takeClosing ∈ GT := GT3 121 rfl rfl
set_option maxRecDepth 100000 in
theorem msel_X1_takeClosing : Cond.selects RX1 yX1_takeClosing yX1_takeClosing ∈ GT := GT_s 20 rfl rfl
set_option maxRecDepth 100000 in
theorem mcode_X1_takeOpening : Cond.code yX1_takeOpening cX1_takeOpening 1 (some .int) ∈ GT := GT3 114 rfl rfl
set_option maxRecDepth 100000 in
theorem mint_X1_takeOpening : Cond.instanceMethod yX1_takeOpening ∈ GT := GT3 113 rfl rfl
set_option maxRecDepth 100000 in
theorem msel_X1_takeOpening : Cond.selects RX1 yX1_takeOpening yX1_takeOpening ∈ GT := GT_s 18 rfl rfl
set_option maxRecDepth 100000 in
theorem mcode_X1_takeOperand : Cond.code yX1_takeOperand cX1_takeOperand 2 (some .int) ∈ GT := GT3 97 rfl rfl
set_option maxRecDepth 100000 in
theorem mint_X1_takeOperand : Cond.instanceMethod yX1_takeOperand ∈ GT := GT3 96 rfl rfl
set_option maxRecDepth 100000 in
theorem msel_X1_takeOperand : Cond.selects RX1 yX1_takeOperand yX1_takeOperand ∈ GT := GT_s 15 rfl rfl
set_option maxRecDepth 100000 in
theorem mcode_X1_takeSign : Cond.code yX1_takeSign cX1_takeSign 4 (some .int) ∈ GT := GT3 136 rfl rfl
set_option maxRecDepth 100000 in
theorem mint_X1_takeSign : Cond.instanceMethod yX1_takeSign ∈ GT := GT3 135 rfl rfl
set_option maxRecDepth 100000 in
theorem msel_X1_takeSign : Cond.selects RX1 yX1_takeSign yX1_takeSign ∈ GT := GT_s 22 rfl rfl
set_option maxRecDepth 100000 in
theorem mcode_X1_takeValue : Cond.code yX1_takeValue cX1_takeValue 2 (some .int) ∈ GT := GT3 102 rfl rfl
set_option maxRecDepth 100000 in
theorem mint_X1_takeValue : Cond.instanceMethod yX1_takeValue ∈ GT := GT3 101 rfl rfl
set_option maxRecDepth 100000 in
theorem msel_X1_takeValue : Cond.selects RX1 yX1_takeValue yX1_takeValue ∈ GT := GT_s 16 rfl rfl
set_option maxRecDepth 100000 in
theorem mcode_X2_init : Cond.code yX2_init cX2_init 1 (none : Option Jvm.ClassFile.FieldType) ∈ GT := GT1 38 rfl rfl
set_option maxRecDepth 100000 in
theorem mint_X2_init : Cond.instanceMethod yX2_init ∈ GT := GT1 37 rfl rfl
set_option maxRecDepth 100000 in
theorem mcode_X2_add : Cond.code yX2_add cX2_add 3 (none : Option Jvm.ClassFile.FieldType) ∈ GT := GT3 110 rfl rfl
set_option maxRecDepth 100000 in
theorem mint_X2_add : Cond.instanceMethod yX2_add ∈ GT := GT3 108 rfl rfl
set_option maxRecDepth 100000 in
theorem msel_X2_add : Cond.selects RX2 yX2_add yX2_add ∈ GT := GT3 109 rfl rfl
set_option maxRecDepth 100000 in
theorem mcode_X2_empty : Cond.code yX2_empty cX2_empty 2 (none : Option Jvm.ClassFile.FieldType) ∈ GT := GT2 230 rfl rfl
set_option maxRecDepth 100000 in
theorem mint_X2_empty : Cond.instanceMethod yX2_empty ∈ GT := GT2 228 rfl rfl
set_option maxRecDepth 100000 in
theorem msel_X2_empty : Cond.selects RX2 yX2_empty yX2_empty ∈ GT := GT2 229 rfl rfl
set_option maxRecDepth 100000 in
theorem mcode_X2_isTold : Cond.code yX2_isTold cX2_isTold 2 (some .boolean) ∈ GT := GT3 85 rfl rfl
set_option maxRecDepth 100000 in
theorem mint_X2_isTold : Cond.instanceMethod yX2_isTold ∈ GT := GT3 83 rfl rfl
set_option maxRecDepth 100000 in
theorem msel_X2_isTold : Cond.selects RX2 yX2_isTold yX2_isTold ∈ GT := GT3 84 rfl rfl
set_option maxRecDepth 100000 in
theorem mcode_X3_init : Cond.code yX3_init cX3_init 3 (none : Option Jvm.ClassFile.FieldType) ∈ GT := GT1 158 rfl rfl
set_option maxRecDepth 100000 in
theorem mint_X3_init : Cond.instanceMethod yX3_init ∈ GT := GT1 157 rfl rfl
set_option maxRecDepth 100000 in
theorem mcode_X3_endLine : Cond.code yX3_endLine cX3_endLine 1 (some .boolean) ∈ GT := GT3 141 rfl rfl
set_option maxRecDepth 100000 in
theorem mint_X3_endLine : Cond.instanceMethod yX3_endLine ∈ GT := GT3 140 rfl rfl
set_option maxRecDepth 100000 in
theorem msel_X3_endLine : Cond.selects RX3 yX3_endLine yX3_endLine ∈ GT := GT_s 23 rfl rfl
set_option maxRecDepth 100000 in
theorem mcode_X3_faultAt : Cond.code yX3_faultAt cX3_faultAt 1 (some .int) ∈ GT := GT3 149 rfl rfl
set_option maxRecDepth 100000 in
theorem mint_X3_faultAt : Cond.instanceMethod yX3_faultAt ∈ GT := GT3 147 rfl rfl
set_option maxRecDepth 100000 in
theorem msel_X3_faultAt : Cond.selects RX3 yX3_faultAt yX3_faultAt ∈ GT := GT3 148 rfl rfl
set_option maxRecDepth 100000 in
theorem mcode_X3_faultKind : Cond.code yX3_faultKind cX3_faultKind 1 (some .int) ∈ GT := GT3 145 rfl rfl
set_option maxRecDepth 100000 in
theorem mint_X3_faultKind : Cond.instanceMethod yX3_faultKind ∈ GT := GT3 143 rfl rfl
set_option maxRecDepth 100000 in
theorem msel_X3_faultKind : Cond.selects RX3 yX3_faultKind yX3_faultKind ∈ GT := GT3 144 rfl rfl
set_option maxRecDepth 100000 in
theorem mcode_X3_isNumber : Cond.code yX3_isNumber cX3_isNumber 3 (some .boolean) ∈ GT := GT3 62 rfl rfl
set_option maxRecDepth 100000 in
theorem mint_X3_isNumber : Cond.instanceMethod yX3_isNumber ∈ GT := GT3 61 rfl rfl
set_option maxRecDepth 100000 in
theorem msel_X3_isNumber : Cond.selects RX3 yX3_isNumber yX3_isNumber ∈ GT := GT_s 10 rfl rfl
set_option maxRecDepth 100000 in
theorem mcode_X3_mostOfSetting : Cond.code yX3_mostOfSetting cX3_mostOfSetting 1 (some .int) ∈ GT := GT3 76 rfl rfl
set_option maxRecDepth 100000 in
theorem mst_X3_mostOfSetting : Cond.static yX3_mostOfSetting ∈ GT := GT3 75 rfl rfl
set_option maxRecDepth 100000 in
theorem mcode_X3_readHouse : Cond.code yX3_readHouse cX3_readHouse 3 (some .boolean) ∈ GT := GT3 44 rfl rfl
set_option maxRecDepth 100000 in
theorem mint_X3_readHouse : Cond.instanceMethod yX3_readHouse ∈ GT := GT3 43 rfl rfl
set_option maxRecDepth 100000 in
theorem msel_X3_readHouse : Cond.selects RX3 yX3_readHouse yX3_readHouse ∈ GT := GT_s 6 rfl rfl
set_option maxRecDepth 100000 in
theorem mcode_X3_readLaw : Cond.code yX3_readLaw cX3_readLaw 3 (some .boolean) ∈ GT := GT3 81 rfl rfl
set_option maxRecDepth 100000 in
theorem mint_X3_readLaw : Cond.instanceMethod yX3_readLaw ∈ GT := GT3 80 rfl rfl
set_option maxRecDepth 100000 in
theorem msel_X3_readLaw : Cond.selects RX3 yX3_readLaw yX3_readLaw ∈ GT := GT_s 13 rfl rfl
set_option maxRecDepth 100000 in
theorem mcode_X3_readLine : Cond.code yX3_readLine cX3_readLine 1 (some .boolean) ∈ GT := GT3 40 rfl rfl
set_option maxRecDepth 100000 in
theorem mint_X3_readLine : Cond.instanceMethod yX3_readLine ∈ GT := GT3 39 rfl rfl
set_option maxRecDepth 100000 in
theorem msel_X3_readLine : Cond.selects RX3 yX3_readLine yX3_readLine ∈ GT := GT_s 5 rfl rfl
set_option maxRecDepth 100000 in
theorem mcode_X3_readName : Cond.code yX3_readName cX3_readName 3 (some .boolean) ∈ GT := GT3 53 rfl rfl
set_option maxRecDepth 100000 in
theorem mint_X3_readName : Cond.instanceMethod yX3_readName ∈ GT := GT3 52 rfl rfl
set_option maxRecDepth 100000 in
theorem msel_X3_readName : Cond.selects RX3 yX3_readName yX3_readName ∈ GT := GT_s 8 rfl rfl
set_option maxRecDepth 100000 in
theorem mcode_X3_readNumber : Cond.code yX3_readNumber cX3_readNumber 5 (some .boolean) ∈ GT := GT3 58 rfl rfl
set_option maxRecDepth 100000 in
theorem mint_X3_readNumber : Cond.instanceMethod yX3_readNumber ∈ GT := GT3 57 rfl rfl
set_option maxRecDepth 100000 in
theorem msel_X3_readNumber : Cond.selects RX3 yX3_readNumber yX3_readNumber ∈ GT := GT_s 9 rfl rfl
set_option maxRecDepth 100000 in
theorem mcode_X3_readPart : Cond.code yX3_readPart cX3_readPart 3 (some .boolean) ∈ GT := GT3 69 rfl rfl
set_option maxRecDepth 100000 in
theorem mint_X3_readPart : Cond.instanceMethod yX3_readPart ∈ GT := GT3 68 rfl rfl
set_option maxRecDepth 100000 in
theorem msel_X3_readPart : Cond.selects RX3 yX3_readPart yX3_readPart ∈ GT := GT_s 11 rfl rfl
set_option maxRecDepth 100000 in
theorem mcode_X3_readSetting : Cond.code yX3_readSetting cX3_readSetting 2 (some .boolean) ∈ GT := GT3 73 rfl rfl
set_option maxRecDepth 100000 in
theorem mint_X3_readSetting : Cond.instanceMethod yX3_readSetting ∈ GT := GT3 72 rfl rfl
set_option maxRecDepth 100000 in
theorem msel_X3_readSetting : Cond.selects RX3 yX3_readSetting yX3_readSetting ∈ GT := GT_s 12 rfl rfl
set_option maxRecDepth 100000 in
theorem mcode_X3_readText : Cond.code yX3_readText cX3_readText 4 (some .boolean) ∈ GT := GT2 222 rfl rfl
set_option maxRecDepth 100000 in
theorem mint_X3_readText : Cond.instanceMethod yX3_readText ∈ GT := GT2 220 rfl rfl
set_option maxRecDepth 100000 in
theorem msel_X3_readText : Cond.selects RX3 yX3_readText yX3_readText ∈ GT := GT2 221 rfl rfl
set_option maxRecDepth 100000 in
theorem mcode_X3_refuse : Cond.code yX3_refuse cX3_refuse 2 (some .boolean) ∈ GT := GT3 48 rfl rfl
set_option maxRecDepth 100000 in
theorem mint_X3_refuse : Cond.instanceMethod yX3_refuse ∈ GT := GT3 47 rfl rfl
set_option maxRecDepth 100000 in
theorem msel_X3_refuse : Cond.selects RX3 yX3_refuse yX3_refuse ∈ GT := GT_s 7 rfl rfl
set_option maxRecDepth 100000 in
theorem mcode_X4_init : Cond.code yX4_init cX4_init 1 (none : Option Jvm.ClassFile.FieldType) ∈ GT := GT2 4 rfl rfl
set_option maxRecDepth 100000 in
theorem mint_X4_init : Cond.instanceMethod yX4_init ∈ GT := GT2 3 rfl rfl
set_option maxRecDepth 100000 in
theorem mcode_X4_ageParts : Cond.code yX4_ageParts cX4_ageParts 3 (none : Option Jvm.ClassFile.FieldType) ∈ GT := GT4 116 rfl rfl
set_option maxRecDepth 100000 in
theorem mint_X4_ageParts : Cond.instanceMethod yX4_ageParts ∈ GT := GT4 114 rfl rfl
set_option maxRecDepth 100000 in
theorem msel_X4_ageParts : Cond.selects RX4 yX4_ageParts yX4_ageParts ∈ GT := GT4 115 rfl rfl
set_option maxRecDepth 100000 in
theorem mcode_X4_become : Cond.code yX4_become cX4_become 2 (none : Option Jvm.ClassFile.FieldType) ∈ GT := GT4 132 rfl rfl
set_option maxRecDepth 100000 in
theorem mint_X4_become : Cond.instanceMethod yX4_become ∈ GT := GT4 130 rfl rfl
set_option maxRecDepth 100000 in
theorem msel_X4_become : Cond.selects RX4 yX4_become yX4_become ∈ GT := GT4 131 rfl rfl
set_option maxRecDepth 100000 in
theorem mcode_X4_begin : Cond.code yX4_begin cX4_begin 3 (none : Option Jvm.ClassFile.FieldType) ∈ GT := GT3 157 rfl rfl
set_option maxRecDepth 100000 in
theorem mint_X4_begin : Cond.instanceMethod yX4_begin ∈ GT := GT3 155 rfl rfl
set_option maxRecDepth 100000 in
theorem msel_X4_begin : Cond.selects RX4 yX4_begin yX4_begin ∈ GT := GT3 156 rfl rfl
set_option maxRecDepth 100000 in
theorem mcode_X4_end : Cond.code yX4_end cX4_end 2 (none : Option Jvm.ClassFile.FieldType) ∈ GT := GT4 46 rfl rfl
set_option maxRecDepth 100000 in
theorem mint_X4_end : Cond.instanceMethod yX4_end ∈ GT := GT4 44 rfl rfl
set_option maxRecDepth 100000 in
theorem msel_X4_end : Cond.selects RX4 yX4_end yX4_end ∈ GT := GT4 45 rfl rfl
set_option maxRecDepth 100000 in
theorem mcode_X4_growOlder : Cond.code yX4_growOlder cX4_growOlder 2 (none : Option Jvm.ClassFile.FieldType) ∈ GT := GT4 75 rfl rfl
set_option maxRecDepth 100000 in
theorem mint_X4_growOlder : Cond.instanceMethod yX4_growOlder ∈ GT := GT4 73 rfl rfl
set_option maxRecDepth 100000 in
theorem msel_X4_growOlder : Cond.selects RX4 yX4_growOlder yX4_growOlder ∈ GT := GT4 74 rfl rfl
set_option maxRecDepth 100000 in
theorem mcode_X4_hasFallenTo : Cond.code yX4_hasFallenTo cX4_hasFallenTo 2 (some .boolean) ∈ GT := GT4 202 rfl rfl
set_option maxRecDepth 100000 in
theorem mint_X4_hasFallenTo : Cond.instanceMethod yX4_hasFallenTo ∈ GT := GT4 200 rfl rfl
set_option maxRecDepth 100000 in
theorem msel_X4_hasFallenTo : Cond.selects RX4 yX4_hasFallenTo yX4_hasFallenTo ∈ GT := GT4 201 rfl rfl
set_option maxRecDepth 100000 in
theorem mcode_X4_holds : Cond.code yX4_holds cX4_holds 2 (some .boolean) ∈ GT := GT4 1 rfl rfl
set_option maxRecDepth 100000 in
theorem mint_X4_holds : Cond.instanceMethod yX4_holds ∈ GT := GT3 239 rfl rfl
set_option maxRecDepth 100000 in
theorem msel_X4_holds : Cond.selects RX4 yX4_holds yX4_holds ∈ GT := GT4 0 rfl rfl
set_option maxRecDepth 100000 in
theorem mcode_X4_isFirst : Cond.code yX4_isFirst cX4_isFirst 2 (some .boolean) ∈ GT := GT3 182 rfl rfl
set_option maxRecDepth 100000 in
theorem mint_X4_isFirst : Cond.instanceMethod yX4_isFirst ∈ GT := GT3 180 rfl rfl
set_option maxRecDepth 100000 in
theorem msel_X4_isFirst : Cond.selects RX4 yX4_isFirst yX4_isFirst ∈ GT := GT3 181 rfl rfl
set_option maxRecDepth 100000 in
theorem mcode_X4_nextNumber : Cond.code yX4_nextNumber cX4_nextNumber 1 (some .int) ∈ GT := GT4 96 rfl rfl
set_option maxRecDepth 100000 in
theorem mint_X4_nextNumber : Cond.instanceMethod yX4_nextNumber ∈ GT := GT4 94 rfl rfl
set_option maxRecDepth 100000 in
theorem msel_X4_nextNumber : Cond.selects RX4 yX4_nextNumber yX4_nextNumber ∈ GT := GT4 95 rfl rfl
set_option maxRecDepth 100000 in
theorem mcode_X4_setAllBounds : Cond.code yX4_setAllBounds cX4_setAllBounds 3 (none : Option Jvm.ClassFile.FieldType) ∈ GT := GT4 178 rfl rfl
set_option maxRecDepth 100000 in
theorem mint_X4_setAllBounds : Cond.instanceMethod yX4_setAllBounds ∈ GT := GT4 176 rfl rfl
set_option maxRecDepth 100000 in
theorem msel_X4_setAllBounds : Cond.selects RX4 yX4_setAllBounds yX4_setAllBounds ∈ GT := GT4 177 rfl rfl
set_option maxRecDepth 100000 in
theorem mcode_X4_wed : Cond.code yX4_wed cX4_wed 3 (none : Option Jvm.ClassFile.FieldType) ∈ GT := GT4 41 rfl rfl
set_option maxRecDepth 100000 in
theorem mint_X4_wed : Cond.instanceMethod yX4_wed ∈ GT := GT4 39 rfl rfl
set_option maxRecDepth 100000 in
theorem msel_X4_wed : Cond.selects RX4 yX4_wed yX4_wed ∈ GT := GT4 40 rfl rfl
set_option maxRecDepth 100000 in
theorem mcode_X4_yearsToRenewal : Cond.code yX4_yearsToRenewal cX4_yearsToRenewal 3 (some .int) ∈ GT := GT5 48 rfl rfl
set_option maxRecDepth 100000 in
theorem mint_X4_yearsToRenewal : Cond.instanceMethod yX4_yearsToRenewal ∈ GT := GT5 46 rfl rfl
set_option maxRecDepth 100000 in
theorem msel_X4_yearsToRenewal : Cond.selects RX4 yX4_yearsToRenewal yX4_yearsToRenewal ∈ GT := GT5 47 rfl rfl
set_option maxRecDepth 100000 in
theorem mcode_X5_init : Cond.code yX5_init cX5_init 1 (none : Option Jvm.ClassFile.FieldType) ∈ GT := GT2 104 rfl rfl
set_option maxRecDepth 100000 in
theorem mint_X5_init : Cond.instanceMethod yX5_init ∈ GT := GT2 103 rfl rfl
set_option maxRecDepth 100000 in
theorem mcode_X5_add : Cond.code yX5_add cX5_add 4 (some .int) ∈ GT := GT5 69 rfl rfl
set_option maxRecDepth 100000 in
theorem mint_X5_add : Cond.instanceMethod yX5_add ∈ GT := GT5 67 rfl rfl
set_option maxRecDepth 100000 in
theorem msel_X5_add : Cond.selects RX5 yX5_add yX5_add ∈ GT := GT5 68 rfl rfl
set_option maxRecDepth 100000 in
theorem mcode_X5_allows : Cond.code yX5_allows cX5_allows 7 (some .boolean) ∈ GT := GT5 94 rfl rfl
set_option maxRecDepth 100000 in
theorem mint_X5_allows : Cond.instanceMethod yX5_allows ∈ GT := GT5 92 rfl rfl
set_option maxRecDepth 100000 in
theorem msel_X5_allows : Cond.selects RX5 yX5_allows yX5_allows ∈ GT := GT5 93 rfl rfl
set_option maxRecDepth 100000 in
theorem mcode_X5_findStruck : Cond.code yX5_findStruck cX5_findStruck 3 (none : Option Jvm.ClassFile.FieldType) ∈ GT := GT5 85 rfl rfl
set_option maxRecDepth 100000 in
theorem mint_X5_findStruck : Cond.instanceMethod yX5_findStruck ∈ GT := GT5 83 rfl rfl
set_option maxRecDepth 100000 in
theorem msel_X5_findStruck : Cond.selects RX5 yX5_findStruck yX5_findStruck ∈ GT := GT5 84 rfl rfl
set_option maxRecDepth 100000 in
theorem mcode_X5_forget : Cond.code yX5_forget cX5_forget 1 (none : Option Jvm.ClassFile.FieldType) ∈ GT := GT3 165 rfl rfl
set_option maxRecDepth 100000 in
theorem mint_X5_forget : Cond.instanceMethod yX5_forget ∈ GT := GT3 163 rfl rfl
set_option maxRecDepth 100000 in
theorem msel_X5_forget : Cond.selects RX5 yX5_forget yX5_forget ∈ GT := GT3 164 rfl rfl
set_option maxRecDepth 100000 in
theorem mcode_X5_howManyKnown : Cond.code yX5_howManyKnown cX5_howManyKnown 1 (some .int) ∈ GT := GT3 228 rfl rfl
set_option maxRecDepth 100000 in
theorem mint_X5_howManyKnown : Cond.instanceMethod yX5_howManyKnown ∈ GT := GT3 226 rfl rfl
set_option maxRecDepth 100000 in
theorem msel_X5_howManyKnown : Cond.selects RX5 yX5_howManyKnown yX5_howManyKnown ∈ GT := GT3 227 rfl rfl
set_option maxRecDepth 100000 in
theorem mcode_X6_init : Cond.code yX6_init cX6_init 1 (none : Option Jvm.ClassFile.FieldType) ∈ GT := GT1 32 rfl rfl
set_option maxRecDepth 100000 in
theorem mint_X6_init : Cond.instanceMethod yX6_init ∈ GT := GT1 31 rfl rfl
set_option maxRecDepth 100000 in
theorem mcode_X6_empty : Cond.code yX6_empty cX6_empty 1 (none : Option Jvm.ClassFile.FieldType) ∈ GT := GT2 226 rfl rfl
set_option maxRecDepth 100000 in
theorem mint_X6_empty : Cond.instanceMethod yX6_empty ∈ GT := GT2 224 rfl rfl
set_option maxRecDepth 100000 in
theorem msel_X6_empty : Cond.selects RX6 yX6_empty yX6_empty ∈ GT := GT2 225 rfl rfl
set_option maxRecDepth 100000 in
theorem mcode_X7_init : Cond.code yX7_init cX7_init 2 (none : Option Jvm.ClassFile.FieldType) ∈ GT := GT1 164 rfl rfl
set_option maxRecDepth 100000 in
theorem mint_X7_init : Cond.instanceMethod yX7_init ∈ GT := GT1 163 rfl rfl
set_option maxRecDepth 100000 in
theorem mcode_X7_advance : Cond.code yX7_advance cX7_advance 1 (none : Option Jvm.ClassFile.FieldType) ∈ GT := GT3 5 rfl rfl
set_option maxRecDepth 100000 in
theorem mint_X7_advance : Cond.instanceMethod yX7_advance ∈ GT := GT3 3 rfl rfl
set_option maxRecDepth 100000 in
theorem msel_X7_advance : Cond.selects RX7 yX7_advance yX7_advance ∈ GT := GT3 4 rfl rfl
set_option maxRecDepth 100000 in
theorem mcode_X7_isDigit : Cond.code yX7_isDigit cX7_isDigit 1 (some .boolean) ∈ GT := GT3 20 rfl rfl
set_option maxRecDepth 100000 in
theorem mst_X7_isDigit : Cond.static yX7_isDigit ∈ GT := GT3 19 rfl rfl
set_option maxRecDepth 100000 in
theorem mcode_X7_isLetter : Cond.code yX7_isLetter cX7_isLetter 1 (some .boolean) ∈ GT := GT3 8 rfl rfl
set_option maxRecDepth 100000 in
theorem mst_X7_isLetter : Cond.static yX7_isLetter ∈ GT := GT3 7 rfl rfl
set_option maxRecDepth 100000 in
theorem mcode_X7_isNext : Cond.code yX7_isNext cX7_isNext 2 (some .boolean) ∈ GT := GT3 36 rfl rfl
set_option maxRecDepth 100000 in
theorem mint_X7_isNext : Cond.instanceMethod yX7_isNext ∈ GT := GT3 35 rfl rfl
set_option maxRecDepth 100000 in
theorem msel_X7_isNext : Cond.selects RX7 yX7_isNext yX7_isNext ∈ GT := GT_s 4 rfl rfl
set_option maxRecDepth 100000 in
theorem mcode_X7_kindOfSign : Cond.code yX7_kindOfSign cX7_kindOfSign 1 (some .int) ∈ GT := GT3 32 rfl rfl
set_option maxRecDepth 100000 in
theorem mst_X7_kindOfSign : Cond.static yX7_kindOfSign ∈ GT := GT3 31 rfl rfl
set_option maxRecDepth 100000 in
theorem mcode_X7_readNumber : Cond.code yX7_readNumber cX7_readNumber 1 (none : Option Jvm.ClassFile.FieldType) ∈ GT := GT3 24 rfl rfl
set_option maxRecDepth 100000 in
theorem mint_X7_readNumber : Cond.instanceMethod yX7_readNumber ∈ GT := GT3 23 rfl rfl
set_option maxRecDepth 100000 in
theorem msel_X7_readNumber : Cond.selects RX7 yX7_readNumber yX7_readNumber ∈ GT := GT_s 2 rfl rfl
set_option maxRecDepth 100000 in
theorem mcode_X7_readSign : Cond.code yX7_readSign cX7_readSign 2 (none : Option Jvm.ClassFile.FieldType) ∈ GT := GT3 29 rfl rfl
set_option maxRecDepth 100000 in
theorem mint_X7_readSign : Cond.instanceMethod yX7_readSign ∈ GT := GT3 28 rfl rfl
set_option maxRecDepth 100000 in
theorem msel_X7_readSign : Cond.selects RX7 yX7_readSign yX7_readSign ∈ GT := GT_s 3 rfl rfl
set_option maxRecDepth 100000 in
theorem mcode_X7_readWord : Cond.code yX7_readWord cX7_readWord 3 (none : Option Jvm.ClassFile.FieldType) ∈ GT := GT3 12 rfl rfl
set_option maxRecDepth 100000 in
theorem mint_X7_readWord : Cond.instanceMethod yX7_readWord ∈ GT := GT3 11 rfl rfl
set_option maxRecDepth 100000 in
theorem msel_X7_readWord : Cond.selects RX7 yX7_readWord yX7_readWord ∈ GT := GT_s 1 rfl rfl
set_option maxRecDepth 100000 in
theorem mcode_X7_start : Cond.code yX7_start cX7_start 2 (none : Option Jvm.ClassFile.FieldType) ∈ GT := GT2 238 rfl rfl
set_option maxRecDepth 100000 in
theorem mint_X7_start : Cond.instanceMethod yX7_start ∈ GT := GT2 236 rfl rfl
set_option maxRecDepth 100000 in
theorem msel_X7_start : Cond.selects RX7 yX7_start yX7_start ∈ GT := GT2 237 rfl rfl
set_option maxRecDepth 100000 in
theorem mcode_X8_init : Cond.code yX8_init cX8_init 1 (none : Option Jvm.ClassFile.FieldType) ∈ GT := GT2 90 rfl rfl
set_option maxRecDepth 100000 in
theorem mint_X8_init : Cond.instanceMethod yX8_init ∈ GT := GT2 89 rfl rfl
set_option maxRecDepth 100000 in
theorem mcode_X8_forget : Cond.code yX8_forget cX8_forget 1 (none : Option Jvm.ClassFile.FieldType) ∈ GT := GT3 161 rfl rfl
set_option maxRecDepth 100000 in
theorem mint_X8_forget : Cond.instanceMethod yX8_forget ∈ GT := GT3 159 rfl rfl
set_option maxRecDepth 100000 in
theorem msel_X8_forget : Cond.selects RX8 yX8_forget yX8_forget ∈ GT := GT3 160 rfl rfl
set_option maxRecDepth 100000 in
theorem mcode_X8_note : Cond.code yX8_note cX8_note 4 (none : Option Jvm.ClassFile.FieldType) ∈ GT := GT4 17 rfl rfl
set_option maxRecDepth 100000 in
theorem mint_X8_note : Cond.instanceMethod yX8_note ∈ GT := GT4 15 rfl rfl
set_option maxRecDepth 100000 in
theorem msel_X8_note : Cond.selects RX8 yX8_note yX8_note ∈ GT := GT4 16 rfl rfl
set_option maxRecDepth 100000 in
theorem mcode_X8_takeBack : Cond.code yX8_takeBack cX8_takeBack 4 (some .int) ∈ GT := GT4 124 rfl rfl
set_option maxRecDepth 100000 in
theorem mint_X8_takeBack : Cond.instanceMethod yX8_takeBack ∈ GT := GT4 122 rfl rfl
set_option maxRecDepth 100000 in
theorem msel_X8_takeBack : Cond.selects RX8 yX8_takeBack yX8_takeBack ∈ GT := GT4 123 rfl rfl
set_option maxRecDepth 100000 in
theorem mcode_X10_init : Cond.code yX10_init cX10_init 1 (none : Option Jvm.ClassFile.FieldType) ∈ GT := GT5 190 rfl rfl
set_option maxRecDepth 100000 in
theorem mint_X10_init : Cond.instanceMethod yX10_init ∈ GT := GT5 189 rfl rfl
set_option maxRecDepth 100000 in
theorem mcode_X10_against : Cond.code yX10_against cX10_against 8 (some .int) ∈ GT := GT8 48 rfl rfl
set_option maxRecDepth 100000 in
theorem mint_X10_against : Cond.instanceMethod yX10_against ∈ GT := GT8 46 rfl rfl
set_option maxRecDepth 100000 in
theorem msel_X10_against : Cond.selects RX10 yX10_against yX10_against ∈ GT := GT8 47 rfl rfl
set_option maxRecDepth 100000 in
theorem mcode_X10_ahead : Cond.code yX10_ahead cX10_ahead 3 (some .int) ∈ GT := GT8 1 rfl rfl
set_option maxRecDepth 100000 in
theorem mint_X10_ahead : Cond.instanceMethod yX10_ahead ∈ GT := GT7 239 rfl rfl
set_option maxRecDepth 100000 in
theorem msel_X10_ahead : Cond.selects RX10 yX10_ahead yX10_ahead ∈ GT := GT8 0 rfl rfl
set_option maxRecDepth 100000 in
theorem mcode_X10_areTwo : Cond.code yX10_areTwo cX10_areTwo 3 (some .boolean) ∈ GT := GT7 170 rfl rfl
set_option maxRecDepth 100000 in
theorem mint_X10_areTwo : Cond.instanceMethod yX10_areTwo ∈ GT := GT7 169 rfl rfl
set_option maxRecDepth 100000 in
theorem msel_X10_areTwo : Cond.selects RX10 yX10_areTwo yX10_areTwo ∈ GT := GT_s 86 rfl rfl
set_option maxRecDepth 100000 in
theorem mcode_X10_atFirst : Cond.code yX10_atFirst cX10_atFirst 3 (none : Option Jvm.ClassFile.FieldType) ∈ GT := GT5 210 rfl rfl
set_option maxRecDepth 100000 in
theorem mint_X10_atFirst : Cond.instanceMethod yX10_atFirst ∈ GT := GT5 209 rfl rfl
set_option maxRecDepth 100000 in
theorem msel_X10_atFirst : Cond.selects RX10 yX10_atFirst yX10_atFirst ∈ GT := GT_s 48 rfl rfl
set_option maxRecDepth 100000 in
theorem mcode_X10_atMost : Cond.code yX10_atMost cX10_atMost 2 (some .int) ∈ GT := GT8 126 rfl rfl
set_option maxRecDepth 100000 in
theorem mint_X10_atMost : Cond.instanceMethod yX10_atMost ∈ GT := GT8 124 rfl rfl
set_option maxRecDepth 100000 in
theorem msel_X10_atMost : Cond.selects RX10 yX10_atMost yX10_atMost ∈ GT := GT8 125 rfl rfl
set_option maxRecDepth 100000 in
theorem mcode_X10_back : Cond.code yX10_back cX10_back 2 (some .int) ∈ GT := GT8 182 rfl rfl
set_option maxRecDepth 100000 in
theorem mint_X10_back : Cond.instanceMethod yX10_back ∈ GT := GT8 180 rfl rfl
set_option maxRecDepth 100000 in
theorem msel_X10_back : Cond.selects RX10 yX10_back yX10_back ∈ GT := GT8 181 rfl rfl
set_option maxRecDepth 100000 in
theorem mcode_X10_begin : Cond.code yX10_begin cX10_begin 1 (none : Option Jvm.ClassFile.FieldType) ∈ GT := GT5 206 rfl rfl
set_option maxRecDepth 100000 in
theorem mint_X10_begin : Cond.instanceMethod yX10_begin ∈ GT := GT5 205 rfl rfl
set_option maxRecDepth 100000 in
theorem msel_X10_begin : Cond.selects RX10 yX10_begin yX10_begin ∈ GT := GT_s 47 rfl rfl
set_option maxRecDepth 100000 in
theorem mcode_X10_bind : Cond.code yX10_bind cX10_bind 5 (none : Option Jvm.ClassFile.FieldType) ∈ GT := GT7 77 rfl rfl
set_option maxRecDepth 100000 in
theorem mint_X10_bind : Cond.instanceMethod yX10_bind ∈ GT := GT7 76 rfl rfl
set_option maxRecDepth 100000 in
theorem msel_X10_bind : Cond.selects RX10 yX10_bind yX10_bind ∈ GT := GT_s 72 rfl rfl
set_option maxRecDepth 100000 in
theorem mcode_X10_boundLaw : Cond.code yX10_boundLaw cX10_boundLaw 6 (some .int) ∈ GT := GT7 206 rfl rfl
set_option maxRecDepth 100000 in
theorem mint_X10_boundLaw : Cond.instanceMethod yX10_boundLaw ∈ GT := GT7 205 rfl rfl
set_option maxRecDepth 100000 in
theorem msel_X10_boundLaw : Cond.selects RX10 yX10_boundLaw yX10_boundLaw ∈ GT := GT_s 92 rfl rfl
set_option maxRecDepth 100000 in
theorem mcode_X10_bounded : Cond.code yX10_bounded cX10_bounded 3 (some .long) ∈ GT := GT7 129 rfl rfl
set_option maxRecDepth 100000 in
theorem mint_X10_bounded : Cond.instanceMethod yX10_bounded ∈ GT := GT7 128 rfl rfl
set_option maxRecDepth 100000 in
theorem msel_X10_bounded : Cond.selects RX10 yX10_bounded yX10_bounded ∈ GT := GT_s 79 rfl rfl
set_option maxRecDepth 100000 in
theorem mcode_X10_bounds : Cond.code yX10_bounds cX10_bounds 4 (some .int) ∈ GT := GT8 146 rfl rfl
set_option maxRecDepth 100000 in
theorem mint_X10_bounds : Cond.instanceMethod yX10_bounds ∈ GT := GT8 144 rfl rfl
set_option maxRecDepth 100000 in
theorem msel_X10_bounds : Cond.selects RX10 yX10_bounds yX10_bounds ∈ GT := GT8 145 rfl rfl
set_option maxRecDepth 100000 in
theorem mcode_X10_boundsOf : Cond.code yX10_boundsOf cX10_boundsOf 4 (some .int) ∈ GT := GT8 40 rfl rfl
set_option maxRecDepth 100000 in
theorem mint_X10_boundsOf : Cond.instanceMethod yX10_boundsOf ∈ GT := GT8 39 rfl rfl
set_option maxRecDepth 100000 in
theorem msel_X10_boundsOf : Cond.selects RX10 yX10_boundsOf yX10_boundsOf ∈ GT := GT_s 104 rfl rfl
set_option maxRecDepth 100000 in
theorem mcode_X10_chance : Cond.code yX10_chance cX10_chance 8 (some .int) ∈ GT := GT8 162 rfl rfl
set_option maxRecDepth 100000 in
theorem mint_X10_chance : Cond.instanceMethod yX10_chance ∈ GT := GT8 160 rfl rfl
set_option maxRecDepth 100000 in
theorem msel_X10_chance : Cond.selects RX10 yX10_chance yX10_chance ∈ GT := GT8 161 rfl rfl
set_option maxRecDepth 100000 in
theorem mcode_X10_child : Cond.code yX10_child cX10_child 2 (some .int) ∈ GT := GT7 186 rfl rfl
set_option maxRecDepth 100000 in
theorem mint_X10_child : Cond.instanceMethod yX10_child ∈ GT := GT7 184 rfl rfl
set_option maxRecDepth 100000 in
theorem msel_X10_child : Cond.selects RX10 yX10_child yX10_child ∈ GT := GT7 185 rfl rfl
set_option maxRecDepth 100000 in
theorem mcode_X10_compares : Cond.code yX10_compares cX10_compares 5 (some .boolean) ∈ GT := GT7 138 rfl rfl
set_option maxRecDepth 100000 in
theorem mst_X10_compares : Cond.static yX10_compares ∈ GT := GT7 137 rfl rfl
set_option maxRecDepth 100000 in
theorem mcode_X10_copies : Cond.code yX10_copies cX10_copies 3 (none : Option Jvm.ClassFile.FieldType) ∈ GT := GT5 202 rfl rfl
set_option maxRecDepth 100000 in
theorem mst_X10_copies : Cond.static yX10_copies ∈ GT := GT5 201 rfl rfl
set_option maxRecDepth 100000 in
theorem mcode_X10_count : Cond.code yX10_count cX10_count 2 (some .int) ∈ GT := GT8 186 rfl rfl
set_option maxRecDepth 100000 in
theorem mint_X10_count : Cond.instanceMethod yX10_count ∈ GT := GT8 184 rfl rfl
set_option maxRecDepth 100000 in
theorem msel_X10_count : Cond.selects RX10 yX10_count yX10_count ∈ GT := GT8 185 rfl rfl
set_option maxRecDepth 100000 in
theorem mcode_X10_deathOf : Cond.code yX10_deathOf cX10_deathOf 4 (some .int) ∈ GT := GT7 202 rfl rfl
set_option maxRecDepth 100000 in
theorem mint_X10_deathOf : Cond.instanceMethod yX10_deathOf ∈ GT := GT7 201 rfl rfl
set_option maxRecDepth 100000 in
theorem msel_X10_deathOf : Cond.selects RX10 yX10_deathOf yX10_deathOf ∈ GT := GT_s 91 rfl rfl
set_option maxRecDepth 100000 in
theorem mcode_X10_dies : Cond.code yX10_dies cX10_dies 4 (none : Option Jvm.ClassFile.FieldType) ∈ GT := GT7 218 rfl rfl
set_option maxRecDepth 100000 in
theorem mint_X10_dies : Cond.instanceMethod yX10_dies ∈ GT := GT7 217 rfl rfl
set_option maxRecDepth 100000 in
theorem msel_X10_dies : Cond.selects RX10 yX10_dies yX10_dies ∈ GT := GT_s 94 rfl rfl
set_option maxRecDepth 100000 in
theorem mcode_X10_dropHeld : Cond.code yX10_dropHeld cX10_dropHeld 1 (some .int) ∈ GT := GT7 84 rfl rfl
set_option maxRecDepth 100000 in
theorem mint_X10_dropHeld : Cond.instanceMethod yX10_dropHeld ∈ GT := GT7 83 rfl rfl
set_option maxRecDepth 100000 in
theorem msel_X10_dropHeld : Cond.selects RX10 yX10_dropHeld yX10_dropHeld ∈ GT := GT_s 73 rfl rfl
set_option maxRecDepth 100000 in
theorem mcode_X10_fails : Cond.code yX10_fails cX10_fails 2 (some .int) ∈ GT := GT7 104 rfl rfl
set_option maxRecDepth 100000 in
theorem mint_X10_fails : Cond.instanceMethod yX10_fails ∈ GT := GT7 103 rfl rfl
set_option maxRecDepth 100000 in
theorem msel_X10_fails : Cond.selects RX10 yX10_fails yX10_fails ∈ GT := GT_s 75 rfl rfl
set_option maxRecDepth 100000 in
theorem mcode_X10_falls : Cond.code yX10_falls cX10_falls 3 (some .int) ∈ GT := GT8 17 rfl rfl
set_option maxRecDepth 100000 in
theorem mint_X10_falls : Cond.instanceMethod yX10_falls ∈ GT := GT8 15 rfl rfl
set_option maxRecDepth 100000 in
theorem msel_X10_falls : Cond.selects RX10 yX10_falls yX10_falls ∈ GT := GT8 16 rfl rfl
set_option maxRecDepth 100000 in
theorem mcode_X10_fallsBy : Cond.code yX10_fallsBy cX10_fallsBy 3 (some .int) ∈ GT := GT8 21 rfl rfl
set_option maxRecDepth 100000 in
theorem mint_X10_fallsBy : Cond.instanceMethod yX10_fallsBy ∈ GT := GT8 20 rfl rfl
set_option maxRecDepth 100000 in
theorem msel_X10_fallsBy : Cond.selects RX10 yX10_fallsBy yX10_fallsBy ∈ GT := GT_s 102 rfl rfl
set_option maxRecDepth 100000 in
theorem mcode_X10_fault : Cond.code yX10_fault cX10_fault 2 (some .int) ∈ GT := GT7 88 rfl rfl
set_option maxRecDepth 100000 in
theorem mint_X10_fault : Cond.instanceMethod yX10_fault ∈ GT := GT7 86 rfl rfl
set_option maxRecDepth 100000 in
theorem msel_X10_fault : Cond.selects RX10 yX10_fault yX10_fault ∈ GT := GT7 87 rfl rfl
set_option maxRecDepth 100000 in
theorem mcode_X10_feed : Cond.code yX10_feed cX10_feed 8 (some .int) ∈ GT := GT6 214 rfl rfl
set_option maxRecDepth 100000 in
theorem mint_X10_feed : Cond.instanceMethod yX10_feed ∈ GT := GT6 212 rfl rfl
set_option maxRecDepth 100000 in
theorem msel_X10_feed : Cond.selects RX10 yX10_feed yX10_feed ∈ GT := GT6 213 rfl rfl
set_option maxRecDepth 100000 in
theorem mcode_X10_find : Cond.code yX10_find cX10_find 5 (some .int) ∈ GT := GT7 22 rfl rfl
set_option maxRecDepth 100000 in
theorem mst_X10_find : Cond.static yX10_find ∈ GT := GT7 21 rfl rfl
set_option maxRecDepth 100000 in
theorem mcode_X10_fits : Cond.code yX10_fits cX10_fits 4 (some .boolean) ∈ GT := GT8 154 rfl rfl
set_option maxRecDepth 100000 in
theorem mint_X10_fits : Cond.instanceMethod yX10_fits ∈ GT := GT8 153 rfl rfl
set_option maxRecDepth 100000 in
theorem msel_X10_fits : Cond.selects RX10 yX10_fits yX10_fits ∈ GT := GT_s 110 rfl rfl
set_option maxRecDepth 100000 in
theorem mcode_X10_go : Cond.code yX10_go cX10_go 3 (some .int) ∈ GT := GT7 190 rfl rfl
set_option maxRecDepth 100000 in
theorem mint_X10_go : Cond.instanceMethod yX10_go ∈ GT := GT7 188 rfl rfl
set_option maxRecDepth 100000 in
theorem msel_X10_go : Cond.selects RX10 yX10_go yX10_go ∈ GT := GT7 189 rfl rfl
set_option maxRecDepth 100000 in
theorem mcode_X10_goMany : Cond.code yX10_goMany cX10_goMany 3 (none : Option Jvm.ClassFile.FieldType) ∈ GT := GT8 9 rfl rfl
set_option maxRecDepth 100000 in
theorem mint_X10_goMany : Cond.instanceMethod yX10_goMany ∈ GT := GT8 8 rfl rfl
set_option maxRecDepth 100000 in
theorem msel_X10_goMany : Cond.selects RX10 yX10_goMany yX10_goMany ∈ GT := GT_s 100 rfl rfl
set_option maxRecDepth 100000 in
theorem mcode_X10_grown : Cond.code yX10_grown cX10_grown 4 (none : Option Jvm.ClassFile.FieldType) ∈ GT := GT7 69 rfl rfl
set_option maxRecDepth 100000 in
theorem mint_X10_grown : Cond.instanceMethod yX10_grown ∈ GT := GT7 68 rfl rfl
set_option maxRecDepth 100000 in
theorem msel_X10_grown : Cond.selects RX10 yX10_grown yX10_grown ∈ GT := GT_s 70 rfl rfl
set_option maxRecDepth 100000 in
theorem mcode_X10_hasOf : Cond.code yX10_hasOf cX10_hasOf 4 (some .int) ∈ GT := GT8 56 rfl rfl
set_option maxRecDepth 100000 in
theorem mint_X10_hasOf : Cond.instanceMethod yX10_hasOf ∈ GT := GT8 55 rfl rfl
set_option maxRecDepth 100000 in
theorem msel_X10_hasOf : Cond.selects RX10 yX10_hasOf yX10_hasOf ∈ GT := GT_s 106 rfl rfl
set_option maxRecDepth 100000 in
theorem mcode_X10_house : Cond.code yX10_house cX10_house 3 (some .int) ∈ GT := GT7 96 rfl rfl
set_option maxRecDepth 100000 in
theorem mint_X10_house : Cond.instanceMethod yX10_house ∈ GT := GT7 94 rfl rfl
set_option maxRecDepth 100000 in
theorem msel_X10_house : Cond.selects RX10 yX10_house yX10_house ∈ GT := GT7 95 rfl rfl
set_option maxRecDepth 100000 in
theorem mcode_X10_houseLine : Cond.code yX10_houseLine cX10_houseLine 2 (some .boolean) ∈ GT := GT7 15 rfl rfl
set_option maxRecDepth 100000 in
theorem mint_X10_houseLine : Cond.instanceMethod yX10_houseLine ∈ GT := GT7 14 rfl rfl
set_option maxRecDepth 100000 in
theorem msel_X10_houseLine : Cond.selects RX10 yX10_houseLine yX10_houseLine ∈ GT := GT_s 58 rfl rfl
set_option maxRecDepth 100000 in
theorem mcode_X10_hush : Cond.code yX10_hush cX10_hush 6 (some .int) ∈ GT := GT8 68 rfl rfl
set_option maxRecDepth 100000 in
theorem mint_X10_hush : Cond.instanceMethod yX10_hush ∈ GT := GT8 66 rfl rfl
set_option maxRecDepth 100000 in
theorem msel_X10_hush : Cond.selects RX10 yX10_hush yX10_hush ∈ GT := GT8 67 rfl rfl
set_option maxRecDepth 100000 in
theorem mcode_X10_isCounted : Cond.code yX10_isCounted cX10_isCounted 1 (some .boolean) ∈ GT := GT7 61 rfl rfl
set_option maxRecDepth 100000 in
theorem mint_X10_isCounted : Cond.instanceMethod yX10_isCounted ∈ GT := GT7 60 rfl rfl
set_option maxRecDepth 100000 in
theorem msel_X10_isCounted : Cond.selects RX10 yX10_isCounted yX10_isCounted ∈ GT := GT_s 68 rfl rfl
set_option maxRecDepth 100000 in
theorem mcode_X10_isDigit : Cond.code yX10_isDigit cX10_isDigit 2 (some .boolean) ∈ GT := GT6 238 rfl rfl
set_option maxRecDepth 100000 in
theorem mint_X10_isDigit : Cond.instanceMethod yX10_isDigit ∈ GT := GT6 237 rfl rfl
set_option maxRecDepth 100000 in
theorem msel_X10_isDigit : Cond.selects RX10 yX10_isDigit yX10_isDigit ∈ GT := GT_s 54 rfl rfl
set_option maxRecDepth 100000 in
theorem mcode_X10_isDying : Cond.code yX10_isDying cX10_isDying 4 (some .boolean) ∈ GT := GT7 198 rfl rfl
set_option maxRecDepth 100000 in
theorem mint_X10_isDying : Cond.instanceMethod yX10_isDying ∈ GT := GT7 197 rfl rfl
set_option maxRecDepth 100000 in
theorem msel_X10_isDying : Cond.selects RX10 yX10_isDying yX10_isDying ∈ GT := GT_s 90 rfl rfl
set_option maxRecDepth 100000 in
theorem mcode_X10_isHouse : Cond.code yX10_isHouse cX10_isHouse 2 (some .boolean) ∈ GT := GT7 100 rfl rfl
set_option maxRecDepth 100000 in
theorem mint_X10_isHouse : Cond.instanceMethod yX10_isHouse ∈ GT := GT7 99 rfl rfl
set_option maxRecDepth 100000 in
theorem msel_X10_isHouse : Cond.selects RX10 yX10_isHouse yX10_isHouse ∈ GT := GT_s 74 rfl rfl
set_option maxRecDepth 100000 in
theorem mcode_X10_isIn : Cond.code yX10_isIn cX10_isIn 3 (some .boolean) ∈ GT := GT7 29 rfl rfl
set_option maxRecDepth 100000 in
theorem mst_X10_isIn : Cond.static yX10_isIn ∈ GT := GT7 28 rfl rfl
set_option maxRecDepth 100000 in
theorem mcode_X10_isKey : Cond.code yX10_isKey cX10_isKey 2 (some .boolean) ∈ GT := GT7 57 rfl rfl
set_option maxRecDepth 100000 in
theorem mint_X10_isKey : Cond.instanceMethod yX10_isKey ∈ GT := GT7 56 rfl rfl
set_option maxRecDepth 100000 in
theorem msel_X10_isKey : Cond.selects RX10 yX10_isKey yX10_isKey ∈ GT := GT_s 67 rfl rfl
set_option maxRecDepth 100000 in
theorem mcode_X10_isOf : Cond.code yX10_isOf cX10_isOf 2 (some .boolean) ∈ GT := GT7 233 rfl rfl
set_option maxRecDepth 100000 in
theorem mst_X10_isOf : Cond.static yX10_isOf ∈ GT := GT7 232 rfl rfl
set_option maxRecDepth 100000 in
theorem mcode_X10_isOn : Cond.code yX10_isOn cX10_isOn 3 (some .boolean) ∈ GT := GT7 226 rfl rfl
set_option maxRecDepth 100000 in
theorem mint_X10_isOn : Cond.instanceMethod yX10_isOn ∈ GT := GT7 225 rfl rfl
set_option maxRecDepth 100000 in
theorem msel_X10_isOn : Cond.selects RX10 yX10_isOn yX10_isOn ∈ GT := GT_s 96 rfl rfl
set_option maxRecDepth 100000 in
theorem mcode_X10_isOnNow : Cond.code yX10_isOnNow cX10_isOnNow 2 (some .boolean) ∈ GT := GT7 174 rfl rfl
set_option maxRecDepth 100000 in
theorem mint_X10_isOnNow : Cond.instanceMethod yX10_isOnNow ∈ GT := GT7 173 rfl rfl
set_option maxRecDepth 100000 in
theorem msel_X10_isOnNow : Cond.selects RX10 yX10_isOnNow yX10_isOnNow ∈ GT := GT_s 87 rfl rfl
set_option maxRecDepth 100000 in
theorem mcode_X10_isSign : Cond.code yX10_isSign cX10_isSign 2 (some .boolean) ∈ GT := GT7 45 rfl rfl
set_option maxRecDepth 100000 in
theorem mint_X10_isSign : Cond.instanceMethod yX10_isSign ∈ GT := GT7 44 rfl rfl
set_option maxRecDepth 100000 in
theorem msel_X10_isSign : Cond.selects RX10 yX10_isSign yX10_isSign ∈ GT := GT_s 64 rfl rfl
set_option maxRecDepth 100000 in
theorem mcode_X10_isSmall : Cond.code yX10_isSmall cX10_isSmall 2 (some .boolean) ∈ GT := GT6 226 rfl rfl
set_option maxRecDepth 100000 in
theorem mint_X10_isSmall : Cond.instanceMethod yX10_isSmall ∈ GT := GT6 225 rfl rfl
set_option maxRecDepth 100000 in
theorem msel_X10_isSmall : Cond.selects RX10 yX10_isSmall yX10_isSmall ∈ GT := GT_s 51 rfl rfl
set_option maxRecDepth 100000 in
theorem mcode_X10_isSo : Cond.code yX10_isSo cX10_isSo 3 (some .boolean) ∈ GT := GT8 158 rfl rfl
set_option maxRecDepth 100000 in
theorem mint_X10_isSo : Cond.instanceMethod yX10_isSo ∈ GT := GT8 157 rfl rfl
set_option maxRecDepth 100000 in
theorem msel_X10_isSo : Cond.selects RX10 yX10_isSo yX10_isSo ∈ GT := GT_s 111 rfl rfl
set_option maxRecDepth 100000 in
theorem mcode_X10_keep : Cond.code yX10_keep cX10_keep 2 (some .int) ∈ GT := GT8 178 rfl rfl
set_option maxRecDepth 100000 in
theorem mint_X10_keep : Cond.instanceMethod yX10_keep ∈ GT := GT8 176 rfl rfl
set_option maxRecDepth 100000 in
theorem msel_X10_keep : Cond.selects RX10 yX10_keep yX10_keep ∈ GT := GT8 177 rfl rfl
set_option maxRecDepth 100000 in
theorem mcode_X10_keepText : Cond.code yX10_keepText cX10_keepText 2 (none : Option Jvm.ClassFile.FieldType) ∈ GT := GT5 199 rfl rfl
set_option maxRecDepth 100000 in
theorem mint_X10_keepText : Cond.instanceMethod yX10_keepText ∈ GT := GT5 198 rfl rfl
set_option maxRecDepth 100000 in
theorem msel_X10_keepText : Cond.selects RX10 yX10_keepText yX10_keepText ∈ GT := GT_s 46 rfl rfl
set_option maxRecDepth 100000 in
theorem mcode_X10_known : Cond.code yX10_known cX10_known 2 (some .boolean) ∈ GT := GT8 142 rfl rfl
set_option maxRecDepth 100000 in
theorem mint_X10_known : Cond.instanceMethod yX10_known ∈ GT := GT8 140 rfl rfl
set_option maxRecDepth 100000 in
theorem msel_X10_known : Cond.selects RX10 yX10_known yX10_known ∈ GT := GT8 141 rfl rfl
set_option maxRecDepth 100000 in
theorem mcode_X10_knownBy : Cond.code yX10_knownBy cX10_knownBy 1 (some .int) ∈ GT := GT8 150 rfl rfl
set_option maxRecDepth 100000 in
theorem mint_X10_knownBy : Cond.instanceMethod yX10_knownBy ∈ GT := GT8 149 rfl rfl
set_option maxRecDepth 100000 in
theorem msel_X10_knownBy : Cond.selects RX10 yX10_knownBy yX10_knownBy ∈ GT := GT_s 109 rfl rfl
set_option maxRecDepth 100000 in
theorem mcode_X10_law : Cond.code yX10_law cX10_law 5 (some .long) ∈ GT := GT7 112 rfl rfl
set_option maxRecDepth 100000 in
theorem mint_X10_law : Cond.instanceMethod yX10_law ∈ GT := GT7 110 rfl rfl
set_option maxRecDepth 100000 in
theorem msel_X10_law : Cond.selects RX10 yX10_law yX10_law ∈ GT := GT7 111 rfl rfl
set_option maxRecDepth 100000 in
theorem mcode_X10_lawOf : Cond.code yX10_lawOf cX10_lawOf 3 (some .long) ∈ GT := GT7 121 rfl rfl
set_option maxRecDepth 100000 in
theorem mint_X10_lawOf : Cond.instanceMethod yX10_lawOf ∈ GT := GT7 120 rfl rfl
set_option maxRecDepth 100000 in
theorem msel_X10_lawOf : Cond.selects RX10 yX10_lawOf yX10_lawOf ∈ GT := GT_s 77 rfl rfl
set_option maxRecDepth 100000 in
theorem mcode_X10_layNames : Cond.code yX10_layNames cX10_layNames 3 (none : Option Jvm.ClassFile.FieldType) ∈ GT := GT7 117 rfl rfl
set_option maxRecDepth 100000 in
theorem mint_X10_layNames : Cond.instanceMethod yX10_layNames ∈ GT := GT7 116 rfl rfl
set_option maxRecDepth 100000 in
theorem msel_X10_layNames : Cond.selects RX10 yX10_layNames yX10_layNames ∈ GT := GT_s 76 rfl rfl
set_option maxRecDepth 100000 in
theorem mcode_X10_layTried : Cond.code yX10_layTried cX10_layTried 2 (none : Option Jvm.ClassFile.FieldType) ∈ GT := GT8 5 rfl rfl
set_option maxRecDepth 100000 in
theorem mint_X10_layTried : Cond.instanceMethod yX10_layTried ∈ GT := GT8 4 rfl rfl
set_option maxRecDepth 100000 in
theorem msel_X10_layTried : Cond.selects RX10 yX10_layTried yX10_layTried ∈ GT := GT_s 99 rfl rfl
set_option maxRecDepth 100000 in
theorem mcode_X10_leafRead : Cond.code yX10_leafRead cX10_leafRead 2 (some .boolean) ∈ GT := GT7 49 rfl rfl
set_option maxRecDepth 100000 in
theorem mint_X10_leafRead : Cond.instanceMethod yX10_leafRead ∈ GT := GT7 48 rfl rfl
set_option maxRecDepth 100000 in
theorem msel_X10_leafRead : Cond.selects RX10 yX10_leafRead yX10_leafRead ∈ GT := GT_s 65 rfl rfl
set_option maxRecDepth 100000 in
theorem mcode_X10_leastStep : Cond.code yX10_leastStep cX10_leastStep 4 (some .int) ∈ GT := GT8 44 rfl rfl
set_option maxRecDepth 100000 in
theorem mint_X10_leastStep : Cond.instanceMethod yX10_leastStep ∈ GT := GT8 43 rfl rfl
set_option maxRecDepth 100000 in
theorem msel_X10_leastStep : Cond.selects RX10 yX10_leastStep yX10_leastStep ∈ GT := GT_s 105 rfl rfl
set_option maxRecDepth 100000 in
theorem mcode_X10_left : Cond.code yX10_left cX10_left 4 (some .int) ∈ GT := GT8 122 rfl rfl
set_option maxRecDepth 100000 in
theorem mint_X10_left : Cond.instanceMethod yX10_left ∈ GT := GT8 120 rfl rfl
set_option maxRecDepth 100000 in
theorem msel_X10_left : Cond.selects RX10 yX10_left yX10_left ∈ GT := GT8 121 rfl rfl
set_option maxRecDepth 100000 in
theorem mcode_X10_letGo : Cond.code yX10_letGo cX10_letGo 3 (some .int) ∈ GT := GT8 25 rfl rfl
set_option maxRecDepth 100000 in
theorem mint_X10_letGo : Cond.instanceMethod yX10_letGo ∈ GT := GT8 23 rfl rfl
set_option maxRecDepth 100000 in
theorem msel_X10_letGo : Cond.selects RX10 yX10_letGo yX10_letGo ∈ GT := GT8 24 rfl rfl
set_option maxRecDepth 100000 in
theorem mcode_X10_lineRead : Cond.code yX10_lineRead cX10_lineRead 3 (some .boolean) ∈ GT := GT7 7 rfl rfl
set_option maxRecDepth 100000 in
theorem mint_X10_lineRead : Cond.instanceMethod yX10_lineRead ∈ GT := GT7 6 rfl rfl
set_option maxRecDepth 100000 in
theorem msel_X10_lineRead : Cond.selects RX10 yX10_lineRead yX10_lineRead ∈ GT := GT_s 56 rfl rfl
set_option maxRecDepth 100000 in
theorem mcode_X10_lives : Cond.code yX10_lives cX10_lives 14 (some .long) ∈ GT := GT8 100 rfl rfl
set_option maxRecDepth 100000 in
theorem mint_X10_lives : Cond.instanceMethod yX10_lives ∈ GT := GT8 98 rfl rfl
set_option maxRecDepth 100000 in
theorem msel_X10_lives : Cond.selects RX10 yX10_lives yX10_lives ∈ GT := GT8 99 rfl rfl
set_option maxRecDepth 100000 in
theorem mcode_X10_manyOf : Cond.code yX10_manyOf cX10_manyOf 3 (some .int) ∈ GT := GT8 36 rfl rfl
set_option maxRecDepth 100000 in
theorem mst_X10_manyOf : Cond.static yX10_manyOf ∈ GT := GT8 35 rfl rfl
set_option maxRecDepth 100000 in
theorem mcode_X10_marries : Cond.code yX10_marries cX10_marries 6 (none : Option Jvm.ClassFile.FieldType) ∈ GT := GT7 178 rfl rfl
set_option maxRecDepth 100000 in
theorem mint_X10_marries : Cond.instanceMethod yX10_marries ∈ GT := GT7 177 rfl rfl
set_option maxRecDepth 100000 in
theorem msel_X10_marries : Cond.selects RX10 yX10_marries yX10_marries ∈ GT := GT_s 88 rfl rfl
set_option maxRecDepth 100000 in
theorem mcode_X10_marry : Cond.code yX10_marry cX10_marry 3 (some .boolean) ∈ GT := GT7 166 rfl rfl
set_option maxRecDepth 100000 in
theorem mint_X10_marry : Cond.instanceMethod yX10_marry ∈ GT := GT7 164 rfl rfl
set_option maxRecDepth 100000 in
theorem msel_X10_marry : Cond.selects RX10 yX10_marry yX10_marry ∈ GT := GT7 165 rfl rfl
set_option maxRecDepth 100000 in
theorem mcode_X10_match : Cond.code yX10_match cX10_match 4 (some .int) ∈ GT := GT8 64 rfl rfl
set_option maxRecDepth 100000 in
theorem mint_X10_match : Cond.instanceMethod yX10_match ∈ GT := GT8 62 rfl rfl
set_option maxRecDepth 100000 in
theorem msel_X10_match : Cond.selects RX10 yX10_match yX10_match ∈ GT := GT8 63 rfl rfl
set_option maxRecDepth 100000 in
theorem mcode_X10_mayRaise : Cond.code yX10_mayRaise cX10_mayRaise 3 (some .boolean) ∈ GT := GT7 146 rfl rfl
set_option maxRecDepth 100000 in
theorem mint_X10_mayRaise : Cond.instanceMethod yX10_mayRaise ∈ GT := GT7 145 rfl rfl
set_option maxRecDepth 100000 in
theorem msel_X10_mayRaise : Cond.selects RX10 yX10_mayRaise yX10_mayRaise ∈ GT := GT_s 81 rfl rfl
set_option maxRecDepth 100000 in
theorem mcode_X10_most : Cond.code yX10_most cX10_most 5 (some .int) ∈ GT := GT8 76 rfl rfl
set_option maxRecDepth 100000 in
theorem mint_X10_most : Cond.instanceMethod yX10_most ∈ GT := GT8 74 rfl rfl
set_option maxRecDepth 100000 in
theorem msel_X10_most : Cond.selects RX10 yX10_most yX10_most ∈ GT := GT8 75 rfl rfl
set_option maxRecDepth 100000 in
theorem mcode_X10_nameMet : Cond.code yX10_nameMet cX10_nameMet 1 (some .int) ∈ GT := GT7 65 rfl rfl
set_option maxRecDepth 100000 in
theorem mint_X10_nameMet : Cond.instanceMethod yX10_nameMet ∈ GT := GT7 64 rfl rfl
set_option maxRecDepth 100000 in
theorem msel_X10_nameMet : Cond.selects RX10 yX10_nameMet yX10_nameMet ∈ GT := GT_s 69 rfl rfl
set_option maxRecDepth 100000 in
theorem mcode_X10_named : Cond.code yX10_named cX10_named 3 (some .int) ∈ GT := GT7 92 rfl rfl
set_option maxRecDepth 100000 in
theorem mint_X10_named : Cond.instanceMethod yX10_named ∈ GT := GT7 90 rfl rfl
set_option maxRecDepth 100000 in
theorem msel_X10_named : Cond.selects RX10 yX10_named yX10_named ∈ GT := GT7 91 rfl rfl
set_option maxRecDepth 100000 in
theorem mcode_X10_newName : Cond.code yX10_newName cX10_newName 4 (some .boolean) ∈ GT := GT7 19 rfl rfl
set_option maxRecDepth 100000 in
theorem mint_X10_newName : Cond.instanceMethod yX10_newName ∈ GT := GT7 18 rfl rfl
set_option maxRecDepth 100000 in
theorem msel_X10_newName : Cond.selects RX10 yX10_newName yX10_newName ∈ GT := GT_s 59 rfl rfl
set_option maxRecDepth 100000 in
theorem mcode_X10_nextPart : Cond.code yX10_nextPart cX10_nextPart 6 (some .int) ∈ GT := GT8 96 rfl rfl
set_option maxRecDepth 100000 in
theorem mint_X10_nextPart : Cond.instanceMethod yX10_nextPart ∈ GT := GT8 94 rfl rfl
set_option maxRecDepth 100000 in
theorem msel_X10_nextPart : Cond.selects RX10 yX10_nextPart yX10_nextPart ∈ GT := GT8 95 rfl rfl
set_option maxRecDepth 100000 in
theorem mcode_X10_nextRaise : Cond.code yX10_nextRaise cX10_nextRaise 3 (some .int) ∈ GT := GT8 114 rfl rfl
set_option maxRecDepth 100000 in
theorem mint_X10_nextRaise : Cond.instanceMethod yX10_nextRaise ∈ GT := GT8 112 rfl rfl
set_option maxRecDepth 100000 in
theorem msel_X10_nextRaise : Cond.selects RX10 yX10_nextRaise yX10_nextRaise ∈ GT := GT8 113 rfl rfl
set_option maxRecDepth 100000 in
theorem mcode_X10_nod : Cond.code yX10_nod cX10_nod 2 (some .int) ∈ GT := GT7 142 rfl rfl
set_option maxRecDepth 100000 in
theorem mint_X10_nod : Cond.instanceMethod yX10_nod ∈ GT := GT7 140 rfl rfl
set_option maxRecDepth 100000 in
theorem msel_X10_nod : Cond.selects RX10 yX10_nod yX10_nod ∈ GT := GT7 141 rfl rfl
set_option maxRecDepth 100000 in
theorem mcode_X10_noneLeft : Cond.code yX10_noneLeft cX10_noneLeft 2 (some .int) ∈ GT := GT8 92 rfl rfl
set_option maxRecDepth 100000 in
theorem mint_X10_noneLeft : Cond.instanceMethod yX10_noneLeft ∈ GT := GT8 90 rfl rfl
set_option maxRecDepth 100000 in
theorem msel_X10_noneLeft : Cond.selects RX10 yX10_noneLeft yX10_noneLeft ∈ GT := GT8 91 rfl rfl
set_option maxRecDepth 100000 in
theorem mcode_X10_noted : Cond.code yX10_noted cX10_noted 4 (some .int) ∈ GT := GT8 134 rfl rfl
set_option maxRecDepth 100000 in
theorem mint_X10_noted : Cond.instanceMethod yX10_noted ∈ GT := GT8 133 rfl rfl
set_option maxRecDepth 100000 in
theorem msel_X10_noted : Cond.selects RX10 yX10_noted yX10_noted ∈ GT := GT_s 108 rfl rfl
set_option maxRecDepth 100000 in
theorem mcode_X10_number : Cond.code yX10_number cX10_number 3 (some .boolean) ∈ GT := GT7 26 rfl rfl
set_option maxRecDepth 100000 in
theorem mint_X10_number : Cond.instanceMethod yX10_number ∈ GT := GT7 25 rfl rfl
set_option maxRecDepth 100000 in
theorem msel_X10_number : Cond.selects RX10 yX10_number yX10_number ∈ GT := GT_s 60 rfl rfl
set_option maxRecDepth 100000 in
theorem mcode_X10_number1 : Cond.code yX10_number1 cX10_number1 2 (some .int) ∈ GT := GT7 210 rfl rfl
set_option maxRecDepth 100000 in
theorem mint_X10_number1 : Cond.instanceMethod yX10_number1 ∈ GT := GT7 209 rfl rfl
set_option maxRecDepth 100000 in
theorem msel_X10_number1 : Cond.selects RX10 yX10_number1 yX10_number1 ∈ GT := GT_s 93 rfl rfl
set_option maxRecDepth 100000 in
theorem mcode_X10_onMany : Cond.code yX10_onMany cX10_onMany 4 (some .int) ∈ GT := GT8 13 rfl rfl
set_option maxRecDepth 100000 in
theorem mint_X10_onMany : Cond.instanceMethod yX10_onMany ∈ GT := GT8 12 rfl rfl
set_option maxRecDepth 100000 in
theorem msel_X10_onMany : Cond.selects RX10 yX10_onMany yX10_onMany ∈ GT := GT_s 101 rfl rfl
set_option maxRecDepth 100000 in
theorem mcode_X10_onNow : Cond.code yX10_onNow cX10_onNow 3 (some .int) ∈ GT := GT8 33 rfl rfl
set_option maxRecDepth 100000 in
theorem mint_X10_onNow : Cond.instanceMethod yX10_onNow ∈ GT := GT8 32 rfl rfl
set_option maxRecDepth 100000 in
theorem msel_X10_onNow : Cond.selects RX10 yX10_onNow yX10_onNow ∈ GT := GT_s 103 rfl rfl
set_option maxRecDepth 100000 in
theorem mcode_X10_onceLine : Cond.code yX10_onceLine cX10_onceLine 4 (some .boolean) ∈ GT := GT7 37 rfl rfl
set_option maxRecDepth 100000 in
theorem mint_X10_onceLine : Cond.instanceMethod yX10_onceLine ∈ GT := GT7 36 rfl rfl
set_option maxRecDepth 100000 in
theorem msel_X10_onceLine : Cond.selects RX10 yX10_onceLine yX10_onceLine ∈ GT := GT_s 62 rfl rfl
set_option maxRecDepth 100000 in
theorem mcode_X10_outbid : Cond.code yX10_outbid cX10_outbid 7 (some .int) ∈ GT := GT8 29 rfl rfl
set_option maxRecDepth 100000 in
theorem mint_X10_outbid : Cond.instanceMethod yX10_outbid ∈ GT := GT8 27 rfl rfl
set_option maxRecDepth 100000 in
theorem msel_X10_outbid : Cond.selects RX10 yX10_outbid yX10_outbid ∈ GT := GT8 28 rfl rfl
set_option maxRecDepth 100000 in
theorem mcode_X10_packed : Cond.code yX10_packed cX10_packed 5 (some .int) ∈ GT := GT6 234 rfl rfl
set_option maxRecDepth 100000 in
theorem mint_X10_packed : Cond.instanceMethod yX10_packed ∈ GT := GT6 233 rfl rfl
set_option maxRecDepth 100000 in
theorem msel_X10_packed : Cond.selects RX10 yX10_packed yX10_packed ∈ GT := GT_s 53 rfl rfl
set_option maxRecDepth 100000 in
theorem mcode_X10_part : Cond.code yX10_part cX10_part 3 (some .int) ∈ GT := GT7 108 rfl rfl
set_option maxRecDepth 100000 in
theorem mint_X10_part : Cond.instanceMethod yX10_part ∈ GT := GT7 106 rfl rfl
set_option maxRecDepth 100000 in
theorem msel_X10_part : Cond.selects RX10 yX10_part yX10_part ∈ GT := GT7 107 rfl rfl
set_option maxRecDepth 100000 in
theorem mcode_X10_partLine : Cond.code yX10_partLine cX10_partLine 1 (some .boolean) ∈ GT := GT7 33 rfl rfl
set_option maxRecDepth 100000 in
theorem mint_X10_partLine : Cond.instanceMethod yX10_partLine ∈ GT := GT7 32 rfl rfl
set_option maxRecDepth 100000 in
theorem msel_X10_partLine : Cond.selects RX10 yX10_partLine yX10_partLine ∈ GT := GT_s 61 rfl rfl
set_option maxRecDepth 100000 in
theorem mcode_X10_partsGo : Cond.code yX10_partsGo cX10_partsGo 4 (none : Option Jvm.ClassFile.FieldType) ∈ GT := GT7 237 rfl rfl
set_option maxRecDepth 100000 in
theorem mint_X10_partsGo : Cond.instanceMethod yX10_partsGo ∈ GT := GT7 236 rfl rfl
set_option maxRecDepth 100000 in
theorem msel_X10_partsGo : Cond.selects RX10 yX10_partsGo yX10_partsGo ∈ GT := GT_s 98 rfl rfl
set_option maxRecDepth 100000 in
theorem mcode_X10_plain : Cond.code yX10_plain cX10_plain 2 (none : Option Jvm.ClassFile.FieldType) ∈ GT := GT5 195 rfl rfl
set_option maxRecDepth 100000 in
theorem mint_X10_plain : Cond.instanceMethod yX10_plain ∈ GT := GT5 194 rfl rfl
set_option maxRecDepth 100000 in
theorem msel_X10_plain : Cond.selects RX10 yX10_plain yX10_plain ∈ GT := GT_s 45 rfl rfl
set_option maxRecDepth 100000 in
theorem mcode_X10_plainTried : Cond.code yX10_plainTried cX10_plainTried 1 (none : Option Jvm.ClassFile.FieldType) ∈ GT := GT5 214 rfl rfl
set_option maxRecDepth 100000 in
theorem mint_X10_plainTried : Cond.instanceMethod yX10_plainTried ∈ GT := GT5 213 rfl rfl
set_option maxRecDepth 100000 in
theorem msel_X10_plainTried : Cond.selects RX10 yX10_plainTried yX10_plainTried ∈ GT := GT_s 49 rfl rfl
set_option maxRecDepth 100000 in
theorem mcode_X10_put : Cond.code yX10_put cX10_put 4 (none : Option Jvm.ClassFile.FieldType) ∈ GT := GT7 158 rfl rfl
set_option maxRecDepth 100000 in
theorem mint_X10_put : Cond.instanceMethod yX10_put ∈ GT := GT7 157 rfl rfl
set_option maxRecDepth 100000 in
theorem msel_X10_put : Cond.selects RX10 yX10_put yX10_put ∈ GT := GT_s 84 rfl rfl
set_option maxRecDepth 100000 in
theorem mcode_X10_raises : Cond.code yX10_raises cX10_raises 3 (none : Option Jvm.ClassFile.FieldType) ∈ GT := GT7 162 rfl rfl
set_option maxRecDepth 100000 in
theorem mint_X10_raises : Cond.instanceMethod yX10_raises ∈ GT := GT7 161 rfl rfl
set_option maxRecDepth 100000 in
theorem msel_X10_raises : Cond.selects RX10 yX10_raises yX10_raises ∈ GT := GT_s 85 rfl rfl
set_option maxRecDepth 100000 in
theorem mcode_X10_rank : Cond.code yX10_rank cX10_rank 1 (some .int) ∈ GT := GT7 80 rfl rfl
set_option maxRecDepth 100000 in
theorem mst_X10_rank : Cond.static yX10_rank ∈ GT := GT7 79 rfl rfl
set_option maxRecDepth 100000 in
theorem mcode_X10_remember : Cond.code yX10_remember cX10_remember 2 (none : Option Jvm.ClassFile.FieldType) ∈ GT := GT7 154 rfl rfl
set_option maxRecDepth 100000 in
theorem mint_X10_remember : Cond.instanceMethod yX10_remember ∈ GT := GT7 153 rfl rfl
set_option maxRecDepth 100000 in
theorem msel_X10_remember : Cond.selects RX10 yX10_remember yX10_remember ∈ GT := GT_s 83 rfl rfl
set_option maxRecDepth 100000 in
theorem mcode_X10_rival : Cond.code yX10_rival cX10_rival 4 (some .int) ∈ GT := GT8 118 rfl rfl
set_option maxRecDepth 100000 in
theorem mint_X10_rival : Cond.instanceMethod yX10_rival ∈ GT := GT8 116 rfl rfl
set_option maxRecDepth 100000 in
theorem msel_X10_rival : Cond.selects RX10 yX10_rival yX10_rival ∈ GT := GT8 117 rfl rfl
set_option maxRecDepth 100000 in
theorem mcode_X10_same : Cond.code yX10_same cX10_same 1 (some .int) ∈ GT := GT8 80 rfl rfl
set_option maxRecDepth 100000 in
theorem mint_X10_same : Cond.instanceMethod yX10_same ∈ GT := GT8 78 rfl rfl
set_option maxRecDepth 100000 in
theorem msel_X10_same : Cond.selects RX10 yX10_same yX10_same ∈ GT := GT8 79 rfl rfl
set_option maxRecDepth 100000 in
theorem mcode_X10_sameIn : Cond.code yX10_sameIn cX10_sameIn 3 (some .int) ∈ GT := GT8 88 rfl rfl
set_option maxRecDepth 100000 in
theorem mint_X10_sameIn : Cond.instanceMethod yX10_sameIn ∈ GT := GT8 86 rfl rfl
set_option maxRecDepth 100000 in
theorem msel_X10_sameIn : Cond.selects RX10 yX10_sameIn yX10_sameIn ∈ GT := GT8 87 rfl rfl
set_option maxRecDepth 100000 in
theorem mcode_X10_sameOf : Cond.code yX10_sameOf cX10_sameOf 4 (some .int) ∈ GT := GT8 84 rfl rfl
set_option maxRecDepth 100000 in
theorem mint_X10_sameOf : Cond.instanceMethod yX10_sameOf ∈ GT := GT8 83 rfl rfl
set_option maxRecDepth 100000 in
theorem msel_X10_sameOf : Cond.selects RX10 yX10_sameOf yX10_sameOf ∈ GT := GT_s 107 rfl rfl
set_option maxRecDepth 100000 in
theorem mcode_X10_see : Cond.code yX10_see cX10_see 4 (some .int) ∈ GT := GT8 130 rfl rfl
set_option maxRecDepth 100000 in
theorem mint_X10_see : Cond.instanceMethod yX10_see ∈ GT := GT8 128 rfl rfl
set_option maxRecDepth 100000 in
theorem msel_X10_see : Cond.selects RX10 yX10_see yX10_see ∈ GT := GT8 129 rfl rfl
set_option maxRecDepth 100000 in
theorem mcode_X10_shares : Cond.code yX10_shares cX10_shares 5 (some .int) ∈ GT := GT8 106 rfl rfl
set_option maxRecDepth 100000 in
theorem mint_X10_shares : Cond.instanceMethod yX10_shares ∈ GT := GT8 104 rfl rfl
set_option maxRecDepth 100000 in
theorem msel_X10_shares : Cond.selects RX10 yX10_shares yX10_shares ∈ GT := GT8 105 rfl rfl
set_option maxRecDepth 100000 in
theorem mcode_X10_signToken : Cond.code yX10_signToken cX10_signToken 4 (none : Option Jvm.ClassFile.FieldType) ∈ GT := GT7 3 rfl rfl
set_option maxRecDepth 100000 in
theorem mint_X10_signToken : Cond.instanceMethod yX10_signToken ∈ GT := GT7 2 rfl rfl
set_option maxRecDepth 100000 in
theorem msel_X10_signToken : Cond.selects RX10 yX10_signToken yX10_signToken ∈ GT := GT_s 55 rfl rfl
set_option maxRecDepth 100000 in
theorem mcode_X10_signs : Cond.code yX10_signs cX10_signs 2 (some .boolean) ∈ GT := GT7 73 rfl rfl
set_option maxRecDepth 100000 in
theorem mint_X10_signs : Cond.instanceMethod yX10_signs ∈ GT := GT7 72 rfl rfl
set_option maxRecDepth 100000 in
theorem msel_X10_signs : Cond.selects RX10 yX10_signs yX10_signs ∈ GT := GT_s 71 rfl rfl
set_option maxRecDepth 100000 in
theorem mcode_X10_stays : Cond.code yX10_stays cX10_stays 11 (some .int) ∈ GT := GT8 52 rfl rfl
set_option maxRecDepth 100000 in
theorem mint_X10_stays : Cond.instanceMethod yX10_stays ∈ GT := GT8 50 rfl rfl
set_option maxRecDepth 100000 in
theorem msel_X10_stays : Cond.selects RX10 yX10_stays yX10_stays ∈ GT := GT8 51 rfl rfl
set_option maxRecDepth 100000 in
theorem mcode_X10_stepOf : Cond.code yX10_stepOf cX10_stepOf 2 (some .int) ∈ GT := GT7 150 rfl rfl
set_option maxRecDepth 100000 in
theorem mint_X10_stepOf : Cond.instanceMethod yX10_stepOf ∈ GT := GT7 149 rfl rfl
set_option maxRecDepth 100000 in
theorem msel_X10_stepOf : Cond.selects RX10 yX10_stepOf yX10_stepOf ∈ GT := GT_s 82 rfl rfl
set_option maxRecDepth 100000 in
theorem mcode_X10_still : Cond.code yX10_still cX10_still 3 (some .int) ∈ GT := GT8 72 rfl rfl
set_option maxRecDepth 100000 in
theorem mint_X10_still : Cond.instanceMethod yX10_still ∈ GT := GT8 70 rfl rfl
set_option maxRecDepth 100000 in
theorem msel_X10_still : Cond.selects RX10 yX10_still yX10_still ∈ GT := GT8 71 rfl rfl
set_option maxRecDepth 100000 in
theorem mcode_X10_strike : Cond.code yX10_strike cX10_strike 2 (some .int) ∈ GT := GT8 138 rfl rfl
set_option maxRecDepth 100000 in
theorem mint_X10_strike : Cond.instanceMethod yX10_strike ∈ GT := GT8 136 rfl rfl
set_option maxRecDepth 100000 in
theorem msel_X10_strike : Cond.selects RX10 yX10_strike yX10_strike ∈ GT := GT8 137 rfl rfl
set_option maxRecDepth 100000 in
theorem mcode_X10_sumRead : Cond.code yX10_sumRead cX10_sumRead 1 (some .boolean) ∈ GT := GT7 41 rfl rfl
set_option maxRecDepth 100000 in
theorem mint_X10_sumRead : Cond.instanceMethod yX10_sumRead ∈ GT := GT7 40 rfl rfl
set_option maxRecDepth 100000 in
theorem msel_X10_sumRead : Cond.selects RX10 yX10_sumRead yX10_sumRead ∈ GT := GT_s 63 rfl rfl
set_option maxRecDepth 100000 in
theorem mcode_X10_take : Cond.code yX10_take cX10_take 4 (none : Option Jvm.ClassFile.FieldType) ∈ GT := GT8 174 rfl rfl
set_option maxRecDepth 100000 in
theorem mint_X10_take : Cond.instanceMethod yX10_take ∈ GT := GT8 173 rfl rfl
set_option maxRecDepth 100000 in
theorem msel_X10_take : Cond.selects RX10 yX10_take yX10_take ∈ GT := GT_s 112 rfl rfl
set_option maxRecDepth 100000 in
theorem mcode_X10_text : Cond.code yX10_text cX10_text 3 (some .int) ∈ GT := GT6 218 rfl rfl
set_option maxRecDepth 100000 in
theorem mint_X10_text : Cond.instanceMethod yX10_text ∈ GT := GT6 216 rfl rfl
set_option maxRecDepth 100000 in
theorem msel_X10_text : Cond.selects RX10 yX10_text yX10_text ∈ GT := GT6 217 rfl rfl
set_option maxRecDepth 100000 in
theorem mcode_X10_thrown : Cond.code yX10_thrown cX10_thrown 1 (some .int) ∈ GT := GT6 210 rfl rfl
set_option maxRecDepth 100000 in
theorem mint_X10_thrown : Cond.instanceMethod yX10_thrown ∈ GT := GT6 208 rfl rfl
set_option maxRecDepth 100000 in
theorem msel_X10_thrown : Cond.selects RX10 yX10_thrown yX10_thrown ∈ GT := GT6 209 rfl rfl
set_option maxRecDepth 100000 in
theorem mcode_X10_times : Cond.code yX10_times cX10_times 6 (some .long) ∈ GT := GT7 135 rfl rfl
set_option maxRecDepth 100000 in
theorem mint_X10_times : Cond.instanceMethod yX10_times ∈ GT := GT7 134 rfl rfl
set_option maxRecDepth 100000 in
theorem msel_X10_times : Cond.selects RX10 yX10_times yX10_times ∈ GT := GT_s 80 rfl rfl
set_option maxRecDepth 100000 in
theorem mcode_X10_token : Cond.code yX10_token cX10_token 1 (none : Option Jvm.ClassFile.FieldType) ∈ GT := GT6 222 rfl rfl
set_option maxRecDepth 100000 in
theorem mint_X10_token : Cond.instanceMethod yX10_token ∈ GT := GT6 221 rfl rfl
set_option maxRecDepth 100000 in
theorem msel_X10_token : Cond.selects RX10 yX10_token yX10_token ∈ GT := GT_s 50 rfl rfl
set_option maxRecDepth 100000 in
theorem mcode_X10_tried : Cond.code yX10_tried cX10_tried 5 (some .int) ∈ GT := GT8 166 rfl rfl
set_option maxRecDepth 100000 in
theorem mint_X10_tried : Cond.instanceMethod yX10_tried ∈ GT := GT8 164 rfl rfl
set_option maxRecDepth 100000 in
theorem msel_X10_tried : Cond.selects RX10 yX10_tried yX10_tried ∈ GT := GT8 165 rfl rfl
set_option maxRecDepth 100000 in
theorem mcode_X10_turn : Cond.code yX10_turn cX10_turn 2 (some .int) ∈ GT := GT8 110 rfl rfl
set_option maxRecDepth 100000 in
theorem mint_X10_turn : Cond.instanceMethod yX10_turn ∈ GT := GT8 108 rfl rfl
set_option maxRecDepth 100000 in
theorem msel_X10_turn : Cond.selects RX10 yX10_turn yX10_turn ∈ GT := GT8 109 rfl rfl
set_option maxRecDepth 100000 in
theorem mcode_X10_turnOf : Cond.code yX10_turnOf cX10_turnOf 4 (some .int) ∈ GT := GT7 222 rfl rfl
set_option maxRecDepth 100000 in
theorem mint_X10_turnOf : Cond.instanceMethod yX10_turnOf ∈ GT := GT7 221 rfl rfl
set_option maxRecDepth 100000 in
theorem msel_X10_turnOf : Cond.selects RX10 yX10_turnOf yX10_turnOf ∈ GT := GT_s 95 rfl rfl
set_option maxRecDepth 100000 in
theorem mcode_X10_undo : Cond.code yX10_undo cX10_undo 1 (some .int) ∈ GT := GT8 170 rfl rfl
set_option maxRecDepth 100000 in
theorem mint_X10_undo : Cond.instanceMethod yX10_undo ∈ GT := GT8 168 rfl rfl
set_option maxRecDepth 100000 in
theorem msel_X10_undo : Cond.selects RX10 yX10_undo yX10_undo ∈ GT := GT8 169 rfl rfl
set_option maxRecDepth 100000 in
theorem mcode_X10_valueOf : Cond.code yX10_valueOf cX10_valueOf 6 (some .long) ∈ GT := GT7 125 rfl rfl
set_option maxRecDepth 100000 in
theorem mint_X10_valueOf : Cond.instanceMethod yX10_valueOf ∈ GT := GT7 124 rfl rfl
set_option maxRecDepth 100000 in
theorem msel_X10_valueOf : Cond.selects RX10 yX10_valueOf yX10_valueOf ∈ GT := GT_s 78 rfl rfl
set_option maxRecDepth 100000 in
theorem mcode_X10_waitsFor : Cond.code yX10_waitsFor cX10_waitsFor 2 (none : Option Jvm.ClassFile.FieldType) ∈ GT := GT7 53 rfl rfl
set_option maxRecDepth 100000 in
theorem mint_X10_waitsFor : Cond.instanceMethod yX10_waitsFor ∈ GT := GT7 52 rfl rfl
set_option maxRecDepth 100000 in
theorem msel_X10_waitsFor : Cond.selects RX10 yX10_waitsFor yX10_waitsFor ∈ GT := GT_s 66 rfl rfl
set_option maxRecDepth 100000 in
theorem mcode_X10_wantsRaise : Cond.code yX10_wantsRaise cX10_wantsRaise 5 (some .boolean) ∈ GT := GT7 230 rfl rfl
set_option maxRecDepth 100000 in
theorem mint_X10_wantsRaise : Cond.instanceMethod yX10_wantsRaise ∈ GT := GT7 229 rfl rfl
set_option maxRecDepth 100000 in
theorem msel_X10_wantsRaise : Cond.selects RX10 yX10_wantsRaise yX10_wantsRaise ∈ GT := GT_s 97 rfl rfl
set_option maxRecDepth 100000 in
theorem mcode_X10_when : Cond.code yX10_when cX10_when 7 (some .int) ∈ GT := GT8 60 rfl rfl
set_option maxRecDepth 100000 in
theorem mint_X10_when : Cond.instanceMethod yX10_when ∈ GT := GT8 58 rfl rfl
set_option maxRecDepth 100000 in
theorem msel_X10_when : Cond.selects RX10 yX10_when yX10_when ∈ GT := GT8 59 rfl rfl
set_option maxRecDepth 100000 in
theorem mcode_X10_will : Cond.code yX10_will cX10_will 3 (some .boolean) ∈ GT := GT7 182 rfl rfl
set_option maxRecDepth 100000 in
theorem mint_X10_will : Cond.instanceMethod yX10_will ∈ GT := GT7 180 rfl rfl
set_option maxRecDepth 100000 in
theorem msel_X10_will : Cond.selects RX10 yX10_will yX10_will ∈ GT := GT7 181 rfl rfl
set_option maxRecDepth 100000 in
theorem mcode_X10_wordAt : Cond.code yX10_wordAt cX10_wordAt 8 (some .int) ∈ GT := GT6 230 rfl rfl
set_option maxRecDepth 100000 in
theorem mint_X10_wordAt : Cond.instanceMethod yX10_wordAt ∈ GT := GT6 229 rfl rfl
set_option maxRecDepth 100000 in
theorem msel_X10_wordAt : Cond.selects RX10 yX10_wordAt yX10_wordAt ∈ GT := GT_s 52 rfl rfl
set_option maxRecDepth 100000 in
theorem mcode_X10_wrong : Cond.code yX10_wrong cX10_wrong 2 (some .boolean) ∈ GT := GT7 11 rfl rfl
set_option maxRecDepth 100000 in
theorem mint_X10_wrong : Cond.instanceMethod yX10_wrong ∈ GT := GT7 10 rfl rfl
set_option maxRecDepth 100000 in
theorem msel_X10_wrong : Cond.selects RX10 yX10_wrong yX10_wrong ∈ GT := GT_s 57 rfl rfl
set_option maxRecDepth 100000 in
theorem mcode_X10_yearGoes : Cond.code yX10_yearGoes cX10_yearGoes 4 (none : Option Jvm.ClassFile.FieldType) ∈ GT := GT7 194 rfl rfl
set_option maxRecDepth 100000 in
theorem mint_X10_yearGoes : Cond.instanceMethod yX10_yearGoes ∈ GT := GT7 193 rfl rfl
set_option maxRecDepth 100000 in
theorem msel_X10_yearGoes : Cond.selects RX10 yX10_yearGoes yX10_yearGoes ∈ GT := GT_s 89 rfl rfl
set_option maxRecDepth 100000 in
theorem mcode_J6_bitCount_0f7a4 : Cond.code yJ6_bitCount_0f7a4 cJ6_bitCount_0f7a4 1 (some .int) ∈ GT := GT3 221 rfl rfl
set_option maxRecDepth 100000 in
theorem mst_J6_bitCount_0f7a4 : Cond.static yJ6_bitCount_0f7a4 ∈ GT := GT3 220 rfl rfl
set_option maxRecDepth 100000 in
theorem mcode_abs_long : Cond.code Lib.MathLoose.abs_long.x Lib.MathLoose.abs_long.code 2 (some .long) ∈ GT := GT3 212 rfl rfl
set_option maxRecDepth 100000 in
theorem mst_abs_long : Cond.static Lib.MathLoose.abs_long.x ∈ GT := GT3 211 rfl rfl
set_option maxRecDepth 100000 in
theorem mcode_max : Cond.code Lib.Math.max.name Lib.Math.max.code 2 (some .int) ∈ GT := GT3 132 rfl rfl
set_option maxRecDepth 100000 in
theorem mst_max : Cond.static Lib.Math.max.name ∈ GT := GT3 131 rfl rfl
set_option maxRecDepth 100000 in
theorem mcode_max_long : Cond.code Lib.MathLoose.max_long.x Lib.MathLoose.max_long.code 4 (some .long) ∈ GT := GT4 88 rfl rfl
set_option maxRecDepth 100000 in
theorem mst_max_long : Cond.static Lib.MathLoose.max_long.x ∈ GT := GT4 87 rfl rfl
set_option maxRecDepth 100000 in
theorem mcode_min : Cond.code Lib.Math.min.name Lib.Math.min.code 2 (some .int) ∈ GT := GT3 1 rfl rfl
set_option maxRecDepth 100000 in
theorem mst_min : Cond.static Lib.Math.min.name ∈ GT := GT3 0 rfl rfl
set_option maxRecDepth 100000 in
theorem mcode_min_long : Cond.code Lib.MathLoose.min_long.x Lib.MathLoose.min_long.code 4 (some .long) ∈ GT := GT4 85 rfl rfl
set_option maxRecDepth 100000 in
theorem mst_min_long : Cond.static Lib.MathLoose.min_long.x ∈ GT := GT4 84 rfl rfl
set_option maxRecDepth 100000 in
theorem ml_X9_87 : Cond.methodLink RX9 87 yX9_putFourBytes ∈ GT := GT2 211 rfl rfl
theorem mV_X9_87 : ∀ w ∈ wsV RX9 87 RX9 yX9_putFourBytes (wsG yX9_putFourBytes cX9_putFourBytes 3 (none : Option Jvm.ClassFile.FieldType)), w ∈ GT := GT_all (GT_c ml_X9_87 (GT_c mint_X9_putFourBytes (GT_c msel_X9_putFourBytes (GT_c mi_X9 GT_n)))) (GT_c mcode_X9_putFourBytes (fun _ h => h))
set_option maxRecDepth 100000 in
theorem ml_X9_91 : Cond.methodLink RX9 91 yX3_readText ∈ GT := GT2 219 rfl rfl
theorem mV_X9_91 : ∀ w ∈ wsV RX9 91 RX3 yX3_readText (wsG yX3_readText cX3_readText 4 (some .boolean)), w ∈ GT := GT_all (GT_c ml_X9_91 (GT_c mint_X3_readText (GT_c msel_X3_readText (GT_c mi_X3 GT_n)))) (GT_c mcode_X3_readText (fun _ h => h))
set_option maxRecDepth 100000 in
theorem ml_X9_95 : Cond.methodLink RX9 95 yX3_faultKind ∈ GT := GT3 142 rfl rfl
theorem mV_X9_95 : ∀ w ∈ wsV RX9 95 RX3 yX3_faultKind (wsG yX3_faultKind cX3_faultKind 1 (some .int)), w ∈ GT := GT_all (GT_c ml_X9_95 (GT_c mint_X3_faultKind (GT_c msel_X3_faultKind (GT_c mi_X3 GT_n)))) (GT_c mcode_X3_faultKind (fun _ h => h))
set_option maxRecDepth 100000 in
theorem ml_X9_99 : Cond.methodLink RX9 99 yX3_faultAt ∈ GT := GT3 146 rfl rfl
theorem mV_X9_99 : ∀ w ∈ wsV RX9 99 RX3 yX3_faultAt (wsG yX3_faultAt cX3_faultAt 1 (some .int)), w ∈ GT := GT_all (GT_c ml_X9_99 (GT_c mint_X3_faultAt (GT_c msel_X3_faultAt (GT_c mi_X3 GT_n)))) (GT_c mcode_X3_faultAt (fun _ h => h))
set_option maxRecDepth 100000 in
theorem ml_X9_102 : Cond.methodLink RX9 102 yX9_startAnew ∈ GT := GT3 150 rfl rfl
theorem mV_X9_102 : ∀ w ∈ wsV RX9 102 RX9 yX9_startAnew (wsG yX9_startAnew cX9_startAnew 1 (none : Option Jvm.ClassFile.FieldType)), w ∈ GT := GT_all (GT_c ml_X9_102 (GT_c mint_X9_startAnew (GT_c msel_X9_startAnew (GT_c mi_X9 GT_n)))) (GT_c mcode_X9_startAnew (fun _ h => h))
set_option maxRecDepth 100000 in
theorem ml_X9_108 : Cond.methodLink RX9 108 yX4_begin ∈ GT := GT3 154 rfl rfl
theorem mV_X9_108 : ∀ w ∈ wsV RX9 108 RX4 yX4_begin (wsG yX4_begin cX4_begin 3 (none : Option Jvm.ClassFile.FieldType)), w ∈ GT := GT_all (GT_c ml_X9_108 (GT_c mint_X4_begin (GT_c msel_X4_begin (GT_c mi_X4 GT_n)))) (GT_c mcode_X4_begin (fun _ h => h))
set_option maxRecDepth 100000 in
theorem ml_X9_111 : Cond.methodLink RX9 111 yX8_forget ∈ GT := GT3 158 rfl rfl
theorem mV_X9_111 : ∀ w ∈ wsV RX9 111 RX8 yX8_forget (wsG yX8_forget cX8_forget 1 (none : Option Jvm.ClassFile.FieldType)), w ∈ GT := GT_all (GT_c ml_X9_111 (GT_c mint_X8_forget (GT_c msel_X8_forget (GT_c mi_X8 GT_n)))) (GT_c mcode_X8_forget (fun _ h => h))
set_option maxRecDepth 100000 in
theorem ml_X9_114 : Cond.methodLink RX9 114 yX5_forget ∈ GT := GT3 162 rfl rfl
theorem mV_X9_114 : ∀ w ∈ wsV RX9 114 RX5 yX5_forget (wsG yX5_forget cX5_forget 1 (none : Option Jvm.ClassFile.FieldType)), w ∈ GT := GT_all (GT_c ml_X9_114 (GT_c mint_X5_forget (GT_c msel_X5_forget (GT_c mi_X5 GT_n)))) (GT_c mcode_X5_forget (fun _ h => h))
set_option maxRecDepth 100000 in
theorem ml_X9_122 : Cond.methodLink RX9 122 yX9_placeOf ∈ GT := GT3 174 rfl rfl
theorem mS_X9_122 : ∀ w ∈ wsS RX9 122 yX9_placeOf (wsG yX9_placeOf cX9_placeOf 4 (some .int)), w ∈ GT := GT_all (GT_c ml_X9_122 (GT_c mst_X9_placeOf (GT_c mi_X9 GT_n))) (GT_c mcode_X9_placeOf (fun _ h => h))
set_option maxRecDepth 100000 in
theorem ml_X9_132 : Cond.methodLink RX9 132 yX9_isHouse ∈ GT := GT3 188 rfl rfl
theorem mV_X9_132 : ∀ w ∈ wsV RX9 132 RX9 yX9_isHouse (wsG yX9_isHouse cX9_isHouse 2 (some .boolean)), w ∈ GT := GT_all (GT_c ml_X9_132 (GT_c mint_X9_isHouse (GT_c msel_X9_isHouse (GT_c mi_X9 GT_n)))) (GT_c mcode_X9_isHouse (fun _ h => h))
set_option maxRecDepth 100000 in
theorem ml_X9_136 : Cond.methodLink RX9 136 yX4_holds ∈ GT := GT4 37 rfl rfl
theorem mV_X9_136 : ∀ w ∈ wsV RX9 136 RX4 yX4_holds (wsG yX4_holds cX4_holds 2 (some .boolean)), w ∈ GT := GT_all (GT_c ml_X9_136 (GT_c mint_X4_holds (GT_c msel_X4_holds (GT_c mi_X4 GT_n)))) (GT_c mcode_X4_holds (fun _ h => h))
set_option maxRecDepth 100000 in
theorem ml_X9_139 : Cond.methodLink RX9 139 yX9_isIn ∈ GT := GT4 33 rfl rfl
theorem mV_X9_139 : ∀ w ∈ wsV RX9 139 RX9 yX9_isIn (wsG yX9_isIn cX9_isIn 2 (some .boolean)), w ∈ GT := GT_all (GT_c ml_X9_139 (GT_c mint_X9_isIn (GT_c msel_X9_isIn (GT_c mi_X9 GT_n)))) (GT_c mcode_X9_isIn (fun _ h => h))
set_option maxRecDepth 100000 in
theorem ml_X9_142 : Cond.methodLink RX9 142 yX9_areTwoIn ∈ GT := GT4 29 rfl rfl
theorem mV_X9_142 : ∀ w ∈ wsV RX9 142 RX9 yX9_areTwoIn (wsG yX9_areTwoIn cX9_areTwoIn 3 (some .boolean)), w ∈ GT := GT_all (GT_c ml_X9_142 (GT_c mint_X9_areTwoIn (GT_c msel_X9_areTwoIn (GT_c mi_X9 GT_n)))) (GT_c mcode_X9_areTwoIn (fun _ h => h))
set_option maxRecDepth 100000 in
theorem ml_X9_185 : Cond.methodLink RX9 185 yX4_isFirst ∈ GT := GT3 179 rfl rfl
theorem mV_X9_185 : ∀ w ∈ wsV RX9 185 RX4 yX4_isFirst (wsG yX4_isFirst cX4_isFirst 2 (some .boolean)), w ∈ GT := GT_all (GT_c ml_X9_185 (GT_c mint_X4_isFirst (GT_c msel_X4_isFirst (GT_c mi_X4 GT_n)))) (GT_c mcode_X4_isFirst (fun _ h => h))
set_option maxRecDepth 100000 in
theorem ml_X9_188 : Cond.methodLink RX9 188 yX9_isWithin ∈ GT := GT3 187 rfl rfl
theorem mS_X9_188 : ∀ w ∈ wsS RX9 188 yX9_isWithin (wsG yX9_isWithin cX9_isWithin 3 (some .boolean)), w ∈ GT := GT_all (GT_c ml_X9_188 (GT_c mst_X9_isWithin (GT_c mi_X9 GT_n))) (GT_c mcode_X9_isWithin (fun _ h => h))
set_option maxRecDepth 100000 in
theorem ml_X9_194 : Cond.methodLink RX9 194 yX0_asItGoes ∈ GT := GT3 193 rfl rfl
theorem mV_X9_194 : ∀ w ∈ wsV RX9 194 RX0 yX0_asItGoes (wsG yX0_asItGoes cX0_asItGoes 2 (none : Option Jvm.ClassFile.FieldType)), w ∈ GT := GT_all (GT_c ml_X9_194 (GT_c mint_X0_asItGoes (GT_c msel_X0_asItGoes (GT_c mi_X0 GT_n)))) (GT_c mcode_X0_asItGoes (fun _ h => h))
set_option maxRecDepth 100000 in
theorem ml_X9_197 : Cond.methodLink RX9 197 yX0_valueOf ∈ GT := GT3 197 rfl rfl
theorem mV_X9_197 : ∀ w ∈ wsV RX9 197 RX0 yX0_valueOf (wsG yX0_valueOf cX0_valueOf 11 (some .long)), w ∈ GT := GT_all (GT_c ml_X9_197 (GT_c mint_X0_valueOf (GT_c msel_X0_valueOf (GT_c mi_X0 GT_n)))) (GT_c mcode_X0_valueOf (fun _ h => h))
set_option maxRecDepth 100000 in
theorem ml_X9_228 : Cond.methodLink RX9 228 yJ6_bitCount_0f7a4 ∈ GT := GT3 219 rfl rfl
theorem mT_X9_228 : ∀ w ∈ va_wsS RX9 228 yJ6_bitCount_0f7a4 (wsG yJ6_bitCount_0f7a4 cJ6_bitCount_0f7a4 1 (some .int)), w ∈ GT := GT_all (GT_c ml_X9_228 (GT_c mst_J6_bitCount_0f7a4 (GT_c mi_J6 GT_n))) (GT_c mcode_J6_bitCount_0f7a4 (fun _ h => h))
set_option maxRecDepth 100000 in
theorem ml_X9_240 : Cond.methodLink RX9 240 yX5_howManyKnown ∈ GT := GT3 225 rfl rfl
theorem mV_X9_240 : ∀ w ∈ wsV RX9 240 RX5 yX5_howManyKnown (wsG yX5_howManyKnown cX5_howManyKnown 1 (some .int)), w ∈ GT := GT_all (GT_c ml_X9_240 (GT_c mint_X5_howManyKnown (GT_c msel_X5_howManyKnown (GT_c mi_X5 GT_n)))) (GT_c mcode_X5_howManyKnown (fun _ h => h))
set_option maxRecDepth 100000 in
theorem ml_X9_244 : Cond.methodLink RX9 244 yX0_whoseTurn ∈ GT := GT3 234 rfl rfl
theorem mV_X9_244 : ∀ w ∈ wsV RX9 244 RX0 yX0_whoseTurn (wsG yX0_whoseTurn cX0_whoseTurn 5 (some .int)), w ∈ GT := GT_all (GT_c ml_X9_244 (GT_c mint_X0_whoseTurn (GT_c msel_X0_whoseTurn (GT_c mi_X0 GT_n)))) (GT_c mcode_X0_whoseTurn (fun _ h => h))
set_option maxRecDepth 100000 in
theorem ml_X9_248 : Cond.methodLink RX9 248 yX0_mayNod ∈ GT := GT4 6 rfl rfl
theorem mV_X9_248 : ∀ w ∈ wsV RX9 248 RX0 yX0_mayNod (wsG yX0_mayNod cX0_mayNod 3 (some .boolean)), w ∈ GT := GT_all (GT_c ml_X9_248 (GT_c mint_X0_mayNod (GT_c msel_X0_mayNod (GT_c mi_X0 GT_n)))) (GT_c mcode_X0_mayNod (fun _ h => h))
set_option maxRecDepth 100000 in
theorem ml_X9_252 : Cond.methodLink RX9 252 yX8_note ∈ GT := GT4 14 rfl rfl
theorem mV_X9_252 : ∀ w ∈ wsV RX9 252 RX8 yX8_note (wsG yX8_note cX8_note 4 (none : Option Jvm.ClassFile.FieldType)), w ∈ GT := GT_all (GT_c ml_X9_252 (GT_c mint_X8_note (GT_c msel_X8_note (GT_c mi_X8 GT_n)))) (GT_c mcode_X8_note (fun _ h => h))
set_option maxRecDepth 100000 in
theorem ml_X9_256 : Cond.methodLink RX9 256 yX0_raise ∈ GT := GT4 21 rfl rfl
theorem mV_X9_256 : ∀ w ∈ wsV RX9 256 RX0 yX0_raise (wsG yX0_raise cX0_raise 3 (none : Option Jvm.ClassFile.FieldType)), w ∈ GT := GT_all (GT_c ml_X9_256 (GT_c mint_X0_raise (GT_c msel_X0_raise (GT_c mi_X0 GT_n)))) (GT_c mcode_X0_raise (fun _ h => h))
set_option maxRecDepth 100000 in
theorem ml_X9_259 : Cond.methodLink RX9 259 yX4_wed ∈ GT := GT4 38 rfl rfl
theorem mV_X9_259 : ∀ w ∈ wsV RX9 259 RX4 yX4_wed (wsG yX4_wed cX4_wed 3 (none : Option Jvm.ClassFile.FieldType)), w ∈ GT := GT_all (GT_c ml_X9_259 (GT_c mint_X4_wed (GT_c msel_X4_wed (GT_c mi_X4 GT_n)))) (GT_c mcode_X4_wed (fun _ h => h))
set_option maxRecDepth 100000 in
theorem ml_X9_263 : Cond.methodLink RX9 263 yX0_byNumbers ∈ GT := GT4 59 rfl rfl
theorem mV_X9_263 : ∀ w ∈ wsV RX9 263 RX0 yX0_byNumbers (wsG yX0_byNumbers cX0_byNumbers 2 (none : Option Jvm.ClassFile.FieldType)), w ∈ GT := GT_all (GT_c ml_X9_263 (GT_c mint_X0_byNumbers (GT_c msel_X0_byNumbers (GT_c mi_X0 GT_n)))) (GT_c mcode_X0_byNumbers (fun _ h => h))
set_option maxRecDepth 100000 in
theorem ml_X9_266 : Cond.methodLink RX9 266 yX0_passYear ∈ GT := GT4 64 rfl rfl
theorem mV_X9_266 : ∀ w ∈ wsV RX9 266 RX0 yX0_passYear (wsG yX0_passYear cX0_passYear 4 (some .int)), w ∈ GT := GT_all (GT_c ml_X9_266 (GT_c mint_X0_passYear (GT_c msel_X0_passYear (GT_c mi_X0 GT_n)))) (GT_c mcode_X0_passYear (fun _ h => h))
set_option maxRecDepth 100000 in
theorem ml_X9_269 : Cond.methodLink RX9 269 yX4_ageParts ∈ GT := GT4 113 rfl rfl
theorem mV_X9_269 : ∀ w ∈ wsV RX9 269 RX4 yX4_ageParts (wsG yX4_ageParts cX4_ageParts 3 (none : Option Jvm.ClassFile.FieldType)), w ∈ GT := GT_all (GT_c ml_X9_269 (GT_c mint_X4_ageParts (GT_c msel_X4_ageParts (GT_c mi_X4 GT_n)))) (GT_c mcode_X4_ageParts (fun _ h => h))
set_option maxRecDepth 100000 in
theorem ml_X9_272 : Cond.methodLink RX9 272 yX8_takeBack ∈ GT := GT4 121 rfl rfl
theorem mV_X9_272 : ∀ w ∈ wsV RX9 272 RX8 yX8_takeBack (wsG yX8_takeBack cX8_takeBack 4 (some .int)), w ∈ GT := GT_all (GT_c ml_X9_272 (GT_c mint_X8_takeBack (GT_c msel_X8_takeBack (GT_c mi_X8 GT_n)))) (GT_c mcode_X8_takeBack (fun _ h => h))
set_option maxRecDepth 100000 in
theorem ml_X9_275 : Cond.methodLink RX9 275 yX4_become ∈ GT := GT4 129 rfl rfl
theorem mV_X9_275 : ∀ w ∈ wsV RX9 275 RX4 yX4_become (wsG yX4_become cX4_become 2 (none : Option Jvm.ClassFile.FieldType)), w ∈ GT := GT_all (GT_c ml_X9_275 (GT_c mint_X4_become (GT_c msel_X4_become (GT_c mi_X4 GT_n)))) (GT_c mcode_X4_become (fun _ h => h))
set_option maxRecDepth 100000 in
theorem ml_X9_279 : Cond.methodLink RX9 279 yX9_tryAsItGoes ∈ GT := GT4 142 rfl rfl
theorem mV_X9_279 : ∀ w ∈ wsV RX9 279 RX9 yX9_tryAsItGoes (wsG yX9_tryAsItGoes cX9_tryAsItGoes 1 (none : Option Jvm.ClassFile.FieldType)), w ∈ GT := GT_all (GT_c ml_X9_279 (GT_c mint_X9_tryAsItGoes (GT_c msel_X9_tryAsItGoes (GT_c mi_X9 GT_n)))) (GT_c mcode_X9_tryAsItGoes (fun _ h => h))
set_option maxRecDepth 100000 in
theorem ml_X9_282 : Cond.methodLink RX9 282 yX0_passYears ∈ GT := GT4 146 rfl rfl
theorem mV_X9_282 : ∀ w ∈ wsV RX9 282 RX0 yX0_passYears (wsG yX0_passYears cX0_passYears 4 (none : Option Jvm.ClassFile.FieldType)), w ∈ GT := GT_all (GT_c ml_X9_282 (GT_c mint_X0_passYears (GT_c msel_X0_passYears (GT_c mi_X0 GT_n)))) (GT_c mcode_X0_passYears (fun _ h => h))
set_option maxRecDepth 100000 in
theorem ml_X9_285 : Cond.methodLink RX9 285 yX0_yearsToFall ∈ GT := GT4 155 rfl rfl
theorem mV_X9_285 : ∀ w ∈ wsV RX9 285 RX0 yX0_yearsToFall (wsG yX0_yearsToFall cX0_yearsToFall 4 (some .int)), w ∈ GT := GT_all (GT_c ml_X9_285 (GT_c mint_X0_yearsToFall (GT_c msel_X0_yearsToFall (GT_c mi_X0 GT_n)))) (GT_c mcode_X0_yearsToFall (fun _ h => h))
set_option maxRecDepth 100000 in
theorem ml_X9_301 : Cond.methodLink RX9 301 yX4_setAllBounds ∈ GT := GT4 175 rfl rfl
theorem mV_X9_301 : ∀ w ∈ wsV RX9 301 RX4 yX4_setAllBounds (wsG yX4_setAllBounds cX4_setAllBounds 3 (none : Option Jvm.ClassFile.FieldType)), w ∈ GT := GT_all (GT_c ml_X9_301 (GT_c mint_X4_setAllBounds (GT_c msel_X4_setAllBounds (GT_c mi_X4 GT_n)))) (GT_c mcode_X4_setAllBounds (fun _ h => h))
set_option maxRecDepth 100000 in
theorem ml_X9_309 : Cond.methodLink RX9 309 yX4_growOlder ∈ GT := GT4 188 rfl rfl
theorem mV_X9_309 : ∀ w ∈ wsV RX9 309 RX4 yX4_growOlder (wsG yX4_growOlder cX4_growOlder 2 (none : Option Jvm.ClassFile.FieldType)), w ∈ GT := GT_all (GT_c ml_X9_309 (GT_c mint_X4_growOlder (GT_c msel_X4_growOlder (GT_c mi_X4 GT_n)))) (GT_c mcode_X4_growOlder (fun _ h => h))
set_option maxRecDepth 100000 in
theorem ml_X9_312 : Cond.methodLink RX9 312 yX0_deathOf ∈ GT := GT4 189 rfl rfl
theorem mV_X9_312 : ∀ w ∈ wsV RX9 312 RX0 yX0_deathOf (wsG yX0_deathOf cX0_deathOf 5 (some .int)), w ∈ GT := GT_all (GT_c ml_X9_312 (GT_c mint_X0_deathOf (GT_c msel_X0_deathOf (GT_c mi_X0 GT_n)))) (GT_c mcode_X0_deathOf (fun _ h => h))
set_option maxRecDepth 100000 in
theorem ml_X9_317 : Cond.methodLink RX9 317 yX9_commonDivisor ∈ GT := GT4 191 rfl rfl
theorem mS_X9_317 : ∀ w ∈ wsS RX9 317 yX9_commonDivisor (wsG yX9_commonDivisor cX9_commonDivisor 11 (some .long)), w ∈ GT := GT_all (GT_c ml_X9_317 (GT_c mst_X9_commonDivisor (GT_c mi_X9 GT_n))) (GT_c mcode_X9_commonDivisor (fun _ h => h))
set_option maxRecDepth 100000 in
theorem ml_X9_321 : Cond.methodLink RX9 321 Lib.MathLoose.max_long.x ∈ GT := GT4 194 rfl rfl
set_option maxRecDepth 100000 in
theorem ml_X9_326 : Cond.methodLink RX9 326 yX4_hasFallenTo ∈ GT := GT4 199 rfl rfl
theorem mV_X9_326 : ∀ w ∈ wsV RX9 326 RX4 yX4_hasFallenTo (wsG yX4_hasFallenTo cX4_hasFallenTo 2 (some .boolean)), w ∈ GT := GT_all (GT_c ml_X9_326 (GT_c mint_X4_hasFallenTo (GT_c msel_X4_hasFallenTo (GT_c mi_X4 GT_n)))) (GT_c mcode_X4_hasFallenTo (fun _ h => h))
set_option maxRecDepth 100000 in
theorem ml_X9_329 : Cond.methodLink RX9 329 yX9_isFewer ∈ GT := GT4 215 rfl rfl
theorem mS_X9_329 : ∀ w ∈ wsS RX9 329 yX9_isFewer (wsG yX9_isFewer cX9_isFewer 2 (some .boolean)), w ∈ GT := GT_all (GT_c ml_X9_329 (GT_c mst_X9_isFewer (GT_c mi_X9 GT_n))) (GT_c mcode_X9_isFewer (fun _ h => h))
set_option maxRecDepth 100000 in
theorem ml_X9_332 : Cond.methodLink RX9 332 yX9_outbidsOthers ∈ GT := GT4 222 rfl rfl
theorem mV_X9_332 : ∀ w ∈ wsV RX9 332 RX9 yX9_outbidsOthers (wsG yX9_outbidsOthers cX9_outbidsOthers 5 (some .boolean)), w ∈ GT := GT_all (GT_c ml_X9_332 (GT_c mint_X9_outbidsOthers (GT_c msel_X9_outbidsOthers (GT_c mi_X9 GT_n)))) (GT_c mcode_X9_outbidsOthers (fun _ h => h))
set_option maxRecDepth 100000 in
theorem ml_X9_335 : Cond.methodLink RX9 335 yX9_sumOfBounds ∈ GT := GT4 226 rfl rfl
theorem mV_X9_335 : ∀ w ∈ wsV RX9 335 RX9 yX9_sumOfBounds (wsG yX9_sumOfBounds cX9_sumOfBounds 4 (some .int)), w ∈ GT := GT_all (GT_c ml_X9_335 (GT_c mint_X9_sumOfBounds (GT_c msel_X9_sumOfBounds (GT_c mi_X9 GT_n)))) (GT_c mcode_X9_sumOfBounds (fun _ h => h))
set_option maxRecDepth 100000 in
theorem ml_X9_338 : Cond.methodLink RX9 338 yX9_leastStep ∈ GT := GT4 230 rfl rfl
theorem mV_X9_338 : ∀ w ∈ wsV RX9 338 RX9 yX9_leastStep (wsG yX9_leastStep cX9_leastStep 4 (some .int)), w ∈ GT := GT_all (GT_c ml_X9_338 (GT_c mint_X9_leastStep (GT_c msel_X9_leastStep (GT_c mi_X9 GT_n)))) (GT_c mcode_X9_leastStep (fun _ h => h))
set_option maxRecDepth 100000 in
theorem ml_X9_342 : Cond.methodLink RX9 342 Lib.Math.min.name ∈ GT := GT4 235 rfl rfl
set_option maxRecDepth 100000 in
theorem ml_X9_346 : Cond.methodLink RX9 346 Lib.Math.max.name ∈ GT := GT5 8 rfl rfl
set_option maxRecDepth 100000 in
theorem ml_X9_348 : Cond.methodLink RX9 348 yX9_greatestWorth ∈ GT := GT5 4 rfl rfl
theorem mV_X9_348 : ∀ w ∈ wsV RX9 348 RX9 yX9_greatestWorth (wsG yX9_greatestWorth cX9_greatestWorth 4 (some .int)), w ∈ GT := GT_all (GT_c ml_X9_348 (GT_c mint_X9_greatestWorth (GT_c msel_X9_greatestWorth (GT_c mi_X9 GT_n)))) (GT_c mcode_X9_greatestWorth (fun _ h => h))
set_option maxRecDepth 100000 in
theorem ml_X9_351 : Cond.methodLink RX9 351 yX9_gainOf ∈ GT := GT5 0 rfl rfl
theorem mV_X9_351 : ∀ w ∈ wsV RX9 351 RX9 yX9_gainOf (wsG yX9_gainOf cX9_gainOf 2 (some .int)), w ∈ GT := GT_all (GT_c ml_X9_351 (GT_c mint_X9_gainOf (GT_c msel_X9_gainOf (GT_c mi_X9 GT_n)))) (GT_c mcode_X9_gainOf (fun _ h => h))
set_option maxRecDepth 100000 in
theorem ml_X9_354 : Cond.methodLink RX9 354 yX9_areThreeIn ∈ GT := GT5 13 rfl rfl
theorem mV_X9_354 : ∀ w ∈ wsV RX9 354 RX9 yX9_areThreeIn (wsG yX9_areThreeIn cX9_areThreeIn 4 (some .boolean)), w ∈ GT := GT_all (GT_c ml_X9_354 (GT_c mint_X9_areThreeIn (GT_c msel_X9_areThreeIn (GT_c mi_X9 GT_n)))) (GT_c mcode_X9_areThreeIn (fun _ h => h))
set_option maxRecDepth 100000 in
theorem ml_X9_357 : Cond.methodLink RX9 357 yX9_raisesInRow ∈ GT := GT5 29 rfl rfl
theorem mV_X9_357 : ∀ w ∈ wsV RX9 357 RX9 yX9_raisesInRow (wsG yX9_raisesInRow cX9_raisesInRow 3 (some .int)), w ∈ GT := GT_all (GT_c ml_X9_357 (GT_c mint_X9_raisesInRow (GT_c msel_X9_raisesInRow (GT_c mi_X9 GT_n)))) (GT_c mcode_X9_raisesInRow (fun _ h => h))
set_option maxRecDepth 100000 in
theorem ml_X9_360 : Cond.methodLink RX9 360 yX9_partsLeftIn ∈ GT := GT5 41 rfl rfl
theorem mV_X9_360 : ∀ w ∈ wsV RX9 360 RX9 yX9_partsLeftIn (wsG yX9_partsLeftIn cX9_partsLeftIn 4 (some .int)), w ∈ GT := GT_all (GT_c ml_X9_360 (GT_c mint_X9_partsLeftIn (GT_c msel_X9_partsLeftIn (GT_c mi_X9 GT_n)))) (GT_c mcode_X9_partsLeftIn (fun _ h => h))
set_option maxRecDepth 100000 in
theorem ml_X9_363 : Cond.methodLink RX9 363 yX4_yearsToRenewal ∈ GT := GT5 45 rfl rfl
theorem mV_X9_363 : ∀ w ∈ wsV RX9 363 RX4 yX4_yearsToRenewal (wsG yX4_yearsToRenewal cX4_yearsToRenewal 3 (some .int)), w ∈ GT := GT_all (GT_c ml_X9_363 (GT_c mint_X4_yearsToRenewal (GT_c msel_X4_yearsToRenewal (GT_c mi_X4 GT_n)))) (GT_c mcode_X4_yearsToRenewal (fun _ h => h))
set_option maxRecDepth 100000 in
theorem ml_X9_367 : Cond.methodLink RX9 367 yX5_add ∈ GT := GT5 66 rfl rfl
theorem mV_X9_367 : ∀ w ∈ wsV RX9 367 RX5 yX5_add (wsG yX5_add cX5_add 4 (some .int)), w ∈ GT := GT_all (GT_c ml_X9_367 (GT_c mint_X5_add (GT_c msel_X5_add (GT_c mi_X5 GT_n)))) (GT_c mcode_X5_add (fun _ h => h))
set_option maxRecDepth 100000 in
theorem ml_X9_374 : Cond.methodLink RX9 374 yX5_findStruck ∈ GT := GT5 82 rfl rfl
theorem mV_X9_374 : ∀ w ∈ wsV RX9 374 RX5 yX5_findStruck (wsG yX5_findStruck cX5_findStruck 3 (none : Option Jvm.ClassFile.FieldType)), w ∈ GT := GT_all (GT_c ml_X9_374 (GT_c mint_X5_findStruck (GT_c msel_X5_findStruck (GT_c mi_X5 GT_n)))) (GT_c mcode_X5_findStruck (fun _ h => h))
set_option maxRecDepth 100000 in
theorem ml_X9_377 : Cond.methodLink RX9 377 yX9_agreesWithSeen ∈ GT := GT5 87 rfl rfl
theorem mV_X9_377 : ∀ w ∈ wsV RX9 377 RX9 yX9_agreesWithSeen (wsG yX9_agreesWithSeen cX9_agreesWithSeen 4 (some .boolean)), w ∈ GT := GT_all (GT_c ml_X9_377 (GT_c mint_X9_agreesWithSeen (GT_c msel_X9_agreesWithSeen (GT_c mi_X9 GT_n)))) (GT_c mcode_X9_agreesWithSeen (fun _ h => h))
set_option maxRecDepth 100000 in
theorem ml_X9_380 : Cond.methodLink RX9 380 yX5_allows ∈ GT := GT5 91 rfl rfl
theorem mV_X9_380 : ∀ w ∈ wsV RX9 380 RX5 yX5_allows (wsG yX5_allows cX5_allows 7 (some .boolean)), w ∈ GT := GT_all (GT_c ml_X9_380 (GT_c mint_X5_allows (GT_c msel_X5_allows (GT_c mi_X5 GT_n)))) (GT_c mcode_X5_allows (fun _ h => h))
set_option maxRecDepth 100000 in
theorem ml_X0_36 : Cond.methodLink RX0 36 yX0_asItGoes ∈ GT := GT4 63 rfl rfl
theorem mV_X0_36 : ∀ w ∈ wsV RX0 36 RX0 yX0_asItGoes (wsG yX0_asItGoes cX0_asItGoes 2 (none : Option Jvm.ClassFile.FieldType)), w ∈ GT := GT_all (GT_c ml_X0_36 (GT_c mint_X0_asItGoes (GT_c msel_X0_asItGoes (GT_c mi_X0 GT_n)))) (GT_c mcode_X0_asItGoes (fun _ h => h))
set_option maxRecDepth 100000 in
theorem ml_X0_45 : Cond.methodLink RX0 45 yX0_passYear ∈ GT := GT4 150 rfl rfl
theorem mV_X0_45 : ∀ w ∈ wsV RX0 45 RX0 yX0_passYear (wsG yX0_passYear cX0_passYear 4 (some .int)), w ∈ GT := GT_all (GT_c ml_X0_45 (GT_c mint_X0_passYear (GT_c msel_X0_passYear (GT_c mi_X0 GT_n)))) (GT_c mcode_X0_passYear (fun _ h => h))
set_option maxRecDepth 100000 in
theorem ml_X0_60 : Cond.methodLink RX0 60 yX4_holds ∈ GT := GT3 238 rfl rfl
theorem mV_X0_60 : ∀ w ∈ wsV RX0 60 RX4 yX4_holds (wsG yX4_holds cX4_holds 2 (some .boolean)), w ∈ GT := GT_all (GT_c ml_X0_60 (GT_c mint_X4_holds (GT_c msel_X4_holds (GT_c mi_X4 GT_n)))) (GT_c mcode_X4_holds (fun _ h => h))
set_option maxRecDepth 100000 in
theorem ml_X0_64 : Cond.methodLink RX0 64 yX0_passHead ∈ GT := GT4 68 rfl rfl
theorem mV_X0_64 : ∀ w ∈ wsV RX0 64 RX0 yX0_passHead (wsG yX0_passHead cX0_passHead 3 (none : Option Jvm.ClassFile.FieldType)), w ∈ GT := GT_all (GT_c ml_X0_64 (GT_c mint_X0_passHead (GT_c msel_X0_passHead (GT_c mi_X0 GT_n)))) (GT_c mcode_X0_passHead (fun _ h => h))
set_option maxRecDepth 100000 in
theorem ml_X0_68 : Cond.methodLink RX0 68 yX0_takeTurn ∈ GT := GT4 106 rfl rfl
theorem mV_X0_68 : ∀ w ∈ wsV RX0 68 RX0 yX0_takeTurn (wsG yX0_takeTurn cX0_takeTurn 3 (some .int)), w ∈ GT := GT_all (GT_c ml_X0_68 (GT_c mint_X0_takeTurn (GT_c msel_X0_takeTurn (GT_c mi_X0 GT_n)))) (GT_c mcode_X0_takeTurn (fun _ h => h))
set_option maxRecDepth 100000 in
theorem ml_X0_80 : Cond.methodLink RX0 80 yX4_growOlder ∈ GT := GT4 72 rfl rfl
theorem mV_X0_80 : ∀ w ∈ wsV RX0 80 RX4 yX4_growOlder (wsG yX4_growOlder cX4_growOlder 2 (none : Option Jvm.ClassFile.FieldType)), w ∈ GT := GT_all (GT_c ml_X0_80 (GT_c mint_X4_growOlder (GT_c msel_X4_growOlder (GT_c mi_X4 GT_n)))) (GT_c mcode_X4_growOlder (fun _ h => h))
set_option maxRecDepth 100000 in
theorem ml_X0_84 : Cond.methodLink RX0 84 yX0_deathOf ∈ GT := GT4 76 rfl rfl
theorem mV_X0_84 : ∀ w ∈ wsV RX0 84 RX0 yX0_deathOf (wsG yX0_deathOf cX0_deathOf 5 (some .int)), w ∈ GT := GT_all (GT_c ml_X0_84 (GT_c mint_X0_deathOf (GT_c msel_X0_deathOf (GT_c mi_X0 GT_n)))) (GT_c mcode_X0_deathOf (fun _ h => h))
set_option maxRecDepth 100000 in
theorem ml_X0_88 : Cond.methodLink RX0 88 yX0_isDying ∈ GT := GT4 89 rfl rfl
theorem mV_X0_88 : ∀ w ∈ wsV RX0 88 RX0 yX0_isDying (wsG yX0_isDying cX0_isDying 3 (some .boolean)), w ∈ GT := GT_all (GT_c ml_X0_88 (GT_c mint_X0_isDying (GT_c msel_X0_isDying (GT_c mi_X0 GT_n)))) (GT_c mcode_X0_isDying (fun _ h => h))
set_option maxRecDepth 100000 in
theorem ml_X0_92 : Cond.methodLink RX0 92 yX0_handOn ∈ GT := GT4 100 rfl rfl
theorem mV_X0_92 : ∀ w ∈ wsV RX0 92 RX0 yX0_handOn (wsG yX0_handOn cX0_handOn 5 (none : Option Jvm.ClassFile.FieldType)), w ∈ GT := GT_all (GT_c ml_X0_92 (GT_c mint_X0_handOn (GT_c msel_X0_handOn (GT_c mi_X0 GT_n)))) (GT_c mcode_X0_handOn (fun _ h => h))
set_option maxRecDepth 100000 in
theorem ml_X0_95 : Cond.methodLink RX0 95 yX4_nextNumber ∈ GT := GT4 93 rfl rfl
theorem mV_X0_95 : ∀ w ∈ wsV RX0 95 RX4 yX4_nextNumber (wsG yX4_nextNumber cX4_nextNumber 1 (some .int)), w ∈ GT := GT_all (GT_c ml_X0_95 (GT_c mint_X4_nextNumber (GT_c msel_X4_nextNumber (GT_c mi_X4 GT_n)))) (GT_c mcode_X4_nextNumber (fun _ h => h))
set_option maxRecDepth 100000 in
theorem ml_X0_99 : Cond.methodLink RX0 99 yX0_valueOf ∈ GT := GT4 80 rfl rfl
theorem mV_X0_99 : ∀ w ∈ wsV RX0 99 RX0 yX0_valueOf (wsG yX0_valueOf cX0_valueOf 11 (some .long)), w ∈ GT := GT_all (GT_c ml_X0_99 (GT_c mint_X0_valueOf (GT_c msel_X0_valueOf (GT_c mi_X0 GT_n)))) (GT_c mcode_X0_valueOf (fun _ h => h))
set_option maxRecDepth 100000 in
theorem ml_X0_109 : Cond.methodLink RX0 109 Lib.Math.max.name ∈ GT := GT4 81 rfl rfl
set_option maxRecDepth 100000 in
theorem ml_X0_117 : Cond.methodLink RX0 117 Lib.MathLoose.min_long.x ∈ GT := GT4 83 rfl rfl
set_option maxRecDepth 100000 in
theorem ml_X0_121 : Cond.methodLink RX0 121 Lib.MathLoose.max_long.x ∈ GT := GT4 86 rfl rfl
set_option maxRecDepth 100000 in
theorem ml_X0_129 : Cond.methodLink RX0 129 yX4_end ∈ GT := GT4 104 rfl rfl
theorem mV_X0_129 : ∀ w ∈ wsV RX0 129 RX4 yX4_end (wsG yX4_end cX4_end 2 (none : Option Jvm.ClassFile.FieldType)), w ∈ GT := GT_all (GT_c ml_X0_129 (GT_c mint_X4_end (GT_c msel_X4_end (GT_c mi_X4 GT_n)))) (GT_c mcode_X4_end (fun _ h => h))
set_option maxRecDepth 100000 in
theorem ml_X0_137 : Cond.methodLink RX0 137 yX0_whoseTurn ∈ GT := GT4 110 rfl rfl
theorem mV_X0_137 : ∀ w ∈ wsV RX0 137 RX0 yX0_whoseTurn (wsG yX0_whoseTurn cX0_whoseTurn 5 (some .int)), w ∈ GT := GT_all (GT_c ml_X0_137 (GT_c mint_X0_whoseTurn (GT_c msel_X0_whoseTurn (GT_c mi_X0 GT_n)))) (GT_c mcode_X0_whoseTurn (fun _ h => h))
set_option maxRecDepth 100000 in
theorem ml_X0_140 : Cond.methodLink RX0 140 yX0_mayNod ∈ GT := GT4 111 rfl rfl
theorem mV_X0_140 : ∀ w ∈ wsV RX0 140 RX0 yX0_mayNod (wsG yX0_mayNod cX0_mayNod 3 (some .boolean)), w ∈ GT := GT_all (GT_c ml_X0_140 (GT_c mint_X0_mayNod (GT_c msel_X0_mayNod (GT_c mi_X0 GT_n)))) (GT_c mcode_X0_mayNod (fun _ h => h))
set_option maxRecDepth 100000 in
theorem ml_X0_143 : Cond.methodLink RX0 143 yX0_raise ∈ GT := GT4 112 rfl rfl
theorem mV_X0_143 : ∀ w ∈ wsV RX0 143 RX0 yX0_raise (wsG yX0_raise cX0_raise 3 (none : Option Jvm.ClassFile.FieldType)), w ∈ GT := GT_all (GT_c ml_X0_143 (GT_c mint_X0_raise (GT_c msel_X0_raise (GT_c mi_X0 GT_n)))) (GT_c mcode_X0_raise (fun _ h => h))
set_option maxRecDepth 100000 in
theorem ml_X0_152 : Cond.methodLink RX0 152 yX0_stepOf ∈ GT := GT4 10 rfl rfl
theorem mV_X0_152 : ∀ w ∈ wsV RX0 152 RX0 yX0_stepOf (wsG yX0_stepOf cX0_stepOf 2 (some .int)), w ∈ GT := GT_all (GT_c ml_X0_152 (GT_c mint_X0_stepOf (GT_c msel_X0_stepOf (GT_c mi_X0 GT_n)))) (GT_c mcode_X0_stepOf (fun _ h => h))
set_option maxRecDepth 100000 in
theorem ml_X0_184 : Cond.methodLink RX0 184 yX0_nameOf ∈ GT := GT3 203 rfl rfl
theorem mV_X0_184 : ∀ w ∈ wsV RX0 184 RX0 yX0_nameOf (wsG yX0_nameOf cX0_nameOf 4 (some .int)), w ∈ GT := GT_all (GT_c ml_X0_184 (GT_c mint_X0_nameOf (GT_c msel_X0_nameOf (GT_c mi_X0 GT_n)))) (GT_c mcode_X0_nameOf (fun _ h => h))
set_option maxRecDepth 100000 in
theorem ml_X0_188 : Cond.methodLink RX0 188 yX0_join ∈ GT := GT3 207 rfl rfl
theorem mS_X0_188 : ∀ w ∈ wsS RX0 188 yX0_join (wsG yX0_join cX0_join 5 (some .long)), w ∈ GT := GT_all (GT_c ml_X0_188 (GT_c mst_X0_join (GT_c mi_X0 GT_n))) (GT_c mcode_X0_join (fun _ h => h))
set_option maxRecDepth 100000 in
theorem ml_X0_199 : Cond.methodLink RX0 199 Lib.MathLoose.abs_long.x ∈ GT := GT3 210 rfl rfl
set_option maxRecDepth 100000 in
theorem ml_X1_48 : Cond.methodLink RX1 48 yX1_isEnd ∈ GT := GT3 90 rfl rfl
theorem mV_X1_48 : ∀ w ∈ wsV RX1 48 RX1 yX1_isEnd (wsG yX1_isEnd cX1_isEnd 1 (some .boolean)), w ∈ GT := GT_all (GT_c ml_X1_48 (GT_c mint_X1_isEnd (GT_c msel_X1_isEnd (GT_c mi_X1 GT_n)))) (GT_c mcode_X1_isEnd (fun _ h => h))
set_option maxRecDepth 100000 in
theorem ml_X1_52 : Cond.methodLink RX1 52 yX1_takeOperand ∈ GT := GT3 94 rfl rfl
theorem mV_X1_52 : ∀ w ∈ wsV RX1 52 RX1 yX1_takeOperand (wsG yX1_takeOperand cX1_takeOperand 2 (some .int)), w ∈ GT := GT_all (GT_c ml_X1_52 (GT_c mint_X1_takeOperand (GT_c msel_X1_takeOperand (GT_c mi_X1 GT_n)))) (GT_c mcode_X1_takeOperand (fun _ h => h))
set_option maxRecDepth 100000 in
theorem ml_X1_61 : Cond.methodLink RX1 61 yX1_takeClosing ∈ GT := GT3 119 rfl rfl
theorem mV_X1_61 : ∀ w ∈ wsV RX1 61 RX1 yX1_takeClosing (wsG yX1_takeClosing cX1_takeClosing 1 (some .int)), w ∈ GT := GT_all (GT_c ml_X1_61 (GT_c mint_X1_takeClosing (GT_c msel_X1_takeClosing (GT_c mi_X1 GT_n)))) (GT_c mcode_X1_takeClosing (fun _ h => h))
set_option maxRecDepth 100000 in
theorem ml_X1_64 : Cond.methodLink RX1 64 yX1_takeSign ∈ GT := GT3 133 rfl rfl
theorem mV_X1_64 : ∀ w ∈ wsV RX1 64 RX1 yX1_takeSign (wsG yX1_takeSign cX1_takeSign 4 (some .int)), w ∈ GT := GT_all (GT_c ml_X1_64 (GT_c mint_X1_takeSign (GT_c msel_X1_takeSign (GT_c mi_X1 GT_n)))) (GT_c mcode_X1_takeSign (fun _ h => h))
set_option maxRecDepth 100000 in
theorem ml_X1_67 : Cond.methodLink RX1 67 yX7_advance ∈ GT := GT3 137 rfl rfl
theorem mV_X1_67 : ∀ w ∈ wsV RX1 67 RX7 yX7_advance (wsG yX7_advance cX7_advance 1 (none : Option Jvm.ClassFile.FieldType)), w ∈ GT := GT_all (GT_c ml_X1_67 (GT_c mint_X7_advance (GT_c msel_X7_advance (GT_c mi_X7 GT_n)))) (GT_c mcode_X7_advance (fun _ h => h))
set_option maxRecDepth 100000 in
theorem ml_X1_70 : Cond.methodLink RX1 70 yX1_releaseDownTo ∈ GT := GT3 123 rfl rfl
theorem mV_X1_70 : ∀ w ∈ wsV RX1 70 RX1 yX1_releaseDownTo (wsG yX1_releaseDownTo cX1_releaseDownTo 2 (none : Option Jvm.ClassFile.FieldType)), w ∈ GT := GT_all (GT_c ml_X1_70 (GT_c mint_X1_releaseDownTo (GT_c msel_X1_releaseDownTo (GT_c mi_X1 GT_n)))) (GT_c mcode_X1_releaseDownTo (fun _ h => h))
set_option maxRecDepth 100000 in
theorem ml_X1_84 : Cond.methodLink RX1 84 yX1_takeValue ∈ GT := GT3 99 rfl rfl
theorem mV_X1_84 : ∀ w ∈ wsV RX1 84 RX1 yX1_takeValue (wsG yX1_takeValue cX1_takeValue 2 (some .int)), w ∈ GT := GT_all (GT_c ml_X1_84 (GT_c mint_X1_takeValue (GT_c msel_X1_takeValue (GT_c mi_X1 GT_n)))) (GT_c mcode_X1_takeValue (fun _ h => h))
set_option maxRecDepth 100000 in
theorem ml_X1_88 : Cond.methodLink RX1 88 yX1_takeOpening ∈ GT := GT3 111 rfl rfl
theorem mV_X1_88 : ∀ w ∈ wsV RX1 88 RX1 yX1_takeOpening (wsG yX1_takeOpening cX1_takeOpening 1 (some .int)), w ∈ GT := GT_all (GT_c ml_X1_88 (GT_c mint_X1_takeOpening (GT_c msel_X1_takeOpening (GT_c mi_X1 GT_n)))) (GT_c mcode_X1_takeOpening (fun _ h => h))
set_option maxRecDepth 100000 in
theorem ml_X1_91 : Cond.methodLink RX1 91 yX1_meetKnot ∈ GT := GT3 103 rfl rfl
theorem mV_X1_91 : ∀ w ∈ wsV RX1 91 RX1 yX1_meetKnot (wsG yX1_meetKnot cX1_meetKnot 1 (some .boolean)), w ∈ GT := GT_all (GT_c ml_X1_91 (GT_c mint_X1_meetKnot (GT_c msel_X1_meetKnot (GT_c mi_X1 GT_n)))) (GT_c mcode_X1_meetKnot (fun _ h => h))
set_option maxRecDepth 100000 in
theorem ml_X1_94 : Cond.methodLink RX1 94 yX1_putOff ∈ GT := GT3 115 rfl rfl
theorem mV_X1_94 : ∀ w ∈ wsV RX1 94 RX1 yX1_putOff (wsG yX1_putOff cX1_putOff 2 (none : Option Jvm.ClassFile.FieldType)), w ∈ GT := GT_all (GT_c ml_X1_94 (GT_c mint_X1_putOff (GT_c msel_X1_putOff (GT_c mi_X1 GT_n)))) (GT_c mcode_X1_putOff (fun _ h => h))
set_option maxRecDepth 100000 in
theorem ml_X1_100 : Cond.methodLink RX1 100 yX2_add ∈ GT := GT3 107 rfl rfl
theorem mV_X1_100 : ∀ w ∈ wsV RX1 100 RX2 yX2_add (wsG yX2_add cX2_add 3 (none : Option Jvm.ClassFile.FieldType)), w ∈ GT := GT_all (GT_c ml_X1_100 (GT_c mint_X2_add (GT_c msel_X2_add (GT_c mi_X2 GT_n)))) (GT_c mcode_X2_add (fun _ h => h))
set_option maxRecDepth 100000 in
theorem ml_X1_104 : Cond.methodLink RX1 104 yX1_rankOf ∈ GT := GT3 127 rfl rfl
theorem mS_X1_104 : ∀ w ∈ wsS RX1 104 yX1_rankOf (wsG yX1_rankOf cX1_rankOf 1 (some .int)), w ∈ GT := GT_all (GT_c ml_X1_104 (GT_c mst_X1_rankOf (GT_c mi_X1 GT_n))) (GT_c mcode_X1_rankOf (fun _ h => h))
set_option maxRecDepth 100000 in
theorem ml_X1_107 : Cond.methodLink RX1 107 Lib.Math.max.name ∈ GT := GT3 130 rfl rfl
set_option maxRecDepth 100000 in
theorem ml_X3_46 : Cond.methodLink RX3 46 yX6_empty ∈ GT := GT2 223 rfl rfl
theorem mV_X3_46 : ∀ w ∈ wsV RX3 46 RX6 yX6_empty (wsG yX6_empty cX6_empty 1 (none : Option Jvm.ClassFile.FieldType)), w ∈ GT := GT_all (GT_c ml_X3_46 (GT_c mint_X6_empty (GT_c msel_X6_empty (GT_c mi_X6 GT_n)))) (GT_c mcode_X6_empty (fun _ h => h))
set_option maxRecDepth 100000 in
theorem ml_X3_52 : Cond.methodLink RX3 52 yX1_begin ∈ GT := GT2 231 rfl rfl
theorem mV_X3_52 : ∀ w ∈ wsV RX3 52 RX1 yX1_begin (wsG yX1_begin cX1_begin 1 (none : Option Jvm.ClassFile.FieldType)), w ∈ GT := GT_all (GT_c ml_X3_52 (GT_c mint_X1_begin (GT_c msel_X1_begin (GT_c mi_X1 GT_n)))) (GT_c mcode_X1_begin (fun _ h => h))
set_option maxRecDepth 100000 in
theorem ml_X3_55 : Cond.methodLink RX3 55 yX7_start ∈ GT := GT2 235 rfl rfl
theorem mV_X3_55 : ∀ w ∈ wsV RX3 55 RX7 yX7_start (wsG yX7_start cX7_start 2 (none : Option Jvm.ClassFile.FieldType)), w ∈ GT := GT_all (GT_c ml_X3_55 (GT_c mint_X7_start (GT_c msel_X7_start (GT_c mi_X7 GT_n)))) (GT_c mcode_X7_start (fun _ h => h))
set_option maxRecDepth 100000 in
theorem ml_X3_62 : Cond.methodLink RX3 62 yX3_readLine ∈ GT := GT3 37 rfl rfl
theorem mV_X3_62 : ∀ w ∈ wsV RX3 62 RX3 yX3_readLine (wsG yX3_readLine cX3_readLine 1 (some .boolean)), w ∈ GT := GT_all (GT_c ml_X3_62 (GT_c mint_X3_readLine (GT_c msel_X3_readLine (GT_c mi_X3 GT_n)))) (GT_c mcode_X3_readLine (fun _ h => h))
set_option maxRecDepth 100000 in
theorem ml_X3_66 : Cond.methodLink RX3 66 yX3_endLine ∈ GT := GT3 138 rfl rfl
theorem mV_X3_66 : ∀ w ∈ wsV RX3 66 RX3 yX3_endLine (wsG yX3_endLine cX3_endLine 1 (some .boolean)), w ∈ GT := GT_all (GT_c ml_X3_66 (GT_c mint_X3_endLine (GT_c msel_X3_endLine (GT_c mi_X3 GT_n)))) (GT_c mcode_X3_endLine (fun _ h => h))
set_option maxRecDepth 100000 in
theorem ml_X3_69 : Cond.methodLink RX3 69 yX3_refuse ∈ GT := GT3 45 rfl rfl
theorem mV_X3_69 : ∀ w ∈ wsV RX3 69 RX3 yX3_refuse (wsG yX3_refuse cX3_refuse 2 (some .boolean)), w ∈ GT := GT_all (GT_c ml_X3_69 (GT_c mint_X3_refuse (GT_c msel_X3_refuse (GT_c mi_X3 GT_n)))) (GT_c mcode_X3_refuse (fun _ h => h))
set_option maxRecDepth 100000 in
theorem ml_X3_73 : Cond.methodLink RX3 73 yX7_advance ∈ GT := GT3 49 rfl rfl
theorem mV_X3_73 : ∀ w ∈ wsV RX3 73 RX7 yX7_advance (wsG yX7_advance cX7_advance 1 (none : Option Jvm.ClassFile.FieldType)), w ∈ GT := GT_all (GT_c ml_X3_73 (GT_c mint_X7_advance (GT_c msel_X7_advance (GT_c mi_X7 GT_n)))) (GT_c mcode_X7_advance (fun _ h => h))
set_option maxRecDepth 100000 in
theorem ml_X3_79 : Cond.methodLink RX3 79 yX3_readHouse ∈ GT := GT3 41 rfl rfl
theorem mV_X3_79 : ∀ w ∈ wsV RX3 79 RX3 yX3_readHouse (wsG yX3_readHouse cX3_readHouse 3 (some .boolean)), w ∈ GT := GT_all (GT_c ml_X3_79 (GT_c mint_X3_readHouse (GT_c msel_X3_readHouse (GT_c mi_X3 GT_n)))) (GT_c mcode_X3_readHouse (fun _ h => h))
set_option maxRecDepth 100000 in
theorem ml_X3_82 : Cond.methodLink RX3 82 yX3_readPart ∈ GT := GT3 66 rfl rfl
theorem mV_X3_82 : ∀ w ∈ wsV RX3 82 RX3 yX3_readPart (wsG yX3_readPart cX3_readPart 3 (some .boolean)), w ∈ GT := GT_all (GT_c ml_X3_82 (GT_c mint_X3_readPart (GT_c msel_X3_readPart (GT_c mi_X3 GT_n)))) (GT_c mcode_X3_readPart (fun _ h => h))
set_option maxRecDepth 100000 in
theorem ml_X3_85 : Cond.methodLink RX3 85 yX3_readSetting ∈ GT := GT3 70 rfl rfl
theorem mV_X3_85 : ∀ w ∈ wsV RX3 85 RX3 yX3_readSetting (wsG yX3_readSetting cX3_readSetting 2 (some .boolean)), w ∈ GT := GT_all (GT_c ml_X3_85 (GT_c mint_X3_readSetting (GT_c msel_X3_readSetting (GT_c mi_X3 GT_n)))) (GT_c mcode_X3_readSetting (fun _ h => h))
set_option maxRecDepth 100000 in
theorem ml_X3_88 : Cond.methodLink RX3 88 yX3_readLaw ∈ GT := GT3 78 rfl rfl
theorem mV_X3_88 : ∀ w ∈ wsV RX3 88 RX3 yX3_readLaw (wsG yX3_readLaw cX3_readLaw 3 (some .boolean)), w ∈ GT := GT_all (GT_c ml_X3_88 (GT_c mint_X3_readLaw (GT_c msel_X3_readLaw (GT_c mi_X3 GT_n)))) (GT_c mcode_X3_readLaw (fun _ h => h))
set_option maxRecDepth 100000 in
theorem ml_X3_98 : Cond.methodLink RX3 98 yX3_readName ∈ GT := GT3 50 rfl rfl
theorem mV_X3_98 : ∀ w ∈ wsV RX3 98 RX3 yX3_readName (wsG yX3_readName cX3_readName 3 (some .boolean)), w ∈ GT := GT_all (GT_c ml_X3_98 (GT_c mint_X3_readName (GT_c msel_X3_readName (GT_c mi_X3 GT_n)))) (GT_c mcode_X3_readName (fun _ h => h))
set_option maxRecDepth 100000 in
theorem ml_X3_105 : Cond.methodLink RX3 105 yX3_readNumber ∈ GT := GT3 55 rfl rfl
theorem mV_X3_105 : ∀ w ∈ wsV RX3 105 RX3 yX3_readNumber (wsG yX3_readNumber cX3_readNumber 5 (some .boolean)), w ∈ GT := GT_all (GT_c ml_X3_105 (GT_c mint_X3_readNumber (GT_c msel_X3_readNumber (GT_c mi_X3 GT_n)))) (GT_c mcode_X3_readNumber (fun _ h => h))
set_option maxRecDepth 100000 in
theorem ml_X3_140 : Cond.methodLink RX3 140 yX3_isNumber ∈ GT := GT3 59 rfl rfl
theorem mV_X3_140 : ∀ w ∈ wsV RX3 140 RX3 yX3_isNumber (wsG yX3_isNumber cX3_isNumber 3 (some .boolean)), w ∈ GT := GT_all (GT_c ml_X3_140 (GT_c mint_X3_isNumber (GT_c msel_X3_isNumber (GT_c mi_X3 GT_n)))) (GT_c mcode_X3_isNumber (fun _ h => h))
set_option maxRecDepth 100000 in
theorem ml_X3_148 : Cond.methodLink RX3 148 yX3_mostOfSetting ∈ GT := GT3 74 rfl rfl
theorem mS_X3_148 : ∀ w ∈ wsS RX3 148 yX3_mostOfSetting (wsG yX3_mostOfSetting cX3_mostOfSetting 1 (some .int)), w ∈ GT := GT_all (GT_c ml_X3_148 (GT_c mst_X3_mostOfSetting (GT_c mi_X3 GT_n))) (GT_c mcode_X3_mostOfSetting (fun _ h => h))
set_option maxRecDepth 100000 in
theorem ml_X3_162 : Cond.methodLink RX3 162 yX2_isTold ∈ GT := GT3 82 rfl rfl
theorem mV_X3_162 : ∀ w ∈ wsV RX3 162 RX2 yX2_isTold (wsG yX2_isTold cX2_isTold 2 (some .boolean)), w ∈ GT := GT_all (GT_c ml_X3_162 (GT_c mint_X2_isTold (GT_c msel_X2_isTold (GT_c mi_X2 GT_n)))) (GT_c mcode_X2_isTold (fun _ h => h))
set_option maxRecDepth 100000 in
theorem ml_X3_167 : Cond.methodLink RX3 167 yX1_readFormula ∈ GT := GT3 86 rfl rfl
theorem mV_X3_167 : ∀ w ∈ wsV RX3 167 RX1 yX1_readFormula (wsG yX1_readFormula cX1_readFormula 6 (some .int)), w ∈ GT := GT_all (GT_c ml_X3_167 (GT_c mint_X1_readFormula (GT_c msel_X1_readFormula (GT_c mi_X1 GT_n)))) (GT_c mcode_X1_readFormula (fun _ h => h))
set_option maxRecDepth 100000 in
theorem ml_X4_77 : Cond.methodLink RX4 77 arraycopyName ∈ GT := GT4 133 rfl rfl
set_option maxRecDepth 100000 in
theorem ml_X4_83 : Cond.methodLink RX4 83 Lib.Math.min.name ∈ GT := GT4 42 rfl rfl
set_option maxRecDepth 100000 in
theorem ml_X4_89 : Cond.methodLink RX4 89 yX4_end ∈ GT := GT4 43 rfl rfl
theorem mV_X4_89 : ∀ w ∈ wsV RX4 89 RX4 yX4_end (wsG yX4_end cX4_end 2 (none : Option Jvm.ClassFile.FieldType)), w ∈ GT := GT_all (GT_c ml_X4_89 (GT_c mint_X4_end (GT_c msel_X4_end (GT_c mi_X4 GT_n)))) (GT_c mcode_X4_end (fun _ h => h))
set_option maxRecDepth 100000 in
theorem ml_X4_96 : Cond.methodLink RX4 96 Lib.Math.max.name ∈ GT := GT5 49 rfl rfl
set_option maxRecDepth 100000 in
theorem ml_X5_32 : Cond.methodLink RX5 32 Lib.Math.min.name ∈ GT := GT3 229 rfl rfl
set_option maxRecDepth 100000 in
theorem ml_X5_38 : Cond.methodLink RX5 38 yX5_howManyKnown ∈ GT := GT5 86 rfl rfl
theorem mV_X5_38 : ∀ w ∈ wsV RX5 38 RX5 yX5_howManyKnown (wsG yX5_howManyKnown cX5_howManyKnown 1 (some .int)), w ∈ GT := GT_all (GT_c ml_X5_38 (GT_c mint_X5_howManyKnown (GT_c msel_X5_howManyKnown (GT_c mi_X5 GT_n)))) (GT_c mcode_X5_howManyKnown (fun _ h => h))
set_option maxRecDepth 100000 in
theorem ml_X6_65 : Cond.methodLink RX6 65 yX2_empty ∈ GT := GT2 227 rfl rfl
theorem mV_X6_65 : ∀ w ∈ wsV RX6 65 RX2 yX2_empty (wsG yX2_empty cX2_empty 2 (none : Option Jvm.ClassFile.FieldType)), w ∈ GT := GT_all (GT_c ml_X6_65 (GT_c mint_X2_empty (GT_c msel_X2_empty (GT_c mi_X2 GT_n)))) (GT_c mcode_X2_empty (fun _ h => h))
set_option maxRecDepth 100000 in
theorem ml_X7_15 : Cond.methodLink RX7 15 Lib.Math.min.name ∈ GT := GT2 239 rfl rfl
set_option maxRecDepth 100000 in
theorem ml_X7_28 : Cond.methodLink RX7 28 yX7_advance ∈ GT := GT3 2 rfl rfl
theorem mV_X7_28 : ∀ w ∈ wsV RX7 28 RX7 yX7_advance (wsG yX7_advance cX7_advance 1 (none : Option Jvm.ClassFile.FieldType)), w ∈ GT := GT_all (GT_c ml_X7_28 (GT_c mint_X7_advance (GT_c msel_X7_advance (GT_c mi_X7 GT_n)))) (GT_c mcode_X7_advance (fun _ h => h))
set_option maxRecDepth 100000 in
theorem ml_X7_40 : Cond.methodLink RX7 40 yX7_isLetter ∈ GT := GT3 6 rfl rfl
theorem mS_X7_40 : ∀ w ∈ wsS RX7 40 yX7_isLetter (wsG yX7_isLetter cX7_isLetter 1 (some .boolean)), w ∈ GT := GT_all (GT_c ml_X7_40 (GT_c mst_X7_isLetter (GT_c mi_X7 GT_n))) (GT_c mcode_X7_isLetter (fun _ h => h))
set_option maxRecDepth 100000 in
theorem ml_X7_44 : Cond.methodLink RX7 44 yX7_readWord ∈ GT := GT3 9 rfl rfl
theorem mV_X7_44 : ∀ w ∈ wsV RX7 44 RX7 yX7_readWord (wsG yX7_readWord cX7_readWord 3 (none : Option Jvm.ClassFile.FieldType)), w ∈ GT := GT_all (GT_c ml_X7_44 (GT_c mint_X7_readWord (GT_c msel_X7_readWord (GT_c mi_X7 GT_n)))) (GT_c mcode_X7_readWord (fun _ h => h))
set_option maxRecDepth 100000 in
theorem ml_X7_47 : Cond.methodLink RX7 47 yX7_isDigit ∈ GT := GT3 18 rfl rfl
theorem mS_X7_47 : ∀ w ∈ wsS RX7 47 yX7_isDigit (wsG yX7_isDigit cX7_isDigit 1 (some .boolean)), w ∈ GT := GT_all (GT_c ml_X7_47 (GT_c mst_X7_isDigit (GT_c mi_X7 GT_n))) (GT_c mcode_X7_isDigit (fun _ h => h))
set_option maxRecDepth 100000 in
theorem ml_X7_50 : Cond.methodLink RX7 50 yX7_readNumber ∈ GT := GT3 21 rfl rfl
theorem mV_X7_50 : ∀ w ∈ wsV RX7 50 RX7 yX7_readNumber (wsG yX7_readNumber cX7_readNumber 1 (none : Option Jvm.ClassFile.FieldType)), w ∈ GT := GT_all (GT_c ml_X7_50 (GT_c mint_X7_readNumber (GT_c msel_X7_readNumber (GT_c mi_X7 GT_n)))) (GT_c mcode_X7_readNumber (fun _ h => h))
set_option maxRecDepth 100000 in
theorem ml_X7_53 : Cond.methodLink RX7 53 yX7_readSign ∈ GT := GT3 26 rfl rfl
theorem mV_X7_53 : ∀ w ∈ wsV RX7 53 RX7 yX7_readSign (wsG yX7_readSign cX7_readSign 2 (none : Option Jvm.ClassFile.FieldType)), w ∈ GT := GT_all (GT_c ml_X7_53 (GT_c mint_X7_readSign (GT_c msel_X7_readSign (GT_c mi_X7 GT_n)))) (GT_c mcode_X7_readSign (fun _ h => h))
set_option maxRecDepth 100000 in
theorem ml_X7_66 : Cond.methodLink RX7 66 yX7_kindOfSign ∈ GT := GT3 30 rfl rfl
theorem mS_X7_66 : ∀ w ∈ wsS RX7 66 yX7_kindOfSign (wsG yX7_kindOfSign cX7_kindOfSign 1 (some .int)), w ∈ GT := GT_all (GT_c ml_X7_66 (GT_c mst_X7_kindOfSign (GT_c mi_X7 GT_n))) (GT_c mcode_X7_kindOfSign (fun _ h => h))
set_option maxRecDepth 100000 in
theorem ml_X7_70 : Cond.methodLink RX7 70 yX7_isNext ∈ GT := GT3 33 rfl rfl
theorem mV_X7_70 : ∀ w ∈ wsV RX7 70 RX7 yX7_isNext (wsG yX7_isNext cX7_isNext 2 (some .boolean)), w ∈ GT := GT_all (GT_c ml_X7_70 (GT_c mint_X7_isNext (GT_c msel_X7_isNext (GT_c mi_X7 GT_n)))) (GT_c mcode_X7_isNext (fun _ h => h))
set_option maxRecDepth 100000 in
theorem ml_X8_19 : Cond.methodLink RX8 19 arraycopyName ∈ GT := GT4 18 rfl rfl
set_option maxRecDepth 100000 in
theorem ml_X10_145 : Cond.methodLink RX10 145 yX10_plain ∈ GT := GT5 192 rfl rfl
theorem mV_X10_145 : ∀ w ∈ wsV RX10 145 RX10 yX10_plain (wsG yX10_plain cX10_plain 2 (none : Option Jvm.ClassFile.FieldType)), w ∈ GT := GT_all (GT_c ml_X10_145 (GT_c mint_X10_plain (GT_c msel_X10_plain (GT_c mi_X10 GT_n)))) (GT_c mcode_X10_plain (fun _ h => h))
set_option maxRecDepth 100000 in
theorem ml_X10_148 : Cond.methodLink RX10 148 yX10_keepText ∈ GT := GT5 196 rfl rfl
theorem mV_X10_148 : ∀ w ∈ wsV RX10 148 RX10 yX10_keepText (wsG yX10_keepText cX10_keepText 2 (none : Option Jvm.ClassFile.FieldType)), w ∈ GT := GT_all (GT_c ml_X10_148 (GT_c mint_X10_keepText (GT_c msel_X10_keepText (GT_c mi_X10 GT_n)))) (GT_c mcode_X10_keepText (fun _ h => h))
set_option maxRecDepth 100000 in
theorem ml_X10_172 : Cond.methodLink RX10 172 yX10_isSmall ∈ GT := GT6 223 rfl rfl
theorem mV_X10_172 : ∀ w ∈ wsV RX10 172 RX10 yX10_isSmall (wsG yX10_isSmall cX10_isSmall 2 (some .boolean)), w ∈ GT := GT_all (GT_c ml_X10_172 (GT_c mint_X10_isSmall (GT_c msel_X10_isSmall (GT_c mi_X10 GT_n)))) (GT_c mcode_X10_isSmall (fun _ h => h))
set_option maxRecDepth 100000 in
theorem ml_X10_176 : Cond.methodLink RX10 176 yX10_wordAt ∈ GT := GT6 227 rfl rfl
theorem mV_X10_176 : ∀ w ∈ wsV RX10 176 RX10 yX10_wordAt (wsG yX10_wordAt cX10_wordAt 8 (some .int)), w ∈ GT := GT_all (GT_c ml_X10_176 (GT_c mint_X10_wordAt (GT_c msel_X10_wordAt (GT_c mi_X10 GT_n)))) (GT_c mcode_X10_wordAt (fun _ h => h))
set_option maxRecDepth 100000 in
theorem ml_X10_183 : Cond.methodLink RX10 183 yX10_packed ∈ GT := GT6 231 rfl rfl
theorem mV_X10_183 : ∀ w ∈ wsV RX10 183 RX10 yX10_packed (wsG yX10_packed cX10_packed 5 (some .int)), w ∈ GT := GT_all (GT_c ml_X10_183 (GT_c mint_X10_packed (GT_c msel_X10_packed (GT_c mi_X10 GT_n)))) (GT_c mcode_X10_packed (fun _ h => h))
set_option maxRecDepth 100000 in
theorem ml_X10_186 : Cond.methodLink RX10 186 yX10_isDigit ∈ GT := GT6 235 rfl rfl
theorem mV_X10_186 : ∀ w ∈ wsV RX10 186 RX10 yX10_isDigit (wsG yX10_isDigit cX10_isDigit 2 (some .boolean)), w ∈ GT := GT_all (GT_c ml_X10_186 (GT_c mint_X10_isDigit (GT_c msel_X10_isDigit (GT_c mi_X10 GT_n)))) (GT_c mcode_X10_isDigit (fun _ h => h))
set_option maxRecDepth 100000 in
theorem ml_X10_190 : Cond.methodLink RX10 190 yX10_signToken ∈ GT := GT7 0 rfl rfl
theorem mV_X10_190 : ∀ w ∈ wsV RX10 190 RX10 yX10_signToken (wsG yX10_signToken cX10_signToken 4 (none : Option Jvm.ClassFile.FieldType)), w ∈ GT := GT_all (GT_c ml_X10_190 (GT_c mint_X10_signToken (GT_c msel_X10_signToken (GT_c mi_X10 GT_n)))) (GT_c mcode_X10_signToken (fun _ h => h))
set_option maxRecDepth 100000 in
theorem ml_X10_193 : Cond.methodLink RX10 193 yX10_wrong ∈ GT := GT7 8 rfl rfl
theorem mV_X10_193 : ∀ w ∈ wsV RX10 193 RX10 yX10_wrong (wsG yX10_wrong cX10_wrong 2 (some .boolean)), w ∈ GT := GT_all (GT_c ml_X10_193 (GT_c mint_X10_wrong (GT_c msel_X10_wrong (GT_c mi_X10 GT_n)))) (GT_c mcode_X10_wrong (fun _ h => h))
set_option maxRecDepth 100000 in
theorem ml_X10_196 : Cond.methodLink RX10 196 yX10_isIn ∈ GT := GT7 27 rfl rfl
theorem mS_X10_196 : ∀ w ∈ wsS RX10 196 yX10_isIn (wsG yX10_isIn cX10_isIn 3 (some .boolean)), w ∈ GT := GT_all (GT_c ml_X10_196 (GT_c mst_X10_isIn (GT_c mi_X10 GT_n))) (GT_c mcode_X10_isIn (fun _ h => h))
set_option maxRecDepth 100000 in
theorem ml_X10_203 : Cond.methodLink RX10 203 yX10_token ∈ GT := GT6 219 rfl rfl
theorem mV_X10_203 : ∀ w ∈ wsV RX10 203 RX10 yX10_token (wsG yX10_token cX10_token 1 (none : Option Jvm.ClassFile.FieldType)), w ∈ GT := GT_all (GT_c ml_X10_203 (GT_c mint_X10_token (GT_c msel_X10_token (GT_c mi_X10 GT_n)))) (GT_c mcode_X10_token (fun _ h => h))
set_option maxRecDepth 100000 in
theorem ml_X10_206 : Cond.methodLink RX10 206 yX10_isSign ∈ GT := GT7 42 rfl rfl
theorem mV_X10_206 : ∀ w ∈ wsV RX10 206 RX10 yX10_isSign (wsG yX10_isSign cX10_isSign 2 (some .boolean)), w ∈ GT := GT_all (GT_c ml_X10_206 (GT_c mint_X10_isSign (GT_c msel_X10_isSign (GT_c mi_X10 GT_n)))) (GT_c mcode_X10_isSign (fun _ h => h))
set_option maxRecDepth 100000 in
theorem ml_X10_209 : Cond.methodLink RX10 209 yX10_number ∈ GT := GT7 23 rfl rfl
theorem mV_X10_209 : ∀ w ∈ wsV RX10 209 RX10 yX10_number (wsG yX10_number cX10_number 3 (some .boolean)), w ∈ GT := GT_all (GT_c ml_X10_209 (GT_c mint_X10_number (GT_c msel_X10_number (GT_c mi_X10 GT_n)))) (GT_c mcode_X10_number (fun _ h => h))
set_option maxRecDepth 100000 in
theorem ml_X10_234 : Cond.methodLink RX10 234 yX10_copies ∈ GT := GT5 200 rfl rfl
theorem mS_X10_234 : ∀ w ∈ wsS RX10 234 yX10_copies (wsG yX10_copies cX10_copies 3 (none : Option Jvm.ClassFile.FieldType)), w ∈ GT := GT_all (GT_c ml_X10_234 (GT_c mst_X10_copies (GT_c mi_X10 GT_n))) (GT_c mcode_X10_copies (fun _ h => h))
set_option maxRecDepth 100000 in
theorem ml_X10_238 : Cond.methodLink RX10 238 yX10_begin ∈ GT := GT5 203 rfl rfl
theorem mV_X10_238 : ∀ w ∈ wsV RX10 238 RX10 yX10_begin (wsG yX10_begin cX10_begin 1 (none : Option Jvm.ClassFile.FieldType)), w ∈ GT := GT_all (GT_c ml_X10_238 (GT_c mint_X10_begin (GT_c msel_X10_begin (GT_c mi_X10 GT_n)))) (GT_c mcode_X10_begin (fun _ h => h))
set_option maxRecDepth 100000 in
theorem ml_X10_241 : Cond.methodLink RX10 241 yX10_find ∈ GT := GT7 20 rfl rfl
theorem mS_X10_241 : ∀ w ∈ wsS RX10 241 yX10_find (wsG yX10_find cX10_find 5 (some .int)), w ∈ GT := GT_all (GT_c ml_X10_241 (GT_c mst_X10_find (GT_c mi_X10 GT_n))) (GT_c mcode_X10_find (fun _ h => h))
set_option maxRecDepth 100000 in
theorem ml_X10_245 : Cond.methodLink RX10 245 yX10_newName ∈ GT := GT7 16 rfl rfl
theorem mV_X10_245 : ∀ w ∈ wsV RX10 245 RX10 yX10_newName (wsG yX10_newName cX10_newName 4 (some .boolean)), w ∈ GT := GT_all (GT_c ml_X10_245 (GT_c mint_X10_newName (GT_c msel_X10_newName (GT_c mi_X10 GT_n)))) (GT_c mcode_X10_newName (fun _ h => h))
set_option maxRecDepth 100000 in
theorem ml_X10_249 : Cond.methodLink RX10 249 yX10_houseLine ∈ GT := GT7 12 rfl rfl
theorem mV_X10_249 : ∀ w ∈ wsV RX10 249 RX10 yX10_houseLine (wsG yX10_houseLine cX10_houseLine 2 (some .boolean)), w ∈ GT := GT_all (GT_c ml_X10_249 (GT_c mint_X10_houseLine (GT_c msel_X10_houseLine (GT_c mi_X10 GT_n)))) (GT_c mcode_X10_houseLine (fun _ h => h))
set_option maxRecDepth 100000 in
theorem ml_X10_253 : Cond.methodLink RX10 253 yX10_partLine ∈ GT := GT7 30 rfl rfl
theorem mV_X10_253 : ∀ w ∈ wsV RX10 253 RX10 yX10_partLine (wsG yX10_partLine cX10_partLine 1 (some .boolean)), w ∈ GT := GT_all (GT_c ml_X10_253 (GT_c mint_X10_partLine (GT_c msel_X10_partLine (GT_c mi_X10 GT_n)))) (GT_c mcode_X10_partLine (fun _ h => h))
set_option maxRecDepth 100000 in
theorem ml_X10_256 : Cond.methodLink RX10 256 yX10_onceLine ∈ GT := GT7 34 rfl rfl
theorem mV_X10_256 : ∀ w ∈ wsV RX10 256 RX10 yX10_onceLine (wsG yX10_onceLine cX10_onceLine 4 (some .boolean)), w ∈ GT := GT_all (GT_c ml_X10_256 (GT_c mint_X10_onceLine (GT_c msel_X10_onceLine (GT_c mi_X10 GT_n)))) (GT_c mcode_X10_onceLine (fun _ h => h))
set_option maxRecDepth 100000 in
theorem ml_X10_259 : Cond.methodLink RX10 259 yX10_sumRead ∈ GT := GT7 38 rfl rfl
theorem mV_X10_259 : ∀ w ∈ wsV RX10 259 RX10 yX10_sumRead (wsG yX10_sumRead cX10_sumRead 1 (some .boolean)), w ∈ GT := GT_all (GT_c ml_X10_259 (GT_c mint_X10_sumRead (GT_c msel_X10_sumRead (GT_c mi_X10 GT_n)))) (GT_c mcode_X10_sumRead (fun _ h => h))
set_option maxRecDepth 100000 in
theorem ml_X10_262 : Cond.methodLink RX10 262 yX10_lineRead ∈ GT := GT7 4 rfl rfl
theorem mV_X10_262 : ∀ w ∈ wsV RX10 262 RX10 yX10_lineRead (wsG yX10_lineRead cX10_lineRead 3 (some .boolean)), w ∈ GT := GT_all (GT_c ml_X10_262 (GT_c mint_X10_lineRead (GT_c msel_X10_lineRead (GT_c mi_X10 GT_n)))) (GT_c mcode_X10_lineRead (fun _ h => h))
set_option maxRecDepth 100000 in
theorem ml_X10_271 : Cond.methodLink RX10 271 yX10_rank ∈ GT := GT7 78 rfl rfl
theorem mS_X10_271 : ∀ w ∈ wsS RX10 271 yX10_rank (wsG yX10_rank cX10_rank 1 (some .int)), w ∈ GT := GT_all (GT_c ml_X10_271 (GT_c mst_X10_rank (GT_c mi_X10 GT_n))) (GT_c mcode_X10_rank (fun _ h => h))
set_option maxRecDepth 100000 in
theorem ml_X10_275 : Cond.methodLink RX10 275 yX10_dropHeld ∈ GT := GT7 81 rfl rfl
theorem mV_X10_275 : ∀ w ∈ wsV RX10 275 RX10 yX10_dropHeld (wsG yX10_dropHeld cX10_dropHeld 1 (some .int)), w ∈ GT := GT_all (GT_c ml_X10_275 (GT_c mint_X10_dropHeld (GT_c msel_X10_dropHeld (GT_c mi_X10 GT_n)))) (GT_c mcode_X10_dropHeld (fun _ h => h))
set_option maxRecDepth 100000 in
theorem ml_X10_279 : Cond.methodLink RX10 279 yX10_grown ∈ GT := GT7 66 rfl rfl
theorem mV_X10_279 : ∀ w ∈ wsV RX10 279 RX10 yX10_grown (wsG yX10_grown cX10_grown 4 (none : Option Jvm.ClassFile.FieldType)), w ∈ GT := GT_all (GT_c ml_X10_279 (GT_c mint_X10_grown (GT_c msel_X10_grown (GT_c mi_X10 GT_n)))) (GT_c mcode_X10_grown (fun _ h => h))
set_option maxRecDepth 100000 in
theorem ml_X10_286 : Cond.methodLink RX10 286 yX10_waitsFor ∈ GT := GT7 50 rfl rfl
theorem mV_X10_286 : ∀ w ∈ wsV RX10 286 RX10 yX10_waitsFor (wsG yX10_waitsFor cX10_waitsFor 2 (none : Option Jvm.ClassFile.FieldType)), w ∈ GT := GT_all (GT_c ml_X10_286 (GT_c mint_X10_waitsFor (GT_c msel_X10_waitsFor (GT_c mi_X10 GT_n)))) (GT_c mcode_X10_waitsFor (fun _ h => h))
set_option maxRecDepth 100000 in
theorem ml_X10_294 : Cond.methodLink RX10 294 yX10_isKey ∈ GT := GT7 54 rfl rfl
theorem mV_X10_294 : ∀ w ∈ wsV RX10 294 RX10 yX10_isKey (wsG yX10_isKey cX10_isKey 2 (some .boolean)), w ∈ GT := GT_all (GT_c ml_X10_294 (GT_c mint_X10_isKey (GT_c msel_X10_isKey (GT_c mi_X10 GT_n)))) (GT_c mcode_X10_isKey (fun _ h => h))
set_option maxRecDepth 100000 in
theorem ml_X10_297 : Cond.methodLink RX10 297 yX10_isCounted ∈ GT := GT7 58 rfl rfl
theorem mV_X10_297 : ∀ w ∈ wsV RX10 297 RX10 yX10_isCounted (wsG yX10_isCounted cX10_isCounted 1 (some .boolean)), w ∈ GT := GT_all (GT_c ml_X10_297 (GT_c mint_X10_isCounted (GT_c msel_X10_isCounted (GT_c mi_X10 GT_n)))) (GT_c mcode_X10_isCounted (fun _ h => h))
set_option maxRecDepth 100000 in
theorem ml_X10_300 : Cond.methodLink RX10 300 yX10_nameMet ∈ GT := GT7 62 rfl rfl
theorem mV_X10_300 : ∀ w ∈ wsV RX10 300 RX10 yX10_nameMet (wsG yX10_nameMet cX10_nameMet 1 (some .int)), w ∈ GT := GT_all (GT_c ml_X10_300 (GT_c mint_X10_nameMet (GT_c msel_X10_nameMet (GT_c mi_X10 GT_n)))) (GT_c mcode_X10_nameMet (fun _ h => h))
set_option maxRecDepth 100000 in
theorem ml_X10_306 : Cond.methodLink RX10 306 yX10_bind ∈ GT := GT7 74 rfl rfl
theorem mV_X10_306 : ∀ w ∈ wsV RX10 306 RX10 yX10_bind (wsG yX10_bind cX10_bind 5 (none : Option Jvm.ClassFile.FieldType)), w ∈ GT := GT_all (GT_c ml_X10_306 (GT_c mint_X10_bind (GT_c msel_X10_bind (GT_c mi_X10 GT_n)))) (GT_c mcode_X10_bind (fun _ h => h))
set_option maxRecDepth 100000 in
theorem ml_X10_309 : Cond.methodLink RX10 309 yX10_leafRead ∈ GT := GT7 46 rfl rfl
theorem mV_X10_309 : ∀ w ∈ wsV RX10 309 RX10 yX10_leafRead (wsG yX10_leafRead cX10_leafRead 2 (some .boolean)), w ∈ GT := GT_all (GT_c ml_X10_309 (GT_c mint_X10_leafRead (GT_c msel_X10_leafRead (GT_c mi_X10 GT_n)))) (GT_c mcode_X10_leafRead (fun _ h => h))
set_option maxRecDepth 100000 in
theorem ml_X10_312 : Cond.methodLink RX10 312 yX10_signs ∈ GT := GT7 70 rfl rfl
theorem mV_X10_312 : ∀ w ∈ wsV RX10 312 RX10 yX10_signs (wsG yX10_signs cX10_signs 2 (some .boolean)), w ∈ GT := GT_all (GT_c ml_X10_312 (GT_c mint_X10_signs (GT_c msel_X10_signs (GT_c mi_X10 GT_n)))) (GT_c mcode_X10_signs (fun _ h => h))
set_option maxRecDepth 100000 in
theorem ml_X10_322 : Cond.methodLink RX10 322 yX10_bounded ∈ GT := GT7 126 rfl rfl
theorem mV_X10_322 : ∀ w ∈ wsV RX10 322 RX10 yX10_bounded (wsG yX10_bounded cX10_bounded 3 (some .long)), w ∈ GT := GT_all (GT_c ml_X10_322 (GT_c mint_X10_bounded (GT_c msel_X10_bounded (GT_c mi_X10 GT_n)))) (GT_c mcode_X10_bounded (fun _ h => h))
set_option maxRecDepth 100000 in
theorem ml_X10_326 : Cond.methodLink RX10 326 yX10_times ∈ GT := GT7 132 rfl rfl
theorem mV_X10_326 : ∀ w ∈ wsV RX10 326 RX10 yX10_times (wsG yX10_times cX10_times 6 (some .long)), w ∈ GT := GT_all (GT_c ml_X10_326 (GT_c mint_X10_times (GT_c msel_X10_times (GT_c mi_X10 GT_n)))) (GT_c mcode_X10_times (fun _ h => h))
set_option maxRecDepth 100000 in
theorem ml_X10_330 : Cond.methodLink RX10 330 yX10_compares ∈ GT := GT7 136 rfl rfl
theorem mS_X10_330 : ∀ w ∈ wsS RX10 330 yX10_compares (wsG yX10_compares cX10_compares 5 (some .boolean)), w ∈ GT := GT_all (GT_c ml_X10_330 (GT_c mst_X10_compares (GT_c mi_X10 GT_n))) (GT_c mcode_X10_compares (fun _ h => h))
set_option maxRecDepth 100000 in
theorem ml_X10_334 : Cond.methodLink RX10 334 yX10_atFirst ∈ GT := GT5 207 rfl rfl
theorem mV_X10_334 : ∀ w ∈ wsV RX10 334 RX10 yX10_atFirst (wsG yX10_atFirst cX10_atFirst 3 (none : Option Jvm.ClassFile.FieldType)), w ∈ GT := GT_all (GT_c ml_X10_334 (GT_c mint_X10_atFirst (GT_c msel_X10_atFirst (GT_c mi_X10 GT_n)))) (GT_c mcode_X10_atFirst (fun _ h => h))
set_option maxRecDepth 100000 in
theorem ml_X10_341 : Cond.methodLink RX10 341 yX10_plainTried ∈ GT := GT5 211 rfl rfl
theorem mV_X10_341 : ∀ w ∈ wsV RX10 341 RX10 yX10_plainTried (wsG yX10_plainTried cX10_plainTried 1 (none : Option Jvm.ClassFile.FieldType)), w ∈ GT := GT_all (GT_c ml_X10_341 (GT_c mint_X10_plainTried (GT_c msel_X10_plainTried (GT_c mi_X10 GT_n)))) (GT_c mcode_X10_plainTried (fun _ h => h))
set_option maxRecDepth 100000 in
theorem ml_X10_368 : Cond.methodLink RX10 368 yX10_isHouse ∈ GT := GT7 97 rfl rfl
theorem mV_X10_368 : ∀ w ∈ wsV RX10 368 RX10 yX10_isHouse (wsG yX10_isHouse cX10_isHouse 2 (some .boolean)), w ∈ GT := GT_all (GT_c ml_X10_368 (GT_c mint_X10_isHouse (GT_c msel_X10_isHouse (GT_c mi_X10 GT_n)))) (GT_c mcode_X10_isHouse (fun _ h => h))
set_option maxRecDepth 100000 in
theorem ml_X10_371 : Cond.methodLink RX10 371 yX10_valueOf ∈ GT := GT7 122 rfl rfl
theorem mV_X10_371 : ∀ w ∈ wsV RX10 371 RX10 yX10_valueOf (wsG yX10_valueOf cX10_valueOf 6 (some .long)), w ∈ GT := GT_all (GT_c ml_X10_371 (GT_c mint_X10_valueOf (GT_c msel_X10_valueOf (GT_c mi_X10 GT_n)))) (GT_c mcode_X10_valueOf (fun _ h => h))
set_option maxRecDepth 100000 in
theorem ml_X10_375 : Cond.methodLink RX10 375 yX10_lawOf ∈ GT := GT7 118 rfl rfl
theorem mV_X10_375 : ∀ w ∈ wsV RX10 375 RX10 yX10_lawOf (wsG yX10_lawOf cX10_lawOf 3 (some .long)), w ∈ GT := GT_all (GT_c ml_X10_375 (GT_c mint_X10_lawOf (GT_c msel_X10_lawOf (GT_c mi_X10 GT_n)))) (GT_c mcode_X10_lawOf (fun _ h => h))
set_option maxRecDepth 100000 in
theorem ml_X10_378 : Cond.methodLink RX10 378 yX10_layNames ∈ GT := GT7 114 rfl rfl
theorem mV_X10_378 : ∀ w ∈ wsV RX10 378 RX10 yX10_layNames (wsG yX10_layNames cX10_layNames 3 (none : Option Jvm.ClassFile.FieldType)), w ∈ GT := GT_all (GT_c ml_X10_378 (GT_c mint_X10_layNames (GT_c msel_X10_layNames (GT_c mi_X10 GT_n)))) (GT_c mcode_X10_layNames (fun _ h => h))
set_option maxRecDepth 100000 in
theorem ml_X10_382 : Cond.methodLink RX10 382 yX10_boundLaw ∈ GT := GT7 203 rfl rfl
theorem mV_X10_382 : ∀ w ∈ wsV RX10 382 RX10 yX10_boundLaw (wsG yX10_boundLaw cX10_boundLaw 6 (some .int)), w ∈ GT := GT_all (GT_c ml_X10_382 (GT_c mint_X10_boundLaw (GT_c msel_X10_boundLaw (GT_c mi_X10 GT_n)))) (GT_c mcode_X10_boundLaw (fun _ h => h))
set_option maxRecDepth 100000 in
theorem ml_X10_394 : Cond.methodLink RX10 394 yX10_deathOf ∈ GT := GT7 199 rfl rfl
theorem mV_X10_394 : ∀ w ∈ wsV RX10 394 RX10 yX10_deathOf (wsG yX10_deathOf cX10_deathOf 4 (some .int)), w ∈ GT := GT_all (GT_c ml_X10_394 (GT_c mint_X10_deathOf (GT_c msel_X10_deathOf (GT_c mi_X10 GT_n)))) (GT_c mcode_X10_deathOf (fun _ h => h))
set_option maxRecDepth 100000 in
theorem ml_X10_397 : Cond.methodLink RX10 397 yX10_number1 ∈ GT := GT7 207 rfl rfl
theorem mV_X10_397 : ∀ w ∈ wsV RX10 397 RX10 yX10_number1 (wsG yX10_number1 cX10_number1 2 (some .int)), w ∈ GT := GT_all (GT_c ml_X10_397 (GT_c mint_X10_number1 (GT_c msel_X10_number1 (GT_c mi_X10 GT_n)))) (GT_c mcode_X10_number1 (fun _ h => h))
set_option maxRecDepth 100000 in
theorem ml_X10_400 : Cond.methodLink RX10 400 yX10_isOn ∈ GT := GT7 223 rfl rfl
theorem mV_X10_400 : ∀ w ∈ wsV RX10 400 RX10 yX10_isOn (wsG yX10_isOn cX10_isOn 3 (some .boolean)), w ∈ GT := GT_all (GT_c ml_X10_400 (GT_c mint_X10_isOn (GT_c msel_X10_isOn (GT_c mi_X10 GT_n)))) (GT_c mcode_X10_isOn (fun _ h => h))
set_option maxRecDepth 100000 in
theorem ml_X10_403 : Cond.methodLink RX10 403 yX10_stepOf ∈ GT := GT7 147 rfl rfl
theorem mV_X10_403 : ∀ w ∈ wsV RX10 403 RX10 yX10_stepOf (wsG yX10_stepOf cX10_stepOf 2 (some .int)), w ∈ GT := GT_all (GT_c ml_X10_403 (GT_c mint_X10_stepOf (GT_c msel_X10_stepOf (GT_c mi_X10 GT_n)))) (GT_c mcode_X10_stepOf (fun _ h => h))
set_option maxRecDepth 100000 in
theorem ml_X10_406 : Cond.methodLink RX10 406 yX10_isOf ∈ GT := GT7 231 rfl rfl
theorem mS_X10_406 : ∀ w ∈ wsS RX10 406 yX10_isOf (wsG yX10_isOf cX10_isOf 2 (some .boolean)), w ∈ GT := GT_all (GT_c ml_X10_406 (GT_c mst_X10_isOf (GT_c mi_X10 GT_n))) (GT_c mcode_X10_isOf (fun _ h => h))
set_option maxRecDepth 100000 in
theorem ml_X10_409 : Cond.methodLink RX10 409 yX10_mayRaise ∈ GT := GT7 143 rfl rfl
theorem mV_X10_409 : ∀ w ∈ wsV RX10 409 RX10 yX10_mayRaise (wsG yX10_mayRaise cX10_mayRaise 3 (some .boolean)), w ∈ GT := GT_all (GT_c ml_X10_409 (GT_c mint_X10_mayRaise (GT_c msel_X10_mayRaise (GT_c mi_X10 GT_n)))) (GT_c mcode_X10_mayRaise (fun _ h => h))
set_option maxRecDepth 100000 in
theorem ml_X10_415 : Cond.methodLink RX10 415 yX10_isDying ∈ GT := GT7 195 rfl rfl
theorem mV_X10_415 : ∀ w ∈ wsV RX10 415 RX10 yX10_isDying (wsG yX10_isDying cX10_isDying 4 (some .boolean)), w ∈ GT := GT_all (GT_c ml_X10_415 (GT_c mint_X10_isDying (GT_c msel_X10_isDying (GT_c mi_X10 GT_n)))) (GT_c mcode_X10_isDying (fun _ h => h))
set_option maxRecDepth 100000 in
theorem ml_X10_418 : Cond.methodLink RX10 418 yX10_dies ∈ GT := GT7 215 rfl rfl
theorem mV_X10_418 : ∀ w ∈ wsV RX10 418 RX10 yX10_dies (wsG yX10_dies cX10_dies 4 (none : Option Jvm.ClassFile.FieldType)), w ∈ GT := GT_all (GT_c ml_X10_418 (GT_c mint_X10_dies (GT_c msel_X10_dies (GT_c mi_X10 GT_n)))) (GT_c mcode_X10_dies (fun _ h => h))
set_option maxRecDepth 100000 in
theorem ml_X10_421 : Cond.methodLink RX10 421 yX10_turnOf ∈ GT := GT7 219 rfl rfl
theorem mV_X10_421 : ∀ w ∈ wsV RX10 421 RX10 yX10_turnOf (wsG yX10_turnOf cX10_turnOf 4 (some .int)), w ∈ GT := GT_all (GT_c ml_X10_421 (GT_c mint_X10_turnOf (GT_c msel_X10_turnOf (GT_c mi_X10 GT_n)))) (GT_c mcode_X10_turnOf (fun _ h => h))
set_option maxRecDepth 100000 in
theorem ml_X10_424 : Cond.methodLink RX10 424 yX10_wantsRaise ∈ GT := GT7 227 rfl rfl
theorem mV_X10_424 : ∀ w ∈ wsV RX10 424 RX10 yX10_wantsRaise (wsG yX10_wantsRaise cX10_wantsRaise 5 (some .boolean)), w ∈ GT := GT_all (GT_c ml_X10_424 (GT_c mint_X10_wantsRaise (GT_c msel_X10_wantsRaise (GT_c mi_X10 GT_n)))) (GT_c mcode_X10_wantsRaise (fun _ h => h))
set_option maxRecDepth 100000 in
theorem ml_X10_427 : Cond.methodLink RX10 427 yX10_raises ∈ GT := GT7 159 rfl rfl
theorem mV_X10_427 : ∀ w ∈ wsV RX10 427 RX10 yX10_raises (wsG yX10_raises cX10_raises 3 (none : Option Jvm.ClassFile.FieldType)), w ∈ GT := GT_all (GT_c ml_X10_427 (GT_c mint_X10_raises (GT_c msel_X10_raises (GT_c mi_X10 GT_n)))) (GT_c mcode_X10_raises (fun _ h => h))
set_option maxRecDepth 100000 in
theorem ml_X10_430 : Cond.methodLink RX10 430 yX10_partsGo ∈ GT := GT7 234 rfl rfl
theorem mV_X10_430 : ∀ w ∈ wsV RX10 430 RX10 yX10_partsGo (wsG yX10_partsGo cX10_partsGo 4 (none : Option Jvm.ClassFile.FieldType)), w ∈ GT := GT_all (GT_c ml_X10_430 (GT_c mint_X10_partsGo (GT_c msel_X10_partsGo (GT_c mi_X10 GT_n)))) (GT_c mcode_X10_partsGo (fun _ h => h))
set_option maxRecDepth 100000 in
theorem ml_X10_433 : Cond.methodLink RX10 433 yX10_yearGoes ∈ GT := GT7 191 rfl rfl
theorem mV_X10_433 : ∀ w ∈ wsV RX10 433 RX10 yX10_yearGoes (wsG yX10_yearGoes cX10_yearGoes 4 (none : Option Jvm.ClassFile.FieldType)), w ∈ GT := GT_all (GT_c ml_X10_433 (GT_c mint_X10_yearGoes (GT_c msel_X10_yearGoes (GT_c mi_X10 GT_n)))) (GT_c mcode_X10_yearGoes (fun _ h => h))
set_option maxRecDepth 100000 in
theorem ml_X10_436 : Cond.methodLink RX10 436 yX10_fails ∈ GT := GT7 101 rfl rfl
theorem mV_X10_436 : ∀ w ∈ wsV RX10 436 RX10 yX10_fails (wsG yX10_fails cX10_fails 2 (some .int)), w ∈ GT := GT_all (GT_c ml_X10_436 (GT_c mint_X10_fails (GT_c msel_X10_fails (GT_c mi_X10 GT_n)))) (GT_c mcode_X10_fails (fun _ h => h))
set_option maxRecDepth 100000 in
theorem ml_X10_441 : Cond.methodLink RX10 441 yX10_remember ∈ GT := GT7 151 rfl rfl
theorem mV_X10_441 : ∀ w ∈ wsV RX10 441 RX10 yX10_remember (wsG yX10_remember cX10_remember 2 (none : Option Jvm.ClassFile.FieldType)), w ∈ GT := GT_all (GT_c ml_X10_441 (GT_c mint_X10_remember (GT_c msel_X10_remember (GT_c mi_X10 GT_n)))) (GT_c mcode_X10_remember (fun _ h => h))
set_option maxRecDepth 100000 in
theorem ml_X10_444 : Cond.methodLink RX10 444 yX10_isOnNow ∈ GT := GT7 171 rfl rfl
theorem mV_X10_444 : ∀ w ∈ wsV RX10 444 RX10 yX10_isOnNow (wsG yX10_isOnNow cX10_isOnNow 2 (some .boolean)), w ∈ GT := GT_all (GT_c ml_X10_444 (GT_c mint_X10_isOnNow (GT_c msel_X10_isOnNow (GT_c mi_X10 GT_n)))) (GT_c mcode_X10_isOnNow (fun _ h => h))
set_option maxRecDepth 100000 in
theorem ml_X10_447 : Cond.methodLink RX10 447 yX10_areTwo ∈ GT := GT7 167 rfl rfl
theorem mV_X10_447 : ∀ w ∈ wsV RX10 447 RX10 yX10_areTwo (wsG yX10_areTwo cX10_areTwo 3 (some .boolean)), w ∈ GT := GT_all (GT_c ml_X10_447 (GT_c mint_X10_areTwo (GT_c msel_X10_areTwo (GT_c mi_X10 GT_n)))) (GT_c mcode_X10_areTwo (fun _ h => h))
set_option maxRecDepth 100000 in
theorem ml_X10_450 : Cond.methodLink RX10 450 yX10_marries ∈ GT := GT7 175 rfl rfl
theorem mV_X10_450 : ∀ w ∈ wsV RX10 450 RX10 yX10_marries (wsG yX10_marries cX10_marries 6 (none : Option Jvm.ClassFile.FieldType)), w ∈ GT := GT_all (GT_c ml_X10_450 (GT_c mint_X10_marries (GT_c msel_X10_marries (GT_c mi_X10 GT_n)))) (GT_c mcode_X10_marries (fun _ h => h))
set_option maxRecDepth 100000 in
theorem ml_X10_453 : Cond.methodLink RX10 453 yX10_layTried ∈ GT := GT8 2 rfl rfl
theorem mV_X10_453 : ∀ w ∈ wsV RX10 453 RX10 yX10_layTried (wsG yX10_layTried cX10_layTried 2 (none : Option Jvm.ClassFile.FieldType)), w ∈ GT := GT_all (GT_c ml_X10_453 (GT_c mint_X10_layTried (GT_c msel_X10_layTried (GT_c mi_X10 GT_n)))) (GT_c mcode_X10_layTried (fun _ h => h))
set_option maxRecDepth 100000 in
theorem ml_X10_456 : Cond.methodLink RX10 456 yX10_goMany ∈ GT := GT8 6 rfl rfl
theorem mV_X10_456 : ∀ w ∈ wsV RX10 456 RX10 yX10_goMany (wsG yX10_goMany cX10_goMany 3 (none : Option Jvm.ClassFile.FieldType)), w ∈ GT := GT_all (GT_c ml_X10_456 (GT_c mint_X10_goMany (GT_c msel_X10_goMany (GT_c mi_X10 GT_n)))) (GT_c mcode_X10_goMany (fun _ h => h))
set_option maxRecDepth 100000 in
theorem ml_X10_459 : Cond.methodLink RX10 459 yX10_onMany ∈ GT := GT8 10 rfl rfl
theorem mV_X10_459 : ∀ w ∈ wsV RX10 459 RX10 yX10_onMany (wsG yX10_onMany cX10_onMany 4 (some .int)), w ∈ GT := GT_all (GT_c ml_X10_459 (GT_c mint_X10_onMany (GT_c msel_X10_onMany (GT_c mi_X10 GT_n)))) (GT_c mcode_X10_onMany (fun _ h => h))
set_option maxRecDepth 100000 in
theorem ml_X10_462 : Cond.methodLink RX10 462 yX10_fallsBy ∈ GT := GT8 18 rfl rfl
theorem mV_X10_462 : ∀ w ∈ wsV RX10 462 RX10 yX10_fallsBy (wsG yX10_fallsBy cX10_fallsBy 3 (some .int)), w ∈ GT := GT_all (GT_c ml_X10_462 (GT_c mint_X10_fallsBy (GT_c msel_X10_fallsBy (GT_c mi_X10 GT_n)))) (GT_c mcode_X10_fallsBy (fun _ h => h))
set_option maxRecDepth 100000 in
theorem ml_X10_465 : Cond.methodLink RX10 465 yX10_onNow ∈ GT := GT8 30 rfl rfl
theorem mV_X10_465 : ∀ w ∈ wsV RX10 465 RX10 yX10_onNow (wsG yX10_onNow cX10_onNow 3 (some .int)), w ∈ GT := GT_all (GT_c ml_X10_465 (GT_c mint_X10_onNow (GT_c msel_X10_onNow (GT_c mi_X10 GT_n)))) (GT_c mcode_X10_onNow (fun _ h => h))
set_option maxRecDepth 100000 in
theorem ml_X10_468 : Cond.methodLink RX10 468 yX10_manyOf ∈ GT := GT8 34 rfl rfl
theorem mS_X10_468 : ∀ w ∈ wsS RX10 468 yX10_manyOf (wsG yX10_manyOf cX10_manyOf 3 (some .int)), w ∈ GT := GT_all (GT_c ml_X10_468 (GT_c mst_X10_manyOf (GT_c mi_X10 GT_n))) (GT_c mcode_X10_manyOf (fun _ h => h))
set_option maxRecDepth 100000 in
theorem ml_X10_471 : Cond.methodLink RX10 471 yX10_boundsOf ∈ GT := GT8 37 rfl rfl
theorem mV_X10_471 : ∀ w ∈ wsV RX10 471 RX10 yX10_boundsOf (wsG yX10_boundsOf cX10_boundsOf 4 (some .int)), w ∈ GT := GT_all (GT_c ml_X10_471 (GT_c mint_X10_boundsOf (GT_c msel_X10_boundsOf (GT_c mi_X10 GT_n)))) (GT_c mcode_X10_boundsOf (fun _ h => h))
set_option maxRecDepth 100000 in
theorem ml_X10_474 : Cond.methodLink RX10 474 yX10_leastStep ∈ GT := GT8 41 rfl rfl
theorem mV_X10_474 : ∀ w ∈ wsV RX10 474 RX10 yX10_leastStep (wsG yX10_leastStep cX10_leastStep 4 (some .int)), w ∈ GT := GT_all (GT_c ml_X10_474 (GT_c mint_X10_leastStep (GT_c msel_X10_leastStep (GT_c mi_X10 GT_n)))) (GT_c mcode_X10_leastStep (fun _ h => h))
set_option maxRecDepth 100000 in
theorem ml_X10_477 : Cond.methodLink RX10 477 yX10_hasOf ∈ GT := GT8 53 rfl rfl
theorem mV_X10_477 : ∀ w ∈ wsV RX10 477 RX10 yX10_hasOf (wsG yX10_hasOf cX10_hasOf 4 (some .int)), w ∈ GT := GT_all (GT_c ml_X10_477 (GT_c mint_X10_hasOf (GT_c msel_X10_hasOf (GT_c mi_X10 GT_n)))) (GT_c mcode_X10_hasOf (fun _ h => h))
set_option maxRecDepth 100000 in
theorem ml_X10_480 : Cond.methodLink RX10 480 yX10_sameOf ∈ GT := GT8 81 rfl rfl
theorem mV_X10_480 : ∀ w ∈ wsV RX10 480 RX10 yX10_sameOf (wsG yX10_sameOf cX10_sameOf 4 (some .int)), w ∈ GT := GT_all (GT_c ml_X10_480 (GT_c mint_X10_sameOf (GT_c msel_X10_sameOf (GT_c mi_X10 GT_n)))) (GT_c mcode_X10_sameOf (fun _ h => h))
set_option maxRecDepth 100000 in
theorem ml_X10_487 : Cond.methodLink RX10 487 yX10_noted ∈ GT := GT8 131 rfl rfl
theorem mV_X10_487 : ∀ w ∈ wsV RX10 487 RX10 yX10_noted (wsG yX10_noted cX10_noted 4 (some .int)), w ∈ GT := GT_all (GT_c ml_X10_487 (GT_c mint_X10_noted (GT_c msel_X10_noted (GT_c mi_X10 GT_n)))) (GT_c mcode_X10_noted (fun _ h => h))
set_option maxRecDepth 100000 in
theorem ml_X10_490 : Cond.methodLink RX10 490 yX10_knownBy ∈ GT := GT8 147 rfl rfl
theorem mV_X10_490 : ∀ w ∈ wsV RX10 490 RX10 yX10_knownBy (wsG yX10_knownBy cX10_knownBy 1 (some .int)), w ∈ GT := GT_all (GT_c ml_X10_490 (GT_c mint_X10_knownBy (GT_c msel_X10_knownBy (GT_c mi_X10 GT_n)))) (GT_c mcode_X10_knownBy (fun _ h => h))
set_option maxRecDepth 100000 in
theorem ml_X10_493 : Cond.methodLink RX10 493 yX10_isSo ∈ GT := GT8 155 rfl rfl
theorem mV_X10_493 : ∀ w ∈ wsV RX10 493 RX10 yX10_isSo (wsG yX10_isSo cX10_isSo 3 (some .boolean)), w ∈ GT := GT_all (GT_c ml_X10_493 (GT_c mint_X10_isSo (GT_c msel_X10_isSo (GT_c mi_X10 GT_n)))) (GT_c mcode_X10_isSo (fun _ h => h))
set_option maxRecDepth 100000 in
theorem ml_X10_496 : Cond.methodLink RX10 496 yX10_fits ∈ GT := GT8 151 rfl rfl
theorem mV_X10_496 : ∀ w ∈ wsV RX10 496 RX10 yX10_fits (wsG yX10_fits cX10_fits 4 (some .boolean)), w ∈ GT := GT_all (GT_c ml_X10_496 (GT_c mint_X10_fits (GT_c msel_X10_fits (GT_c mi_X10 GT_n)))) (GT_c mcode_X10_fits (fun _ h => h))
set_option maxRecDepth 100000 in
theorem ml_X10_499 : Cond.methodLink RX10 499 yX10_put ∈ GT := GT7 155 rfl rfl
theorem mV_X10_499 : ∀ w ∈ wsV RX10 499 RX10 yX10_put (wsG yX10_put cX10_put 4 (none : Option Jvm.ClassFile.FieldType)), w ∈ GT := GT_all (GT_c ml_X10_499 (GT_c mint_X10_put (GT_c msel_X10_put (GT_c mi_X10 GT_n)))) (GT_c mcode_X10_put (fun _ h => h))
set_option maxRecDepth 100000 in
theorem ml_X10_502 : Cond.methodLink RX10 502 yX10_take ∈ GT := GT8 171 rfl rfl
theorem mV_X10_502 : ∀ w ∈ wsV RX10 502 RX10 yX10_take (wsG yX10_take cX10_take 4 (none : Option Jvm.ClassFile.FieldType)), w ∈ GT := GT_all (GT_c ml_X10_502 (GT_c mint_X10_take (GT_c msel_X10_take (GT_c mi_X10 GT_n)))) (GT_c mcode_X10_take (fun _ h => h))
set_option maxRecDepth 100000 in
theorem mst_arraycopy : Cond.static arraycopyName ∈ GT := GT4 19 rfl rfl
set_option maxRecDepth 100000 in
theorem mnat_arraycopy : Cond.native arraycopyName ∈ GT := GT4 20 rfl rfl
theorem dd_X9_against : yX9_against.cls = RX9 ∧ yX9_against.cls ≠ "java/lang/invoke/MethodHandle" ∧ yX9_against.cls ≠ "java/lang/invoke/VarHandle" ∧ (parseMethodDescriptor yX9_against.desc).map (fun d => d.parameters.length) = some 3 := by decide +kernel
theorem dd_X9_agreesWithSeen : yX9_agreesWithSeen.cls = RX9 ∧ yX9_agreesWithSeen.cls ≠ "java/lang/invoke/MethodHandle" ∧ yX9_agreesWithSeen.cls ≠ "java/lang/invoke/VarHandle" ∧ (parseMethodDescriptor yX9_agreesWithSeen.desc).map (fun d => d.parameters.length) = some 2 := by decide +kernel
theorem dd_X9_ahead : yX9_ahead.cls = RX9 ∧ yX9_ahead.cls ≠ "java/lang/invoke/MethodHandle" ∧ yX9_ahead.cls ≠ "java/lang/invoke/VarHandle" ∧ (parseMethodDescriptor yX9_ahead.desc).map (fun d => d.parameters.length) = some 2 := by decide +kernel
theorem dd_X9_areThreeIn : yX9_areThreeIn.cls = RX9 ∧ yX9_areThreeIn.cls ≠ "java/lang/invoke/MethodHandle" ∧ yX9_areThreeIn.cls ≠ "java/lang/invoke/VarHandle" ∧ (parseMethodDescriptor yX9_areThreeIn.desc).map (fun d => d.parameters.length) = some 3 := by decide +kernel
theorem dd_X9_areTwoIn : yX9_areTwoIn.cls = RX9 ∧ yX9_areTwoIn.cls ≠ "java/lang/invoke/MethodHandle" ∧ yX9_areTwoIn.cls ≠ "java/lang/invoke/VarHandle" ∧ (parseMethodDescriptor yX9_areTwoIn.desc).map (fun d => d.parameters.length) = some 2 := by decide +kernel
theorem dd_X9_atMost : yX9_atMost.cls = RX9 ∧ yX9_atMost.cls ≠ "java/lang/invoke/MethodHandle" ∧ yX9_atMost.cls ≠ "java/lang/invoke/VarHandle" ∧ (parseMethodDescriptor yX9_atMost.desc).map (fun d => d.parameters.length) = some 0 := by decide +kernel
theorem dd_X9_back : yX9_back.cls = RX9 ∧ yX9_back.cls ≠ "java/lang/invoke/MethodHandle" ∧ yX9_back.cls ≠ "java/lang/invoke/VarHandle" ∧ (parseMethodDescriptor yX9_back.desc).map (fun d => d.parameters.length) = some 0 := by decide +kernel
theorem dd_X9_bounds : yX9_bounds.cls = RX9 ∧ yX9_bounds.cls ≠ "java/lang/invoke/MethodHandle" ∧ yX9_bounds.cls ≠ "java/lang/invoke/VarHandle" ∧ (parseMethodDescriptor yX9_bounds.desc).map (fun d => d.parameters.length) = some 1 := by decide +kernel
theorem dd_X9_chance : yX9_chance.cls = RX9 ∧ yX9_chance.cls ≠ "java/lang/invoke/MethodHandle" ∧ yX9_chance.cls ≠ "java/lang/invoke/VarHandle" ∧ (parseMethodDescriptor yX9_chance.desc).map (fun d => d.parameters.length) = some 3 := by decide +kernel
theorem dd_X9_child : yX9_child.cls = RX9 ∧ yX9_child.cls ≠ "java/lang/invoke/MethodHandle" ∧ yX9_child.cls ≠ "java/lang/invoke/VarHandle" ∧ (parseMethodDescriptor yX9_child.desc).map (fun d => d.parameters.length) = some 1 := by decide +kernel
theorem dd_X9_commonDivisor : yX9_commonDivisor.cls = RX9 ∧ yX9_commonDivisor.cls ≠ "java/lang/invoke/MethodHandle" ∧ yX9_commonDivisor.cls ≠ "java/lang/invoke/VarHandle" ∧ (parseMethodDescriptor yX9_commonDivisor.desc).map (fun d => d.parameters.length) = some 2 := by decide +kernel
theorem dd_X9_count : yX9_count.cls = RX9 ∧ yX9_count.cls ≠ "java/lang/invoke/MethodHandle" ∧ yX9_count.cls ≠ "java/lang/invoke/VarHandle" ∧ (parseMethodDescriptor yX9_count.desc).map (fun d => d.parameters.length) = some 1 := by decide +kernel
theorem dd_X9_falls : yX9_falls.cls = RX9 ∧ yX9_falls.cls ≠ "java/lang/invoke/MethodHandle" ∧ yX9_falls.cls ≠ "java/lang/invoke/VarHandle" ∧ (parseMethodDescriptor yX9_falls.desc).map (fun d => d.parameters.length) = some 1 := by decide +kernel
theorem dd_X9_fault : yX9_fault.cls = RX9 ∧ yX9_fault.cls ≠ "java/lang/invoke/MethodHandle" ∧ yX9_fault.cls ≠ "java/lang/invoke/VarHandle" ∧ (parseMethodDescriptor yX9_fault.desc).map (fun d => d.parameters.length) = some 1 := by decide +kernel
theorem dd_X9_feed : yX9_feed.cls = RX9 ∧ yX9_feed.cls ≠ "java/lang/invoke/MethodHandle" ∧ yX9_feed.cls ≠ "java/lang/invoke/VarHandle" ∧ (parseMethodDescriptor yX9_feed.desc).map (fun d => d.parameters.length) = some 5 := by decide +kernel
theorem dd_X9_gainOf : yX9_gainOf.cls = RX9 ∧ yX9_gainOf.cls ≠ "java/lang/invoke/MethodHandle" ∧ yX9_gainOf.cls ≠ "java/lang/invoke/VarHandle" ∧ (parseMethodDescriptor yX9_gainOf.desc).map (fun d => d.parameters.length) = some 1 := by decide +kernel
theorem dd_X9_go : yX9_go.cls = RX9 ∧ yX9_go.cls ≠ "java/lang/invoke/MethodHandle" ∧ yX9_go.cls ≠ "java/lang/invoke/VarHandle" ∧ (parseMethodDescriptor yX9_go.desc).map (fun d => d.parameters.length) = some 1 := by decide +kernel
theorem dd_X9_greatestWorth : yX9_greatestWorth.cls = RX9 ∧ yX9_greatestWorth.cls ≠ "java/lang/invoke/MethodHandle" ∧ yX9_greatestWorth.cls ≠ "java/lang/invoke/VarHandle" ∧ (parseMethodDescriptor yX9_greatestWorth.desc).map (fun d => d.parameters.length) = some 1 := by decide +kernel
theorem dd_X9_house : yX9_house.cls = RX9 ∧ yX9_house.cls ≠ "java/lang/invoke/MethodHandle" ∧ yX9_house.cls ≠ "java/lang/invoke/VarHandle" ∧ (parseMethodDescriptor yX9_house.desc).map (fun d => d.parameters.length) = some 2 := by decide +kernel
theorem dd_X9_hush : yX9_hush.cls = RX9 ∧ yX9_hush.cls ≠ "java/lang/invoke/MethodHandle" ∧ yX9_hush.cls ≠ "java/lang/invoke/VarHandle" ∧ (parseMethodDescriptor yX9_hush.desc).map (fun d => d.parameters.length) = some 2 := by decide +kernel
theorem dd_X9_isFewer : yX9_isFewer.cls = RX9 ∧ yX9_isFewer.cls ≠ "java/lang/invoke/MethodHandle" ∧ yX9_isFewer.cls ≠ "java/lang/invoke/VarHandle" ∧ (parseMethodDescriptor yX9_isFewer.desc).map (fun d => d.parameters.length) = some 2 := by decide +kernel
theorem dd_X9_isHouse : yX9_isHouse.cls = RX9 ∧ yX9_isHouse.cls ≠ "java/lang/invoke/MethodHandle" ∧ yX9_isHouse.cls ≠ "java/lang/invoke/VarHandle" ∧ (parseMethodDescriptor yX9_isHouse.desc).map (fun d => d.parameters.length) = some 1 := by decide +kernel
theorem dd_X9_isIn : yX9_isIn.cls = RX9 ∧ yX9_isIn.cls ≠ "java/lang/invoke/MethodHandle" ∧ yX9_isIn.cls ≠ "java/lang/invoke/VarHandle" ∧ (parseMethodDescriptor yX9_isIn.desc).map (fun d => d.parameters.length) = some 1 := by decide +kernel
theorem dd_X9_isWithin : yX9_isWithin.cls = RX9 ∧ yX9_isWithin.cls ≠ "java/lang/invoke/MethodHandle" ∧ yX9_isWithin.cls ≠ "java/lang/invoke/VarHandle" ∧ (parseMethodDescriptor yX9_isWithin.desc).map (fun d => d.parameters.length) = some 3 := by decide +kernel
theorem dd_X9_keep : yX9_keep.cls = RX9 ∧ yX9_keep.cls ≠ "java/lang/invoke/MethodHandle" ∧ yX9_keep.cls ≠ "java/lang/invoke/VarHandle" ∧ (parseMethodDescriptor yX9_keep.desc).map (fun d => d.parameters.length) = some 0 := by decide +kernel
theorem dd_X9_known : yX9_known.cls = RX9 ∧ yX9_known.cls ≠ "java/lang/invoke/MethodHandle" ∧ yX9_known.cls ≠ "java/lang/invoke/VarHandle" ∧ (parseMethodDescriptor yX9_known.desc).map (fun d => d.parameters.length) = some 1 := by decide +kernel
theorem dd_X9_law : yX9_law.cls = RX9 ∧ yX9_law.cls ≠ "java/lang/invoke/MethodHandle" ∧ yX9_law.cls ≠ "java/lang/invoke/VarHandle" ∧ (parseMethodDescriptor yX9_law.desc).map (fun d => d.parameters.length) = some 2 := by decide +kernel
theorem dd_X9_leastStep : yX9_leastStep.cls = RX9 ∧ yX9_leastStep.cls ≠ "java/lang/invoke/MethodHandle" ∧ yX9_leastStep.cls ≠ "java/lang/invoke/VarHandle" ∧ (parseMethodDescriptor yX9_leastStep.desc).map (fun d => d.parameters.length) = some 1 := by decide +kernel
theorem dd_X9_left : yX9_left.cls = RX9 ∧ yX9_left.cls ≠ "java/lang/invoke/MethodHandle" ∧ yX9_left.cls ≠ "java/lang/invoke/VarHandle" ∧ (parseMethodDescriptor yX9_left.desc).map (fun d => d.parameters.length) = some 1 := by decide +kernel
theorem dd_X9_letGo : yX9_letGo.cls = RX9 ∧ yX9_letGo.cls ≠ "java/lang/invoke/MethodHandle" ∧ yX9_letGo.cls ≠ "java/lang/invoke/VarHandle" ∧ (parseMethodDescriptor yX9_letGo.desc).map (fun d => d.parameters.length) = some 1 := by decide +kernel
theorem dd_X9_lives : yX9_lives.cls = RX9 ∧ yX9_lives.cls ≠ "java/lang/invoke/MethodHandle" ∧ yX9_lives.cls ≠ "java/lang/invoke/VarHandle" ∧ (parseMethodDescriptor yX9_lives.desc).map (fun d => d.parameters.length) = some 3 := by decide +kernel
theorem dd_X9_marry : yX9_marry.cls = RX9 ∧ yX9_marry.cls ≠ "java/lang/invoke/MethodHandle" ∧ yX9_marry.cls ≠ "java/lang/invoke/VarHandle" ∧ (parseMethodDescriptor yX9_marry.desc).map (fun d => d.parameters.length) = some 2 := by decide +kernel
theorem dd_X9_match : yX9_match.cls = RX9 ∧ yX9_match.cls ≠ "java/lang/invoke/MethodHandle" ∧ yX9_match.cls ≠ "java/lang/invoke/VarHandle" ∧ (parseMethodDescriptor yX9_match.desc).map (fun d => d.parameters.length) = some 1 := by decide +kernel
theorem dd_X9_most : yX9_most.cls = RX9 ∧ yX9_most.cls ≠ "java/lang/invoke/MethodHandle" ∧ yX9_most.cls ≠ "java/lang/invoke/VarHandle" ∧ (parseMethodDescriptor yX9_most.desc).map (fun d => d.parameters.length) = some 0 := by decide +kernel
theorem dd_X9_named : yX9_named.cls = RX9 ∧ yX9_named.cls ≠ "java/lang/invoke/MethodHandle" ∧ yX9_named.cls ≠ "java/lang/invoke/VarHandle" ∧ (parseMethodDescriptor yX9_named.desc).map (fun d => d.parameters.length) = some 2 := by decide +kernel
theorem dd_X9_nextPart : yX9_nextPart.cls = RX9 ∧ yX9_nextPart.cls ≠ "java/lang/invoke/MethodHandle" ∧ yX9_nextPart.cls ≠ "java/lang/invoke/VarHandle" ∧ (parseMethodDescriptor yX9_nextPart.desc).map (fun d => d.parameters.length) = some 1 := by decide +kernel
theorem dd_X9_nextRaise : yX9_nextRaise.cls = RX9 ∧ yX9_nextRaise.cls ≠ "java/lang/invoke/MethodHandle" ∧ yX9_nextRaise.cls ≠ "java/lang/invoke/VarHandle" ∧ (parseMethodDescriptor yX9_nextRaise.desc).map (fun d => d.parameters.length) = some 1 := by decide +kernel
theorem dd_X9_nod : yX9_nod.cls = RX9 ∧ yX9_nod.cls ≠ "java/lang/invoke/MethodHandle" ∧ yX9_nod.cls ≠ "java/lang/invoke/VarHandle" ∧ (parseMethodDescriptor yX9_nod.desc).map (fun d => d.parameters.length) = some 1 := by decide +kernel
theorem dd_X9_noneLeft : yX9_noneLeft.cls = RX9 ∧ yX9_noneLeft.cls ≠ "java/lang/invoke/MethodHandle" ∧ yX9_noneLeft.cls ≠ "java/lang/invoke/VarHandle" ∧ (parseMethodDescriptor yX9_noneLeft.desc).map (fun d => d.parameters.length) = some 0 := by decide +kernel
theorem dd_X9_outbid : yX9_outbid.cls = RX9 ∧ yX9_outbid.cls ≠ "java/lang/invoke/MethodHandle" ∧ yX9_outbid.cls ≠ "java/lang/invoke/VarHandle" ∧ (parseMethodDescriptor yX9_outbid.desc).map (fun d => d.parameters.length) = some 0 := by decide +kernel
theorem dd_X9_outbidsOthers : yX9_outbidsOthers.cls = RX9 ∧ yX9_outbidsOthers.cls ≠ "java/lang/invoke/MethodHandle" ∧ yX9_outbidsOthers.cls ≠ "java/lang/invoke/VarHandle" ∧ (parseMethodDescriptor yX9_outbidsOthers.desc).map (fun d => d.parameters.length) = some 1 := by decide +kernel
theorem dd_X9_part : yX9_part.cls = RX9 ∧ yX9_part.cls ≠ "java/lang/invoke/MethodHandle" ∧ yX9_part.cls ≠ "java/lang/invoke/VarHandle" ∧ (parseMethodDescriptor yX9_part.desc).map (fun d => d.parameters.length) = some 2 := by decide +kernel
theorem dd_X9_partsLeftIn : yX9_partsLeftIn.cls = RX9 ∧ yX9_partsLeftIn.cls ≠ "java/lang/invoke/MethodHandle" ∧ yX9_partsLeftIn.cls ≠ "java/lang/invoke/VarHandle" ∧ (parseMethodDescriptor yX9_partsLeftIn.desc).map (fun d => d.parameters.length) = some 1 := by decide +kernel
theorem dd_X9_placeOf : yX9_placeOf.cls = RX9 ∧ yX9_placeOf.cls ≠ "java/lang/invoke/MethodHandle" ∧ yX9_placeOf.cls ≠ "java/lang/invoke/VarHandle" ∧ (parseMethodDescriptor yX9_placeOf.desc).map (fun d => d.parameters.length) = some 3 := by decide +kernel
theorem dd_X9_putFourBytes : yX9_putFourBytes.cls = RX9 ∧ yX9_putFourBytes.cls ≠ "java/lang/invoke/MethodHandle" ∧ yX9_putFourBytes.cls ≠ "java/lang/invoke/VarHandle" ∧ (parseMethodDescriptor yX9_putFourBytes.desc).map (fun d => d.parameters.length) = some 1 := by decide +kernel
theorem dd_X9_raisesInRow : yX9_raisesInRow.cls = RX9 ∧ yX9_raisesInRow.cls ≠ "java/lang/invoke/MethodHandle" ∧ yX9_raisesInRow.cls ≠ "java/lang/invoke/VarHandle" ∧ (parseMethodDescriptor yX9_raisesInRow.desc).map (fun d => d.parameters.length) = some 0 := by decide +kernel
theorem dd_X9_rival : yX9_rival.cls = RX9 ∧ yX9_rival.cls ≠ "java/lang/invoke/MethodHandle" ∧ yX9_rival.cls ≠ "java/lang/invoke/VarHandle" ∧ (parseMethodDescriptor yX9_rival.desc).map (fun d => d.parameters.length) = some 1 := by decide +kernel
theorem dd_X9_same : yX9_same.cls = RX9 ∧ yX9_same.cls ≠ "java/lang/invoke/MethodHandle" ∧ yX9_same.cls ≠ "java/lang/invoke/VarHandle" ∧ (parseMethodDescriptor yX9_same.desc).map (fun d => d.parameters.length) = some 0 := by decide +kernel
theorem dd_X9_sameIn : yX9_sameIn.cls = RX9 ∧ yX9_sameIn.cls ≠ "java/lang/invoke/MethodHandle" ∧ yX9_sameIn.cls ≠ "java/lang/invoke/VarHandle" ∧ (parseMethodDescriptor yX9_sameIn.desc).map (fun d => d.parameters.length) = some 1 := by decide +kernel
theorem dd_X9_see : yX9_see.cls = RX9 ∧ yX9_see.cls ≠ "java/lang/invoke/MethodHandle" ∧ yX9_see.cls ≠ "java/lang/invoke/VarHandle" ∧ (parseMethodDescriptor yX9_see.desc).map (fun d => d.parameters.length) = some 3 := by decide +kernel
theorem dd_X9_shares : yX9_shares.cls = RX9 ∧ yX9_shares.cls ≠ "java/lang/invoke/MethodHandle" ∧ yX9_shares.cls ≠ "java/lang/invoke/VarHandle" ∧ (parseMethodDescriptor yX9_shares.desc).map (fun d => d.parameters.length) = some 2 := by decide +kernel
theorem dd_X9_startAnew : yX9_startAnew.cls = RX9 ∧ yX9_startAnew.cls ≠ "java/lang/invoke/MethodHandle" ∧ yX9_startAnew.cls ≠ "java/lang/invoke/VarHandle" ∧ (parseMethodDescriptor yX9_startAnew.desc).map (fun d => d.parameters.length) = some 0 := by decide +kernel
theorem dd_X9_stays : yX9_stays.cls = RX9 ∧ yX9_stays.cls ≠ "java/lang/invoke/MethodHandle" ∧ yX9_stays.cls ≠ "java/lang/invoke/VarHandle" ∧ (parseMethodDescriptor yX9_stays.desc).map (fun d => d.parameters.length) = some 5 := by decide +kernel
theorem dd_X9_still : yX9_still.cls = RX9 ∧ yX9_still.cls ≠ "java/lang/invoke/MethodHandle" ∧ yX9_still.cls ≠ "java/lang/invoke/VarHandle" ∧ (parseMethodDescriptor yX9_still.desc).map (fun d => d.parameters.length) = some 0 := by decide +kernel
theorem dd_X9_strike : yX9_strike.cls = RX9 ∧ yX9_strike.cls ≠ "java/lang/invoke/MethodHandle" ∧ yX9_strike.cls ≠ "java/lang/invoke/VarHandle" ∧ (parseMethodDescriptor yX9_strike.desc).map (fun d => d.parameters.length) = some 1 := by decide +kernel
theorem dd_X9_sumOfBounds : yX9_sumOfBounds.cls = RX9 ∧ yX9_sumOfBounds.cls ≠ "java/lang/invoke/MethodHandle" ∧ yX9_sumOfBounds.cls ≠ "java/lang/invoke/VarHandle" ∧ (parseMethodDescriptor yX9_sumOfBounds.desc).map (fun d => d.parameters.length) = some 1 := by decide +kernel
theorem dd_X9_text : yX9_text.cls = RX9 ∧ yX9_text.cls ≠ "java/lang/invoke/MethodHandle" ∧ yX9_text.cls ≠ "java/lang/invoke/VarHandle" ∧ (parseMethodDescriptor yX9_text.desc).map (fun d => d.parameters.length) = some 1 := by decide +kernel
theorem dd_X9_tried : yX9_tried.cls = RX9 ∧ yX9_tried.cls ≠ "java/lang/invoke/MethodHandle" ∧ yX9_tried.cls ≠ "java/lang/invoke/VarHandle" ∧ (parseMethodDescriptor yX9_tried.desc).map (fun d => d.parameters.length) = some 3 := by decide +kernel
theorem dd_X9_tryAsItGoes : yX9_tryAsItGoes.cls = RX9 ∧ yX9_tryAsItGoes.cls ≠ "java/lang/invoke/MethodHandle" ∧ yX9_tryAsItGoes.cls ≠ "java/lang/invoke/VarHandle" ∧ (parseMethodDescriptor yX9_tryAsItGoes.desc).map (fun d => d.parameters.length) = some 0 := by decide +kernel
theorem dd_X9_turn : yX9_turn.cls = RX9 ∧ yX9_turn.cls ≠ "java/lang/invoke/MethodHandle" ∧ yX9_turn.cls ≠ "java/lang/invoke/VarHandle" ∧ (parseMethodDescriptor yX9_turn.desc).map (fun d => d.parameters.length) = some 0 := by decide +kernel
theorem dd_X9_undo : yX9_undo.cls = RX9 ∧ yX9_undo.cls ≠ "java/lang/invoke/MethodHandle" ∧ yX9_undo.cls ≠ "java/lang/invoke/VarHandle" ∧ (parseMethodDescriptor yX9_undo.desc).map (fun d => d.parameters.length) = some 0 := by decide +kernel
theorem dd_X9_when : yX9_when.cls = RX9 ∧ yX9_when.cls ≠ "java/lang/invoke/MethodHandle" ∧ yX9_when.cls ≠ "java/lang/invoke/VarHandle" ∧ (parseMethodDescriptor yX9_when.desc).map (fun d => d.parameters.length) = some 3 := by decide +kernel
theorem dd_X9_will : yX9_will.cls = RX9 ∧ yX9_will.cls ≠ "java/lang/invoke/MethodHandle" ∧ yX9_will.cls ≠ "java/lang/invoke/VarHandle" ∧ (parseMethodDescriptor yX9_will.desc).map (fun d => d.parameters.length) = some 2 := by decide +kernel
theorem dd_X0_asItGoes : yX0_asItGoes.cls = RX0 ∧ yX0_asItGoes.cls ≠ "java/lang/invoke/MethodHandle" ∧ yX0_asItGoes.cls ≠ "java/lang/invoke/VarHandle" ∧ (parseMethodDescriptor yX0_asItGoes.desc).map (fun d => d.parameters.length) = some 1 := by decide +kernel
theorem dd_X0_byNumbers : yX0_byNumbers.cls = RX0 ∧ yX0_byNumbers.cls ≠ "java/lang/invoke/MethodHandle" ∧ yX0_byNumbers.cls ≠ "java/lang/invoke/VarHandle" ∧ (parseMethodDescriptor yX0_byNumbers.desc).map (fun d => d.parameters.length) = some 1 := by decide +kernel
theorem dd_X0_deathOf : yX0_deathOf.cls = RX0 ∧ yX0_deathOf.cls ≠ "java/lang/invoke/MethodHandle" ∧ yX0_deathOf.cls ≠ "java/lang/invoke/VarHandle" ∧ (parseMethodDescriptor yX0_deathOf.desc).map (fun d => d.parameters.length) = some 2 := by decide +kernel
theorem dd_X0_handOn : yX0_handOn.cls = RX0 ∧ yX0_handOn.cls ≠ "java/lang/invoke/MethodHandle" ∧ yX0_handOn.cls ≠ "java/lang/invoke/VarHandle" ∧ (parseMethodDescriptor yX0_handOn.desc).map (fun d => d.parameters.length) = some 2 := by decide +kernel
theorem dd_X0_isDying : yX0_isDying.cls = RX0 ∧ yX0_isDying.cls ≠ "java/lang/invoke/MethodHandle" ∧ yX0_isDying.cls ≠ "java/lang/invoke/VarHandle" ∧ (parseMethodDescriptor yX0_isDying.desc).map (fun d => d.parameters.length) = some 2 := by decide +kernel
theorem dd_X0_join : yX0_join.cls = RX0 ∧ yX0_join.cls ≠ "java/lang/invoke/MethodHandle" ∧ yX0_join.cls ≠ "java/lang/invoke/VarHandle" ∧ (parseMethodDescriptor yX0_join.desc).map (fun d => d.parameters.length) = some 3 := by decide +kernel
theorem dd_X0_mayNod : yX0_mayNod.cls = RX0 ∧ yX0_mayNod.cls ≠ "java/lang/invoke/MethodHandle" ∧ yX0_mayNod.cls ≠ "java/lang/invoke/VarHandle" ∧ (parseMethodDescriptor yX0_mayNod.desc).map (fun d => d.parameters.length) = some 2 := by decide +kernel
theorem dd_X0_nameOf : yX0_nameOf.cls = RX0 ∧ yX0_nameOf.cls ≠ "java/lang/invoke/MethodHandle" ∧ yX0_nameOf.cls ≠ "java/lang/invoke/VarHandle" ∧ (parseMethodDescriptor yX0_nameOf.desc).map (fun d => d.parameters.length) = some 3 := by decide +kernel
theorem dd_X0_passHead : yX0_passHead.cls = RX0 ∧ yX0_passHead.cls ≠ "java/lang/invoke/MethodHandle" ∧ yX0_passHead.cls ≠ "java/lang/invoke/VarHandle" ∧ (parseMethodDescriptor yX0_passHead.desc).map (fun d => d.parameters.length) = some 2 := by decide +kernel
theorem dd_X0_passYear : yX0_passYear.cls = RX0 ∧ yX0_passYear.cls ≠ "java/lang/invoke/MethodHandle" ∧ yX0_passYear.cls ≠ "java/lang/invoke/VarHandle" ∧ (parseMethodDescriptor yX0_passYear.desc).map (fun d => d.parameters.length) = some 1 := by decide +kernel
theorem dd_X0_passYears : yX0_passYears.cls = RX0 ∧ yX0_passYears.cls ≠ "java/lang/invoke/MethodHandle" ∧ yX0_passYears.cls ≠ "java/lang/invoke/VarHandle" ∧ (parseMethodDescriptor yX0_passYears.desc).map (fun d => d.parameters.length) = some 2 := by decide +kernel
theorem dd_X0_raise : yX0_raise.cls = RX0 ∧ yX0_raise.cls ≠ "java/lang/invoke/MethodHandle" ∧ yX0_raise.cls ≠ "java/lang/invoke/VarHandle" ∧ (parseMethodDescriptor yX0_raise.desc).map (fun d => d.parameters.length) = some 2 := by decide +kernel
theorem dd_X0_stepOf : yX0_stepOf.cls = RX0 ∧ yX0_stepOf.cls ≠ "java/lang/invoke/MethodHandle" ∧ yX0_stepOf.cls ≠ "java/lang/invoke/VarHandle" ∧ (parseMethodDescriptor yX0_stepOf.desc).map (fun d => d.parameters.length) = some 1 := by decide +kernel
theorem dd_X0_takeTurn : yX0_takeTurn.cls = RX0 ∧ yX0_takeTurn.cls ≠ "java/lang/invoke/MethodHandle" ∧ yX0_takeTurn.cls ≠ "java/lang/invoke/VarHandle" ∧ (parseMethodDescriptor yX0_takeTurn.desc).map (fun d => d.parameters.length) = some 1 := by decide +kernel
theorem dd_X0_valueOf : yX0_valueOf.cls = RX0 ∧ yX0_valueOf.cls ≠ "java/lang/invoke/MethodHandle" ∧ yX0_valueOf.cls ≠ "java/lang/invoke/VarHandle" ∧ (parseMethodDescriptor yX0_valueOf.desc).map (fun d => d.parameters.length) = some 3 := by decide +kernel
theorem dd_X0_whoseTurn : yX0_whoseTurn.cls = RX0 ∧ yX0_whoseTurn.cls ≠ "java/lang/invoke/MethodHandle" ∧ yX0_whoseTurn.cls ≠ "java/lang/invoke/VarHandle" ∧ (parseMethodDescriptor yX0_whoseTurn.desc).map (fun d => d.parameters.length) = some 1 := by decide +kernel
theorem dd_X0_yearsToFall : yX0_yearsToFall.cls = RX0 ∧ yX0_yearsToFall.cls ≠ "java/lang/invoke/MethodHandle" ∧ yX0_yearsToFall.cls ≠ "java/lang/invoke/VarHandle" ∧ (parseMethodDescriptor yX0_yearsToFall.desc).map (fun d => d.parameters.length) = some 2 := by decide +kernel
theorem dd_X1_begin : yX1_begin.cls = RX1 ∧ yX1_begin.cls ≠ "java/lang/invoke/MethodHandle" ∧ yX1_begin.cls ≠ "java/lang/invoke/VarHandle" ∧ (parseMethodDescriptor yX1_begin.desc).map (fun d => d.parameters.length) = some 0 := by decide +kernel
theorem dd_X1_isEnd : yX1_isEnd.cls = RX1 ∧ yX1_isEnd.cls ≠ "java/lang/invoke/MethodHandle" ∧ yX1_isEnd.cls ≠ "java/lang/invoke/VarHandle" ∧ (parseMethodDescriptor yX1_isEnd.desc).map (fun d => d.parameters.length) = some 0 := by decide +kernel
theorem dd_X1_meetKnot : yX1_meetKnot.cls = RX1 ∧ yX1_meetKnot.cls ≠ "java/lang/invoke/MethodHandle" ∧ yX1_meetKnot.cls ≠ "java/lang/invoke/VarHandle" ∧ (parseMethodDescriptor yX1_meetKnot.desc).map (fun d => d.parameters.length) = some 0 := by decide +kernel
theorem dd_X1_putOff : yX1_putOff.cls = RX1 ∧ yX1_putOff.cls ≠ "java/lang/invoke/MethodHandle" ∧ yX1_putOff.cls ≠ "java/lang/invoke/VarHandle" ∧ (parseMethodDescriptor yX1_putOff.desc).map (fun d => d.parameters.length) = some 1 := by decide +kernel
theorem dd_X1_rankOf : yX1_rankOf.cls = RX1 ∧ yX1_rankOf.cls ≠ "java/lang/invoke/MethodHandle" ∧ yX1_rankOf.cls ≠ "java/lang/invoke/VarHandle" ∧ (parseMethodDescriptor yX1_rankOf.desc).map (fun d => d.parameters.length) = some 1 := by decide +kernel
theorem dd_X1_readFormula : yX1_readFormula.cls = RX1 ∧ yX1_readFormula.cls ≠ "java/lang/invoke/MethodHandle" ∧ yX1_readFormula.cls ≠ "java/lang/invoke/VarHandle" ∧ (parseMethodDescriptor yX1_readFormula.desc).map (fun d => d.parameters.length) = some 2 := by decide +kernel
theorem dd_X1_releaseDownTo : yX1_releaseDownTo.cls = RX1 ∧ yX1_releaseDownTo.cls ≠ "java/lang/invoke/MethodHandle" ∧ yX1_releaseDownTo.cls ≠ "java/lang/invoke/VarHandle" ∧ (parseMethodDescriptor yX1_releaseDownTo.desc).map (fun d => d.parameters.length) = some 1 := by decide +kernel
theorem dd_X1_takeClosing : yX1_takeClosing.cls = RX1 ∧ yX1_takeClosing.cls ≠ "java/lang/invoke/MethodHandle" ∧ yX1_takeClosing.cls ≠ "java/lang/invoke/VarHandle" ∧ (parseMethodDescriptor yX1_takeClosing.desc).map (fun d => d.parameters.length) = some 0 := by decide +kernel
theorem dd_X1_takeOpening : yX1_takeOpening.cls = RX1 ∧ yX1_takeOpening.cls ≠ "java/lang/invoke/MethodHandle" ∧ yX1_takeOpening.cls ≠ "java/lang/invoke/VarHandle" ∧ (parseMethodDescriptor yX1_takeOpening.desc).map (fun d => d.parameters.length) = some 0 := by decide +kernel
theorem dd_X1_takeOperand : yX1_takeOperand.cls = RX1 ∧ yX1_takeOperand.cls ≠ "java/lang/invoke/MethodHandle" ∧ yX1_takeOperand.cls ≠ "java/lang/invoke/VarHandle" ∧ (parseMethodDescriptor yX1_takeOperand.desc).map (fun d => d.parameters.length) = some 0 := by decide +kernel
theorem dd_X1_takeSign : yX1_takeSign.cls = RX1 ∧ yX1_takeSign.cls ≠ "java/lang/invoke/MethodHandle" ∧ yX1_takeSign.cls ≠ "java/lang/invoke/VarHandle" ∧ (parseMethodDescriptor yX1_takeSign.desc).map (fun d => d.parameters.length) = some 0 := by decide +kernel
theorem dd_X1_takeValue : yX1_takeValue.cls = RX1 ∧ yX1_takeValue.cls ≠ "java/lang/invoke/MethodHandle" ∧ yX1_takeValue.cls ≠ "java/lang/invoke/VarHandle" ∧ (parseMethodDescriptor yX1_takeValue.desc).map (fun d => d.parameters.length) = some 1 := by decide +kernel
theorem dd_X2_add : yX2_add.cls = RX2 ∧ yX2_add.cls ≠ "java/lang/invoke/MethodHandle" ∧ yX2_add.cls ≠ "java/lang/invoke/VarHandle" ∧ (parseMethodDescriptor yX2_add.desc).map (fun d => d.parameters.length) = some 2 := by decide +kernel
theorem dd_X2_empty : yX2_empty.cls = RX2 ∧ yX2_empty.cls ≠ "java/lang/invoke/MethodHandle" ∧ yX2_empty.cls ≠ "java/lang/invoke/VarHandle" ∧ (parseMethodDescriptor yX2_empty.desc).map (fun d => d.parameters.length) = some 0 := by decide +kernel
theorem dd_X2_isTold : yX2_isTold.cls = RX2 ∧ yX2_isTold.cls ≠ "java/lang/invoke/MethodHandle" ∧ yX2_isTold.cls ≠ "java/lang/invoke/VarHandle" ∧ (parseMethodDescriptor yX2_isTold.desc).map (fun d => d.parameters.length) = some 1 := by decide +kernel
theorem dd_X3_endLine : yX3_endLine.cls = RX3 ∧ yX3_endLine.cls ≠ "java/lang/invoke/MethodHandle" ∧ yX3_endLine.cls ≠ "java/lang/invoke/VarHandle" ∧ (parseMethodDescriptor yX3_endLine.desc).map (fun d => d.parameters.length) = some 0 := by decide +kernel
theorem dd_X3_faultAt : yX3_faultAt.cls = RX3 ∧ yX3_faultAt.cls ≠ "java/lang/invoke/MethodHandle" ∧ yX3_faultAt.cls ≠ "java/lang/invoke/VarHandle" ∧ (parseMethodDescriptor yX3_faultAt.desc).map (fun d => d.parameters.length) = some 0 := by decide +kernel
theorem dd_X3_faultKind : yX3_faultKind.cls = RX3 ∧ yX3_faultKind.cls ≠ "java/lang/invoke/MethodHandle" ∧ yX3_faultKind.cls ≠ "java/lang/invoke/VarHandle" ∧ (parseMethodDescriptor yX3_faultKind.desc).map (fun d => d.parameters.length) = some 0 := by decide +kernel
theorem dd_X3_isNumber : yX3_isNumber.cls = RX3 ∧ yX3_isNumber.cls ≠ "java/lang/invoke/MethodHandle" ∧ yX3_isNumber.cls ≠ "java/lang/invoke/VarHandle" ∧ (parseMethodDescriptor yX3_isNumber.desc).map (fun d => d.parameters.length) = some 2 := by decide +kernel
theorem dd_X3_mostOfSetting : yX3_mostOfSetting.cls = RX3 ∧ yX3_mostOfSetting.cls ≠ "java/lang/invoke/MethodHandle" ∧ yX3_mostOfSetting.cls ≠ "java/lang/invoke/VarHandle" ∧ (parseMethodDescriptor yX3_mostOfSetting.desc).map (fun d => d.parameters.length) = some 1 := by decide +kernel
theorem dd_X3_readHouse : yX3_readHouse.cls = RX3 ∧ yX3_readHouse.cls ≠ "java/lang/invoke/MethodHandle" ∧ yX3_readHouse.cls ≠ "java/lang/invoke/VarHandle" ∧ (parseMethodDescriptor yX3_readHouse.desc).map (fun d => d.parameters.length) = some 0 := by decide +kernel
theorem dd_X3_readLaw : yX3_readLaw.cls = RX3 ∧ yX3_readLaw.cls ≠ "java/lang/invoke/MethodHandle" ∧ yX3_readLaw.cls ≠ "java/lang/invoke/VarHandle" ∧ (parseMethodDescriptor yX3_readLaw.desc).map (fun d => d.parameters.length) = some 0 := by decide +kernel
theorem dd_X3_readLine : yX3_readLine.cls = RX3 ∧ yX3_readLine.cls ≠ "java/lang/invoke/MethodHandle" ∧ yX3_readLine.cls ≠ "java/lang/invoke/VarHandle" ∧ (parseMethodDescriptor yX3_readLine.desc).map (fun d => d.parameters.length) = some 0 := by decide +kernel
theorem dd_X3_readName : yX3_readName.cls = RX3 ∧ yX3_readName.cls ≠ "java/lang/invoke/MethodHandle" ∧ yX3_readName.cls ≠ "java/lang/invoke/VarHandle" ∧ (parseMethodDescriptor yX3_readName.desc).map (fun d => d.parameters.length) = some 2 := by decide +kernel
theorem dd_X3_readNumber : yX3_readNumber.cls = RX3 ∧ yX3_readNumber.cls ≠ "java/lang/invoke/MethodHandle" ∧ yX3_readNumber.cls ≠ "java/lang/invoke/VarHandle" ∧ (parseMethodDescriptor yX3_readNumber.desc).map (fun d => d.parameters.length) = some 4 := by decide +kernel
theorem dd_X3_readPart : yX3_readPart.cls = RX3 ∧ yX3_readPart.cls ≠ "java/lang/invoke/MethodHandle" ∧ yX3_readPart.cls ≠ "java/lang/invoke/VarHandle" ∧ (parseMethodDescriptor yX3_readPart.desc).map (fun d => d.parameters.length) = some 0 := by decide +kernel
theorem dd_X3_readSetting : yX3_readSetting.cls = RX3 ∧ yX3_readSetting.cls ≠ "java/lang/invoke/MethodHandle" ∧ yX3_readSetting.cls ≠ "java/lang/invoke/VarHandle" ∧ (parseMethodDescriptor yX3_readSetting.desc).map (fun d => d.parameters.length) = some 1 := by decide +kernel
theorem dd_X3_readText : yX3_readText.cls = RX3 ∧ yX3_readText.cls ≠ "java/lang/invoke/MethodHandle" ∧ yX3_readText.cls ≠ "java/lang/invoke/VarHandle" ∧ (parseMethodDescriptor yX3_readText.desc).map (fun d => d.parameters.length) = some 2 := by decide +kernel
theorem dd_X3_refuse : yX3_refuse.cls = RX3 ∧ yX3_refuse.cls ≠ "java/lang/invoke/MethodHandle" ∧ yX3_refuse.cls ≠ "java/lang/invoke/VarHandle" ∧ (parseMethodDescriptor yX3_refuse.desc).map (fun d => d.parameters.length) = some 1 := by decide +kernel
theorem dd_X4_ageParts : yX4_ageParts.cls = RX4 ∧ yX4_ageParts.cls ≠ "java/lang/invoke/MethodHandle" ∧ yX4_ageParts.cls ≠ "java/lang/invoke/VarHandle" ∧ (parseMethodDescriptor yX4_ageParts.desc).map (fun d => d.parameters.length) = some 1 := by decide +kernel
theorem dd_X4_become : yX4_become.cls = RX4 ∧ yX4_become.cls ≠ "java/lang/invoke/MethodHandle" ∧ yX4_become.cls ≠ "java/lang/invoke/VarHandle" ∧ (parseMethodDescriptor yX4_become.desc).map (fun d => d.parameters.length) = some 1 := by decide +kernel
theorem dd_X4_begin : yX4_begin.cls = RX4 ∧ yX4_begin.cls ≠ "java/lang/invoke/MethodHandle" ∧ yX4_begin.cls ≠ "java/lang/invoke/VarHandle" ∧ (parseMethodDescriptor yX4_begin.desc).map (fun d => d.parameters.length) = some 1 := by decide +kernel
theorem dd_X4_end : yX4_end.cls = RX4 ∧ yX4_end.cls ≠ "java/lang/invoke/MethodHandle" ∧ yX4_end.cls ≠ "java/lang/invoke/VarHandle" ∧ (parseMethodDescriptor yX4_end.desc).map (fun d => d.parameters.length) = some 1 := by decide +kernel
theorem dd_X4_growOlder : yX4_growOlder.cls = RX4 ∧ yX4_growOlder.cls ≠ "java/lang/invoke/MethodHandle" ∧ yX4_growOlder.cls ≠ "java/lang/invoke/VarHandle" ∧ (parseMethodDescriptor yX4_growOlder.desc).map (fun d => d.parameters.length) = some 1 := by decide +kernel
theorem dd_X4_hasFallenTo : yX4_hasFallenTo.cls = RX4 ∧ yX4_hasFallenTo.cls ≠ "java/lang/invoke/MethodHandle" ∧ yX4_hasFallenTo.cls ≠ "java/lang/invoke/VarHandle" ∧ (parseMethodDescriptor yX4_hasFallenTo.desc).map (fun d => d.parameters.length) = some 1 := by decide +kernel
theorem dd_X4_holds : yX4_holds.cls = RX4 ∧ yX4_holds.cls ≠ "java/lang/invoke/MethodHandle" ∧ yX4_holds.cls ≠ "java/lang/invoke/VarHandle" ∧ (parseMethodDescriptor yX4_holds.desc).map (fun d => d.parameters.length) = some 1 := by decide +kernel
theorem dd_X4_isFirst : yX4_isFirst.cls = RX4 ∧ yX4_isFirst.cls ≠ "java/lang/invoke/MethodHandle" ∧ yX4_isFirst.cls ≠ "java/lang/invoke/VarHandle" ∧ (parseMethodDescriptor yX4_isFirst.desc).map (fun d => d.parameters.length) = some 1 := by decide +kernel
theorem dd_X4_nextNumber : yX4_nextNumber.cls = RX4 ∧ yX4_nextNumber.cls ≠ "java/lang/invoke/MethodHandle" ∧ yX4_nextNumber.cls ≠ "java/lang/invoke/VarHandle" ∧ (parseMethodDescriptor yX4_nextNumber.desc).map (fun d => d.parameters.length) = some 0 := by decide +kernel
theorem dd_X4_setAllBounds : yX4_setAllBounds.cls = RX4 ∧ yX4_setAllBounds.cls ≠ "java/lang/invoke/MethodHandle" ∧ yX4_setAllBounds.cls ≠ "java/lang/invoke/VarHandle" ∧ (parseMethodDescriptor yX4_setAllBounds.desc).map (fun d => d.parameters.length) = some 1 := by decide +kernel
theorem dd_X4_wed : yX4_wed.cls = RX4 ∧ yX4_wed.cls ≠ "java/lang/invoke/MethodHandle" ∧ yX4_wed.cls ≠ "java/lang/invoke/VarHandle" ∧ (parseMethodDescriptor yX4_wed.desc).map (fun d => d.parameters.length) = some 2 := by decide +kernel
theorem dd_X4_yearsToRenewal : yX4_yearsToRenewal.cls = RX4 ∧ yX4_yearsToRenewal.cls ≠ "java/lang/invoke/MethodHandle" ∧ yX4_yearsToRenewal.cls ≠ "java/lang/invoke/VarHandle" ∧ (parseMethodDescriptor yX4_yearsToRenewal.desc).map (fun d => d.parameters.length) = some 2 := by decide +kernel
theorem dd_X5_add : yX5_add.cls = RX5 ∧ yX5_add.cls ≠ "java/lang/invoke/MethodHandle" ∧ yX5_add.cls ≠ "java/lang/invoke/VarHandle" ∧ (parseMethodDescriptor yX5_add.desc).map (fun d => d.parameters.length) = some 3 := by decide +kernel
theorem dd_X5_allows : yX5_allows.cls = RX5 ∧ yX5_allows.cls ≠ "java/lang/invoke/MethodHandle" ∧ yX5_allows.cls ≠ "java/lang/invoke/VarHandle" ∧ (parseMethodDescriptor yX5_allows.desc).map (fun d => d.parameters.length) = some 2 := by decide +kernel
theorem dd_X5_findStruck : yX5_findStruck.cls = RX5 ∧ yX5_findStruck.cls ≠ "java/lang/invoke/MethodHandle" ∧ yX5_findStruck.cls ≠ "java/lang/invoke/VarHandle" ∧ (parseMethodDescriptor yX5_findStruck.desc).map (fun d => d.parameters.length) = some 0 := by decide +kernel
theorem dd_X5_forget : yX5_forget.cls = RX5 ∧ yX5_forget.cls ≠ "java/lang/invoke/MethodHandle" ∧ yX5_forget.cls ≠ "java/lang/invoke/VarHandle" ∧ (parseMethodDescriptor yX5_forget.desc).map (fun d => d.parameters.length) = some 0 := by decide +kernel
theorem dd_X5_howManyKnown : yX5_howManyKnown.cls = RX5 ∧ yX5_howManyKnown.cls ≠ "java/lang/invoke/MethodHandle" ∧ yX5_howManyKnown.cls ≠ "java/lang/invoke/VarHandle" ∧ (parseMethodDescriptor yX5_howManyKnown.desc).map (fun d => d.parameters.length) = some 0 := by decide +kernel
theorem dd_X6_empty : yX6_empty.cls = RX6 ∧ yX6_empty.cls ≠ "java/lang/invoke/MethodHandle" ∧ yX6_empty.cls ≠ "java/lang/invoke/VarHandle" ∧ (parseMethodDescriptor yX6_empty.desc).map (fun d => d.parameters.length) = some 0 := by decide +kernel
theorem dd_X7_advance : yX7_advance.cls = RX7 ∧ yX7_advance.cls ≠ "java/lang/invoke/MethodHandle" ∧ yX7_advance.cls ≠ "java/lang/invoke/VarHandle" ∧ (parseMethodDescriptor yX7_advance.desc).map (fun d => d.parameters.length) = some 0 := by decide +kernel
theorem dd_X7_isDigit : yX7_isDigit.cls = RX7 ∧ yX7_isDigit.cls ≠ "java/lang/invoke/MethodHandle" ∧ yX7_isDigit.cls ≠ "java/lang/invoke/VarHandle" ∧ (parseMethodDescriptor yX7_isDigit.desc).map (fun d => d.parameters.length) = some 1 := by decide +kernel
theorem dd_X7_isLetter : yX7_isLetter.cls = RX7 ∧ yX7_isLetter.cls ≠ "java/lang/invoke/MethodHandle" ∧ yX7_isLetter.cls ≠ "java/lang/invoke/VarHandle" ∧ (parseMethodDescriptor yX7_isLetter.desc).map (fun d => d.parameters.length) = some 1 := by decide +kernel
theorem dd_X7_isNext : yX7_isNext.cls = RX7 ∧ yX7_isNext.cls ≠ "java/lang/invoke/MethodHandle" ∧ yX7_isNext.cls ≠ "java/lang/invoke/VarHandle" ∧ (parseMethodDescriptor yX7_isNext.desc).map (fun d => d.parameters.length) = some 1 := by decide +kernel
theorem dd_X7_kindOfSign : yX7_kindOfSign.cls = RX7 ∧ yX7_kindOfSign.cls ≠ "java/lang/invoke/MethodHandle" ∧ yX7_kindOfSign.cls ≠ "java/lang/invoke/VarHandle" ∧ (parseMethodDescriptor yX7_kindOfSign.desc).map (fun d => d.parameters.length) = some 1 := by decide +kernel
theorem dd_X7_readNumber : yX7_readNumber.cls = RX7 ∧ yX7_readNumber.cls ≠ "java/lang/invoke/MethodHandle" ∧ yX7_readNumber.cls ≠ "java/lang/invoke/VarHandle" ∧ (parseMethodDescriptor yX7_readNumber.desc).map (fun d => d.parameters.length) = some 0 := by decide +kernel
theorem dd_X7_readSign : yX7_readSign.cls = RX7 ∧ yX7_readSign.cls ≠ "java/lang/invoke/MethodHandle" ∧ yX7_readSign.cls ≠ "java/lang/invoke/VarHandle" ∧ (parseMethodDescriptor yX7_readSign.desc).map (fun d => d.parameters.length) = some 1 := by decide +kernel
theorem dd_X7_readWord : yX7_readWord.cls = RX7 ∧ yX7_readWord.cls ≠ "java/lang/invoke/MethodHandle" ∧ yX7_readWord.cls ≠ "java/lang/invoke/VarHandle" ∧ (parseMethodDescriptor yX7_readWord.desc).map (fun d => d.parameters.length) = some 0 := by decide +kernel
theorem dd_X7_start : yX7_start.cls = RX7 ∧ yX7_start.cls ≠ "java/lang/invoke/MethodHandle" ∧ yX7_start.cls ≠ "java/lang/invoke/VarHandle" ∧ (parseMethodDescriptor yX7_start.desc).map (fun d => d.parameters.length) = some 1 := by decide +kernel
theorem dd_X8_forget : yX8_forget.cls = RX8 ∧ yX8_forget.cls ≠ "java/lang/invoke/MethodHandle" ∧ yX8_forget.cls ≠ "java/lang/invoke/VarHandle" ∧ (parseMethodDescriptor yX8_forget.desc).map (fun d => d.parameters.length) = some 0 := by decide +kernel
theorem dd_X8_note : yX8_note.cls = RX8 ∧ yX8_note.cls ≠ "java/lang/invoke/MethodHandle" ∧ yX8_note.cls ≠ "java/lang/invoke/VarHandle" ∧ (parseMethodDescriptor yX8_note.desc).map (fun d => d.parameters.length) = some 2 := by decide +kernel
theorem dd_X8_takeBack : yX8_takeBack.cls = RX8 ∧ yX8_takeBack.cls ≠ "java/lang/invoke/MethodHandle" ∧ yX8_takeBack.cls ≠ "java/lang/invoke/VarHandle" ∧ (parseMethodDescriptor yX8_takeBack.desc).map (fun d => d.parameters.length) = some 1 := by decide +kernel
theorem dd_X10_against : yX10_against.cls = RX10 ∧ yX10_against.cls ≠ "java/lang/invoke/MethodHandle" ∧ yX10_against.cls ≠ "java/lang/invoke/VarHandle" ∧ (parseMethodDescriptor yX10_against.desc).map (fun d => d.parameters.length) = some 3 := by decide +kernel
theorem dd_X10_ahead : yX10_ahead.cls = RX10 ∧ yX10_ahead.cls ≠ "java/lang/invoke/MethodHandle" ∧ yX10_ahead.cls ≠ "java/lang/invoke/VarHandle" ∧ (parseMethodDescriptor yX10_ahead.desc).map (fun d => d.parameters.length) = some 2 := by decide +kernel
theorem dd_X10_areTwo : yX10_areTwo.cls = RX10 ∧ yX10_areTwo.cls ≠ "java/lang/invoke/MethodHandle" ∧ yX10_areTwo.cls ≠ "java/lang/invoke/VarHandle" ∧ (parseMethodDescriptor yX10_areTwo.desc).map (fun d => d.parameters.length) = some 2 := by decide +kernel
theorem dd_X10_atFirst : yX10_atFirst.cls = RX10 ∧ yX10_atFirst.cls ≠ "java/lang/invoke/MethodHandle" ∧ yX10_atFirst.cls ≠ "java/lang/invoke/VarHandle" ∧ (parseMethodDescriptor yX10_atFirst.desc).map (fun d => d.parameters.length) = some 1 := by decide +kernel
theorem dd_X10_atMost : yX10_atMost.cls = RX10 ∧ yX10_atMost.cls ≠ "java/lang/invoke/MethodHandle" ∧ yX10_atMost.cls ≠ "java/lang/invoke/VarHandle" ∧ (parseMethodDescriptor yX10_atMost.desc).map (fun d => d.parameters.length) = some 0 := by decide +kernel
theorem dd_X10_back : yX10_back.cls = RX10 ∧ yX10_back.cls ≠ "java/lang/invoke/MethodHandle" ∧ yX10_back.cls ≠ "java/lang/invoke/VarHandle" ∧ (parseMethodDescriptor yX10_back.desc).map (fun d => d.parameters.length) = some 0 := by decide +kernel
theorem dd_X10_begin : yX10_begin.cls = RX10 ∧ yX10_begin.cls ≠ "java/lang/invoke/MethodHandle" ∧ yX10_begin.cls ≠ "java/lang/invoke/VarHandle" ∧ (parseMethodDescriptor yX10_begin.desc).map (fun d => d.parameters.length) = some 0 := by decide +kernel
theorem dd_X10_bind : yX10_bind.cls = RX10 ∧ yX10_bind.cls ≠ "java/lang/invoke/MethodHandle" ∧ yX10_bind.cls ≠ "java/lang/invoke/VarHandle" ∧ (parseMethodDescriptor yX10_bind.desc).map (fun d => d.parameters.length) = some 1 := by decide +kernel
theorem dd_X10_boundLaw : yX10_boundLaw.cls = RX10 ∧ yX10_boundLaw.cls ≠ "java/lang/invoke/MethodHandle" ∧ yX10_boundLaw.cls ≠ "java/lang/invoke/VarHandle" ∧ (parseMethodDescriptor yX10_boundLaw.desc).map (fun d => d.parameters.length) = some 3 := by decide +kernel
theorem dd_X10_bounded : yX10_bounded.cls = RX10 ∧ yX10_bounded.cls ≠ "java/lang/invoke/MethodHandle" ∧ yX10_bounded.cls ≠ "java/lang/invoke/VarHandle" ∧ (parseMethodDescriptor yX10_bounded.desc).map (fun d => d.parameters.length) = some 1 := by decide +kernel
theorem dd_X10_bounds : yX10_bounds.cls = RX10 ∧ yX10_bounds.cls ≠ "java/lang/invoke/MethodHandle" ∧ yX10_bounds.cls ≠ "java/lang/invoke/VarHandle" ∧ (parseMethodDescriptor yX10_bounds.desc).map (fun d => d.parameters.length) = some 1 := by decide +kernel
theorem dd_X10_boundsOf : yX10_boundsOf.cls = RX10 ∧ yX10_boundsOf.cls ≠ "java/lang/invoke/MethodHandle" ∧ yX10_boundsOf.cls ≠ "java/lang/invoke/VarHandle" ∧ (parseMethodDescriptor yX10_boundsOf.desc).map (fun d => d.parameters.length) = some 1 := by decide +kernel
theorem dd_X10_chance : yX10_chance.cls = RX10 ∧ yX10_chance.cls ≠ "java/lang/invoke/MethodHandle" ∧ yX10_chance.cls ≠ "java/lang/invoke/VarHandle" ∧ (parseMethodDescriptor yX10_chance.desc).map (fun d => d.parameters.length) = some 3 := by decide +kernel
theorem dd_X10_child : yX10_child.cls = RX10 ∧ yX10_child.cls ≠ "java/lang/invoke/MethodHandle" ∧ yX10_child.cls ≠ "java/lang/invoke/VarHandle" ∧ (parseMethodDescriptor yX10_child.desc).map (fun d => d.parameters.length) = some 1 := by decide +kernel
theorem dd_X10_compares : yX10_compares.cls = RX10 ∧ yX10_compares.cls ≠ "java/lang/invoke/MethodHandle" ∧ yX10_compares.cls ≠ "java/lang/invoke/VarHandle" ∧ (parseMethodDescriptor yX10_compares.desc).map (fun d => d.parameters.length) = some 3 := by decide +kernel
theorem dd_X10_copies : yX10_copies.cls = RX10 ∧ yX10_copies.cls ≠ "java/lang/invoke/MethodHandle" ∧ yX10_copies.cls ≠ "java/lang/invoke/VarHandle" ∧ (parseMethodDescriptor yX10_copies.desc).map (fun d => d.parameters.length) = some 2 := by decide +kernel
theorem dd_X10_count : yX10_count.cls = RX10 ∧ yX10_count.cls ≠ "java/lang/invoke/MethodHandle" ∧ yX10_count.cls ≠ "java/lang/invoke/VarHandle" ∧ (parseMethodDescriptor yX10_count.desc).map (fun d => d.parameters.length) = some 1 := by decide +kernel
theorem dd_X10_deathOf : yX10_deathOf.cls = RX10 ∧ yX10_deathOf.cls ≠ "java/lang/invoke/MethodHandle" ∧ yX10_deathOf.cls ≠ "java/lang/invoke/VarHandle" ∧ (parseMethodDescriptor yX10_deathOf.desc).map (fun d => d.parameters.length) = some 2 := by decide +kernel
theorem dd_X10_dies : yX10_dies.cls = RX10 ∧ yX10_dies.cls ≠ "java/lang/invoke/MethodHandle" ∧ yX10_dies.cls ≠ "java/lang/invoke/VarHandle" ∧ (parseMethodDescriptor yX10_dies.desc).map (fun d => d.parameters.length) = some 2 := by decide +kernel
theorem dd_X10_dropHeld : yX10_dropHeld.cls = RX10 ∧ yX10_dropHeld.cls ≠ "java/lang/invoke/MethodHandle" ∧ yX10_dropHeld.cls ≠ "java/lang/invoke/VarHandle" ∧ (parseMethodDescriptor yX10_dropHeld.desc).map (fun d => d.parameters.length) = some 0 := by decide +kernel
theorem dd_X10_fails : yX10_fails.cls = RX10 ∧ yX10_fails.cls ≠ "java/lang/invoke/MethodHandle" ∧ yX10_fails.cls ≠ "java/lang/invoke/VarHandle" ∧ (parseMethodDescriptor yX10_fails.desc).map (fun d => d.parameters.length) = some 1 := by decide +kernel
theorem dd_X10_falls : yX10_falls.cls = RX10 ∧ yX10_falls.cls ≠ "java/lang/invoke/MethodHandle" ∧ yX10_falls.cls ≠ "java/lang/invoke/VarHandle" ∧ (parseMethodDescriptor yX10_falls.desc).map (fun d => d.parameters.length) = some 1 := by decide +kernel
theorem dd_X10_fallsBy : yX10_fallsBy.cls = RX10 ∧ yX10_fallsBy.cls ≠ "java/lang/invoke/MethodHandle" ∧ yX10_fallsBy.cls ≠ "java/lang/invoke/VarHandle" ∧ (parseMethodDescriptor yX10_fallsBy.desc).map (fun d => d.parameters.length) = some 1 := by decide +kernel
theorem dd_X10_fault : yX10_fault.cls = RX10 ∧ yX10_fault.cls ≠ "java/lang/invoke/MethodHandle" ∧ yX10_fault.cls ≠ "java/lang/invoke/VarHandle" ∧ (parseMethodDescriptor yX10_fault.desc).map (fun d => d.parameters.length) = some 1 := by decide +kernel
theorem dd_X10_feed : yX10_feed.cls = RX10 ∧ yX10_feed.cls ≠ "java/lang/invoke/MethodHandle" ∧ yX10_feed.cls ≠ "java/lang/invoke/VarHandle" ∧ (parseMethodDescriptor yX10_feed.desc).map (fun d => d.parameters.length) = some 5 := by decide +kernel
theorem dd_X10_find : yX10_find.cls = RX10 ∧ yX10_find.cls ≠ "java/lang/invoke/MethodHandle" ∧ yX10_find.cls ≠ "java/lang/invoke/VarHandle" ∧ (parseMethodDescriptor yX10_find.desc).map (fun d => d.parameters.length) = some 4 := by decide +kernel
theorem dd_X10_fits : yX10_fits.cls = RX10 ∧ yX10_fits.cls ≠ "java/lang/invoke/MethodHandle" ∧ yX10_fits.cls ≠ "java/lang/invoke/VarHandle" ∧ (parseMethodDescriptor yX10_fits.desc).map (fun d => d.parameters.length) = some 2 := by decide +kernel
theorem dd_X10_go : yX10_go.cls = RX10 ∧ yX10_go.cls ≠ "java/lang/invoke/MethodHandle" ∧ yX10_go.cls ≠ "java/lang/invoke/VarHandle" ∧ (parseMethodDescriptor yX10_go.desc).map (fun d => d.parameters.length) = some 1 := by decide +kernel
theorem dd_X10_goMany : yX10_goMany.cls = RX10 ∧ yX10_goMany.cls ≠ "java/lang/invoke/MethodHandle" ∧ yX10_goMany.cls ≠ "java/lang/invoke/VarHandle" ∧ (parseMethodDescriptor yX10_goMany.desc).map (fun d => d.parameters.length) = some 1 := by decide +kernel
theorem dd_X10_grown : yX10_grown.cls = RX10 ∧ yX10_grown.cls ≠ "java/lang/invoke/MethodHandle" ∧ yX10_grown.cls ≠ "java/lang/invoke/VarHandle" ∧ (parseMethodDescriptor yX10_grown.desc).map (fun d => d.parameters.length) = some 3 := by decide +kernel
theorem dd_X10_hasOf : yX10_hasOf.cls = RX10 ∧ yX10_hasOf.cls ≠ "java/lang/invoke/MethodHandle" ∧ yX10_hasOf.cls ≠ "java/lang/invoke/VarHandle" ∧ (parseMethodDescriptor yX10_hasOf.desc).map (fun d => d.parameters.length) = some 1 := by decide +kernel
theorem dd_X10_house : yX10_house.cls = RX10 ∧ yX10_house.cls ≠ "java/lang/invoke/MethodHandle" ∧ yX10_house.cls ≠ "java/lang/invoke/VarHandle" ∧ (parseMethodDescriptor yX10_house.desc).map (fun d => d.parameters.length) = some 2 := by decide +kernel
theorem dd_X10_houseLine : yX10_houseLine.cls = RX10 ∧ yX10_houseLine.cls ≠ "java/lang/invoke/MethodHandle" ∧ yX10_houseLine.cls ≠ "java/lang/invoke/VarHandle" ∧ (parseMethodDescriptor yX10_houseLine.desc).map (fun d => d.parameters.length) = some 0 := by decide +kernel
theorem dd_X10_hush : yX10_hush.cls = RX10 ∧ yX10_hush.cls ≠ "java/lang/invoke/MethodHandle" ∧ yX10_hush.cls ≠ "java/lang/invoke/VarHandle" ∧ (parseMethodDescriptor yX10_hush.desc).map (fun d => d.parameters.length) = some 2 := by decide +kernel
theorem dd_X10_isCounted : yX10_isCounted.cls = RX10 ∧ yX10_isCounted.cls ≠ "java/lang/invoke/MethodHandle" ∧ yX10_isCounted.cls ≠ "java/lang/invoke/VarHandle" ∧ (parseMethodDescriptor yX10_isCounted.desc).map (fun d => d.parameters.length) = some 0 := by decide +kernel
theorem dd_X10_isDigit : yX10_isDigit.cls = RX10 ∧ yX10_isDigit.cls ≠ "java/lang/invoke/MethodHandle" ∧ yX10_isDigit.cls ≠ "java/lang/invoke/VarHandle" ∧ (parseMethodDescriptor yX10_isDigit.desc).map (fun d => d.parameters.length) = some 1 := by decide +kernel
theorem dd_X10_isDying : yX10_isDying.cls = RX10 ∧ yX10_isDying.cls ≠ "java/lang/invoke/MethodHandle" ∧ yX10_isDying.cls ≠ "java/lang/invoke/VarHandle" ∧ (parseMethodDescriptor yX10_isDying.desc).map (fun d => d.parameters.length) = some 2 := by decide +kernel
theorem dd_X10_isHouse : yX10_isHouse.cls = RX10 ∧ yX10_isHouse.cls ≠ "java/lang/invoke/MethodHandle" ∧ yX10_isHouse.cls ≠ "java/lang/invoke/VarHandle" ∧ (parseMethodDescriptor yX10_isHouse.desc).map (fun d => d.parameters.length) = some 1 := by decide +kernel
theorem dd_X10_isIn : yX10_isIn.cls = RX10 ∧ yX10_isIn.cls ≠ "java/lang/invoke/MethodHandle" ∧ yX10_isIn.cls ≠ "java/lang/invoke/VarHandle" ∧ (parseMethodDescriptor yX10_isIn.desc).map (fun d => d.parameters.length) = some 3 := by decide +kernel
theorem dd_X10_isKey : yX10_isKey.cls = RX10 ∧ yX10_isKey.cls ≠ "java/lang/invoke/MethodHandle" ∧ yX10_isKey.cls ≠ "java/lang/invoke/VarHandle" ∧ (parseMethodDescriptor yX10_isKey.desc).map (fun d => d.parameters.length) = some 1 := by decide +kernel
theorem dd_X10_isOf : yX10_isOf.cls = RX10 ∧ yX10_isOf.cls ≠ "java/lang/invoke/MethodHandle" ∧ yX10_isOf.cls ≠ "java/lang/invoke/VarHandle" ∧ (parseMethodDescriptor yX10_isOf.desc).map (fun d => d.parameters.length) = some 2 := by decide +kernel
theorem dd_X10_isOn : yX10_isOn.cls = RX10 ∧ yX10_isOn.cls ≠ "java/lang/invoke/MethodHandle" ∧ yX10_isOn.cls ≠ "java/lang/invoke/VarHandle" ∧ (parseMethodDescriptor yX10_isOn.desc).map (fun d => d.parameters.length) = some 2 := by decide +kernel
theorem dd_X10_isOnNow : yX10_isOnNow.cls = RX10 ∧ yX10_isOnNow.cls ≠ "java/lang/invoke/MethodHandle" ∧ yX10_isOnNow.cls ≠ "java/lang/invoke/VarHandle" ∧ (parseMethodDescriptor yX10_isOnNow.desc).map (fun d => d.parameters.length) = some 1 := by decide +kernel
theorem dd_X10_isSign : yX10_isSign.cls = RX10 ∧ yX10_isSign.cls ≠ "java/lang/invoke/MethodHandle" ∧ yX10_isSign.cls ≠ "java/lang/invoke/VarHandle" ∧ (parseMethodDescriptor yX10_isSign.desc).map (fun d => d.parameters.length) = some 1 := by decide +kernel
theorem dd_X10_isSmall : yX10_isSmall.cls = RX10 ∧ yX10_isSmall.cls ≠ "java/lang/invoke/MethodHandle" ∧ yX10_isSmall.cls ≠ "java/lang/invoke/VarHandle" ∧ (parseMethodDescriptor yX10_isSmall.desc).map (fun d => d.parameters.length) = some 1 := by decide +kernel
theorem dd_X10_isSo : yX10_isSo.cls = RX10 ∧ yX10_isSo.cls ≠ "java/lang/invoke/MethodHandle" ∧ yX10_isSo.cls ≠ "java/lang/invoke/VarHandle" ∧ (parseMethodDescriptor yX10_isSo.desc).map (fun d => d.parameters.length) = some 1 := by decide +kernel
theorem dd_X10_keep : yX10_keep.cls = RX10 ∧ yX10_keep.cls ≠ "java/lang/invoke/MethodHandle" ∧ yX10_keep.cls ≠ "java/lang/invoke/VarHandle" ∧ (parseMethodDescriptor yX10_keep.desc).map (fun d => d.parameters.length) = some 0 := by decide +kernel
theorem dd_X10_keepText : yX10_keepText.cls = RX10 ∧ yX10_keepText.cls ≠ "java/lang/invoke/MethodHandle" ∧ yX10_keepText.cls ≠ "java/lang/invoke/VarHandle" ∧ (parseMethodDescriptor yX10_keepText.desc).map (fun d => d.parameters.length) = some 0 := by decide +kernel
theorem dd_X10_known : yX10_known.cls = RX10 ∧ yX10_known.cls ≠ "java/lang/invoke/MethodHandle" ∧ yX10_known.cls ≠ "java/lang/invoke/VarHandle" ∧ (parseMethodDescriptor yX10_known.desc).map (fun d => d.parameters.length) = some 1 := by decide +kernel
theorem dd_X10_knownBy : yX10_knownBy.cls = RX10 ∧ yX10_knownBy.cls ≠ "java/lang/invoke/MethodHandle" ∧ yX10_knownBy.cls ≠ "java/lang/invoke/VarHandle" ∧ (parseMethodDescriptor yX10_knownBy.desc).map (fun d => d.parameters.length) = some 0 := by decide +kernel
theorem dd_X10_law : yX10_law.cls = RX10 ∧ yX10_law.cls ≠ "java/lang/invoke/MethodHandle" ∧ yX10_law.cls ≠ "java/lang/invoke/VarHandle" ∧ (parseMethodDescriptor yX10_law.desc).map (fun d => d.parameters.length) = some 2 := by decide +kernel
theorem dd_X10_lawOf : yX10_lawOf.cls = RX10 ∧ yX10_lawOf.cls ≠ "java/lang/invoke/MethodHandle" ∧ yX10_lawOf.cls ≠ "java/lang/invoke/VarHandle" ∧ (parseMethodDescriptor yX10_lawOf.desc).map (fun d => d.parameters.length) = some 1 := by decide +kernel
theorem dd_X10_layNames : yX10_layNames.cls = RX10 ∧ yX10_layNames.cls ≠ "java/lang/invoke/MethodHandle" ∧ yX10_layNames.cls ≠ "java/lang/invoke/VarHandle" ∧ (parseMethodDescriptor yX10_layNames.desc).map (fun d => d.parameters.length) = some 2 := by decide +kernel
theorem dd_X10_layTried : yX10_layTried.cls = RX10 ∧ yX10_layTried.cls ≠ "java/lang/invoke/MethodHandle" ∧ yX10_layTried.cls ≠ "java/lang/invoke/VarHandle" ∧ (parseMethodDescriptor yX10_layTried.desc).map (fun d => d.parameters.length) = some 0 := by decide +kernel
theorem dd_X10_leafRead : yX10_leafRead.cls = RX10 ∧ yX10_leafRead.cls ≠ "java/lang/invoke/MethodHandle" ∧ yX10_leafRead.cls ≠ "java/lang/invoke/VarHandle" ∧ (parseMethodDescriptor yX10_leafRead.desc).map (fun d => d.parameters.length) = some 0 := by decide +kernel
theorem dd_X10_leastStep : yX10_leastStep.cls = RX10 ∧ yX10_leastStep.cls ≠ "java/lang/invoke/MethodHandle" ∧ yX10_leastStep.cls ≠ "java/lang/invoke/VarHandle" ∧ (parseMethodDescriptor yX10_leastStep.desc).map (fun d => d.parameters.length) = some 1 := by decide +kernel
theorem dd_X10_left : yX10_left.cls = RX10 ∧ yX10_left.cls ≠ "java/lang/invoke/MethodHandle" ∧ yX10_left.cls ≠ "java/lang/invoke/VarHandle" ∧ (parseMethodDescriptor yX10_left.desc).map (fun d => d.parameters.length) = some 1 := by decide +kernel
theorem dd_X10_letGo : yX10_letGo.cls = RX10 ∧ yX10_letGo.cls ≠ "java/lang/invoke/MethodHandle" ∧ yX10_letGo.cls ≠ "java/lang/invoke/VarHandle" ∧ (parseMethodDescriptor yX10_letGo.desc).map (fun d => d.parameters.length) = some 1 := by decide +kernel
theorem dd_X10_lineRead : yX10_lineRead.cls = RX10 ∧ yX10_lineRead.cls ≠ "java/lang/invoke/MethodHandle" ∧ yX10_lineRead.cls ≠ "java/lang/invoke/VarHandle" ∧ (parseMethodDescriptor yX10_lineRead.desc).map (fun d => d.parameters.length) = some 0 := by decide +kernel
theorem dd_X10_lives : yX10_lives.cls = RX10 ∧ yX10_lives.cls ≠ "java/lang/invoke/MethodHandle" ∧ yX10_lives.cls ≠ "java/lang/invoke/VarHandle" ∧ (parseMethodDescriptor yX10_lives.desc).map (fun d => d.parameters.length) = some 3 := by decide +kernel
theorem dd_X10_manyOf : yX10_manyOf.cls = RX10 ∧ yX10_manyOf.cls ≠ "java/lang/invoke/MethodHandle" ∧ yX10_manyOf.cls ≠ "java/lang/invoke/VarHandle" ∧ (parseMethodDescriptor yX10_manyOf.desc).map (fun d => d.parameters.length) = some 1 := by decide +kernel
theorem dd_X10_marries : yX10_marries.cls = RX10 ∧ yX10_marries.cls ≠ "java/lang/invoke/MethodHandle" ∧ yX10_marries.cls ≠ "java/lang/invoke/VarHandle" ∧ (parseMethodDescriptor yX10_marries.desc).map (fun d => d.parameters.length) = some 3 := by decide +kernel
theorem dd_X10_marry : yX10_marry.cls = RX10 ∧ yX10_marry.cls ≠ "java/lang/invoke/MethodHandle" ∧ yX10_marry.cls ≠ "java/lang/invoke/VarHandle" ∧ (parseMethodDescriptor yX10_marry.desc).map (fun d => d.parameters.length) = some 2 := by decide +kernel
theorem dd_X10_match : yX10_match.cls = RX10 ∧ yX10_match.cls ≠ "java/lang/invoke/MethodHandle" ∧ yX10_match.cls ≠ "java/lang/invoke/VarHandle" ∧ (parseMethodDescriptor yX10_match.desc).map (fun d => d.parameters.length) = some 1 := by decide +kernel
theorem dd_X10_mayRaise : yX10_mayRaise.cls = RX10 ∧ yX10_mayRaise.cls ≠ "java/lang/invoke/MethodHandle" ∧ yX10_mayRaise.cls ≠ "java/lang/invoke/VarHandle" ∧ (parseMethodDescriptor yX10_mayRaise.desc).map (fun d => d.parameters.length) = some 2 := by decide +kernel
theorem dd_X10_most : yX10_most.cls = RX10 ∧ yX10_most.cls ≠ "java/lang/invoke/MethodHandle" ∧ yX10_most.cls ≠ "java/lang/invoke/VarHandle" ∧ (parseMethodDescriptor yX10_most.desc).map (fun d => d.parameters.length) = some 0 := by decide +kernel
theorem dd_X10_nameMet : yX10_nameMet.cls = RX10 ∧ yX10_nameMet.cls ≠ "java/lang/invoke/MethodHandle" ∧ yX10_nameMet.cls ≠ "java/lang/invoke/VarHandle" ∧ (parseMethodDescriptor yX10_nameMet.desc).map (fun d => d.parameters.length) = some 0 := by decide +kernel
theorem dd_X10_named : yX10_named.cls = RX10 ∧ yX10_named.cls ≠ "java/lang/invoke/MethodHandle" ∧ yX10_named.cls ≠ "java/lang/invoke/VarHandle" ∧ (parseMethodDescriptor yX10_named.desc).map (fun d => d.parameters.length) = some 2 := by decide +kernel
theorem dd_X10_newName : yX10_newName.cls = RX10 ∧ yX10_newName.cls ≠ "java/lang/invoke/MethodHandle" ∧ yX10_newName.cls ≠ "java/lang/invoke/VarHandle" ∧ (parseMethodDescriptor yX10_newName.desc).map (fun d => d.parameters.length) = some 3 := by decide +kernel
theorem dd_X10_nextPart : yX10_nextPart.cls = RX10 ∧ yX10_nextPart.cls ≠ "java/lang/invoke/MethodHandle" ∧ yX10_nextPart.cls ≠ "java/lang/invoke/VarHandle" ∧ (parseMethodDescriptor yX10_nextPart.desc).map (fun d => d.parameters.length) = some 1 := by decide +kernel
theorem dd_X10_nextRaise : yX10_nextRaise.cls = RX10 ∧ yX10_nextRaise.cls ≠ "java/lang/invoke/MethodHandle" ∧ yX10_nextRaise.cls ≠ "java/lang/invoke/VarHandle" ∧ (parseMethodDescriptor yX10_nextRaise.desc).map (fun d => d.parameters.length) = some 1 := by decide +kernel
theorem dd_X10_nod : yX10_nod.cls = RX10 ∧ yX10_nod.cls ≠ "java/lang/invoke/MethodHandle" ∧ yX10_nod.cls ≠ "java/lang/invoke/VarHandle" ∧ (parseMethodDescriptor yX10_nod.desc).map (fun d => d.parameters.length) = some 1 := by decide +kernel
theorem dd_X10_noneLeft : yX10_noneLeft.cls = RX10 ∧ yX10_noneLeft.cls ≠ "java/lang/invoke/MethodHandle" ∧ yX10_noneLeft.cls ≠ "java/lang/invoke/VarHandle" ∧ (parseMethodDescriptor yX10_noneLeft.desc).map (fun d => d.parameters.length) = some 0 := by decide +kernel
theorem dd_X10_noted : yX10_noted.cls = RX10 ∧ yX10_noted.cls ≠ "java/lang/invoke/MethodHandle" ∧ yX10_noted.cls ≠ "java/lang/invoke/VarHandle" ∧ (parseMethodDescriptor yX10_noted.desc).map (fun d => d.parameters.length) = some 3 := by decide +kernel
theorem dd_X10_number : yX10_number.cls = RX10 ∧ yX10_number.cls ≠ "java/lang/invoke/MethodHandle" ∧ yX10_number.cls ≠ "java/lang/invoke/VarHandle" ∧ (parseMethodDescriptor yX10_number.desc).map (fun d => d.parameters.length) = some 2 := by decide +kernel
theorem dd_X10_number1 : yX10_number1.cls = RX10 ∧ yX10_number1.cls ≠ "java/lang/invoke/MethodHandle" ∧ yX10_number1.cls ≠ "java/lang/invoke/VarHandle" ∧ (parseMethodDescriptor yX10_number1.desc).map (fun d => d.parameters.length) = some 1 := by decide +kernel
theorem dd_X10_onMany : yX10_onMany.cls = RX10 ∧ yX10_onMany.cls ≠ "java/lang/invoke/MethodHandle" ∧ yX10_onMany.cls ≠ "java/lang/invoke/VarHandle" ∧ (parseMethodDescriptor yX10_onMany.desc).map (fun d => d.parameters.length) = some 1 := by decide +kernel
theorem dd_X10_onNow : yX10_onNow.cls = RX10 ∧ yX10_onNow.cls ≠ "java/lang/invoke/MethodHandle" ∧ yX10_onNow.cls ≠ "java/lang/invoke/VarHandle" ∧ (parseMethodDescriptor yX10_onNow.desc).map (fun d => d.parameters.length) = some 0 := by decide +kernel
theorem dd_X10_onceLine : yX10_onceLine.cls = RX10 ∧ yX10_onceLine.cls ≠ "java/lang/invoke/MethodHandle" ∧ yX10_onceLine.cls ≠ "java/lang/invoke/VarHandle" ∧ (parseMethodDescriptor yX10_onceLine.desc).map (fun d => d.parameters.length) = some 3 := by decide +kernel
theorem dd_X10_outbid : yX10_outbid.cls = RX10 ∧ yX10_outbid.cls ≠ "java/lang/invoke/MethodHandle" ∧ yX10_outbid.cls ≠ "java/lang/invoke/VarHandle" ∧ (parseMethodDescriptor yX10_outbid.desc).map (fun d => d.parameters.length) = some 0 := by decide +kernel
theorem dd_X10_packed : yX10_packed.cls = RX10 ∧ yX10_packed.cls ≠ "java/lang/invoke/MethodHandle" ∧ yX10_packed.cls ≠ "java/lang/invoke/VarHandle" ∧ (parseMethodDescriptor yX10_packed.desc).map (fun d => d.parameters.length) = some 2 := by decide +kernel
theorem dd_X10_part : yX10_part.cls = RX10 ∧ yX10_part.cls ≠ "java/lang/invoke/MethodHandle" ∧ yX10_part.cls ≠ "java/lang/invoke/VarHandle" ∧ (parseMethodDescriptor yX10_part.desc).map (fun d => d.parameters.length) = some 2 := by decide +kernel
theorem dd_X10_partLine : yX10_partLine.cls = RX10 ∧ yX10_partLine.cls ≠ "java/lang/invoke/MethodHandle" ∧ yX10_partLine.cls ≠ "java/lang/invoke/VarHandle" ∧ (parseMethodDescriptor yX10_partLine.desc).map (fun d => d.parameters.length) = some 0 := by decide +kernel
theorem dd_X10_partsGo : yX10_partsGo.cls = RX10 ∧ yX10_partsGo.cls ≠ "java/lang/invoke/MethodHandle" ∧ yX10_partsGo.cls ≠ "java/lang/invoke/VarHandle" ∧ (parseMethodDescriptor yX10_partsGo.desc).map (fun d => d.parameters.length) = some 1 := by decide +kernel
theorem dd_X10_plain : yX10_plain.cls = RX10 ∧ yX10_plain.cls ≠ "java/lang/invoke/MethodHandle" ∧ yX10_plain.cls ≠ "java/lang/invoke/VarHandle" ∧ (parseMethodDescriptor yX10_plain.desc).map (fun d => d.parameters.length) = some 0 := by decide +kernel
theorem dd_X10_plainTried : yX10_plainTried.cls = RX10 ∧ yX10_plainTried.cls ≠ "java/lang/invoke/MethodHandle" ∧ yX10_plainTried.cls ≠ "java/lang/invoke/VarHandle" ∧ (parseMethodDescriptor yX10_plainTried.desc).map (fun d => d.parameters.length) = some 0 := by decide +kernel
theorem dd_X10_put : yX10_put.cls = RX10 ∧ yX10_put.cls ≠ "java/lang/invoke/MethodHandle" ∧ yX10_put.cls ≠ "java/lang/invoke/VarHandle" ∧ (parseMethodDescriptor yX10_put.desc).map (fun d => d.parameters.length) = some 2 := by decide +kernel
theorem dd_X10_raises : yX10_raises.cls = RX10 ∧ yX10_raises.cls ≠ "java/lang/invoke/MethodHandle" ∧ yX10_raises.cls ≠ "java/lang/invoke/VarHandle" ∧ (parseMethodDescriptor yX10_raises.desc).map (fun d => d.parameters.length) = some 2 := by decide +kernel
theorem dd_X10_rank : yX10_rank.cls = RX10 ∧ yX10_rank.cls ≠ "java/lang/invoke/MethodHandle" ∧ yX10_rank.cls ≠ "java/lang/invoke/VarHandle" ∧ (parseMethodDescriptor yX10_rank.desc).map (fun d => d.parameters.length) = some 1 := by decide +kernel
theorem dd_X10_remember : yX10_remember.cls = RX10 ∧ yX10_remember.cls ≠ "java/lang/invoke/MethodHandle" ∧ yX10_remember.cls ≠ "java/lang/invoke/VarHandle" ∧ (parseMethodDescriptor yX10_remember.desc).map (fun d => d.parameters.length) = some 0 := by decide +kernel
theorem dd_X10_rival : yX10_rival.cls = RX10 ∧ yX10_rival.cls ≠ "java/lang/invoke/MethodHandle" ∧ yX10_rival.cls ≠ "java/lang/invoke/VarHandle" ∧ (parseMethodDescriptor yX10_rival.desc).map (fun d => d.parameters.length) = some 1 := by decide +kernel
theorem dd_X10_same : yX10_same.cls = RX10 ∧ yX10_same.cls ≠ "java/lang/invoke/MethodHandle" ∧ yX10_same.cls ≠ "java/lang/invoke/VarHandle" ∧ (parseMethodDescriptor yX10_same.desc).map (fun d => d.parameters.length) = some 0 := by decide +kernel
theorem dd_X10_sameIn : yX10_sameIn.cls = RX10 ∧ yX10_sameIn.cls ≠ "java/lang/invoke/MethodHandle" ∧ yX10_sameIn.cls ≠ "java/lang/invoke/VarHandle" ∧ (parseMethodDescriptor yX10_sameIn.desc).map (fun d => d.parameters.length) = some 1 := by decide +kernel
theorem dd_X10_sameOf : yX10_sameOf.cls = RX10 ∧ yX10_sameOf.cls ≠ "java/lang/invoke/MethodHandle" ∧ yX10_sameOf.cls ≠ "java/lang/invoke/VarHandle" ∧ (parseMethodDescriptor yX10_sameOf.desc).map (fun d => d.parameters.length) = some 1 := by decide +kernel
theorem dd_X10_see : yX10_see.cls = RX10 ∧ yX10_see.cls ≠ "java/lang/invoke/MethodHandle" ∧ yX10_see.cls ≠ "java/lang/invoke/VarHandle" ∧ (parseMethodDescriptor yX10_see.desc).map (fun d => d.parameters.length) = some 3 := by decide +kernel
theorem dd_X10_shares : yX10_shares.cls = RX10 ∧ yX10_shares.cls ≠ "java/lang/invoke/MethodHandle" ∧ yX10_shares.cls ≠ "java/lang/invoke/VarHandle" ∧ (parseMethodDescriptor yX10_shares.desc).map (fun d => d.parameters.length) = some 2 := by decide +kernel
theorem dd_X10_signToken : yX10_signToken.cls = RX10 ∧ yX10_signToken.cls ≠ "java/lang/invoke/MethodHandle" ∧ yX10_signToken.cls ≠ "java/lang/invoke/VarHandle" ∧ (parseMethodDescriptor yX10_signToken.desc).map (fun d => d.parameters.length) = some 0 := by decide +kernel
theorem dd_X10_signs : yX10_signs.cls = RX10 ∧ yX10_signs.cls ≠ "java/lang/invoke/MethodHandle" ∧ yX10_signs.cls ≠ "java/lang/invoke/VarHandle" ∧ (parseMethodDescriptor yX10_signs.desc).map (fun d => d.parameters.length) = some 0 := by decide +kernel
theorem dd_X10_stays : yX10_stays.cls = RX10 ∧ yX10_stays.cls ≠ "java/lang/invoke/MethodHandle" ∧ yX10_stays.cls ≠ "java/lang/invoke/VarHandle" ∧ (parseMethodDescriptor yX10_stays.desc).map (fun d => d.parameters.length) = some 5 := by decide +kernel
theorem dd_X10_stepOf : yX10_stepOf.cls = RX10 ∧ yX10_stepOf.cls ≠ "java/lang/invoke/MethodHandle" ∧ yX10_stepOf.cls ≠ "java/lang/invoke/VarHandle" ∧ (parseMethodDescriptor yX10_stepOf.desc).map (fun d => d.parameters.length) = some 1 := by decide +kernel
theorem dd_X10_still : yX10_still.cls = RX10 ∧ yX10_still.cls ≠ "java/lang/invoke/MethodHandle" ∧ yX10_still.cls ≠ "java/lang/invoke/VarHandle" ∧ (parseMethodDescriptor yX10_still.desc).map (fun d => d.parameters.length) = some 0 := by decide +kernel
theorem dd_X10_strike : yX10_strike.cls = RX10 ∧ yX10_strike.cls ≠ "java/lang/invoke/MethodHandle" ∧ yX10_strike.cls ≠ "java/lang/invoke/VarHandle" ∧ (parseMethodDescriptor yX10_strike.desc).map (fun d => d.parameters.length) = some 1 := by decide +kernel
theorem dd_X10_sumRead : yX10_sumRead.cls = RX10 ∧ yX10_sumRead.cls ≠ "java/lang/invoke/MethodHandle" ∧ yX10_sumRead.cls ≠ "java/lang/invoke/VarHandle" ∧ (parseMethodDescriptor yX10_sumRead.desc).map (fun d => d.parameters.length) = some 0 := by decide +kernel
theorem dd_X10_take : yX10_take.cls = RX10 ∧ yX10_take.cls ≠ "java/lang/invoke/MethodHandle" ∧ yX10_take.cls ≠ "java/lang/invoke/VarHandle" ∧ (parseMethodDescriptor yX10_take.desc).map (fun d => d.parameters.length) = some 2 := by decide +kernel
theorem dd_X10_text : yX10_text.cls = RX10 ∧ yX10_text.cls ≠ "java/lang/invoke/MethodHandle" ∧ yX10_text.cls ≠ "java/lang/invoke/VarHandle" ∧ (parseMethodDescriptor yX10_text.desc).map (fun d => d.parameters.length) = some 1 := by decide +kernel
theorem dd_X10_thrown : yX10_thrown.cls = RX10 ∧ yX10_thrown.cls ≠ "java/lang/invoke/MethodHandle" ∧ yX10_thrown.cls ≠ "java/lang/invoke/VarHandle" ∧ (parseMethodDescriptor yX10_thrown.desc).map (fun d => d.parameters.length) = some 0 := by decide +kernel
theorem dd_X10_times : yX10_times.cls = RX10 ∧ yX10_times.cls ≠ "java/lang/invoke/MethodHandle" ∧ yX10_times.cls ≠ "java/lang/invoke/VarHandle" ∧ (parseMethodDescriptor yX10_times.desc).map (fun d => d.parameters.length) = some 2 := by decide +kernel
theorem dd_X10_token : yX10_token.cls = RX10 ∧ yX10_token.cls ≠ "java/lang/invoke/MethodHandle" ∧ yX10_token.cls ≠ "java/lang/invoke/VarHandle" ∧ (parseMethodDescriptor yX10_token.desc).map (fun d => d.parameters.length) = some 0 := by decide +kernel
theorem dd_X10_tried : yX10_tried.cls = RX10 ∧ yX10_tried.cls ≠ "java/lang/invoke/MethodHandle" ∧ yX10_tried.cls ≠ "java/lang/invoke/VarHandle" ∧ (parseMethodDescriptor yX10_tried.desc).map (fun d => d.parameters.length) = some 3 := by decide +kernel
theorem dd_X10_turn : yX10_turn.cls = RX10 ∧ yX10_turn.cls ≠ "java/lang/invoke/MethodHandle" ∧ yX10_turn.cls ≠ "java/lang/invoke/VarHandle" ∧ (parseMethodDescriptor yX10_turn.desc).map (fun d => d.parameters.length) = some 0 := by decide +kernel
theorem dd_X10_turnOf : yX10_turnOf.cls = RX10 ∧ yX10_turnOf.cls ≠ "java/lang/invoke/MethodHandle" ∧ yX10_turnOf.cls ≠ "java/lang/invoke/VarHandle" ∧ (parseMethodDescriptor yX10_turnOf.desc).map (fun d => d.parameters.length) = some 1 := by decide +kernel
theorem dd_X10_undo : yX10_undo.cls = RX10 ∧ yX10_undo.cls ≠ "java/lang/invoke/MethodHandle" ∧ yX10_undo.cls ≠ "java/lang/invoke/VarHandle" ∧ (parseMethodDescriptor yX10_undo.desc).map (fun d => d.parameters.length) = some 0 := by decide +kernel
theorem dd_X10_valueOf : yX10_valueOf.cls = RX10 ∧ yX10_valueOf.cls ≠ "java/lang/invoke/MethodHandle" ∧ yX10_valueOf.cls ≠ "java/lang/invoke/VarHandle" ∧ (parseMethodDescriptor yX10_valueOf.desc).map (fun d => d.parameters.length) = some 1 := by decide +kernel
theorem dd_X10_waitsFor : yX10_waitsFor.cls = RX10 ∧ yX10_waitsFor.cls ≠ "java/lang/invoke/MethodHandle" ∧ yX10_waitsFor.cls ≠ "java/lang/invoke/VarHandle" ∧ (parseMethodDescriptor yX10_waitsFor.desc).map (fun d => d.parameters.length) = some 1 := by decide +kernel
theorem dd_X10_wantsRaise : yX10_wantsRaise.cls = RX10 ∧ yX10_wantsRaise.cls ≠ "java/lang/invoke/MethodHandle" ∧ yX10_wantsRaise.cls ≠ "java/lang/invoke/VarHandle" ∧ (parseMethodDescriptor yX10_wantsRaise.desc).map (fun d => d.parameters.length) = some 2 := by decide +kernel
theorem dd_X10_when : yX10_when.cls = RX10 ∧ yX10_when.cls ≠ "java/lang/invoke/MethodHandle" ∧ yX10_when.cls ≠ "java/lang/invoke/VarHandle" ∧ (parseMethodDescriptor yX10_when.desc).map (fun d => d.parameters.length) = some 3 := by decide +kernel
theorem dd_X10_will : yX10_will.cls = RX10 ∧ yX10_will.cls ≠ "java/lang/invoke/MethodHandle" ∧ yX10_will.cls ≠ "java/lang/invoke/VarHandle" ∧ (parseMethodDescriptor yX10_will.desc).map (fun d => d.parameters.length) = some 2 := by decide +kernel
theorem dd_X10_wordAt : yX10_wordAt.cls = RX10 ∧ yX10_wordAt.cls ≠ "java/lang/invoke/MethodHandle" ∧ yX10_wordAt.cls ≠ "java/lang/invoke/VarHandle" ∧ (parseMethodDescriptor yX10_wordAt.desc).map (fun d => d.parameters.length) = some 2 := by decide +kernel
theorem dd_X10_wrong : yX10_wrong.cls = RX10 ∧ yX10_wrong.cls ≠ "java/lang/invoke/MethodHandle" ∧ yX10_wrong.cls ≠ "java/lang/invoke/VarHandle" ∧ (parseMethodDescriptor yX10_wrong.desc).map (fun d => d.parameters.length) = some 1 := by decide +kernel
theorem dd_X10_yearGoes : yX10_yearGoes.cls = RX10 ∧ yX10_yearGoes.cls ≠ "java/lang/invoke/MethodHandle" ∧ yX10_yearGoes.cls ≠ "java/lang/invoke/VarHandle" ∧ (parseMethodDescriptor yX10_yearGoes.desc).map (fun d => d.parameters.length) = some 1 := by decide +kernel
theorem dd_J6_bitCount_0f7a4 : yJ6_bitCount_0f7a4.cls = RJ6 ∧ yJ6_bitCount_0f7a4.cls ≠ "java/lang/invoke/MethodHandle" ∧ yJ6_bitCount_0f7a4.cls ≠ "java/lang/invoke/VarHandle" ∧ (parseMethodDescriptor yJ6_bitCount_0f7a4.desc).map (fun d => d.parameters.length) = some 1 := by decide +kernel
theorem dd_J9_abs_067f4 : yJ9_abs_067f4.cls = RJ9 ∧ yJ9_abs_067f4.cls ≠ "java/lang/invoke/MethodHandle" ∧ yJ9_abs_067f4.cls ≠ "java/lang/invoke/VarHandle" ∧ (parseMethodDescriptor yJ9_abs_067f4.desc).map (fun d => d.parameters.length) = some 1 := by decide +kernel
theorem dd_J9_max_7cf53 : yJ9_max_7cf53.cls = RJ9 ∧ yJ9_max_7cf53.cls ≠ "java/lang/invoke/MethodHandle" ∧ yJ9_max_7cf53.cls ≠ "java/lang/invoke/VarHandle" ∧ (parseMethodDescriptor yJ9_max_7cf53.desc).map (fun d => d.parameters.length) = some 2 := by decide +kernel
theorem dd_J9_max_f86c9 : yJ9_max_f86c9.cls = RJ9 ∧ yJ9_max_f86c9.cls ≠ "java/lang/invoke/MethodHandle" ∧ yJ9_max_f86c9.cls ≠ "java/lang/invoke/VarHandle" ∧ (parseMethodDescriptor yJ9_max_f86c9.desc).map (fun d => d.parameters.length) = some 2 := by decide +kernel
theorem dd_J9_min_7cf53 : yJ9_min_7cf53.cls = RJ9 ∧ yJ9_min_7cf53.cls ≠ "java/lang/invoke/MethodHandle" ∧ yJ9_min_7cf53.cls ≠ "java/lang/invoke/VarHandle" ∧ (parseMethodDescriptor yJ9_min_7cf53.desc).map (fun d => d.parameters.length) = some 2 := by decide +kernel
theorem dd_J9_min_f86c9 : yJ9_min_f86c9.cls = RJ9 ∧ yJ9_min_f86c9.cls ≠ "java/lang/invoke/MethodHandle" ∧ yJ9_min_f86c9.cls ≠ "java/lang/invoke/VarHandle" ∧ (parseMethodDescriptor yJ9_min_f86c9.desc).map (fun d => d.parameters.length) = some 2 := by decide +kernel
