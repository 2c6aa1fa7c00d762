theorem tw_154 : Cond.instanceMethod y_Fm_isFinite ∈ TBL := tbl_t (i := 154) (by decide +kernel) rfl
theorem tw_155 : Cond.selects "ExactNotation$Format" y_Fm_isFinite y_Fm_isFinite ∈ TBL := tbl_t (i := 155) (by decide +kernel) rfl
theorem tw_156 : Cond.code y_Fm_isFinite prog_3_method_4_code 3 (some .boolean) ∈ TBL := tbl_t (i := 156) (by decide +kernel) rfl
theorem tw_157 : Cond.methodLink "ExactNotation$Format" 39 y_Fm_exponent ∈ TBL := tbl_t (i := 157) (by decide +kernel) rfl
theorem tw_159 : Cond.instanceMethod y_Fm_exponent ∈ TBL := tbl_t (i := 159) (by decide +kernel) rfl
theorem tw_160 : Cond.instantiable "ExactNotation$Format" 6 ∈ TBL := tbl_t (i := 160) (by decide +kernel) rfl
theorem tw_161 : Cond.code y_Fm_exponent prog_3_method_8_code 3 (some .int) ∈ TBL := tbl_t (i := 161) (by decide +kernel) rfl
theorem tw_162 : Cond.methodLink "ExactNotation" 69 y_Fm_isInfinity ∈ TBL := tbl_t (i := 162) (by decide +kernel) rfl
theorem tw_163 : Cond.instanceMethod y_Fm_isInfinity ∈ TBL := tbl_t (i := 163) (by decide +kernel) rfl
theorem tw_164 : Cond.selects "ExactNotation$Format" y_Fm_isInfinity y_Fm_isInfinity ∈ TBL := tbl_t (i := 164) (by decide +kernel) rfl
theorem tw_165 : Cond.code y_Fm_isInfinity prog_3_method_5_code 3 (some .boolean) ∈ TBL := tbl_t (i := 165) (by decide +kernel) rfl
theorem tw_166 : Cond.methodLink "ExactNotation$Format" 43 y_Fm_isFinite ∈ TBL := tbl_t (i := 166) (by decide +kernel) rfl
theorem tw_167 : Cond.methodLink "ExactNotation$Format" 47 y_Fm_fraction ∈ TBL := tbl_t (i := 167) (by decide +kernel) rfl
theorem tw_169 : Cond.instanceMethod y_Fm_fraction ∈ TBL := tbl_t (i := 169) (by decide +kernel) rfl
theorem tw_170 : Cond.code y_Fm_fraction prog_3_method_9_code 3 (some .long) ∈ TBL := tbl_t (i := 170) (by decide +kernel) rfl
theorem tw_173 : Cond.methodLink "ExactNotation" 76 y_Tx_addAll ∈ TBL := tbl_t (i := 173) (by decide +kernel) rfl
theorem tw_174 : Cond.instanceMethod y_Tx_addAll ∈ TBL := tbl_t (i := 174) (by decide +kernel) rfl
theorem tw_175 : Cond.selects "ExactNotation$Text" y_Tx_addAll y_Tx_addAll ∈ TBL := tbl_t (i := 175) (by decide +kernel) rfl
theorem tw_176 : Cond.code y_Tx_addAll prog_4_method_5_code 3 none ∈ TBL := tbl_t (i := 176) (by decide +kernel) rfl
theorem tw_177 : Cond.methodLink "ExactNotation$Text" 19 y_St_length ∈ TBL := tbl_t (i := 177) (by decide +kernel) rfl
theorem tw_178 : Cond.instanceMethod y_St_length ∈ TBL := tbl_t (i := 178) (by decide +kernel) rfl
theorem tw_179 : Cond.selects "java/lang/String" y_St_length y_St_length ∈ TBL := tbl_t (i := 179) (by decide +kernel) rfl
theorem tw_180 : Cond.code y_St_length prog_14_method_54_code 1 (some .int) ∈ TBL := tbl_t (i := 180) (by decide +kernel) rfl
theorem tw_181 : Cond.methodLink "java/lang/String" 335 y_St_coder ∈ TBL := tbl_t (i := 181) (by decide +kernel) rfl
theorem tw_182 : Cond.instanceMethod y_St_coder ∈ TBL := tbl_t (i := 182) (by decide +kernel) rfl
theorem tw_183 : Cond.selects "java/lang/String" y_St_coder y_St_coder ∈ TBL := tbl_t (i := 183) (by decide +kernel) rfl
theorem tw_184 : Cond.code y_St_coder prog_14_method_152_code 1 (some .byte) ∈ TBL := tbl_t (i := 184) (by decide +kernel) rfl
theorem tw_185 : Cond.fieldLink "java/lang/String" 38 "java/lang/String" "COMPACT_STRINGS" "Z" ∈ TBL := tbl_t (i := 185) (by decide +kernel) rfl
theorem tw_187 : Cond.methodLink "ExactNotation$Text" 24 y_St_charAt ∈ TBL := tbl_t (i := 187) (by decide +kernel) rfl
theorem tw_188 : Cond.instanceMethod y_St_charAt ∈ TBL := tbl_t (i := 188) (by decide +kernel) rfl
theorem tw_189 : Cond.selects "java/lang/String" y_St_charAt y_St_charAt ∈ TBL := tbl_t (i := 189) (by decide +kernel) rfl
theorem tw_190 : Cond.code y_St_charAt prog_14_method_56_code 2 (some .char) ∈ TBL := tbl_t (i := 190) (by decide +kernel) rfl
theorem tw_191 : Cond.methodLink "java/lang/String" 492 y_St_isLatin1 ∈ TBL := tbl_t (i := 191) (by decide +kernel) rfl
theorem tw_192 : Cond.instanceMethod y_St_isLatin1 ∈ TBL := tbl_t (i := 192) (by decide +kernel) rfl
theorem tw_193 : Cond.selects "java/lang/String" y_St_isLatin1 y_St_isLatin1 ∈ TBL := tbl_t (i := 193) (by decide +kernel) rfl
theorem tw_194 : Cond.code y_St_isLatin1 prog_14_method_154_code 1 (some .boolean) ∈ TBL := tbl_t (i := 194) (by decide +kernel) rfl
theorem tw_195 : Cond.methodLink "java/lang/String" 495 y_Sl_charAt ∈ TBL := tbl_t (i := 195) (by decide +kernel) rfl
theorem tw_196 : Cond.static y_Sl_charAt ∈ TBL := tbl_t (i := 196) (by decide +kernel) rfl
theorem tw_197 : Cond.code y_Sl_charAt prog_15_method_2_code 2 (some .char) ∈ TBL := tbl_t (i := 197) (by decide +kernel) rfl
theorem tw_198 : Cond.methodLink "java/lang/StringLatin1" 9 y_St_checkIndex ∈ TBL := tbl_t (i := 198) (by decide +kernel) rfl
theorem tw_199 : Cond.static y_St_checkIndex ∈ TBL := tbl_t (i := 199) (by decide +kernel) rfl
theorem tw_200 : Cond.code y_St_checkIndex prog_14_method_155_code 2 none ∈ TBL := tbl_t (i := 200) (by decide +kernel) rfl
theorem tw_201 : Cond.fieldLink "java/lang/String" 1053 "jdk/internal/util/Preconditions" "SIOOBE_FORMATTER" "Ljava/util/function/BiFunction;" ∈ TBL := tbl_t (i := 201) (by decide +kernel) rfl
theorem tw_203 : Cond.methodLink "java/lang/String" 1059 y_jdk_internal_util_Preconditions_checkIndex ∈ TBL := tbl_t (i := 203) (by decide +kernel) rfl
theorem tw_204 : Cond.static y_jdk_internal_util_Preconditions_checkIndex ∈ TBL := tbl_t (i := 204) (by decide +kernel) rfl
theorem tw_205 : Cond.code y_jdk_internal_util_Preconditions_checkIndex prog_19_method_11_code 3 (some .int) ∈ TBL := tbl_t (i := 205) (by decide +kernel) rfl
theorem tw_206 : Cond.methodLink "java/lang/String" 498 y_java_lang_StringUTF16_charAt ∈ TBL := tbl_t (i := 206) (by decide +kernel) rfl
theorem tw_207 : Cond.static y_java_lang_StringUTF16_charAt ∈ TBL := tbl_t (i := 207) (by decide +kernel) rfl
theorem tw_208 : Cond.code y_java_lang_StringUTF16_charAt prog_16_method_83_code 2 (some .char) ∈ TBL := tbl_t (i := 208) (by decide +kernel) rfl
theorem tw_209 : Cond.methodLink "java/lang/StringUTF16" 67 y_java_lang_StringUTF16_checkIndex ∈ TBL := tbl_t (i := 209) (by decide +kernel) rfl
theorem tw_210 : Cond.static y_java_lang_StringUTF16_checkIndex ∈ TBL := tbl_t (i := 210) (by decide +kernel) rfl
theorem tw_211 : Cond.code y_java_lang_StringUTF16_checkIndex prog_16_method_91_code 2 none ∈ TBL := tbl_t (i := 211) (by decide +kernel) rfl
theorem tw_212 : Cond.methodLink "java/lang/StringUTF16" 48 y_java_lang_StringUTF16_length ∈ TBL := tbl_t (i := 212) (by decide +kernel) rfl
theorem tw_213 : Cond.static y_java_lang_StringUTF16_length ∈ TBL := tbl_t (i := 213) (by decide +kernel) rfl
theorem tw_214 : Cond.code y_java_lang_StringUTF16_length prog_16_method_6_code 1 (some .int) ∈ TBL := tbl_t (i := 214) (by decide +kernel) rfl
theorem tw_215 : Cond.methodLink "java/lang/StringUTF16" 414 y_St_checkIndex ∈ TBL := tbl_t (i := 215) (by decide +kernel) rfl
theorem tw_216 : Cond.methodLink "java/lang/StringUTF16" 71 y_java_lang_StringUTF16_getChar ∈ TBL := tbl_t (i := 216) (by decide +kernel) rfl
theorem tw_217 : Cond.static y_java_lang_StringUTF16_getChar ∈ TBL := tbl_t (i := 217) (by decide +kernel) rfl
theorem tw_218 : Cond.code y_java_lang_StringUTF16_getChar prog_16_method_5_code 2 (some .char) ∈ TBL := tbl_t (i := 218) (by decide +kernel) rfl
theorem tw_219 : Cond.fieldLink "java/lang/StringUTF16" 44 "java/lang/StringUTF16" "$assertionsDisabled" "Z" ∈ TBL := tbl_t (i := 219) (by decide +kernel) rfl
theorem tw_221 : Cond.fieldLink "java/lang/StringUTF16" 59 "java/lang/StringUTF16" "HI_BYTE_SHIFT" "I" ∈ TBL := tbl_t (i := 221) (by decide +kernel) rfl
theorem tw_223 : Cond.fieldLink "java/lang/StringUTF16" 63 "java/lang/StringUTF16" "LO_BYTE_SHIFT" "I" ∈ TBL := tbl_t (i := 223) (by decide +kernel) rfl
theorem tw_225 : Cond.methodLink "ExactNotation$Text" 28 y_Tx_add ∈ TBL := tbl_t (i := 225) (by decide +kernel) rfl
theorem tw_226 : Cond.instanceMethod y_Tx_add ∈ TBL := tbl_t (i := 226) (by decide +kernel) rfl
theorem tw_227 : Cond.selects "ExactNotation$Text" y_Tx_add y_Tx_add ∈ TBL := tbl_t (i := 227) (by decide +kernel) rfl
theorem tw_228 : Cond.code y_Tx_add prog_4_method_4_code 2 none ∈ TBL := tbl_t (i := 228) (by decide +kernel) rfl
theorem tw_229 : Cond.methodLink "ExactNotation" 40 y_Tx_length ∈ TBL := tbl_t (i := 229) (by decide +kernel) rfl
theorem tw_230 : Cond.instanceMethod y_Tx_length ∈ TBL := tbl_t (i := 230) (by decide +kernel) rfl
theorem tw_231 : Cond.selects "ExactNotation$Text" y_Tx_length y_Tx_length ∈ TBL := tbl_t (i := 231) (by decide +kernel) rfl
theorem tw_232 : Cond.code y_Tx_length prog_4_method_2_code 1 (some .int) ∈ TBL := tbl_t (i := 232) (by decide +kernel) rfl
theorem tw_233 : Cond.methodLink "ExactNotation" 79 y_Fm_coefficient ∈ TBL := tbl_t (i := 233) (by decide +kernel) rfl
theorem tw_234 : Cond.instanceMethod y_Fm_coefficient ∈ TBL := tbl_t (i := 234) (by decide +kernel) rfl
theorem tw_235 : Cond.selects "ExactNotation$Format" y_Fm_coefficient y_Fm_coefficient ∈ TBL := tbl_t (i := 235) (by decide +kernel) rfl
theorem tw_236 : Cond.code y_Fm_coefficient prog_3_method_6_code 5 (some .long) ∈ TBL := tbl_t (i := 236) (by decide +kernel) rfl
theorem tw_237 : Cond.methodLink "ExactNotation" 83 y_Fm_power ∈ TBL := tbl_t (i := 237) (by decide +kernel) rfl
theorem tw_238 : Cond.instanceMethod y_Fm_power ∈ TBL := tbl_t (i := 238) (by decide +kernel) rfl
theorem tw_239 : Cond.selects "ExactNotation$Format" y_Fm_power y_Fm_power ∈ TBL := tbl_t (i := 239) (by decide +kernel) rfl
theorem tw_240 : Cond.code y_Fm_power prog_3_method_7_code 3 (some .int) ∈ TBL := tbl_t (i := 240) (by decide +kernel) rfl
theorem tw_241 : Cond.methodLink "ExactNotation$Format" 51 y_Ma_max ∈ TBL := tbl_t (i := 241) (by decide +kernel) rfl
theorem tw_242 : Cond.static y_Ma_max ∈ TBL := tbl_t (i := 242) (by decide +kernel) rfl
theorem tw_243 : Cond.code y_Ma_max prog_12_method_65_code 2 (some .int) ∈ TBL := tbl_t (i := 243) (by decide +kernel) rfl
theorem tw_244 : Cond.methodLink "ExactNotation" 87 y_Dc_assign ∈ TBL := tbl_t (i := 244) (by decide +kernel) rfl
theorem tw_245 : Cond.instanceMethod y_Dc_assign ∈ TBL := tbl_t (i := 245) (by decide +kernel) rfl
theorem tw_246 : Cond.selects "ExactNotation$Decimal" y_Dc_assign y_Dc_assign ∈ TBL := tbl_t (i := 246) (by decide +kernel) rfl
theorem tw_247 : Cond.code y_Dc_assign prog_2_method_2_code 4 none ∈ TBL := tbl_t (i := 247) (by decide +kernel) rfl
theorem tw_248 : Cond.methodLink "ExactNotation$Decimal" 20 y_Dc_assignWhole ∈ TBL := tbl_t (i := 248) (by decide +kernel) rfl
theorem tw_250 : Cond.instanceMethod y_Dc_assignWhole ∈ TBL := tbl_t (i := 250) (by decide +kernel) rfl
theorem tw_251 : Cond.code y_Dc_assignWhole prog_2_method_4_code 3 none ∈ TBL := tbl_t (i := 251) (by decide +kernel) rfl
theorem tw_252 : Cond.methodLink "ExactNotation$Decimal" 40 y_Ar_fill ∈ TBL := tbl_t (i := 252) (by decide +kernel) rfl
theorem tw_253 : Cond.static y_Ar_fill ∈ TBL := tbl_t (i := 253) (by decide +kernel) rfl
theorem tw_254 : Cond.code y_Ar_fill prog_18_method_103_code 4 none ∈ TBL := tbl_t (i := 254) (by decide +kernel) rfl
theorem tw_255 : Cond.constantLong "ExactNotation$Decimal" 46 1000000000 ∈ TBL := tbl_t (i := 255) (by decide +kernel) rfl
theorem tw_256 : Cond.methodLink "ExactNotation$Decimal" 24 y_Dc_scaleByPowerOfTwo ∈ TBL := tbl_t (i := 256) (by decide +kernel) rfl
theorem tw_258 : Cond.instanceMethod y_Dc_scaleByPowerOfTwo ∈ TBL := tbl_t (i := 258) (by decide +kernel) rfl
theorem tw_259 : Cond.code y_Dc_scaleByPowerOfTwo prog_2_method_3_code 3 none ∈ TBL := tbl_t (i := 259) (by decide +kernel) rfl
theorem tw_260 : Cond.methodLink "ExactNotation$Decimal" 28 y_Ma_min ∈ TBL := tbl_t (i := 260) (by decide +kernel) rfl
theorem tw_261 : Cond.static y_Ma_min ∈ TBL := tbl_t (i := 261) (by decide +kernel) rfl
theorem tw_262 : Cond.code y_Ma_min prog_12_method_69_code 2 (some .int) ∈ TBL := tbl_t (i := 262) (by decide +kernel) rfl
theorem tw_263 : Cond.methodLink "ExactNotation$Decimal" 34 y_Dc_multiplyByPowerOfTwo ∈ TBL := tbl_t (i := 263) (by decide +kernel) rfl
theorem tw_265 : Cond.instanceMethod y_Dc_multiplyByPowerOfTwo ∈ TBL := tbl_t (i := 265) (by decide +kernel) rfl
theorem tw_266 : Cond.code y_Dc_multiplyByPowerOfTwo prog_2_method_5_code 7 none ∈ TBL := tbl_t (i := 266) (by decide +kernel) rfl
theorem tw_267 : Cond.methodLink "ExactNotation$Decimal" 37 y_Dc_divideByPowerOfTwo ∈ TBL := tbl_t (i := 267) (by decide +kernel) rfl
theorem tw_269 : Cond.instanceMethod y_Dc_divideByPowerOfTwo ∈ TBL := tbl_t (i := 269) (by decide +kernel) rfl
theorem tw_270 : Cond.code y_Dc_divideByPowerOfTwo prog_2_method_6_code 10 none ∈ TBL := tbl_t (i := 270) (by decide +kernel) rfl
theorem tw_271 : Cond.methodLink "ExactNotation" 91 y_Dc_leadingPlace ∈ TBL := tbl_t (i := 271) (by decide +kernel) rfl
theorem tw_272 : Cond.instanceMethod y_Dc_leadingPlace ∈ TBL := tbl_t (i := 272) (by decide +kernel) rfl
theorem tw_273 : Cond.selects "ExactNotation$Decimal" y_Dc_leadingPlace y_Dc_leadingPlace ∈ TBL := tbl_t (i := 273) (by decide +kernel) rfl
theorem tw_274 : Cond.code y_Dc_leadingPlace prog_2_method_7_code 3 (some .int) ∈ TBL := tbl_t (i := 274) (by decide +kernel) rfl
theorem tw_275 : Cond.fieldLink "ExactNotation$Decimal" 48 "ExactNotation$Decimal" "TEN_TO" "[I" ∈ TBL := tbl_t (i := 275) (by decide +kernel) rfl
theorem tw_277 : Cond.methodLink "ExactNotation" 94 y_Dc_roundAt ∈ TBL := tbl_t (i := 277) (by decide +kernel) rfl
theorem tw_278 : Cond.instanceMethod y_Dc_roundAt ∈ TBL := tbl_t (i := 278) (by decide +kernel) rfl
theorem tw_279 : Cond.selects "ExactNotation$Decimal" y_Dc_roundAt y_Dc_roundAt ∈ TBL := tbl_t (i := 279) (by decide +kernel) rfl
theorem tw_280 : Cond.code y_Dc_roundAt prog_2_method_9_code 2 none ∈ TBL := tbl_t (i := 280) (by decide +kernel) rfl
theorem tw_281 : Cond.methodLink "ExactNotation$Decimal" 58 y_Dc_digitAt ∈ TBL := tbl_t (i := 281) (by decide +kernel) rfl
theorem tw_282 : Cond.instanceMethod y_Dc_digitAt ∈ TBL := tbl_t (i := 282) (by decide +kernel) rfl
theorem tw_283 : Cond.selects "ExactNotation$Decimal" y_Dc_digitAt y_Dc_digitAt ∈ TBL := tbl_t (i := 283) (by decide +kernel) rfl
theorem tw_284 : Cond.code y_Dc_digitAt prog_2_method_8_code 3 (some .int) ∈ TBL := tbl_t (i := 284) (by decide +kernel) rfl
theorem tw_285 : Cond.methodLink "ExactNotation$Decimal" 51 y_Dc_limbOf ∈ TBL := tbl_t (i := 285) (by decide +kernel) rfl
theorem tw_286 : Cond.static y_Dc_limbOf ∈ TBL := tbl_t (i := 286) (by decide +kernel) rfl
theorem tw_287 : Cond.code y_Dc_limbOf prog_2_method_11_code 1 (some .int) ∈ TBL := tbl_t (i := 287) (by decide +kernel) rfl
