/-! ===== the premises at the law's start ===== -/
theorem nw_218 : (Jvm.Cond.exactly (Jvm.Term.string "StormFlags$RuleBook" (81 : Nat)) "java/lang/String") ∈ flatC (Jvm.Cond.and given_1 narrow_1) := List.mem_of_getElem? (i := 218) (by decide +kernel)
theorem nw_219 : (Jvm.Cond.eq (Jvm.Term.field (Jvm.Term.string "StormFlags$RuleBook" (81 : Nat)) "java/lang/String" "coder" "B") (Jvm.Term.int (0 : Int32))) ∈ flatC (Jvm.Cond.and given_1 narrow_1) := List.mem_of_getElem? (i := 219) (by decide +kernel)
theorem nw_220 : (Jvm.Cond.arrayOf (Jvm.Term.field (Jvm.Term.string "StormFlags$RuleBook" (81 : Nat)) "java/lang/String" "value" "[B") Jvm.ClassFile.FieldType.byte) ∈ flatC (Jvm.Cond.and given_1 narrow_1) := List.mem_of_getElem? (i := 220) (by decide +kernel)
theorem nw_221 : (Jvm.Cond.eq (Jvm.Term.length (Jvm.Term.field (Jvm.Term.string "StormFlags$RuleBook" (81 : Nat)) "java/lang/String" "value" "[B")) (Jvm.Term.int (4 : Int32))) ∈ flatC (Jvm.Cond.and given_1 narrow_1) := List.mem_of_getElem? (i := 221) (by decide +kernel)
theorem nw_222 : (Jvm.Cond.eq (Jvm.Term.elem (Jvm.Term.field (Jvm.Term.string "StormFlags$RuleBook" (81 : Nat)) "java/lang/String" "value" "[B") (Jvm.Term.int (0 : Int32))) (Jvm.Term.int (99 : Int32))) ∈ flatC (Jvm.Cond.and given_1 narrow_1) := List.mem_of_getElem? (i := 222) (by decide +kernel)
theorem nw_223 : (Jvm.Cond.eq (Jvm.Term.elem (Jvm.Term.field (Jvm.Term.string "StormFlags$RuleBook" (81 : Nat)) "java/lang/String" "value" "[B") (Jvm.Term.int (1 : Int32))) (Jvm.Term.int (111 : Int32))) ∈ flatC (Jvm.Cond.and given_1 narrow_1) := List.mem_of_getElem? (i := 223) (by decide +kernel)
theorem nw_224 : (Jvm.Cond.eq (Jvm.Term.elem (Jvm.Term.field (Jvm.Term.string "StormFlags$RuleBook" (81 : Nat)) "java/lang/String" "value" "[B") (Jvm.Term.int (2 : Int32))) (Jvm.Term.int (110 : Int32))) ∈ flatC (Jvm.Cond.and given_1 narrow_1) := List.mem_of_getElem? (i := 224) (by decide +kernel)
theorem nw_225 : (Jvm.Cond.eq (Jvm.Term.elem (Jvm.Term.field (Jvm.Term.string "StormFlags$RuleBook" (81 : Nat)) "java/lang/String" "value" "[B") (Jvm.Term.int (3 : Int32))) (Jvm.Term.int (101 : Int32))) ∈ flatC (Jvm.Cond.and given_1 narrow_1) := List.mem_of_getElem? (i := 225) (by decide +kernel)
theorem nw_226 : (Jvm.Cond.exactly (Jvm.Term.string "StormFlags$RuleBook" (83 : Nat)) "java/lang/String") ∈ flatC (Jvm.Cond.and given_1 narrow_1) := List.mem_of_getElem? (i := 226) (by decide +kernel)
theorem nw_227 : (Jvm.Cond.eq (Jvm.Term.field (Jvm.Term.string "StormFlags$RuleBook" (83 : Nat)) "java/lang/String" "coder" "B") (Jvm.Term.int (0 : Int32))) ∈ flatC (Jvm.Cond.and given_1 narrow_1) := List.mem_of_getElem? (i := 227) (by decide +kernel)
theorem nw_228 : (Jvm.Cond.arrayOf (Jvm.Term.field (Jvm.Term.string "StormFlags$RuleBook" (83 : Nat)) "java/lang/String" "value" "[B") Jvm.ClassFile.FieldType.byte) ∈ flatC (Jvm.Cond.and given_1 narrow_1) := List.mem_of_getElem? (i := 228) (by decide +kernel)
theorem nw_229 : (Jvm.Cond.eq (Jvm.Term.length (Jvm.Term.field (Jvm.Term.string "StormFlags$RuleBook" (83 : Nat)) "java/lang/String" "value" "[B")) (Jvm.Term.int (4 : Int32))) ∈ flatC (Jvm.Cond.and given_1 narrow_1) := List.mem_of_getElem? (i := 229) (by decide +kernel)
theorem nw_230 : (Jvm.Cond.eq (Jvm.Term.elem (Jvm.Term.field (Jvm.Term.string "StormFlags$RuleBook" (83 : Nat)) "java/lang/String" "value" "[B") (Jvm.Term.int (0 : Int32))) (Jvm.Term.int (100 : Int32))) ∈ flatC (Jvm.Cond.and given_1 narrow_1) := List.mem_of_getElem? (i := 230) (by decide +kernel)
theorem nw_231 : (Jvm.Cond.eq (Jvm.Term.elem (Jvm.Term.field (Jvm.Term.string "StormFlags$RuleBook" (83 : Nat)) "java/lang/String" "value" "[B") (Jvm.Term.int (1 : Int32))) (Jvm.Term.int (114 : Int32))) ∈ flatC (Jvm.Cond.and given_1 narrow_1) := List.mem_of_getElem? (i := 231) (by decide +kernel)
theorem nw_232 : (Jvm.Cond.eq (Jvm.Term.elem (Jvm.Term.field (Jvm.Term.string "StormFlags$RuleBook" (83 : Nat)) "java/lang/String" "value" "[B") (Jvm.Term.int (2 : Int32))) (Jvm.Term.int (117 : Int32))) ∈ flatC (Jvm.Cond.and given_1 narrow_1) := List.mem_of_getElem? (i := 232) (by decide +kernel)
theorem nw_233 : (Jvm.Cond.eq (Jvm.Term.elem (Jvm.Term.field (Jvm.Term.string "StormFlags$RuleBook" (83 : Nat)) "java/lang/String" "value" "[B") (Jvm.Term.int (3 : Int32))) (Jvm.Term.int (109 : Int32))) ∈ flatC (Jvm.Cond.and given_1 narrow_1) := List.mem_of_getElem? (i := 233) (by decide +kernel)
theorem nw_234 : (Jvm.Cond.exactly (Jvm.Term.string "StormFlags$RuleBook" (85 : Nat)) "java/lang/String") ∈ flatC (Jvm.Cond.and given_1 narrow_1) := List.mem_of_getElem? (i := 234) (by decide +kernel)
theorem nw_235 : (Jvm.Cond.eq (Jvm.Term.field (Jvm.Term.string "StormFlags$RuleBook" (85 : Nat)) "java/lang/String" "coder" "B") (Jvm.Term.int (0 : Int32))) ∈ flatC (Jvm.Cond.and given_1 narrow_1) := List.mem_of_getElem? (i := 235) (by decide +kernel)
theorem nw_236 : (Jvm.Cond.arrayOf (Jvm.Term.field (Jvm.Term.string "StormFlags$RuleBook" (85 : Nat)) "java/lang/String" "value" "[B") Jvm.ClassFile.FieldType.byte) ∈ flatC (Jvm.Cond.and given_1 narrow_1) := List.mem_of_getElem? (i := 236) (by decide +kernel)
theorem nw_237 : (Jvm.Cond.eq (Jvm.Term.length (Jvm.Term.field (Jvm.Term.string "StormFlags$RuleBook" (85 : Nat)) "java/lang/String" "value" "[B")) (Jvm.Term.int (4 : Int32))) ∈ flatC (Jvm.Cond.and given_1 narrow_1) := List.mem_of_getElem? (i := 237) (by decide +kernel)
theorem nw_238 : (Jvm.Cond.eq (Jvm.Term.elem (Jvm.Term.field (Jvm.Term.string "StormFlags$RuleBook" (85 : Nat)) "java/lang/String" "value" "[B") (Jvm.Term.int (0 : Int32))) (Jvm.Term.int (102 : Int32))) ∈ flatC (Jvm.Cond.and given_1 narrow_1) := List.mem_of_getElem? (i := 238) (by decide +kernel)
theorem nw_239 : (Jvm.Cond.eq (Jvm.Term.elem (Jvm.Term.field (Jvm.Term.string "StormFlags$RuleBook" (85 : Nat)) "java/lang/String" "value" "[B") (Jvm.Term.int (1 : Int32))) (Jvm.Term.int (97 : Int32))) ∈ flatC (Jvm.Cond.and given_1 narrow_1) := List.mem_of_getElem? (i := 239) (by decide +kernel)
theorem nw_240 : (Jvm.Cond.eq (Jvm.Term.elem (Jvm.Term.field (Jvm.Term.string "StormFlags$RuleBook" (85 : Nat)) "java/lang/String" "value" "[B") (Jvm.Term.int (2 : Int32))) (Jvm.Term.int (108 : Int32))) ∈ flatC (Jvm.Cond.and given_1 narrow_1) := List.mem_of_getElem? (i := 240) (by decide +kernel)
theorem nw_241 : (Jvm.Cond.eq (Jvm.Term.elem (Jvm.Term.field (Jvm.Term.string "StormFlags$RuleBook" (85 : Nat)) "java/lang/String" "value" "[B") (Jvm.Term.int (3 : Int32))) (Jvm.Term.int (108 : Int32))) ∈ flatC (Jvm.Cond.and given_1 narrow_1) := List.mem_of_getElem? (i := 241) (by decide +kernel)
theorem nw_242 : (Jvm.Cond.exactly (Jvm.Term.string "StormFlags$RuleBook" (87 : Nat)) "java/lang/String") ∈ flatC (Jvm.Cond.and given_1 narrow_1) := List.mem_of_getElem? (i := 242) (by decide +kernel)
theorem nw_243 : (Jvm.Cond.eq (Jvm.Term.field (Jvm.Term.string "StormFlags$RuleBook" (87 : Nat)) "java/lang/String" "coder" "B") (Jvm.Term.int (0 : Int32))) ∈ flatC (Jvm.Cond.and given_1 narrow_1) := List.mem_of_getElem? (i := 243) (by decide +kernel)
theorem nw_244 : (Jvm.Cond.arrayOf (Jvm.Term.field (Jvm.Term.string "StormFlags$RuleBook" (87 : Nat)) "java/lang/String" "value" "[B") Jvm.ClassFile.FieldType.byte) ∈ flatC (Jvm.Cond.and given_1 narrow_1) := List.mem_of_getElem? (i := 244) (by decide +kernel)
theorem nw_245 : (Jvm.Cond.eq (Jvm.Term.length (Jvm.Term.field (Jvm.Term.string "StormFlags$RuleBook" (87 : Nat)) "java/lang/String" "value" "[B")) (Jvm.Term.int (3 : Int32))) ∈ flatC (Jvm.Cond.and given_1 narrow_1) := List.mem_of_getElem? (i := 245) (by decide +kernel)
theorem nw_246 : (Jvm.Cond.eq (Jvm.Term.elem (Jvm.Term.field (Jvm.Term.string "StormFlags$RuleBook" (87 : Nat)) "java/lang/String" "value" "[B") (Jvm.Term.int (0 : Int32))) (Jvm.Term.int (108 : Int32))) ∈ flatC (Jvm.Cond.and given_1 narrow_1) := List.mem_of_getElem? (i := 246) (by decide +kernel)
theorem nw_247 : (Jvm.Cond.eq (Jvm.Term.elem (Jvm.Term.field (Jvm.Term.string "StormFlags$RuleBook" (87 : Nat)) "java/lang/String" "value" "[B") (Jvm.Term.int (1 : Int32))) (Jvm.Term.int (111 : Int32))) ∈ flatC (Jvm.Cond.and given_1 narrow_1) := List.mem_of_getElem? (i := 247) (by decide +kernel)
theorem nw_248 : (Jvm.Cond.eq (Jvm.Term.elem (Jvm.Term.field (Jvm.Term.string "StormFlags$RuleBook" (87 : Nat)) "java/lang/String" "value" "[B") (Jvm.Term.int (2 : Int32))) (Jvm.Term.int (119 : Int32))) ∈ flatC (Jvm.Cond.and given_1 narrow_1) := List.mem_of_getElem? (i := 248) (by decide +kernel)
theorem nw_249 : (Jvm.Cond.exactly (Jvm.Term.string "StormFlags$RuleBook" (89 : Nat)) "java/lang/String") ∈ flatC (Jvm.Cond.and given_1 narrow_1) := List.mem_of_getElem? (i := 249) (by decide +kernel)
theorem nw_250 : (Jvm.Cond.eq (Jvm.Term.field (Jvm.Term.string "StormFlags$RuleBook" (89 : Nat)) "java/lang/String" "coder" "B") (Jvm.Term.int (0 : Int32))) ∈ flatC (Jvm.Cond.and given_1 narrow_1) := List.mem_of_getElem? (i := 250) (by decide +kernel)
theorem nw_251 : (Jvm.Cond.arrayOf (Jvm.Term.field (Jvm.Term.string "StormFlags$RuleBook" (89 : Nat)) "java/lang/String" "value" "[B") Jvm.ClassFile.FieldType.byte) ∈ flatC (Jvm.Cond.and given_1 narrow_1) := List.mem_of_getElem? (i := 251) (by decide +kernel)
theorem nw_252 : (Jvm.Cond.eq (Jvm.Term.length (Jvm.Term.field (Jvm.Term.string "StormFlags$RuleBook" (89 : Nat)) "java/lang/String" "value" "[B")) (Jvm.Term.int (4 : Int32))) ∈ flatC (Jvm.Cond.and given_1 narrow_1) := List.mem_of_getElem? (i := 252) (by decide +kernel)
theorem nw_253 : (Jvm.Cond.eq (Jvm.Term.elem (Jvm.Term.field (Jvm.Term.string "StormFlags$RuleBook" (89 : Nat)) "java/lang/String" "value" "[B") (Jvm.Term.int (0 : Int32))) (Jvm.Term.int (119 : Int32))) ∈ flatC (Jvm.Cond.and given_1 narrow_1) := List.mem_of_getElem? (i := 253) (by decide +kernel)
theorem nw_254 : (Jvm.Cond.eq (Jvm.Term.elem (Jvm.Term.field (Jvm.Term.string "StormFlags$RuleBook" (89 : Nat)) "java/lang/String" "value" "[B") (Jvm.Term.int (1 : Int32))) (Jvm.Term.int (105 : Int32))) ∈ flatC (Jvm.Cond.and given_1 narrow_1) := List.mem_of_getElem? (i := 254) (by decide +kernel)
theorem nw_255 : (Jvm.Cond.eq (Jvm.Term.elem (Jvm.Term.field (Jvm.Term.string "StormFlags$RuleBook" (89 : Nat)) "java/lang/String" "value" "[B") (Jvm.Term.int (2 : Int32))) (Jvm.Term.int (110 : Int32))) ∈ flatC (Jvm.Cond.and given_1 narrow_1) := List.mem_of_getElem? (i := 255) (by decide +kernel)
theorem nw_256 : (Jvm.Cond.eq (Jvm.Term.elem (Jvm.Term.field (Jvm.Term.string "StormFlags$RuleBook" (89 : Nat)) "java/lang/String" "value" "[B") (Jvm.Term.int (3 : Int32))) (Jvm.Term.int (100 : Int32))) ∈ flatC (Jvm.Cond.and given_1 narrow_1) := List.mem_of_getElem? (i := 256) (by decide +kernel)
theorem nw_257 : (Jvm.Cond.exactly (Jvm.Term.string "StormFlags$RuleBook" (91 : Nat)) "java/lang/String") ∈ flatC (Jvm.Cond.and given_1 narrow_1) := List.mem_of_getElem? (i := 257) (by decide +kernel)
theorem nw_258 : (Jvm.Cond.eq (Jvm.Term.field (Jvm.Term.string "StormFlags$RuleBook" (91 : Nat)) "java/lang/String" "coder" "B") (Jvm.Term.int (0 : Int32))) ∈ flatC (Jvm.Cond.and given_1 narrow_1) := List.mem_of_getElem? (i := 258) (by decide +kernel)
theorem nw_259 : (Jvm.Cond.arrayOf (Jvm.Term.field (Jvm.Term.string "StormFlags$RuleBook" (91 : Nat)) "java/lang/String" "value" "[B") Jvm.ClassFile.FieldType.byte) ∈ flatC (Jvm.Cond.and given_1 narrow_1) := List.mem_of_getElem? (i := 259) (by decide +kernel)
theorem nw_260 : (Jvm.Cond.eq (Jvm.Term.length (Jvm.Term.field (Jvm.Term.string "StormFlags$RuleBook" (91 : Nat)) "java/lang/String" "value" "[B")) (Jvm.Term.int (5 : Int32))) ∈ flatC (Jvm.Cond.and given_1 narrow_1) := List.mem_of_getElem? (i := 260) (by decide +kernel)
theorem nw_261 : (Jvm.Cond.eq (Jvm.Term.elem (Jvm.Term.field (Jvm.Term.string "StormFlags$RuleBook" (91 : Nat)) "java/lang/String" "value" "[B") (Jvm.Term.int (0 : Int32))) (Jvm.Term.int (99 : Int32))) ∈ flatC (Jvm.Cond.and given_1 narrow_1) := List.mem_of_getElem? (i := 261) (by decide +kernel)
theorem nw_262 : (Jvm.Cond.eq (Jvm.Term.elem (Jvm.Term.field (Jvm.Term.string "StormFlags$RuleBook" (91 : Nat)) "java/lang/String" "value" "[B") (Jvm.Term.int (1 : Int32))) (Jvm.Term.int (111 : Int32))) ∈ flatC (Jvm.Cond.and given_1 narrow_1) := List.mem_of_getElem? (i := 262) (by decide +kernel)
theorem nw_263 : (Jvm.Cond.eq (Jvm.Term.elem (Jvm.Term.field (Jvm.Term.string "StormFlags$RuleBook" (91 : Nat)) "java/lang/String" "value" "[B") (Jvm.Term.int (2 : Int32))) (Jvm.Term.int (97 : Int32))) ∈ flatC (Jvm.Cond.and given_1 narrow_1) := List.mem_of_getElem? (i := 263) (by decide +kernel)
theorem nw_264 : (Jvm.Cond.eq (Jvm.Term.elem (Jvm.Term.field (Jvm.Term.string "StormFlags$RuleBook" (91 : Nat)) "java/lang/String" "value" "[B") (Jvm.Term.int (3 : Int32))) (Jvm.Term.int (115 : Int32))) ∈ flatC (Jvm.Cond.and given_1 narrow_1) := List.mem_of_getElem? (i := 264) (by decide +kernel)
theorem nw_265 : (Jvm.Cond.eq (Jvm.Term.elem (Jvm.Term.field (Jvm.Term.string "StormFlags$RuleBook" (91 : Nat)) "java/lang/String" "value" "[B") (Jvm.Term.int (4 : Int32))) (Jvm.Term.int (116 : Int32))) ∈ flatC (Jvm.Cond.and given_1 narrow_1) := List.mem_of_getElem? (i := 265) (by decide +kernel)
theorem nw_266 : (Jvm.Cond.exactly (Jvm.Term.string "StormFlags$RuleBook" (65 : Nat)) "java/lang/String") ∈ flatC (Jvm.Cond.and given_1 narrow_1) := List.mem_of_getElem? (i := 266) (by decide +kernel)
theorem nw_267 : (Jvm.Cond.eq (Jvm.Term.field (Jvm.Term.string "StormFlags$RuleBook" (65 : Nat)) "java/lang/String" "coder" "B") (Jvm.Term.int (0 : Int32))) ∈ flatC (Jvm.Cond.and given_1 narrow_1) := List.mem_of_getElem? (i := 267) (by decide +kernel)
theorem nw_268 : (Jvm.Cond.arrayOf (Jvm.Term.field (Jvm.Term.string "StormFlags$RuleBook" (65 : Nat)) "java/lang/String" "value" "[B") Jvm.ClassFile.FieldType.byte) ∈ flatC (Jvm.Cond.and given_1 narrow_1) := List.mem_of_getElem? (i := 268) (by decide +kernel)
theorem nw_269 : (Jvm.Cond.eq (Jvm.Term.length (Jvm.Term.field (Jvm.Term.string "StormFlags$RuleBook" (65 : Nat)) "java/lang/String" "value" "[B")) (Jvm.Term.int (3 : Int32))) ∈ flatC (Jvm.Cond.and given_1 narrow_1) := List.mem_of_getElem? (i := 269) (by decide +kernel)
theorem nw_270 : (Jvm.Cond.eq (Jvm.Term.elem (Jvm.Term.field (Jvm.Term.string "StormFlags$RuleBook" (65 : Nat)) "java/lang/String" "value" "[B") (Jvm.Term.int (0 : Int32))) (Jvm.Term.int (97 : Int32))) ∈ flatC (Jvm.Cond.and given_1 narrow_1) := List.mem_of_getElem? (i := 270) (by decide +kernel)
theorem nw_271 : (Jvm.Cond.eq (Jvm.Term.elem (Jvm.Term.field (Jvm.Term.string "StormFlags$RuleBook" (65 : Nat)) "java/lang/String" "value" "[B") (Jvm.Term.int (1 : Int32))) (Jvm.Term.int (110 : Int32))) ∈ flatC (Jvm.Cond.and given_1 narrow_1) := List.mem_of_getElem? (i := 271) (by decide +kernel)
theorem nw_272 : (Jvm.Cond.eq (Jvm.Term.elem (Jvm.Term.field (Jvm.Term.string "StormFlags$RuleBook" (65 : Nat)) "java/lang/String" "value" "[B") (Jvm.Term.int (2 : Int32))) (Jvm.Term.int (100 : Int32))) ∈ flatC (Jvm.Cond.and given_1 narrow_1) := List.mem_of_getElem? (i := 272) (by decide +kernel)
theorem nw_5 : (Jvm.Cond.arrayOf (Jvm.Term.static "java/util/ArrayList" "DEFAULTCAPACITY_EMPTY_ELEMENTDATA" "[Ljava/lang/Object;") (Jvm.ClassFile.FieldType.object "java/lang/Object")) ∈ flatC (Jvm.Cond.and given_1 narrow_1) := List.mem_of_getElem? (i := 5) (by decide +kernel)
theorem nw_7 : (Jvm.Cond.eq (Jvm.Term.length (Jvm.Term.static "java/util/ArrayList" "DEFAULTCAPACITY_EMPTY_ELEMENTDATA" "[Ljava/lang/Object;")) (Jvm.Term.int (0 : Int32))) ∈ flatC (Jvm.Cond.and given_1 narrow_1) := List.mem_of_getElem? (i := 7) (by decide +kernel)
theorem nw_10 : (Jvm.Cond.eq (Jvm.Term.static "java/lang/String" "COMPACT_STRINGS" "Z") (Jvm.Term.int (1 : Int32))) ∈ flatC (Jvm.Cond.and given_1 narrow_1) := List.mem_of_getElem? (i := 10) (by decide +kernel)
theorem nw_11 : (Jvm.Cond.isRef (Jvm.Term.static "jdk/internal/util/Preconditions" "SIOOBE_FORMATTER" "Ljava/util/function/BiFunction;")) ∈ flatC (Jvm.Cond.and given_1 narrow_1) := List.mem_of_getElem? (i := 11) (by decide +kernel)
theorem nw_8 : (Jvm.Cond.isRef (Jvm.Term.static "java/lang/Throwable" "UNASSIGNED_STACK" "[Ljava/lang/StackTraceElement;")) ∈ flatC (Jvm.Cond.and given_1 narrow_1) := List.mem_of_getElem? (i := 8) (by decide +kernel)
theorem nw_9 : (Jvm.Cond.isRef (Jvm.Term.static "java/lang/Throwable" "SUPPRESSED_SENTINEL" "Ljava/util/List;")) ∈ flatC (Jvm.Cond.and given_1 narrow_1) := List.mem_of_getElem? (i := 9) (by decide +kernel)
theorem nw_71 : (Jvm.Cond.isRef (Jvm.Term.mirror "[Ljava/lang/Object;")) ∈ flatC (Jvm.Cond.and given_1 narrow_1) := List.mem_of_getElem? (i := 71) (by decide +kernel)
theorem tv_545 : (Jvm.Cond.stringRef "StormFlags$RuleBook" (81 : Nat) "cone") ∈ lw_tbl := List.mem_of_getElem? (i := 593) (by decide +kernel)
theorem tv_600 : (Jvm.Cond.stringRef "StormFlags$RuleBook" (83 : Nat) "drum") ∈ lw_tbl := List.mem_of_getElem? (i := 648) (by decide +kernel)
theorem tv_608 : (Jvm.Cond.stringRef "StormFlags$RuleBook" (85 : Nat) "fall") ∈ lw_tbl := List.mem_of_getElem? (i := 656) (by decide +kernel)
theorem tv_609 : (Jvm.Cond.stringRef "StormFlags$RuleBook" (87 : Nat) "low") ∈ lw_tbl := List.mem_of_getElem? (i := 657) (by decide +kernel)
theorem tv_610 : (Jvm.Cond.stringRef "StormFlags$RuleBook" (89 : Nat) "wind") ∈ lw_tbl := List.mem_of_getElem? (i := 658) (by decide +kernel)
theorem tv_611 : (Jvm.Cond.stringRef "StormFlags$RuleBook" (91 : Nat) "coast") ∈ lw_tbl := List.mem_of_getElem? (i := 659) (by decide +kernel)
theorem tv_624 : (Jvm.Cond.stringRef "StormFlags$RuleBook" (65 : Nat) "and") ∈ lw_tbl := List.mem_of_getElem? (i := 672) (by decide +kernel)
theorem tv_1106 : (Jvm.Cond.stringRef "StormFlagsModel" (159 : Nat) "cone") ∈ lw_tbl := List.mem_of_getElem? (i := 1154) (by decide +kernel)
theorem tv_1113 : (Jvm.Cond.stringRef "StormFlagsModel" (161 : Nat) "drum") ∈ lw_tbl := List.mem_of_getElem? (i := 1161) (by decide +kernel)
theorem tv_1118 : (Jvm.Cond.stringRef "StormFlagsModel" (148 : Nat) "fall") ∈ lw_tbl := List.mem_of_getElem? (i := 1166) (by decide +kernel)
theorem tv_1119 : (Jvm.Cond.stringRef "StormFlagsModel" (154 : Nat) "low") ∈ lw_tbl := List.mem_of_getElem? (i := 1167) (by decide +kernel)
theorem tv_1120 : (Jvm.Cond.stringRef "StormFlagsModel" (156 : Nat) "wind") ∈ lw_tbl := List.mem_of_getElem? (i := 1168) (by decide +kernel)
theorem tv_1121 : (Jvm.Cond.stringRef "StormFlagsModel" (158 : Nat) "coast") ∈ lw_tbl := List.mem_of_getElem? (i := 1169) (by decide +kernel)
theorem tv_1122 : (Jvm.Cond.stringRef "StormFlagsModel" (166 : Nat) "and") ∈ lw_tbl := List.mem_of_getElem? (i := 1170) (by decide +kernel)
theorem nw_603 : (Jvm.Cond.eq (Jvm.Term.string "StormFlags$RuleBook" (81 : Nat)) (Jvm.Term.string "StormFlagsModel" (159 : Nat))) ∈ flatC (Jvm.Cond.and given_1 narrow_1) := List.mem_of_getElem? (i := 603) (by decide +kernel)
theorem nw_612 : (Jvm.Cond.eq (Jvm.Term.string "StormFlags$RuleBook" (83 : Nat)) (Jvm.Term.string "StormFlagsModel" (161 : Nat))) ∈ flatC (Jvm.Cond.and given_1 narrow_1) := List.mem_of_getElem? (i := 612) (by decide +kernel)
theorem nw_621 : (Jvm.Cond.eq (Jvm.Term.string "StormFlags$RuleBook" (85 : Nat)) (Jvm.Term.string "StormFlagsModel" (148 : Nat))) ∈ flatC (Jvm.Cond.and given_1 narrow_1) := List.mem_of_getElem? (i := 621) (by decide +kernel)
theorem nw_629 : (Jvm.Cond.eq (Jvm.Term.string "StormFlags$RuleBook" (87 : Nat)) (Jvm.Term.string "StormFlagsModel" (154 : Nat))) ∈ flatC (Jvm.Cond.and given_1 narrow_1) := List.mem_of_getElem? (i := 629) (by decide +kernel)
theorem nw_638 : (Jvm.Cond.eq (Jvm.Term.string "StormFlags$RuleBook" (89 : Nat)) (Jvm.Term.string "StormFlagsModel" (156 : Nat))) ∈ flatC (Jvm.Cond.and given_1 narrow_1) := List.mem_of_getElem? (i := 638) (by decide +kernel)
theorem nw_648 : (Jvm.Cond.eq (Jvm.Term.string "StormFlags$RuleBook" (91 : Nat)) (Jvm.Term.string "StormFlagsModel" (158 : Nat))) ∈ flatC (Jvm.Cond.and given_1 narrow_1) := List.mem_of_getElem? (i := 648) (by decide +kernel)
theorem nw_656 : (Jvm.Cond.eq (Jvm.Term.string "StormFlags$RuleBook" (65 : Nat)) (Jvm.Term.string "StormFlagsModel" (166 : Nat))) ∈ flatC (Jvm.Cond.and given_1 narrow_1) := List.mem_of_getElem? (i := 656) (by decide +kernel)
theorem tv_278 : (Jvm.Cond.stringRef "StormFlags" (84 : Nat) "a number is none of a port") ∈ lw_tbl := List.mem_of_getElem? (i := 326) (by decide +kernel)
theorem nw_72 : (Jvm.Cond.exactly (Jvm.Term.string "StormFlags" (84 : Nat)) "java/lang/String") ∈ flatC (Jvm.Cond.and given_1 narrow_1) := List.mem_of_getElem? (i := 72) (by decide +kernel)
theorem tv_314 : (Jvm.Cond.stringRef "StormFlags" (94 : Nat) "there are 12 ports") ∈ lw_tbl := List.mem_of_getElem? (i := 362) (by decide +kernel)
theorem nw_102 : (Jvm.Cond.exactly (Jvm.Term.string "StormFlags" (94 : Nat)) "java/lang/String") ∈ flatC (Jvm.Cond.and given_1 narrow_1) := List.mem_of_getElem? (i := 102) (by decide +kernel)
theorem tv_439 : (Jvm.Cond.stringRef "StormFlags" (246 : Nat) "no such port") ∈ lw_tbl := List.mem_of_getElem? (i := 487) (by decide +kernel)
theorem nw_124 : (Jvm.Cond.exactly (Jvm.Term.string "StormFlags" (246 : Nat)) "java/lang/String") ∈ flatC (Jvm.Cond.and given_1 narrow_1) := List.mem_of_getElem? (i := 124) (by decide +kernel)
theorem tv_450 : (Jvm.Cond.stringRef "StormFlags" (113 : Nat) "a number is none of a report") ∈ lw_tbl := List.mem_of_getElem? (i := 498) (by decide +kernel)
theorem nw_140 : (Jvm.Cond.exactly (Jvm.Term.string "StormFlags" (113 : Nat)) "java/lang/String") ∈ flatC (Jvm.Cond.and given_1 narrow_1) := List.mem_of_getElem? (i := 140) (by decide +kernel)
theorem tv_451 : (Jvm.Cond.stringRef "StormFlags" (115 : Nat) "there are 300 reports") ∈ lw_tbl := List.mem_of_getElem? (i := 499) (by decide +kernel)
theorem nw_172 : (Jvm.Cond.exactly (Jvm.Term.string "StormFlags" (115 : Nat)) "java/lang/String") ∈ flatC (Jvm.Cond.and given_1 narrow_1) := List.mem_of_getElem? (i := 172) (by decide +kernel)
theorem tv_501 : (Jvm.Cond.stringRef "StormFlags" (136 : Nat) "the place is none") ∈ lw_tbl := List.mem_of_getElem? (i := 549) (by decide +kernel)
theorem nw_197 : (Jvm.Cond.exactly (Jvm.Term.string "StormFlags" (136 : Nat)) "java/lang/String") ∈ flatC (Jvm.Cond.and given_1 narrow_1) := List.mem_of_getElem? (i := 197) (by decide +kernel)
theorem tv_629 : (Jvm.Cond.stringRef "StormFlags" (146 : Nat) "the text is wrong") ∈ lw_tbl := List.mem_of_getElem? (i := 677) (by decide +kernel)
theorem nw_273 : (Jvm.Cond.exactly (Jvm.Term.string "StormFlags" (146 : Nat)) "java/lang/String") ∈ flatC (Jvm.Cond.and given_1 narrow_1) := List.mem_of_getElem? (i := 273) (by decide +kernel)
theorem tv_641 : (Jvm.Cond.stringRef "StormFlags" (152 : Nat) "an hour or the force is none of a gale") ∈ lw_tbl := List.mem_of_getElem? (i := 689) (by decide +kernel)
theorem nw_294 : (Jvm.Cond.exactly (Jvm.Term.string "StormFlags" (152 : Nat)) "java/lang/String") ∈ flatC (Jvm.Cond.and given_1 narrow_1) := List.mem_of_getElem? (i := 294) (by decide +kernel)
theorem tv_642 : (Jvm.Cond.stringRef "StormFlags" (154 : Nat) "there are 30 gales") ∈ lw_tbl := List.mem_of_getElem? (i := 690) (by decide +kernel)
theorem nw_336 : (Jvm.Cond.exactly (Jvm.Term.string "StormFlags" (154 : Nat)) "java/lang/String") ∈ flatC (Jvm.Cond.and given_1 narrow_1) := List.mem_of_getElem? (i := 336) (by decide +kernel)
theorem tv_672 : (Jvm.Cond.stringRef "StormFlags" (162 : Nat) "a number is none of a boat") ∈ lw_tbl := List.mem_of_getElem? (i := 720) (by decide +kernel)
theorem nw_358 : (Jvm.Cond.exactly (Jvm.Term.string "StormFlags" (162 : Nat)) "java/lang/String") ∈ flatC (Jvm.Cond.and given_1 narrow_1) := List.mem_of_getElem? (i := 358) (by decide +kernel)
theorem tv_673 : (Jvm.Cond.stringRef "StormFlags" (164 : Nat) "there are 12 boats") ∈ lw_tbl := List.mem_of_getElem? (i := 721) (by decide +kernel)
theorem nw_388 : (Jvm.Cond.exactly (Jvm.Term.string "StormFlags" (164 : Nat)) "java/lang/String") ∈ flatC (Jvm.Cond.and given_1 narrow_1) := List.mem_of_getElem? (i := 388) (by decide +kernel)
theorem tv_721 : (Jvm.Cond.stringRef "StormFlags" (248 : Nat) "no such boat") ∈ lw_tbl := List.mem_of_getElem? (i := 769) (by decide +kernel)
theorem nw_410 : (Jvm.Cond.exactly (Jvm.Term.string "StormFlags" (248 : Nat)) "java/lang/String") ∈ flatC (Jvm.Cond.and given_1 narrow_1) := List.mem_of_getElem? (i := 410) (by decide +kernel)
theorem tv_722 : (Jvm.Cond.stringRef "StormFlags" (175 : Nat) "the hour or the hours are none of a trip") ∈ lw_tbl := List.mem_of_getElem? (i := 770) (by decide +kernel)
theorem nw_426 : (Jvm.Cond.exactly (Jvm.Term.string "StormFlags" (175 : Nat)) "java/lang/String") ∈ flatC (Jvm.Cond.and given_1 narrow_1) := List.mem_of_getElem? (i := 426) (by decide +kernel)
theorem tv_734 : (Jvm.Cond.stringRef "StormFlags" (180 : Nat) "not 0 to 200 hours") ∈ lw_tbl := List.mem_of_getElem? (i := 782) (by decide +kernel)
theorem nw_470 : (Jvm.Cond.exactly (Jvm.Term.string "StormFlags" (180 : Nat)) "java/lang/String") ∈ flatC (Jvm.Cond.and given_1 narrow_1) := List.mem_of_getElem? (i := 470) (by decide +kernel)
theorem tv_867 : (Jvm.Cond.stringRef "StormFlags" (191 : Nat) "no such warning") ∈ lw_tbl := List.mem_of_getElem? (i := 915) (by decide +kernel)
theorem nw_492 : (Jvm.Cond.exactly (Jvm.Term.string "StormFlags" (191 : Nat)) "java/lang/String") ∈ flatC (Jvm.Cond.and given_1 narrow_1) := List.mem_of_getElem? (i := 492) (by decide +kernel)
theorem tv_877 : (Jvm.Cond.stringRef "StormFlags" (214 : Nat) "a warning has no such what") ∈ lw_tbl := List.mem_of_getElem? (i := 925) (by decide +kernel)
theorem nw_511 : (Jvm.Cond.exactly (Jvm.Term.string "StormFlags" (214 : Nat)) "java/lang/String") ∈ flatC (Jvm.Cond.and given_1 narrow_1) := List.mem_of_getElem? (i := 511) (by decide +kernel)
theorem tv_891 : (Jvm.Cond.stringRef "StormFlags" (227 : Nat) "a boat has no such what") ∈ lw_tbl := List.mem_of_getElem? (i := 939) (by decide +kernel)
theorem nw_541 : (Jvm.Cond.exactly (Jvm.Term.string "StormFlags" (227 : Nat)) "java/lang/String") ∈ flatC (Jvm.Cond.and given_1 narrow_1) := List.mem_of_getElem? (i := 541) (by decide +kernel)
theorem tv_915 : (Jvm.Cond.stringRef "StormFlags" (240 : Nat) "a port has no such what") ∈ lw_tbl := List.mem_of_getElem? (i := 963) (by decide +kernel)
theorem nw_568 : (Jvm.Cond.exactly (Jvm.Term.string "StormFlags" (240 : Nat)) "java/lang/String") ∈ flatC (Jvm.Cond.and given_1 narrow_1) := List.mem_of_getElem? (i := 568) (by decide +kernel)
theorem nw_35 : (Jvm.Cond.not (Jvm.Cond.castable "java/lang/IllegalArgumentException" "java/lang/UnsupportedOperationException")) ∈ flatC (Jvm.Cond.and given_1 narrow_1) := List.mem_of_getElem? (i := 35) (by decide +kernel)
theorem nw_49 : (Jvm.Cond.not (Jvm.Cond.castable "java/lang/IllegalArgumentException" "java/lang/IndexOutOfBoundsException")) ∈ flatC (Jvm.Cond.and given_1 narrow_1) := List.mem_of_getElem? (i := 49) (by decide +kernel)
theorem nw_63 : (Jvm.Cond.not (Jvm.Cond.castable "java/lang/IllegalArgumentException" "java/util/NoSuchElementException")) ∈ flatC (Jvm.Cond.and given_1 narrow_1) := List.mem_of_getElem? (i := 63) (by decide +kernel)
theorem nw_21 : (Jvm.Cond.not (Jvm.Cond.castable "java/lang/UnsupportedOperationException" "java/lang/IllegalArgumentException")) ∈ flatC (Jvm.Cond.and given_1 narrow_1) := List.mem_of_getElem? (i := 21) (by decide +kernel)
theorem nw_50 : (Jvm.Cond.not (Jvm.Cond.castable "java/lang/UnsupportedOperationException" "java/lang/IndexOutOfBoundsException")) ∈ flatC (Jvm.Cond.and given_1 narrow_1) := List.mem_of_getElem? (i := 50) (by decide +kernel)
theorem nw_64 : (Jvm.Cond.not (Jvm.Cond.castable "java/lang/UnsupportedOperationException" "java/util/NoSuchElementException")) ∈ flatC (Jvm.Cond.and given_1 narrow_1) := List.mem_of_getElem? (i := 64) (by decide +kernel)
theorem nw_23 : (Jvm.Cond.not (Jvm.Cond.castable "java/lang/IndexOutOfBoundsException" "java/lang/IllegalArgumentException")) ∈ flatC (Jvm.Cond.and given_1 narrow_1) := List.mem_of_getElem? (i := 23) (by decide +kernel)
theorem nw_37 : (Jvm.Cond.not (Jvm.Cond.castable "java/lang/IndexOutOfBoundsException" "java/lang/UnsupportedOperationException")) ∈ flatC (Jvm.Cond.and given_1 narrow_1) := List.mem_of_getElem? (i := 37) (by decide +kernel)
theorem nw_66 : (Jvm.Cond.not (Jvm.Cond.castable "java/lang/IndexOutOfBoundsException" "java/util/NoSuchElementException")) ∈ flatC (Jvm.Cond.and given_1 narrow_1) := List.mem_of_getElem? (i := 66) (by decide +kernel)
theorem nw_28 : (Jvm.Cond.not (Jvm.Cond.castable "java/util/NoSuchElementException" "java/lang/IllegalArgumentException")) ∈ flatC (Jvm.Cond.and given_1 narrow_1) := List.mem_of_getElem? (i := 28) (by decide +kernel)
theorem nw_42 : (Jvm.Cond.not (Jvm.Cond.castable "java/util/NoSuchElementException" "java/lang/UnsupportedOperationException")) ∈ flatC (Jvm.Cond.and given_1 narrow_1) := List.mem_of_getElem? (i := 42) (by decide +kernel)
theorem nw_56 : (Jvm.Cond.not (Jvm.Cond.castable "java/util/NoSuchElementException" "java/lang/IndexOutOfBoundsException")) ∈ flatC (Jvm.Cond.and given_1 narrow_1) := List.mem_of_getElem? (i := 56) (by decide +kernel)
def STR (s : State) (a0 : Array Value) (tm : Term) (bs : List Int32) (q : Nat × Nat) : Prop := tm.eval a0 s none [] s = some (.ref q.1) ∧ va_O "java/lang/String" q.1 (fun q => s.heap.size ≤ q) s s.heap ∧ va_OF "java/lang/String" "coder" "B" (.int 0) q.1 (fun q => s.heap.size ≤ q) s s.heap ∧ va_OF "java/lang/String" "value" "[B" (.ref q.2) q.1 (fun q => s.heap.size ≤ q) s s.heap ∧ va_T .byte q.2 bs.length (fun j => .int (bs.getD j 0)) (fun q => s.heap.size ≤ q) s s.heap
theorem STR_of {s : State} {a0 : Array Value} {tm : Term} {bs : List Int32} (hn : bs.length < 2 ^ 31) (hex : (Cond.exactly tm "java/lang/String").before a0 s = true) (hco : (Cond.eq (.field tm "java/lang/String" "coder" "B") (.int 0)).before a0 s = true)
    (har : (Cond.arrayOf (.field tm "java/lang/String" "value" "[B") .byte).before a0 s = true) (hle : (Cond.eq (.length (.field tm "java/lang/String" "value" "[B")) (.int (Int32.ofNat bs.length))).before a0 s = true)
    (hel : ∀ j : Nat, j < bs.length → (Cond.eq (.elem (.field tm "java/lang/String" "value" "[B") (.int (Int32.ofNat j))) (.int (bs.getD j 0))).before a0 s = true) : ∃ q, STR s a0 tm bs q := by
  have hA : ∀ a : Nat, a < s.heap.size → ¬ (s.heap.size ≤ a) := fun a h1 h2 => by omega
  obtain ⟨a, c, cA, kA, q1, q2, q3, q4, q5, q6, -⟩ := Cond.exactly_spec (args := a0) (first := s) (o := none) (s := s) (idx := []) (t := tm) (cls := "java/lang/String") hex
  obtain ⟨t, ht, hT⟩ := va_Tof (f := fun j => .int (bs.getD j 0)) (A := fun q => s.heap.size ≤ q) hn har (va_eqt hle) (fun j hj => va_eqt (hel j hj)) hA
  exact ⟨(a, t), q1, ⟨cA, q3, q5, by rw [q6]; exact q2, hA a (Array.getElem?_eq_some_iff.mp q3).1⟩, vk_OFof q1 (va_eqt hco) hA, vk_OFof q1 ht hA, hT⟩
theorem STR_v {s : State} {a0 : Array Value} {tm tm' : Term} {bs bs' : List Int32} {q q' : Nat × Nat} (h : STR s a0 tm bs q) (h' : STR s a0 tm' bs' q') (e : q.1 = q'.1) : q.2 = q'.2 := by
  obtain ⟨-, -, -, ⟨cf, k, i, f, cell, a1, a2, a3, a4, a5, -⟩, -⟩ := h
  obtain ⟨-, -, -, ⟨cf', k', i', f', cell', b1, b2, b3, b4, b5, -⟩, -⟩ := h'
  rw [a1] at b1
  cases b1
  rw [← e, a3] at b3
  cases b3
  rw [a5] at b5
  injection b5 with b6
  injection b6 with b7
theorem STR_b {s : State} {a0 : Array Value} {tm tm' : Term} {bs bs' : List Int32} {q q' : Nat × Nat} (h : STR s a0 tm bs q) (h' : STR s a0 tm' bs' q') (hl : bs.length < 2 ^ 31) (hl' : bs'.length < 2 ^ 31) (e : q.2 = q'.2) : bs = bs' := by
  obtain ⟨-, -, -, -, cell, a1, a2, a3, a4, a5, a6, -⟩ := h
  obtain ⟨-, -, -, -, cell', b1, b2, b3, b4, b5, b6, -⟩ := h'
  rw [← e, a1] at b1
  cases b1
  rw [a5] at b5
  have en : bs.length = bs'.length := (nI_eq hl hl').mp b5
  refine List.ext_getElem en (fun i h1 h2 => ?_)
  have z1 := a6 i h1
  have z2 := b6 i h2
  rw [z1] at z2
  injection z2 with z3
  injection z3 with z4
  simpa [List.getD_eq_getElem?_getD, h1, h2] using z4
theorem find_k {g : Nat → Nat} {k : Nat} (hk : k < 7) (hi : ∀ i, i < 7 → g i = g k → i = k) : (List.range 7).find? (fun i => g i == g k) = some k := by
  cases h : (List.range 7).find? (fun i => g i == g k) with
  | none =>
    have := List.find?_eq_none.mp h k (List.mem_range.mpr hk)
    simp at this
  | some r =>
    have h1 := List.find?_some h
    have h2 := List.mem_of_find?_eq_some h
    rw [hi r (List.mem_range.mp h2) (by simpa using h1)]
theorem st_0 {s : State} {a0 : Array Value} (hq : ∀ c ∈ flatC (Jvm.Cond.and given_1 narrow_1), c.before a0 s = true) : ∃ q, STR s a0 (.string "StormFlags$RuleBook" 81) (txt 0) q :=
  STR_of (by decide) (hq _ nw_218) (hq _ nw_219) (hq _ nw_220) (hq _ nw_221) (fun j hj => by
    have hj : j < 4 := hj
    rcases (by omega : j = 0 ∨ j = 1 ∨ j = 2 ∨ j = 3) with rfl | rfl | rfl | rfl
    · exact hq _ nw_222
    · exact hq _ nw_223
    · exact hq _ nw_224
    · exact hq _ nw_225)
theorem st_1 {s : State} {a0 : Array Value} (hq : ∀ c ∈ flatC (Jvm.Cond.and given_1 narrow_1), c.before a0 s = true) : ∃ q, STR s a0 (.string "StormFlags$RuleBook" 83) (txt 1) q :=
  STR_of (by decide) (hq _ nw_226) (hq _ nw_227) (hq _ nw_228) (hq _ nw_229) (fun j hj => by
    have hj : j < 4 := hj
    rcases (by omega : j = 0 ∨ j = 1 ∨ j = 2 ∨ j = 3) with rfl | rfl | rfl | rfl
    · exact hq _ nw_230
    · exact hq _ nw_231
    · exact hq _ nw_232
    · exact hq _ nw_233)
theorem st_2 {s : State} {a0 : Array Value} (hq : ∀ c ∈ flatC (Jvm.Cond.and given_1 narrow_1), c.before a0 s = true) : ∃ q, STR s a0 (.string "StormFlags$RuleBook" 85) (txt 2) q :=
  STR_of (by decide) (hq _ nw_234) (hq _ nw_235) (hq _ nw_236) (hq _ nw_237) (fun j hj => by
    have hj : j < 4 := hj
    rcases (by omega : j = 0 ∨ j = 1 ∨ j = 2 ∨ j = 3) with rfl | rfl | rfl | rfl
    · exact hq _ nw_238
    · exact hq _ nw_239
    · exact hq _ nw_240
    · exact hq _ nw_241)
theorem st_3 {s : State} {a0 : Array Value} (hq : ∀ c ∈ flatC (Jvm.Cond.and given_1 narrow_1), c.before a0 s = true) : ∃ q, STR s a0 (.string "StormFlags$RuleBook" 87) (txt 3) q :=
  STR_of (by decide) (hq _ nw_242) (hq _ nw_243) (hq _ nw_244) (hq _ nw_245) (fun j hj => by
    have hj : j < 3 := hj
    rcases (by omega : j = 0 ∨ j = 1 ∨ j = 2) with rfl | rfl | rfl
    · exact hq _ nw_246
    · exact hq _ nw_247
    · exact hq _ nw_248)
theorem st_4 {s : State} {a0 : Array Value} (hq : ∀ c ∈ flatC (Jvm.Cond.and given_1 narrow_1), c.before a0 s = true) : ∃ q, STR s a0 (.string "StormFlags$RuleBook" 89) (txt 4) q :=
  STR_of (by decide) (hq _ nw_249) (hq _ nw_250) (hq _ nw_251) (hq _ nw_252) (fun j hj => by
    have hj : j < 4 := hj
    rcases (by omega : j = 0 ∨ j = 1 ∨ j = 2 ∨ j = 3) with rfl | rfl | rfl | rfl
    · exact hq _ nw_253
    · exact hq _ nw_254
    · exact hq _ nw_255
    · exact hq _ nw_256)
theorem st_5 {s : State} {a0 : Array Value} (hq : ∀ c ∈ flatC (Jvm.Cond.and given_1 narrow_1), c.before a0 s = true) : ∃ q, STR s a0 (.string "StormFlags$RuleBook" 91) (txt 5) q :=
  STR_of (by decide) (hq _ nw_257) (hq _ nw_258) (hq _ nw_259) (hq _ nw_260) (fun j hj => by
    have hj : j < 5 := hj
    rcases (by omega : j = 0 ∨ j = 1 ∨ j = 2 ∨ j = 3 ∨ j = 4) with rfl | rfl | rfl | rfl | rfl
    · exact hq _ nw_261
    · exact hq _ nw_262
    · exact hq _ nw_263
    · exact hq _ nw_264
    · exact hq _ nw_265)
theorem st_6 {s : State} {a0 : Array Value} (hq : ∀ c ∈ flatC (Jvm.Cond.and given_1 narrow_1), c.before a0 s = true) : ∃ q, STR s a0 (.string "StormFlags$RuleBook" 65) (txt 6) q :=
  STR_of (by decide) (hq _ nw_266) (hq _ nw_267) (hq _ nw_268) (hq _ nw_269) (fun j hj => by
    have hj : j < 3 := hj
    rcases (by omega : j = 0 ∨ j = 1 ∨ j = 2) with rfl | rfl | rfl
    · exact hq _ nw_270
    · exact hq _ nw_271
    · exact hq _ nw_272)
theorem kn_all {s : State} {a0 : Array Value} (hts : ∀ w ∈ lw_tbl, w.before a0 s = true) : ∃ D : va_G, ∀ (c : Nat) (q : vw_C), vwCl[c]? = some q → u_Kn s q.1 q.2.1 q.2.2 (D.1 c) (D.2 c) := by
  have h : ∀ c : Nat, ∃ d : ClassId × (Nat → Nat), ∀ q : vw_C, vwCl[c]? = some q → u_Kn s q.1 q.2.1 q.2.2 d.1 d.2 := by
    intro c
    by_cases hc : c < 11
    · rcases (by omega : c = 0 ∨ c = 1 ∨ c = 2 ∨ c = 3 ∨ c = 4 ∨ c = 5 ∨ c = 6 ∨ c = 7 ∨ c = 8 ∨ c = 9 ∨ c = 10) with rfl | rfl | rfl | rfl | rfl | rfl | rfl | rfl | rfl | rfl | rfl
      · obtain ⟨cC, iS, hk⟩ := u_known hts us_Jx4a65c (hts _ tw_56)
        exact ⟨(cC, iS), fun q hq => by cases hq; exact hk⟩
      · obtain ⟨cC, iS, hk⟩ := u_known hts us_X0 (hts _ tw_674)
        exact ⟨(cC, iS), fun q hq => by cases hq; exact hk⟩
      · obtain ⟨cC, iS, hk⟩ := u_known hts us_X1 (hts _ tw_644)
        exact ⟨(cC, iS), fun q hq => by cases hq; exact hk⟩
      · obtain ⟨cC, iS, hk⟩ := u_known hts us_X2 (hts _ tw_82)
        exact ⟨(cC, iS), fun q hq => by cases hq; exact hk⟩
      · obtain ⟨cC, iS, hk⟩ := u_known hts us_X3 (hts _ tw_322)
        exact ⟨(cC, iS), fun q hq => by cases hq; exact hk⟩
      · obtain ⟨cC, iS, hk⟩ := u_known hts us_X4 (hts _ tw_453)
        exact ⟨(cC, iS), fun q hq => by cases hq; exact hk⟩
      · obtain ⟨cC, iS, hk⟩ := u_known hts us_X5 (hts _ tw_105)
        exact ⟨(cC, iS), fun q hq => by cases hq; exact hk⟩
      · obtain ⟨cC, iS, hk⟩ := u_known hts us_X6 (hts _ tw_39)
        exact ⟨(cC, iS), fun q hq => by cases hq; exact hk⟩
      · obtain ⟨cC, iS, hk⟩ := u_known hts us_X7 (hts _ tw_770)
        exact ⟨(cC, iS), fun q hq => by cases hq; exact hk⟩
      · obtain ⟨cC, iS, hk⟩ := u_known hts us_X8 (hts _ tw_31)
        exact ⟨(cC, iS), fun q hq => by cases hq; exact hk⟩
      · obtain ⟨cC, iS, hk⟩ := u_known hts us_X9 (hts _ tw_917)
        exact ⟨(cC, iS), fun q hq => by cases hq; exact hk⟩
    · exact ⟨(0, fun _ => 0), fun q hq => absurd (List.getElem?_eq_some_iff.mp hq).1 hc⟩
  obtain ⟨d, hd⟩ := Classical.axiomOfChoice h
  exact ⟨(fun c => (d c).1, fun c => (d c).2), fun c q hq => hd c q hq⟩
theorem over_ints {a0 : Array Value} {s : State} (h : (Cond.arrayOver (.array .int)).before a0 s = true) : ∃ comp c k, s.vm.findClass (FieldType.array .int).toString = some comp ∧ s.vm.classes[c]? = some k ∧ k.kind = .array comp (.array .int) ∧ s.vm.findClass ("[" ++ (FieldType.array .int).toString) = some c := by
  simp only [Cond.before, Cond.holds, Cond.value, beq_iff_eq] at h
  cases hc : s.vm.findClass (FieldType.array .int).toString with
  | none => simp [hc] at h
  | some comp =>
    simp only [hc, Option.bind_some, Option.bind_eq_some_iff, Option.map_eq_some_iff] at h
    obtain ⟨c, hi, k, hk, hb⟩ := h
    obtain ⟨hlt, hp, -⟩ := Array.findIdx?_eq_some_iff_getElem.mp hi
    have hkk : s.vm.classes[c] = k := (Array.getElem?_eq_some_iff.mp hk).2
    rw [hkk] at hp
    cases hkind : k.kind with
    | array component ty =>
      rw [hkind] at hb hp
      simp at hb hp
      exact ⟨comp, c, k, rfl, hk, by rw [hkind, hp, hb.1], hb.2⟩
    | _ => rw [hkind] at hb; simp at hb
theorem ar_all {s : State} {a0 : Array Value} (hts : ∀ w ∈ lw_tbl, w.before a0 s = true) : ∃ cy : Nat → ClassId, ∀ (k : Nat) (q : ClassId × FieldType), (tysG cy)[k]? = some q → ArrOfT s q.1 q.2 ∧ va_RA s q.1 q.2 := by
  obtain ⟨c0, k0, p0, e0, f0, g0⟩ := Cond.arrayClass_spec (hts _ tw_54)
  obtain ⟨c1, k1, p1, e1, f1, g1⟩ := Cond.arrayClass_spec (hts _ tw_304)
  obtain ⟨c2, k2, p2, e2, f2, g2⟩ := Cond.arrayClass_spec (hts _ tw_1195)
  obtain ⟨p3, c3, k3, h3, -, f3, g3, e3⟩ := Cond.arrayOver_spec (hts _ tw_408)
  obtain ⟨p4, c4, k4, h4, f4, g4, e4⟩ := over_ints (hts _ tw_111)
  refine ⟨fun n => match n with | 0 => c0 | 1 => c1 | 2 => c2 | 3 => c3 | _ => c4, fun k q hq => ?_⟩
  by_cases hc : k < 5
  · rcases (by omega : k = 0 ∨ k = 1 ∨ k = 2 ∨ k = 3 ∨ k = 4) with rfl | rfl | rfl | rfl | rfl
    · cases hq; exact ⟨fun n z => ⟨(fun k h => by cases h), k0, f0, p0, g0⟩, e0⟩
    · cases hq; exact ⟨fun n z => ⟨(fun k h => by cases h), k1, f1, p1, g1⟩, e1⟩
    · cases hq; exact ⟨fun n z => ⟨(fun k h => by cases h), k2, f2, p2, g2⟩, e2⟩
    · cases hq; exact ⟨fun n z => ⟨(fun k h => by cases h), k3, f3, p3, g3⟩, k3, p3, f3, g3, h3, e3⟩
    · cases hq; exact ⟨fun n z => ⟨(fun k h => by cases h), k4, f4, p4, g4⟩, e4⟩
  · exact absurd (List.getElem?_eq_some_iff.mp hq).1 hc
theorem ms_of {s : State} {a0 : Array Value} {i : Nat} {t : String} (h1 : (Cond.stringRef "StormFlags" i t).before a0 s = true) (h2 : (Cond.exactly (.string "StormFlags" i) "java/lang/String").before a0 s = true) : ∃ sa, vk_R "StormFlags" i t sa s := by
  obtain ⟨a, c, cA, kA, q1, -⟩ := Cond.exactly_spec (args := a0) (first := s) (o := none) (s := s) (idx := []) h2
  exact ⟨a, vk_R.of h1 q1⟩
theorem ms_all {s : State} {a0 : Array Value} (hts : ∀ w ∈ lw_tbl, w.before a0 s = true) (hq : ∀ c ∈ flatC (Jvm.Cond.and given_1 narrow_1), c.before a0 s = true) : ∀ q ∈ msgTab, ∃ sa, vk_R "StormFlags" q.1 q.2 sa s := List.forall_mem_cons.mpr ⟨ms_of (hts _ tv_278) (hq _ nw_72), List.forall_mem_cons.mpr ⟨ms_of (hts _ tv_314) (hq _ nw_102), List.forall_mem_cons.mpr ⟨ms_of (hts _ tv_439) (hq _ nw_124), List.forall_mem_cons.mpr ⟨ms_of (hts _ tv_450) (hq _ nw_140), List.forall_mem_cons.mpr ⟨ms_of (hts _ tv_451) (hq _ nw_172), List.forall_mem_cons.mpr ⟨ms_of (hts _ tv_501) (hq _ nw_197), List.forall_mem_cons.mpr ⟨ms_of (hts _ tv_629) (hq _ nw_273), List.forall_mem_cons.mpr ⟨ms_of (hts _ tv_641) (hq _ nw_294), List.forall_mem_cons.mpr ⟨ms_of (hts _ tv_642) (hq _ nw_336), List.forall_mem_cons.mpr ⟨ms_of (hts _ tv_672) (hq _ nw_358), List.forall_mem_cons.mpr ⟨ms_of (hts _ tv_673) (hq _ nw_388), List.forall_mem_cons.mpr ⟨ms_of (hts _ tv_721) (hq _ nw_410), List.forall_mem_cons.mpr ⟨ms_of (hts _ tv_722) (hq _ nw_426), List.forall_mem_cons.mpr ⟨ms_of (hts _ tv_734) (hq _ nw_470), List.forall_mem_cons.mpr ⟨ms_of (hts _ tv_867) (hq _ nw_492), List.forall_mem_cons.mpr ⟨ms_of (hts _ tv_877) (hq _ nw_511), List.forall_mem_cons.mpr ⟨ms_of (hts _ tv_891) (hq _ nw_541), List.forall_mem_cons.mpr ⟨ms_of (hts _ tv_915) (hq _ nw_568), fun _ h => absurd h List.not_mem_nil⟩⟩⟩⟩⟩⟩⟩⟩⟩⟩⟩⟩⟩⟩⟩⟩⟩⟩
theorem vk_all {s : State} {a0 : Array Value} {ad : Nat → Nat × Nat} (hts : ∀ w ∈ lw_tbl, w.before a0 s = true) (hq : ∀ c ∈ flatC (Jvm.Cond.and given_1 narrow_1), c.before a0 s = true) (h0 : (Term.string "StormFlags$RuleBook" 81).eval a0 s none [] s = some (.ref (ad 0).1)) (h1 : (Term.string "StormFlags$RuleBook" 83).eval a0 s none [] s = some (.ref (ad 1).1)) (h2 : (Term.string "StormFlags$RuleBook" 85).eval a0 s none [] s = some (.ref (ad 2).1)) (h3 : (Term.string "StormFlags$RuleBook" 87).eval a0 s none [] s = some (.ref (ad 3).1)) (h4 : (Term.string "StormFlags$RuleBook" 89).eval a0 s none [] s = some (.ref (ad 4).1)) (h5 : (Term.string "StormFlags$RuleBook" 91).eval a0 s none [] s = some (.ref (ad 5).1)) (h6 : (Term.string "StormFlags$RuleBook" 65).eval a0 s none [] s = some (.ref (ad 6).1)) : ∀ q ∈ strTab, vk_R q.1 q.2.1 q.2.2.1 (ad q.2.2.2).1 s := List.forall_mem_cons.mpr ⟨vk_R.of (hts _ tv_545) h0, List.forall_mem_cons.mpr ⟨vk_R.of (hts _ tv_600) h1, List.forall_mem_cons.mpr ⟨vk_R.of (hts _ tv_608) h2, List.forall_mem_cons.mpr ⟨vk_R.of (hts _ tv_609) h3, List.forall_mem_cons.mpr ⟨vk_R.of (hts _ tv_610) h4, List.forall_mem_cons.mpr ⟨vk_R.of (hts _ tv_611) h5, List.forall_mem_cons.mpr ⟨vk_R.of (hts _ tv_624) h6, List.forall_mem_cons.mpr ⟨vk_R.of (hts _ tv_1106) (va_eqR (hq _ nw_603) h0), List.forall_mem_cons.mpr ⟨vk_R.of (hts _ tv_1113) (va_eqR (hq _ nw_612) h1), List.forall_mem_cons.mpr ⟨vk_R.of (hts _ tv_1118) (va_eqR (hq _ nw_621) h2), List.forall_mem_cons.mpr ⟨vk_R.of (hts _ tv_1119) (va_eqR (hq _ nw_629) h3), List.forall_mem_cons.mpr ⟨vk_R.of (hts _ tv_1120) (va_eqR (hq _ nw_638) h4), List.forall_mem_cons.mpr ⟨vk_R.of (hts _ tv_1121) (va_eqR (hq _ nw_648) h5), List.forall_mem_cons.mpr ⟨vk_R.of (hts _ tv_1122) (va_eqR (hq _ nw_656) h6), fun _ h => absurd h List.not_mem_nil⟩⟩⟩⟩⟩⟩⟩⟩⟩⟩⟩⟩⟩⟩
theorem E0_of {l : Launch} {s : State} {a0 : Array Value} (hts : ∀ w ∈ lw_tbl, w.before a0 s = true) (hgv : (Jvm.Cond.and given_1 narrow_1).before a0 s = true) (hl : l.stackTraces = false) : ∃ (D : va_G) (cy : Nat → ClassId) (P : Pm), E0 l s D cy P a0 := by
  have hq := flat_of_before _ hgv
  have hA : ∀ a : Nat, a < s.heap.size → ¬ (s.heap.size ≤ a) := fun a h1 h2 => by omega
  obtain ⟨D, hD⟩ := kn_all hts
  obtain ⟨cy, hcy⟩ := ar_all hts
  obtain ⟨q0, s0⟩ := st_0 hq
  obtain ⟨q1, s1⟩ := st_1 hq
  obtain ⟨q2, s2⟩ := st_2 hq
  obtain ⟨q3, s3⟩ := st_3 hq
  obtain ⟨q4, s4⟩ := st_4 hq
  obtain ⟨q5, s5⟩ := st_5 hq
  obtain ⟨q6, s6⟩ := st_6 hq
  obtain ⟨z, hz, hzT⟩ := va_Tof (f := fun _ => .null) (A := fun q => s.heap.size ≤ q) (N := 0) (by decide) (hq _ nw_5) (va_eqt (hq _ nw_7)) (fun j hj => absurd hj (Nat.not_lt_zero _)) hA
  obtain ⟨mi, hmi⟩ := va_Mi.of (hq _ nw_71)
  obtain ⟨fv, hfv, hfr⟩ : ∃ fv : Value, va_Z "jdk/internal/util/Preconditions" "SIOOBE_FORMATTER" "Ljava/util/function/BiFunction;" fv (fun q => s.heap.size ≤ q) s s.heap ∧ (fv = .null ∨ ∃ a, fv = .ref a) := by
    rcases va_Zqof (A := fun q => s.heap.size ≤ q) (hts _ tw_579) (hts _ tw_21) (hq _ nw_11) hA with h | ⟨t, h⟩
    · exact ⟨_, h, Or.inl rfl⟩
    · exact ⟨_, h, Or.inr ⟨t, rfl⟩⟩
  let ad : Nat → Nat × Nat := fun k => match k with | 0 => q0 | 1 => q1 | 2 => q2 | 3 => q3 | 4 => q4 | 5 => q5 | _ => q6
  let rb : Nat → Nat := fun k => match k with | 0 => 81 | 1 => 83 | 2 => 85 | 3 => 87 | 4 => 89 | 5 => 91 | _ => 65
  have had : ∀ k, k < 7 → STR s a0 (.string "StormFlags$RuleBook" (rb k)) (txt k) (ad k) := by
    intro k hk
    rcases (by omega : k = 0 ∨ k = 1 ∨ k = 2 ∨ k = 3 ∨ k = 4 ∨ k = 5 ∨ k = 6) with rfl | rfl | rfl | rfl | rfl | rfl | rfl
    · exact s0
    · exact s1
    · exact s2
    · exact s3
    · exact s4
    · exact s5
    · exact s6
  have hvk := vk_all (ad := ad) hts hq s0.1 s1.1 s2.1 s3.1 s4.1 s5.1 s6.1
  clear_value ad rb
  have hlen : ∀ k, k < 7 → (txt k).length < 2 ^ 31 := by decide
  have hinj : ∀ i, i < 7 → ∀ j, j < 7 → txt i = txt j → i = j := by decide
  have hi2 : ∀ k, k < 7 → ∀ i, i < 7 → (ad i).2 = (ad k).2 → i = k := fun k hk i hi e => hinj i hi k hk (STR_b (had i hi) (had k hk) (hlen i hi) (hlen k hk) e)
  have hi1 : ∀ k, k < 7 → ∀ i, i < 7 → (ad i).1 = (ad k).1 → i = k := fun k hk i hi e => hi2 k hk i hi (STR_v (had i hi) (had k hk) e)
  let O2 : Nat → Option (Nat × (Nat → Int32)) := fun a => ((List.range 7).find? (fun k => (ad k).2 == a)).map (fun k => ((txt k).length, fun j => (txt k).getD j 0))
  let S2 : Nat → Option Nat := fun a => ((List.range 7).find? (fun k => (ad k).1 == a)).map (fun k => (ad k).2)
  have hO2 : ∀ a n f, O2 a = some (n, f) → ∃ k, k < 7 ∧ (ad k).2 = a ∧ n = (txt k).length ∧ f = fun j => (txt k).getD j 0 := by
    intro a n f h
    obtain ⟨k, hk, e⟩ := Option.map_eq_some_iff.mp h
    cases e
    exact ⟨k, List.mem_range.mp (List.mem_of_find?_eq_some hk), by simpa using List.find?_some hk, rfl, rfl⟩
  have hS2 : ∀ a v, S2 a = some v → ∃ k, k < 7 ∧ (ad k).1 = a ∧ v = (ad k).2 := by
    intro a v h
    obtain ⟨k, hk, e⟩ := Option.map_eq_some_iff.mp h
    cases e
    exact ⟨k, List.mem_range.mp (List.mem_of_find?_eq_some hk), by simpa using List.find?_some hk, rfl⟩
  have hO2' : ∀ k, k < 7 → O2 (ad k).2 = some ((txt k).length, fun j => (txt k).getD j 0) := fun k hk => by
    show Option.map _ _ = _
    rw [find_k (g := fun i => (ad i).2) hk (hi2 k hk)]; rfl
  have hS2' : ∀ k, k < 7 → S2 (ad k).1 = some (ad k).2 := fun k hk => by
    show Option.map _ _ = _
    rw [find_k (g := fun i => (ad i).1) hk (hi1 k hk)]; rfl
  clear_value O2 S2
  have hzT2 := hzT
  obtain ⟨zc, z1, z2, z3, z4, z5, z6, z7⟩ := hzT2
  have hz7 : z < s.heap.size := Nat.not_le.mp z7
  refine ⟨D, cy, (fun k => (ad k).1, (z, O2), mi, S2, fv), hts, ⟨hD, hcy⟩, hl, ⟨fun k hk => ⟨_, hS2' k hk, hO2' k hk⟩, hfr, fun a n f h e => ?_⟩, ⟨hz7, zc, z1, z2, z5⟩, fun a n f h => ?_, fun a v h => ?_, hvk, ms_all hts hq, va_Zof (hts _ tw_68) (hts _ tw_5) hz hA, va_Zof (hts _ tw_563) (hts _ tw_23) (va_eqi (hq _ nw_10)) hA, hfv, hfr, hmi, vx_Zqof (hts _ tw_263) (hts _ tw_9) (hq _ nw_8) hA, vx_Zqof (hts _ tw_265) (hts _ tw_9) (hq _ nw_9) hA⟩
  · obtain ⟨k, hk, e2, -, -⟩ := hO2 a n f h
    obtain ⟨-, -, -, -, cell, a1, a2, -⟩ := had k hk
    have e3 : (ad k).2 = z := e2.trans e
    rw [e3, z1] at a1
    cases a1
    obtain ⟨-, ka, h1, c1, h2⟩ := a2
    obtain ⟨-, kb, h3, c2, h4⟩ := z2
    rw [h1] at h3
    cases h3
    rw [h2] at h4
    cases h4
  · obtain ⟨k, hk, rfl, rfl, rfl⟩ := hO2 a n f h
    exact (had k hk).2.2.2.2
  · obtain ⟨k, hk, rfl, rfl⟩ := hS2 a v h
    exact ⟨(had k hk).2.1, (had k hk).2.2.1, (had k hk).2.2.2.1⟩
theorem NC_of {s : State} {a0 : Array Value} (hgv : (Jvm.Cond.and given_1 narrow_1).before a0 s = true) : NCok s :=
  have hq := flat_of_before _ hgv
  List.forall_mem_cons.mpr ⟨List.forall_mem_cons.mpr ⟨fun z => absurd rfl z, List.forall_mem_cons.mpr ⟨fun _ => va_Nc.of (hq _ nw_35), List.forall_mem_cons.mpr ⟨fun _ => va_Nc.of (hq _ nw_49), List.forall_mem_cons.mpr ⟨fun _ => va_Nc.of (hq _ nw_63), fun _ h => absurd h List.not_mem_nil⟩⟩⟩⟩, List.forall_mem_cons.mpr ⟨List.forall_mem_cons.mpr ⟨fun _ => va_Nc.of (hq _ nw_21), List.forall_mem_cons.mpr ⟨fun z => absurd rfl z, List.forall_mem_cons.mpr ⟨fun _ => va_Nc.of (hq _ nw_50), List.forall_mem_cons.mpr ⟨fun _ => va_Nc.of (hq _ nw_64), fun _ h => absurd h List.not_mem_nil⟩⟩⟩⟩, List.forall_mem_cons.mpr ⟨List.forall_mem_cons.mpr ⟨fun _ => va_Nc.of (hq _ nw_23), List.forall_mem_cons.mpr ⟨fun _ => va_Nc.of (hq _ nw_37), List.forall_mem_cons.mpr ⟨fun z => absurd rfl z, List.forall_mem_cons.mpr ⟨fun _ => va_Nc.of (hq _ nw_66), fun _ h => absurd h List.not_mem_nil⟩⟩⟩⟩, List.forall_mem_cons.mpr ⟨List.forall_mem_cons.mpr ⟨fun _ => va_Nc.of (hq _ nw_28), List.forall_mem_cons.mpr ⟨fun _ => va_Nc.of (hq _ nw_42), List.forall_mem_cons.mpr ⟨fun _ => va_Nc.of (hq _ nw_56), List.forall_mem_cons.mpr ⟨fun z => absurd rfl z, fun _ h => absurd h List.not_mem_nil⟩⟩⟩⟩, fun _ h => absurd h List.not_mem_nil⟩⟩⟩⟩
