/-! ===== all good words of the tables, and the place of each ===== -/
def AL : List Cond := lw_tbl.filter goodWord
theorem al {w : Cond} (h : w ∈ lw_tbl) (g : goodWord w = true) : w ∈ AL := List.mem_filter.mpr ⟨h, g⟩
theorem al_in {w : Cond} (h : w ∈ AL) : w ∈ lw_tbl := (List.mem_filter.mp h).1
theorem al_good {c : Cond} : GoodIn (c :: AL) AL := fun w h => ⟨List.mem_cons_of_mem _ h, good_of_word (List.mem_filter.mp h).2⟩
theorem al_goodL : GoodIn lw_tbl AL := fun w h => ⟨al_in h, good_of_word (List.mem_filter.mp h).2⟩
theorem al_m {c d : Cond} (h : d ∈ AL) : GoodIn (c :: AL) (d :: AL) := fun w hw => (List.mem_cons.mp hw).elim (fun e => e ▸ al_good d h) (fun h => al_good w h)
theorem al_mL {d : Cond} (h : d ∈ AL) : GoodIn lw_tbl (d :: AL) := fun w hw => (List.mem_cons.mp hw).elim (fun e => e ▸ al_goodL d h) (fun h => al_goodL w h)
theorem al_v {c d x1 x2 x3 x4 : Cond} (h : d ∈ AL) (h1 : x1 ∈ AL) (h2 : x2 ∈ AL) (h3 : x3 ∈ AL) (h4 : x4 ∈ AL) : GoodIn (c :: AL) ([x1, x2, x3, x4] ++ (d :: AL)) := fun w hw => (List.mem_append.mp hw).elim (fun k => al_good w (by simp only [List.mem_cons, List.not_mem_nil, or_false] at k; rcases k with e | e | e | e <;> (rw [e]; assumption))) (fun k => al_m h w k)
theorem al_vL {d x1 x2 x3 x4 : Cond} (h : d ∈ AL) (h1 : x1 ∈ AL) (h2 : x2 ∈ AL) (h3 : x3 ∈ AL) (h4 : x4 ∈ AL) : GoodIn lw_tbl ([x1, x2, x3, x4] ++ (d :: AL)) := fun w hw => (List.mem_append.mp hw).elim (fun k => al_goodL w (by simp only [List.mem_cons, List.not_mem_nil, or_false] at k; rcases k with e | e | e | e <;> (rw [e]; assumption))) (fun k => al_mL h w k)
theorem al_s {c d x1 x2 x3 : Cond} (h : d ∈ AL) (h1 : x1 ∈ AL) (h2 : x2 ∈ AL) (h3 : x3 ∈ AL) : GoodIn (c :: AL) ([x1, x2, x3] ++ (d :: AL)) := fun w hw => (List.mem_append.mp hw).elim (fun k => al_good w (by simp only [List.mem_cons, List.not_mem_nil, or_false] at k; rcases k with e | e | e <;> (rw [e]; assumption))) (fun k => al_m h w k)
theorem al_sL {d x1 x2 x3 : Cond} (h : d ∈ AL) (h1 : x1 ∈ AL) (h2 : x2 ∈ AL) (h3 : x3 ∈ AL) : GoodIn lw_tbl ([x1, x2, x3] ++ (d :: AL)) := fun w hw => (List.mem_append.mp hw).elim (fun k => al_goodL w (by simp only [List.mem_cons, List.not_mem_nil, or_false] at k; rcases k with e | e | e <;> (rw [e]; assumption))) (fun k => al_mL h w k)
theorem tb_1 {w : Cond} (h : w ∈ tables_1_1) : w ∈ lw_tbl := List.mem_append_right _ (List.mem_append_left _ h)
theorem tb_2 {w : Cond} (h : w ∈ tables_1_2) : w ∈ lw_tbl := List.mem_append_right _ (List.mem_append_right _ (List.mem_append_left _ h))
theorem tb_3 {w : Cond} (h : w ∈ tables_1_3) : w ∈ lw_tbl := List.mem_append_right _ (List.mem_append_right _ (List.mem_append_right _ (List.mem_append_left _ h)))
theorem tb_4 {w : Cond} (h : w ∈ tables_1_4) : w ∈ lw_tbl := List.mem_append_right _ (List.mem_append_right _ (List.mem_append_right _ (List.mem_append_right _ (List.mem_append_left _ h))))
theorem tb_5 {w : Cond} (h : w ∈ tables_1_5) : w ∈ lw_tbl := List.mem_append_right _ (List.mem_append_right _ (List.mem_append_right _ (List.mem_append_right _ (List.mem_append_right _ (List.mem_append_left _ h)))))
theorem tb_6 {w : Cond} (h : w ∈ tables_1_6) : w ∈ lw_tbl := List.mem_append_right _ (List.mem_append_right _ (List.mem_append_right _ (List.mem_append_right _ (List.mem_append_right _ (List.mem_append_right _ (h))))))
theorem tb_p {q : MethodName × Nat} (h : q ∈ lw_privs) : Cond.selects q.1.cls q.1 q.1 ∈ lw_tbl := List.mem_append_left _ (List.mem_map.mpr ⟨q, h, rfl⟩)
theorem wd_1_0 : (Jvm.Cond.initialized "WeekBankLaw") ∈ AL := al (tb_1 (List.mem_of_getElem? (i := 0) rfl)) rfl
theorem wd_1_1 : (Jvm.Cond.initialized "WeekBank") ∈ AL := al (tb_1 (List.mem_of_getElem? (i := 1) rfl)) rfl
theorem wd_1_2 : (Jvm.Cond.initialized "WeekBank$Reader") ∈ AL := al (tb_1 (List.mem_of_getElem? (i := 2) rfl)) rfl
theorem wd_1_3 : (Jvm.Cond.initialized "WeekBank$Rules") ∈ AL := al (tb_1 (List.mem_of_getElem? (i := 3) rfl)) rfl
theorem wd_1_4 : (Jvm.Cond.initialized "java/util/Arrays") ∈ AL := al (tb_1 (List.mem_of_getElem? (i := 4) rfl)) rfl
theorem wd_1_5 : (Jvm.Cond.initialized "WeekBank$RingSearch") ∈ AL := al (tb_1 (List.mem_of_getElem? (i := 5) rfl)) rfl
theorem wd_1_6 : (Jvm.Cond.initialized "WeekBank$FeeRounds") ∈ AL := al (tb_1 (List.mem_of_getElem? (i := 6) rfl)) rfl
theorem wd_1_7 : (Jvm.Cond.initialized "WeekBankModel") ∈ AL := al (tb_1 (List.mem_of_getElem? (i := 7) rfl)) rfl
theorem wd_1_8 : (Jvm.Cond.initialized "WeekBank$Flat") ∈ AL := al (tb_1 (List.mem_of_getElem? (i := 8) rfl)) rfl
theorem wd_1_9 : (Jvm.Cond.initialized "WeekBank$Owner") ∈ AL := al (tb_1 (List.mem_of_getElem? (i := 9) rfl)) rfl
theorem wd_1_10 : (Jvm.Cond.initialized "java/lang/String") ∈ AL := al (tb_1 (List.mem_of_getElem? (i := 10) rfl)) rfl
theorem wd_1_11 : (Jvm.Cond.initialized "java/lang/StringLatin1") ∈ AL := al (tb_1 (List.mem_of_getElem? (i := 11) rfl)) rfl
theorem wd_1_12 : (Jvm.Cond.initialized "jdk/internal/util/Preconditions") ∈ AL := al (tb_1 (List.mem_of_getElem? (i := 12) rfl)) rfl
theorem wd_1_13 : (Jvm.Cond.initialized "java/lang/StringUTF16") ∈ AL := al (tb_1 (List.mem_of_getElem? (i := 13) rfl)) rfl
theorem wd_1_14 : (Jvm.Cond.initialized "java/lang/Math") ∈ AL := al (tb_1 (List.mem_of_getElem? (i := 14) rfl)) rfl
theorem wd_1_15 : (Jvm.Cond.initialized "WeekBank$Gift") ∈ AL := al (tb_1 (List.mem_of_getElem? (i := 15) rfl)) rfl
theorem wd_1_16 : (Jvm.Cond.initialized "WeekBank$Wish") ∈ AL := al (tb_1 (List.mem_of_getElem? (i := 16) rfl)) rfl
theorem wd_1_17 : (Jvm.Cond.initialized "java/lang/Integer") ∈ AL := al (tb_1 (List.mem_of_getElem? (i := 17) rfl)) rfl
theorem wd_1_18 : (Jvm.Cond.initialized "java/lang/Throwable") ∈ AL := al (tb_1 (List.mem_of_getElem? (i := 18) rfl)) rfl
theorem wd_1_19 : (Jvm.Cond.initialized "java/lang/Exception") ∈ AL := al (tb_1 (List.mem_of_getElem? (i := 19) rfl)) rfl
theorem wd_1_20 : (Jvm.Cond.initialized "java/lang/RuntimeException") ∈ AL := al (tb_1 (List.mem_of_getElem? (i := 20) rfl)) rfl
theorem wd_1_21 : (Jvm.Cond.initialized "java/util/NoSuchElementException") ∈ AL := al (tb_1 (List.mem_of_getElem? (i := 21) rfl)) rfl
theorem wd_1_22 : (Jvm.Cond.classLink "WeekBankLaw" (8 : Nat) "WeekBank") ∈ AL := al (tb_1 (List.mem_of_getElem? (i := 22) rfl)) rfl
theorem wd_1_23 : (Jvm.Cond.instantiable "WeekBank" (13 : Nat)) ∈ AL := al (tb_1 (List.mem_of_getElem? (i := 23) rfl)) rfl
theorem wd_1_24 : (Jvm.Cond.methodLink "WeekBankLaw" (15 : Nat) ({ cls := "WeekBank", name := "<init>", desc := "()V" } : Jvm.MethodName)) ∈ AL := al (tb_1 (List.mem_of_getElem? (i := 24) rfl)) rfl
theorem wd_1_25 : (Jvm.Cond.instanceMethod ({ cls := "WeekBank", name := "<init>", desc := "()V" } : Jvm.MethodName)) ∈ AL := al (tb_1 (List.mem_of_getElem? (i := 25) rfl)) rfl
theorem wd_1_26 : (Jvm.Cond.code ({ cls := "WeekBank", name := "<init>", desc := "()V" } : Jvm.MethodName) prog_1_method_1_code (1 : Nat) (Option.none : Option Jvm.ClassFile.FieldType)) ∈ AL := al (tb_1 (List.mem_of_getElem? (i := 26) rfl)) rfl
theorem wd_1_27 : (Jvm.Cond.methodLink "WeekBank" (1 : Nat) ({ cls := "java/lang/Object", name := "<init>", desc := "()V" } : Jvm.MethodName)) ∈ AL := al (tb_1 (List.mem_of_getElem? (i := 27) rfl)) rfl
theorem wd_1_28 : (Jvm.Cond.instanceMethod ({ cls := "java/lang/Object", name := "<init>", desc := "()V" } : Jvm.MethodName)) ∈ AL := al (tb_1 (List.mem_of_getElem? (i := 28) rfl)) rfl
theorem wd_1_29 : (Jvm.Cond.code ({ cls := "java/lang/Object", name := "<init>", desc := "()V" } : Jvm.MethodName) object_method_1_code (1 : Nat) (Option.none : Option Jvm.ClassFile.FieldType)) ∈ AL := al (tb_1 (List.mem_of_getElem? (i := 29) rfl)) rfl
theorem wd_1_30 : (Jvm.Cond.classLink "WeekBank" (9 : Nat) "WeekBank$Flat") ∈ AL := al (tb_1 (List.mem_of_getElem? (i := 30) rfl)) rfl
theorem wt_1_31 : (Jvm.Cond.arrayOver (Jvm.ClassFile.FieldType.object "WeekBank$Flat")) ∈ lw_tbl := tb_1 (List.mem_of_getElem? (i := 31) rfl)
theorem wd_1_32 : (Jvm.Cond.classLink "WeekBank" (19 : Nat) "WeekBank$Owner") ∈ AL := al (tb_1 (List.mem_of_getElem? (i := 32) rfl)) rfl
theorem wt_1_33 : (Jvm.Cond.arrayOver (Jvm.ClassFile.FieldType.object "WeekBank$Owner")) ∈ lw_tbl := tb_1 (List.mem_of_getElem? (i := 33) rfl)
theorem wd_1_34 : (Jvm.Cond.classLink "WeekBank" (28 : Nat) "WeekBank$Gift") ∈ AL := al (tb_1 (List.mem_of_getElem? (i := 34) rfl)) rfl
theorem wt_1_35 : (Jvm.Cond.arrayOver (Jvm.ClassFile.FieldType.object "WeekBank$Gift")) ∈ lw_tbl := tb_1 (List.mem_of_getElem? (i := 35) rfl)
theorem wd_1_36 : (Jvm.Cond.classLink "WeekBank" (37 : Nat) "WeekBank$Reader") ∈ AL := al (tb_1 (List.mem_of_getElem? (i := 36) rfl)) rfl
theorem wd_1_37 : (Jvm.Cond.instantiable "WeekBank$Reader" (8 : Nat)) ∈ AL := al (tb_1 (List.mem_of_getElem? (i := 37) rfl)) rfl
theorem wt_1_38 : (Jvm.Cond.methodLinkNest "WeekBank" (39 : Nat) ({ cls := "WeekBank$Reader", name := "<init>", desc := "()V" } : Jvm.MethodName) "WeekBank") ∈ lw_tbl := tb_1 (List.mem_of_getElem? (i := 38) rfl)
theorem wd_1_39 : (Jvm.Cond.instanceMethod ({ cls := "WeekBank$Reader", name := "<init>", desc := "()V" } : Jvm.MethodName)) ∈ AL := al (tb_1 (List.mem_of_getElem? (i := 39) rfl)) rfl
theorem wd_1_40 : (Jvm.Cond.code ({ cls := "WeekBank$Reader", name := "<init>", desc := "()V" } : Jvm.MethodName) prog_6_method_1_code (1 : Nat) (Option.none : Option Jvm.ClassFile.FieldType)) ∈ AL := al (tb_1 (List.mem_of_getElem? (i := 40) rfl)) rfl
theorem wd_1_41 : (Jvm.Cond.methodLink "WeekBank$Reader" (3 : Nat) ({ cls := "java/lang/Object", name := "<init>", desc := "()V" } : Jvm.MethodName)) ∈ AL := al (tb_1 (List.mem_of_getElem? (i := 41) rfl)) rfl
theorem wd_1_42 : (Jvm.Cond.fieldLink "WeekBank$Reader" (9 : Nat) "WeekBank$Reader" "tape" "[I") ∈ AL := al (tb_1 (List.mem_of_getElem? (i := 42) rfl)) rfl
theorem wd_1_43 : (Jvm.Cond.fieldLink "WeekBank$Reader" (15 : Nat) "WeekBank$Reader" "length" "I") ∈ AL := al (tb_1 (List.mem_of_getElem? (i := 43) rfl)) rfl
theorem wd_1_44 : (Jvm.Cond.fieldLink "WeekBank" (104 : Nat) "WeekBank$Reader" "length" "I") ∈ AL := al (tb_1 (List.mem_of_getElem? (i := 44) rfl)) rfl
theorem wd_1_45 : (Jvm.Cond.fieldLink "WeekBank$Reader" (19 : Nat) "WeekBank$Reader" "fault" "I") ∈ AL := al (tb_1 (List.mem_of_getElem? (i := 45) rfl)) rfl
theorem wd_1_46 : (Jvm.Cond.fieldLink "WeekBank" (115 : Nat) "WeekBank$Reader" "fault" "I") ∈ AL := al (tb_1 (List.mem_of_getElem? (i := 46) rfl)) rfl
theorem wd_1_47 : (Jvm.Cond.fieldLink "WeekBank$Reader" (22 : Nat) "WeekBank$Reader" "faultPlace" "I") ∈ AL := al (tb_1 (List.mem_of_getElem? (i := 47) rfl)) rfl
theorem wd_1_48 : (Jvm.Cond.fieldLink "WeekBank" (121 : Nat) "WeekBank$Reader" "faultPlace" "I") ∈ AL := al (tb_1 (List.mem_of_getElem? (i := 48) rfl)) rfl
theorem wd_1_49 : (Jvm.Cond.fieldLink "WeekBank$Reader" (25 : Nat) "WeekBank$Reader" "at" "I") ∈ AL := al (tb_1 (List.mem_of_getElem? (i := 49) rfl)) rfl
theorem wd_1_50 : (Jvm.Cond.fieldLink "WeekBank$Reader" (28 : Nat) "WeekBank$Reader" "token" "I") ∈ AL := al (tb_1 (List.mem_of_getElem? (i := 50) rfl)) rfl
theorem wd_1_51 : (Jvm.Cond.fieldLink "WeekBank$Reader" (31 : Nat) "WeekBank$Reader" "tokenStart" "I") ∈ AL := al (tb_1 (List.mem_of_getElem? (i := 51) rfl)) rfl
theorem wd_1_52 : (Jvm.Cond.fieldLink "WeekBank$Reader" (34 : Nat) "WeekBank$Reader" "tokenNumber" "I") ∈ AL := al (tb_1 (List.mem_of_getElem? (i := 52) rfl)) rfl
theorem wd_1_53 : (Jvm.Cond.laysFinal "WeekBank$Reader" "WeekBank$Reader" "tape" "[I") ∈ AL := al (tb_1 (List.mem_of_getElem? (i := 53) rfl)) rfl
theorem wd_1_55 : (Jvm.Cond.lays "WeekBank$Reader" "WeekBank$Reader" "length" "I") ∈ AL := al (tb_1 (List.mem_of_getElem? (i := 55) rfl)) rfl
theorem wd_1_57 : (Jvm.Cond.lays "WeekBank$Reader" "WeekBank$Reader" "fault" "I") ∈ AL := al (tb_1 (List.mem_of_getElem? (i := 57) rfl)) rfl
theorem wd_1_59 : (Jvm.Cond.lays "WeekBank$Reader" "WeekBank$Reader" "faultPlace" "I") ∈ AL := al (tb_1 (List.mem_of_getElem? (i := 59) rfl)) rfl
theorem wd_1_61 : (Jvm.Cond.lays "WeekBank$Reader" "WeekBank$Reader" "at" "I") ∈ AL := al (tb_1 (List.mem_of_getElem? (i := 61) rfl)) rfl
theorem wd_1_63 : (Jvm.Cond.lays "WeekBank$Reader" "WeekBank$Reader" "token" "I") ∈ AL := al (tb_1 (List.mem_of_getElem? (i := 63) rfl)) rfl
theorem wd_1_65 : (Jvm.Cond.lays "WeekBank$Reader" "WeekBank$Reader" "tokenStart" "I") ∈ AL := al (tb_1 (List.mem_of_getElem? (i := 65) rfl)) rfl
theorem wd_1_67 : (Jvm.Cond.lays "WeekBank$Reader" "WeekBank$Reader" "tokenNumber" "I") ∈ AL := al (tb_1 (List.mem_of_getElem? (i := 67) rfl)) rfl
theorem wt_1_69 : (Jvm.Cond.superclass "WeekBank$Reader" "java/lang/Object") ∈ lw_tbl := tb_1 (List.mem_of_getElem? (i := 69) rfl)
theorem wd_1_70 : (Jvm.Cond.arrayClass Jvm.ClassFile.FieldType.int) ∈ AL := al (tb_1 (List.mem_of_getElem? (i := 70) rfl)) rfl
theorem wd_1_71 : (Jvm.Cond.classLink "WeekBank" (44 : Nat) "WeekBank$Rules") ∈ AL := al (tb_1 (List.mem_of_getElem? (i := 71) rfl)) rfl
theorem wd_1_72 : (Jvm.Cond.instantiable "WeekBank$Rules" (5 : Nat)) ∈ AL := al (tb_1 (List.mem_of_getElem? (i := 72) rfl)) rfl
theorem wd_1_73 : (Jvm.Cond.methodLink "WeekBank" (46 : Nat) ({ cls := "WeekBank$Rules", name := "<init>", desc := "()V" } : Jvm.MethodName)) ∈ AL := al (tb_1 (List.mem_of_getElem? (i := 73) rfl)) rfl
theorem wd_1_74 : (Jvm.Cond.instanceMethod ({ cls := "WeekBank$Rules", name := "<init>", desc := "()V" } : Jvm.MethodName)) ∈ AL := al (tb_1 (List.mem_of_getElem? (i := 74) rfl)) rfl
theorem wd_1_75 : (Jvm.Cond.code ({ cls := "WeekBank$Rules", name := "<init>", desc := "()V" } : Jvm.MethodName) prog_8_method_1_code (1 : Nat) (Option.none : Option Jvm.ClassFile.FieldType)) ∈ AL := al (tb_1 (List.mem_of_getElem? (i := 75) rfl)) rfl
theorem wd_1_76 : (Jvm.Cond.methodLink "WeekBank$Rules" (3 : Nat) ({ cls := "java/lang/Object", name := "<init>", desc := "()V" } : Jvm.MethodName)) ∈ AL := al (tb_1 (List.mem_of_getElem? (i := 76) rfl)) rfl
theorem wd_1_77 : (Jvm.Cond.methodLink "WeekBank$Rules" (29 : Nat) ({ cls := "java/util/Arrays", name := "fill", desc := "([II)V" } : Jvm.MethodName)) ∈ AL := al (tb_1 (List.mem_of_getElem? (i := 77) rfl)) rfl
theorem wd_1_78 : (Jvm.Cond.static ({ cls := "java/util/Arrays", name := "fill", desc := "([II)V" } : Jvm.MethodName)) ∈ AL := al (tb_1 (List.mem_of_getElem? (i := 78) rfl)) rfl
theorem wd_1_79 : (Jvm.Cond.code ({ cls := "java/util/Arrays", name := "fill", desc := "([II)V" } : Jvm.MethodName) prog_20_method_103_code (4 : Nat) (Option.none : Option Jvm.ClassFile.FieldType)) ∈ AL := al (tb_1 (List.mem_of_getElem? (i := 79) rfl)) rfl
theorem wd_1_80 : (Jvm.Cond.fieldLink "WeekBank$Rules" (9 : Nat) "WeekBank$Rules" "season" "[I") ∈ AL := al (tb_1 (List.mem_of_getElem? (i := 80) rfl)) rfl
theorem wd_1_81 : (Jvm.Cond.fieldLink "WeekBank$Rules" (15 : Nat) "WeekBank$Rules" "sizeAdds" "[I") ∈ AL := al (tb_1 (List.mem_of_getElem? (i := 81) rfl)) rfl
theorem wd_1_82 : (Jvm.Cond.fieldLink "WeekBank$Rules" (18 : Nat) "WeekBank$Rules" "earlyAdds" "[I") ∈ AL := al (tb_1 (List.mem_of_getElem? (i := 82) rfl)) rfl
theorem wd_1_83 : (Jvm.Cond.fieldLink "WeekBank$Rules" (21 : Nat) "WeekBank$Rules" "heirsAreBound" "Z") ∈ AL := al (tb_1 (List.mem_of_getElem? (i := 83) rfl)) rfl
theorem wd_1_84 : (Jvm.Cond.fieldLink "WeekBank$Reader" (98 : Nat) "WeekBank$Rules" "heirsAreBound" "Z") ∈ AL := al (tb_1 (List.mem_of_getElem? (i := 84) rfl)) rfl
theorem wd_1_85 : (Jvm.Cond.fieldLink "WeekBank" (227 : Nat) "WeekBank$Rules" "heirsAreBound" "Z") ∈ AL := al (tb_1 (List.mem_of_getElem? (i := 85) rfl)) rfl
theorem wd_1_86 : (Jvm.Cond.fieldLink "WeekBank$Rules" (25 : Nat) "WeekBank$Rules" "statements" "I") ∈ AL := al (tb_1 (List.mem_of_getElem? (i := 86) rfl)) rfl
theorem wd_1_87 : (Jvm.Cond.fieldLink "WeekBank$Reader" (57 : Nat) "WeekBank$Rules" "statements" "I") ∈ AL := al (tb_1 (List.mem_of_getElem? (i := 87) rfl)) rfl
theorem wd_1_88 : (Jvm.Cond.fieldLink "WeekBank" (118 : Nat) "WeekBank$Rules" "statements" "I") ∈ AL := al (tb_1 (List.mem_of_getElem? (i := 88) rfl)) rfl
theorem wd_1_89 : (Jvm.Cond.laysFinal "WeekBank$Rules" "WeekBank$Rules" "season" "[I") ∈ AL := al (tb_1 (List.mem_of_getElem? (i := 89) rfl)) rfl
theorem wd_1_91 : (Jvm.Cond.laysFinal "WeekBank$Rules" "WeekBank$Rules" "sizeAdds" "[I") ∈ AL := al (tb_1 (List.mem_of_getElem? (i := 91) rfl)) rfl
theorem wd_1_93 : (Jvm.Cond.laysFinal "WeekBank$Rules" "WeekBank$Rules" "earlyAdds" "[I") ∈ AL := al (tb_1 (List.mem_of_getElem? (i := 93) rfl)) rfl
theorem wd_1_95 : (Jvm.Cond.lays "WeekBank$Rules" "WeekBank$Rules" "heirsAreBound" "Z") ∈ AL := al (tb_1 (List.mem_of_getElem? (i := 95) rfl)) rfl
theorem wd_1_97 : (Jvm.Cond.lays "WeekBank$Rules" "WeekBank$Rules" "statements" "I") ∈ AL := al (tb_1 (List.mem_of_getElem? (i := 97) rfl)) rfl
theorem wt_1_99 : (Jvm.Cond.superclass "WeekBank$Rules" "java/lang/Object") ∈ lw_tbl := tb_1 (List.mem_of_getElem? (i := 99) rfl)
theorem wd_1_100 : (Jvm.Cond.classLink "WeekBank" (60 : Nat) "WeekBank$RingSearch") ∈ AL := al (tb_1 (List.mem_of_getElem? (i := 100) rfl)) rfl
theorem wd_1_101 : (Jvm.Cond.instantiable "WeekBank$RingSearch" (7 : Nat)) ∈ AL := al (tb_1 (List.mem_of_getElem? (i := 101) rfl)) rfl
theorem wt_1_102 : (Jvm.Cond.methodLinkNest "WeekBank" (62 : Nat) ({ cls := "WeekBank$RingSearch", name := "<init>", desc := "()V" } : Jvm.MethodName) "WeekBank") ∈ lw_tbl := tb_1 (List.mem_of_getElem? (i := 102) rfl)
theorem wd_1_103 : (Jvm.Cond.instanceMethod ({ cls := "WeekBank$RingSearch", name := "<init>", desc := "()V" } : Jvm.MethodName)) ∈ AL := al (tb_1 (List.mem_of_getElem? (i := 103) rfl)) rfl
theorem wd_1_104 : (Jvm.Cond.code ({ cls := "WeekBank$RingSearch", name := "<init>", desc := "()V" } : Jvm.MethodName) prog_7_method_1_code (1 : Nat) (Option.none : Option Jvm.ClassFile.FieldType)) ∈ AL := al (tb_1 (List.mem_of_getElem? (i := 104) rfl)) rfl
theorem wd_1_105 : (Jvm.Cond.methodLink "WeekBank$RingSearch" (3 : Nat) ({ cls := "java/lang/Object", name := "<init>", desc := "()V" } : Jvm.MethodName)) ∈ AL := al (tb_1 (List.mem_of_getElem? (i := 105) rfl)) rfl
theorem wd_1_106 : (Jvm.Cond.classLink "WeekBank$RingSearch" (9 : Nat) "WeekBank$Gift") ∈ AL := al (tb_1 (List.mem_of_getElem? (i := 106) rfl)) rfl
theorem wd_1_107 : (Jvm.Cond.fieldLink "WeekBank$RingSearch" (11 : Nat) "WeekBank$RingSearch" "members" "[LWeekBank$Gift;") ∈ AL := al (tb_1 (List.mem_of_getElem? (i := 107) rfl)) rfl
theorem wd_1_108 : (Jvm.Cond.fieldLink "WeekBank$RingSearch" (17 : Nat) "WeekBank$RingSearch" "size" "I") ∈ AL := al (tb_1 (List.mem_of_getElem? (i := 108) rfl)) rfl
theorem wd_1_109 : (Jvm.Cond.fieldLink "WeekBank$RingSearch" (21 : Nat) "WeekBank$RingSearch" "suits" "[I") ∈ AL := al (tb_1 (List.mem_of_getElem? (i := 109) rfl)) rfl
theorem wd_1_110 : (Jvm.Cond.fieldLink "WeekBank$RingSearch" (25 : Nat) "WeekBank$RingSearch" "paths" "[I") ∈ AL := al (tb_1 (List.mem_of_getElem? (i := 110) rfl)) rfl
theorem wd_1_111 : (Jvm.Cond.fieldLink "WeekBank$RingSearch" (28 : Nat) "WeekBank$RingSearch" "ringOf" "[I") ∈ AL := al (tb_1 (List.mem_of_getElem? (i := 111) rfl)) rfl
theorem wd_1_112 : (Jvm.Cond.fieldLink "WeekBank$RingSearch" (31 : Nat) "WeekBank$RingSearch" "wayOf" "[I") ∈ AL := al (tb_1 (List.mem_of_getElem? (i := 112) rfl)) rfl
theorem wd_1_113 : (Jvm.Cond.fieldLink "WeekBank$RingSearch" (34 : Nat) "WeekBank$RingSearch" "best" "I") ∈ AL := al (tb_1 (List.mem_of_getElem? (i := 113) rfl)) rfl
theorem wd_1_114 : (Jvm.Cond.laysFinal "WeekBank$RingSearch" "WeekBank$RingSearch" "members" "[LWeekBank$Gift;") ∈ AL := al (tb_1 (List.mem_of_getElem? (i := 114) rfl)) rfl
theorem wd_1_116 : (Jvm.Cond.lays "WeekBank$RingSearch" "WeekBank$RingSearch" "size" "I") ∈ AL := al (tb_1 (List.mem_of_getElem? (i := 116) rfl)) rfl
theorem wd_1_118 : (Jvm.Cond.laysFinal "WeekBank$RingSearch" "WeekBank$RingSearch" "suits" "[I") ∈ AL := al (tb_1 (List.mem_of_getElem? (i := 118) rfl)) rfl
theorem wd_1_120 : (Jvm.Cond.laysFinal "WeekBank$RingSearch" "WeekBank$RingSearch" "paths" "[I") ∈ AL := al (tb_1 (List.mem_of_getElem? (i := 120) rfl)) rfl
theorem wd_1_122 : (Jvm.Cond.laysFinal "WeekBank$RingSearch" "WeekBank$RingSearch" "ringOf" "[I") ∈ AL := al (tb_1 (List.mem_of_getElem? (i := 122) rfl)) rfl
theorem wd_1_124 : (Jvm.Cond.laysFinal "WeekBank$RingSearch" "WeekBank$RingSearch" "wayOf" "[I") ∈ AL := al (tb_1 (List.mem_of_getElem? (i := 124) rfl)) rfl
theorem wd_1_126 : (Jvm.Cond.lays "WeekBank$RingSearch" "WeekBank$RingSearch" "best" "I") ∈ AL := al (tb_1 (List.mem_of_getElem? (i := 126) rfl)) rfl
theorem wt_1_128 : (Jvm.Cond.superclass "WeekBank$RingSearch" "java/lang/Object") ∈ lw_tbl := tb_1 (List.mem_of_getElem? (i := 128) rfl)
theorem wd_1_129 : (Jvm.Cond.classLink "WeekBank" (67 : Nat) "WeekBank$FeeRounds") ∈ AL := al (tb_1 (List.mem_of_getElem? (i := 129) rfl)) rfl
theorem wd_1_130 : (Jvm.Cond.instantiable "WeekBank$FeeRounds" (6 : Nat)) ∈ AL := al (tb_1 (List.mem_of_getElem? (i := 130) rfl)) rfl
theorem wt_1_131 : (Jvm.Cond.methodLinkNest "WeekBank" (69 : Nat) ({ cls := "WeekBank$FeeRounds", name := "<init>", desc := "()V" } : Jvm.MethodName) "WeekBank") ∈ lw_tbl := tb_1 (List.mem_of_getElem? (i := 131) rfl)
theorem wd_1_132 : (Jvm.Cond.instanceMethod ({ cls := "WeekBank$FeeRounds", name := "<init>", desc := "()V" } : Jvm.MethodName)) ∈ AL := al (tb_1 (List.mem_of_getElem? (i := 132) rfl)) rfl
theorem wd_1_133 : (Jvm.Cond.code ({ cls := "WeekBank$FeeRounds", name := "<init>", desc := "()V" } : Jvm.MethodName) prog_2_method_1_code (1 : Nat) (Option.none : Option Jvm.ClassFile.FieldType)) ∈ AL := al (tb_1 (List.mem_of_getElem? (i := 133) rfl)) rfl
theorem wd_1_134 : (Jvm.Cond.methodLink "WeekBank$FeeRounds" (3 : Nat) ({ cls := "java/lang/Object", name := "<init>", desc := "()V" } : Jvm.MethodName)) ∈ AL := al (tb_1 (List.mem_of_getElem? (i := 134) rfl)) rfl
theorem wd_1_135 : (Jvm.Cond.fieldLink "WeekBank$FeeRounds" (9 : Nat) "WeekBank$FeeRounds" "limits" "[I") ∈ AL := al (tb_1 (List.mem_of_getElem? (i := 135) rfl)) rfl
theorem wd_1_136 : (Jvm.Cond.fieldLink "WeekBank$FeeRounds" (15 : Nat) "WeekBank$FeeRounds" "owned" "[I") ∈ AL := al (tb_1 (List.mem_of_getElem? (i := 136) rfl)) rfl
theorem wd_1_137 : (Jvm.Cond.fieldLink "WeekBank$FeeRounds" (18 : Nat) "WeekBank$FeeRounds" "left" "[Z") ∈ AL := al (tb_1 (List.mem_of_getElem? (i := 137) rfl)) rfl
theorem wd_1_138 : (Jvm.Cond.fieldLink "WeekBank$FeeRounds" (22 : Nat) "WeekBank$FeeRounds" "size" "I") ∈ AL := al (tb_1 (List.mem_of_getElem? (i := 138) rfl)) rfl
theorem wd_1_139 : (Jvm.Cond.fieldLink "WeekBank$FeeRounds" (26 : Nat) "WeekBank$FeeRounds" "fee" "I") ∈ AL := al (tb_1 (List.mem_of_getElem? (i := 139) rfl)) rfl
theorem wd_1_140 : (Jvm.Cond.fieldLink "WeekBank" (250 : Nat) "WeekBank$FeeRounds" "fee" "I") ∈ AL := al (tb_1 (List.mem_of_getElem? (i := 140) rfl)) rfl
theorem wd_1_141 : (Jvm.Cond.fieldLink "WeekBank$FeeRounds" (29 : Nat) "WeekBank$FeeRounds" "roundsLeft" "I") ∈ AL := al (tb_1 (List.mem_of_getElem? (i := 141) rfl)) rfl
theorem wd_1_142 : (Jvm.Cond.fieldLink "WeekBank" (253 : Nat) "WeekBank$FeeRounds" "roundsLeft" "I") ∈ AL := al (tb_1 (List.mem_of_getElem? (i := 142) rfl)) rfl
theorem wd_1_143 : (Jvm.Cond.laysFinal "WeekBank$FeeRounds" "WeekBank$FeeRounds" "limits" "[I") ∈ AL := al (tb_1 (List.mem_of_getElem? (i := 143) rfl)) rfl
theorem wd_1_145 : (Jvm.Cond.laysFinal "WeekBank$FeeRounds" "WeekBank$FeeRounds" "owned" "[I") ∈ AL := al (tb_1 (List.mem_of_getElem? (i := 145) rfl)) rfl
theorem wd_1_147 : (Jvm.Cond.laysFinal "WeekBank$FeeRounds" "WeekBank$FeeRounds" "left" "[Z") ∈ AL := al (tb_1 (List.mem_of_getElem? (i := 147) rfl)) rfl
theorem wd_1_149 : (Jvm.Cond.lays "WeekBank$FeeRounds" "WeekBank$FeeRounds" "size" "I") ∈ AL := al (tb_1 (List.mem_of_getElem? (i := 149) rfl)) rfl
theorem wd_1_151 : (Jvm.Cond.lays "WeekBank$FeeRounds" "WeekBank$FeeRounds" "fee" "I") ∈ AL := al (tb_1 (List.mem_of_getElem? (i := 151) rfl)) rfl
theorem wd_1_153 : (Jvm.Cond.lays "WeekBank$FeeRounds" "WeekBank$FeeRounds" "roundsLeft" "I") ∈ AL := al (tb_1 (List.mem_of_getElem? (i := 153) rfl)) rfl
theorem wt_1_155 : (Jvm.Cond.superclass "WeekBank$FeeRounds" "java/lang/Object") ∈ lw_tbl := tb_1 (List.mem_of_getElem? (i := 155) rfl)
theorem wd_1_156 : (Jvm.Cond.arrayClass Jvm.ClassFile.FieldType.boolean) ∈ AL := al (tb_1 (List.mem_of_getElem? (i := 156) rfl)) rfl
theorem wd_1_157 : (Jvm.Cond.fieldLink "WeekBank" (11 : Nat) "WeekBank" "flats" "[LWeekBank$Flat;") ∈ AL := al (tb_1 (List.mem_of_getElem? (i := 157) rfl)) rfl
theorem wd_1_158 : (Jvm.Cond.fieldLink "WeekBank" (15 : Nat) "WeekBank" "flatCount" "I") ∈ AL := al (tb_1 (List.mem_of_getElem? (i := 158) rfl)) rfl
theorem wd_1_159 : (Jvm.Cond.fieldLink "WeekBank" (21 : Nat) "WeekBank" "owners" "[LWeekBank$Owner;") ∈ AL := al (tb_1 (List.mem_of_getElem? (i := 159) rfl)) rfl
theorem wd_1_160 : (Jvm.Cond.fieldLink "WeekBank" (25 : Nat) "WeekBank" "ownerCount" "I") ∈ AL := al (tb_1 (List.mem_of_getElem? (i := 160) rfl)) rfl
theorem wd_1_161 : (Jvm.Cond.fieldLink "WeekBank" (30 : Nat) "WeekBank" "gifts" "[LWeekBank$Gift;") ∈ AL := al (tb_1 (List.mem_of_getElem? (i := 161) rfl)) rfl
theorem wd_1_162 : (Jvm.Cond.fieldLink "WeekBank" (34 : Nat) "WeekBank" "giftCount" "I") ∈ AL := al (tb_1 (List.mem_of_getElem? (i := 162) rfl)) rfl
theorem wd_1_163 : (Jvm.Cond.fieldLink "WeekBank" (40 : Nat) "WeekBank" "reader" "LWeekBank$Reader;") ∈ AL := al (tb_1 (List.mem_of_getElem? (i := 163) rfl)) rfl
theorem wd_1_164 : (Jvm.Cond.fieldLink "WeekBank" (47 : Nat) "WeekBank" "told" "LWeekBank$Rules;") ∈ AL := al (tb_1 (List.mem_of_getElem? (i := 164) rfl)) rfl
theorem wd_1_165 : (Jvm.Cond.fieldLink "WeekBank" (51 : Nat) "WeekBank" "draft" "LWeekBank$Rules;") ∈ AL := al (tb_1 (List.mem_of_getElem? (i := 165) rfl)) rfl
theorem wd_1_166 : (Jvm.Cond.fieldLink "WeekBank" (54 : Nat) "WeekBank" "yearNow" "I") ∈ AL := al (tb_1 (List.mem_of_getElem? (i := 166) rfl)) rfl
theorem wd_1_167 : (Jvm.Cond.fieldLink "WeekBank" (57 : Nat) "WeekBank" "now" "I") ∈ AL := al (tb_1 (List.mem_of_getElem? (i := 167) rfl)) rfl
theorem wd_1_168 : (Jvm.Cond.fieldLink "WeekBank" (63 : Nat) "WeekBank" "search" "LWeekBank$RingSearch;") ∈ AL := al (tb_1 (List.mem_of_getElem? (i := 168) rfl)) rfl
theorem wd_1_169 : (Jvm.Cond.fieldLink "WeekBank" (70 : Nat) "WeekBank" "feeRounds" "LWeekBank$FeeRounds;") ∈ AL := al (tb_1 (List.mem_of_getElem? (i := 169) rfl)) rfl
theorem wd_1_170 : (Jvm.Cond.laysFinal "WeekBank" "WeekBank" "flats" "[LWeekBank$Flat;") ∈ AL := al (tb_1 (List.mem_of_getElem? (i := 170) rfl)) rfl
theorem wd_1_172 : (Jvm.Cond.lays "WeekBank" "WeekBank" "flatCount" "I") ∈ AL := al (tb_1 (List.mem_of_getElem? (i := 172) rfl)) rfl
theorem wd_1_174 : (Jvm.Cond.laysFinal "WeekBank" "WeekBank" "owners" "[LWeekBank$Owner;") ∈ AL := al (tb_1 (List.mem_of_getElem? (i := 174) rfl)) rfl
theorem wd_1_176 : (Jvm.Cond.lays "WeekBank" "WeekBank" "ownerCount" "I") ∈ AL := al (tb_1 (List.mem_of_getElem? (i := 176) rfl)) rfl
theorem wd_1_178 : (Jvm.Cond.laysFinal "WeekBank" "WeekBank" "gifts" "[LWeekBank$Gift;") ∈ AL := al (tb_1 (List.mem_of_getElem? (i := 178) rfl)) rfl
theorem wd_1_180 : (Jvm.Cond.lays "WeekBank" "WeekBank" "giftCount" "I") ∈ AL := al (tb_1 (List.mem_of_getElem? (i := 180) rfl)) rfl
theorem wd_1_182 : (Jvm.Cond.laysFinal "WeekBank" "WeekBank" "reader" "LWeekBank$Reader;") ∈ AL := al (tb_1 (List.mem_of_getElem? (i := 182) rfl)) rfl
theorem wd_1_184 : (Jvm.Cond.lays "WeekBank" "WeekBank" "told" "LWeekBank$Rules;") ∈ AL := al (tb_1 (List.mem_of_getElem? (i := 184) rfl)) rfl
theorem wd_1_186 : (Jvm.Cond.lays "WeekBank" "WeekBank" "draft" "LWeekBank$Rules;") ∈ AL := al (tb_1 (List.mem_of_getElem? (i := 186) rfl)) rfl
theorem wd_1_188 : (Jvm.Cond.lays "WeekBank" "WeekBank" "yearNow" "I") ∈ AL := al (tb_1 (List.mem_of_getElem? (i := 188) rfl)) rfl
theorem wd_1_190 : (Jvm.Cond.lays "WeekBank" "WeekBank" "now" "I") ∈ AL := al (tb_1 (List.mem_of_getElem? (i := 190) rfl)) rfl
theorem wd_1_192 : (Jvm.Cond.laysFinal "WeekBank" "WeekBank" "search" "LWeekBank$RingSearch;") ∈ AL := al (tb_1 (List.mem_of_getElem? (i := 192) rfl)) rfl
theorem wd_1_194 : (Jvm.Cond.laysFinal "WeekBank" "WeekBank" "feeRounds" "LWeekBank$FeeRounds;") ∈ AL := al (tb_1 (List.mem_of_getElem? (i := 194) rfl)) rfl
theorem wt_1_196 : (Jvm.Cond.superclass "WeekBank" "java/lang/Object") ∈ lw_tbl := tb_1 (List.mem_of_getElem? (i := 196) rfl)
theorem wd_1_197 : (Jvm.Cond.methodLink "WeekBankLaw" (19 : Nat) ({ cls := "WeekBank", name := "flat", desc := "(II)I" } : Jvm.MethodName)) ∈ AL := al (tb_1 (List.mem_of_getElem? (i := 197) rfl)) rfl
theorem wd_1_198 : (Jvm.Cond.instanceMethod ({ cls := "WeekBank", name := "flat", desc := "(II)I" } : Jvm.MethodName)) ∈ AL := al (tb_1 (List.mem_of_getElem? (i := 198) rfl)) rfl
theorem wd_1_199 : (Jvm.Cond.selects "WeekBank" ({ cls := "WeekBank", name := "flat", desc := "(II)I" } : Jvm.MethodName) ({ cls := "WeekBank", name := "flat", desc := "(II)I" } : Jvm.MethodName)) ∈ AL := al (tb_1 (List.mem_of_getElem? (i := 199) rfl)) rfl
theorem wd_1_200 : (Jvm.Cond.code ({ cls := "WeekBank", name := "flat", desc := "(II)I" } : Jvm.MethodName) prog_1_method_2_code (4 : Nat) (Option.some Jvm.ClassFile.FieldType.int)) ∈ AL := al (tb_1 (List.mem_of_getElem? (i := 200) rfl)) rfl
theorem wd_1_201 : (Jvm.Cond.methodLink "WeekBank" (74 : Nat) ({ cls := "WeekBank", name := "isSize", desc := "(I)Z" } : Jvm.MethodName)) ∈ AL := al (tb_1 (List.mem_of_getElem? (i := 201) rfl)) rfl
theorem wd_1_202 : (Jvm.Cond.static ({ cls := "WeekBank", name := "isSize", desc := "(I)Z" } : Jvm.MethodName)) ∈ AL := al (tb_1 (List.mem_of_getElem? (i := 202) rfl)) rfl
theorem wd_1_203 : (Jvm.Cond.code ({ cls := "WeekBank", name := "isSize", desc := "(I)Z" } : Jvm.MethodName) prog_1_method_27_code (1 : Nat) (Option.some Jvm.ClassFile.FieldType.boolean)) ∈ AL := al (tb_1 (List.mem_of_getElem? (i := 203) rfl)) rfl
theorem wd_1_204 : (Jvm.Cond.instantiable "WeekBank$Flat" (6 : Nat)) ∈ AL := al (tb_1 (List.mem_of_getElem? (i := 204) rfl)) rfl
theorem wd_1_205 : (Jvm.Cond.methodLink "WeekBank" (78 : Nat) ({ cls := "WeekBank$Flat", name := "<init>", desc := "(III)V" } : Jvm.MethodName)) ∈ AL := al (tb_1 (List.mem_of_getElem? (i := 205) rfl)) rfl
theorem wd_1_206 : (Jvm.Cond.instanceMethod ({ cls := "WeekBank$Flat", name := "<init>", desc := "(III)V" } : Jvm.MethodName)) ∈ AL := al (tb_1 (List.mem_of_getElem? (i := 206) rfl)) rfl
theorem wd_1_207 : (Jvm.Cond.code ({ cls := "WeekBank$Flat", name := "<init>", desc := "(III)V" } : Jvm.MethodName) prog_3_method_1_code (4 : Nat) (Option.none : Option Jvm.ClassFile.FieldType)) ∈ AL := al (tb_1 (List.mem_of_getElem? (i := 207) rfl)) rfl
theorem wd_1_208 : (Jvm.Cond.methodLink "WeekBank$Flat" (3 : Nat) ({ cls := "java/lang/Object", name := "<init>", desc := "()V" } : Jvm.MethodName)) ∈ AL := al (tb_1 (List.mem_of_getElem? (i := 208) rfl)) rfl
theorem wd_1_209 : (Jvm.Cond.classLink "WeekBank$Flat" (9 : Nat) "WeekBank$Owner") ∈ AL := al (tb_1 (List.mem_of_getElem? (i := 209) rfl)) rfl
theorem wd_1_210 : (Jvm.Cond.classLink "WeekBank$Flat" (21 : Nat) "WeekBank$Gift") ∈ AL := al (tb_1 (List.mem_of_getElem? (i := 210) rfl)) rfl
theorem wd_1_211 : (Jvm.Cond.fieldLink "WeekBank$Flat" (27 : Nat) "WeekBank$Flat" "number" "I") ∈ AL := al (tb_1 (List.mem_of_getElem? (i := 211) rfl)) rfl
theorem wd_1_212 : (Jvm.Cond.fieldLink "WeekBank" (283 : Nat) "WeekBank$Flat" "number" "I") ∈ AL := al (tb_1 (List.mem_of_getElem? (i := 212) rfl)) rfl
theorem wd_1_213 : (Jvm.Cond.fieldLink "WeekBank$Flat" (31 : Nat) "WeekBank$Flat" "town" "I") ∈ AL := al (tb_1 (List.mem_of_getElem? (i := 213) rfl)) rfl
theorem wd_1_214 : (Jvm.Cond.fieldLink "WeekBank$Gift" (55 : Nat) "WeekBank$Flat" "town" "I") ∈ AL := al (tb_1 (List.mem_of_getElem? (i := 214) rfl)) rfl
theorem wd_1_215 : (Jvm.Cond.fieldLink "WeekBank$Flat" (34 : Nat) "WeekBank$Flat" "size" "I") ∈ AL := al (tb_1 (List.mem_of_getElem? (i := 215) rfl)) rfl
theorem wd_1_216 : (Jvm.Cond.fieldLink "WeekBank$Gift" (64 : Nat) "WeekBank$Flat" "size" "I") ∈ AL := al (tb_1 (List.mem_of_getElem? (i := 216) rfl)) rfl
theorem wd_1_217 : (Jvm.Cond.fieldLink "WeekBank" (124 : Nat) "WeekBank$Flat" "size" "I") ∈ AL := al (tb_1 (List.mem_of_getElem? (i := 217) rfl)) rfl
theorem wd_1_218 : (Jvm.Cond.fieldLink "WeekBank$Flat" (11 : Nat) "WeekBank$Flat" "owners" "[LWeekBank$Owner;") ∈ AL := al (tb_1 (List.mem_of_getElem? (i := 218) rfl)) rfl
theorem wd_1_219 : (Jvm.Cond.fieldLink "WeekBank" (131 : Nat) "WeekBank$Flat" "owners" "[LWeekBank$Owner;") ∈ AL := al (tb_1 (List.mem_of_getElem? (i := 219) rfl)) rfl
theorem wd_1_220 : (Jvm.Cond.fieldLink "WeekBank$Flat" (17 : Nat) "WeekBank$Flat" "shut" "[Z") ∈ AL := al (tb_1 (List.mem_of_getElem? (i := 220) rfl)) rfl
theorem wd_1_221 : (Jvm.Cond.fieldLink "WeekBank" (132 : Nat) "WeekBank$Flat" "shut" "[Z") ∈ AL := al (tb_1 (List.mem_of_getElem? (i := 221) rfl)) rfl
theorem wd_1_222 : (Jvm.Cond.fieldLink "WeekBank$Flat" (23 : Nat) "WeekBank$Flat" "gifts" "[LWeekBank$Gift;") ∈ AL := al (tb_1 (List.mem_of_getElem? (i := 222) rfl)) rfl
theorem wd_1_223 : (Jvm.Cond.fieldLink "WeekBank" (95 : Nat) "WeekBank$Flat" "gifts" "[LWeekBank$Gift;") ∈ AL := al (tb_1 (List.mem_of_getElem? (i := 223) rfl)) rfl
theorem wd_1_224 : (Jvm.Cond.laysFinal "WeekBank$Flat" "WeekBank$Flat" "number" "I") ∈ AL := al (tb_1 (List.mem_of_getElem? (i := 224) rfl)) rfl
theorem wd_1_226 : (Jvm.Cond.laysFinal "WeekBank$Flat" "WeekBank$Flat" "town" "I") ∈ AL := al (tb_1 (List.mem_of_getElem? (i := 226) rfl)) rfl
theorem wd_1_228 : (Jvm.Cond.laysFinal "WeekBank$Flat" "WeekBank$Flat" "size" "I") ∈ AL := al (tb_1 (List.mem_of_getElem? (i := 228) rfl)) rfl
theorem wd_1_230 : (Jvm.Cond.laysFinal "WeekBank$Flat" "WeekBank$Flat" "owners" "[LWeekBank$Owner;") ∈ AL := al (tb_1 (List.mem_of_getElem? (i := 230) rfl)) rfl
theorem wd_1_232 : (Jvm.Cond.laysFinal "WeekBank$Flat" "WeekBank$Flat" "shut" "[Z") ∈ AL := al (tb_1 (List.mem_of_getElem? (i := 232) rfl)) rfl
theorem wd_1_234 : (Jvm.Cond.laysFinal "WeekBank$Flat" "WeekBank$Flat" "gifts" "[LWeekBank$Gift;") ∈ AL := al (tb_1 (List.mem_of_getElem? (i := 234) rfl)) rfl
theorem wt_1_236 : (Jvm.Cond.superclass "WeekBank$Flat" "java/lang/Object") ∈ lw_tbl := tb_1 (List.mem_of_getElem? (i := 236) rfl)
theorem wd_1_237 : (Jvm.Cond.methodLink "WeekBankLaw" (23 : Nat) ({ cls := "WeekBank", name := "owner", desc := "(I)I" } : Jvm.MethodName)) ∈ AL := al (tb_1 (List.mem_of_getElem? (i := 237) rfl)) rfl
theorem wd_1_238 : (Jvm.Cond.instanceMethod ({ cls := "WeekBank", name := "owner", desc := "(I)I" } : Jvm.MethodName)) ∈ AL := al (tb_1 (List.mem_of_getElem? (i := 238) rfl)) rfl
theorem wd_1_239 : (Jvm.Cond.selects "WeekBank" ({ cls := "WeekBank", name := "owner", desc := "(I)I" } : Jvm.MethodName) ({ cls := "WeekBank", name := "owner", desc := "(I)I" } : Jvm.MethodName)) ∈ AL := al (tb_1 (List.mem_of_getElem? (i := 239) rfl)) rfl
theorem wd_2_0 : (Jvm.Cond.code ({ cls := "WeekBank", name := "owner", desc := "(I)I" } : Jvm.MethodName) prog_1_method_3_code (3 : Nat) (Option.some Jvm.ClassFile.FieldType.int)) ∈ AL := al (tb_2 (List.mem_of_getElem? (i := 0) rfl)) rfl
theorem wd_2_1 : (Jvm.Cond.instantiable "WeekBank$Owner" (8 : Nat)) ∈ AL := al (tb_2 (List.mem_of_getElem? (i := 1) rfl)) rfl
theorem wd_2_2 : (Jvm.Cond.methodLink "WeekBank" (81 : Nat) ({ cls := "WeekBank$Owner", name := "<init>", desc := "(II)V" } : Jvm.MethodName)) ∈ AL := al (tb_2 (List.mem_of_getElem? (i := 2) rfl)) rfl
theorem wd_2_3 : (Jvm.Cond.instanceMethod ({ cls := "WeekBank$Owner", name := "<init>", desc := "(II)V" } : Jvm.MethodName)) ∈ AL := al (tb_2 (List.mem_of_getElem? (i := 3) rfl)) rfl
theorem wd_2_4 : (Jvm.Cond.code ({ cls := "WeekBank$Owner", name := "<init>", desc := "(II)V" } : Jvm.MethodName) prog_5_method_1_code (3 : Nat) (Option.none : Option Jvm.ClassFile.FieldType)) ∈ AL := al (tb_2 (List.mem_of_getElem? (i := 4) rfl)) rfl
theorem wd_2_5 : (Jvm.Cond.methodLink "WeekBank$Owner" (1 : Nat) ({ cls := "java/lang/Object", name := "<init>", desc := "()V" } : Jvm.MethodName)) ∈ AL := al (tb_2 (List.mem_of_getElem? (i := 5) rfl)) rfl
theorem wd_2_6 : (Jvm.Cond.fieldLink "WeekBank$Owner" (30 : Nat) "WeekBank$Owner" "number" "I") ∈ AL := al (tb_2 (List.mem_of_getElem? (i := 6) rfl)) rfl
theorem wd_2_7 : (Jvm.Cond.fieldLink "WeekBank" (280 : Nat) "WeekBank$Owner" "number" "I") ∈ AL := al (tb_2 (List.mem_of_getElem? (i := 7) rfl)) rfl
theorem wd_2_8 : (Jvm.Cond.fieldLink "WeekBank$Owner" (33 : Nat) "WeekBank$Owner" "limit" "I") ∈ AL := al (tb_2 (List.mem_of_getElem? (i := 8) rfl)) rfl
theorem wd_2_9 : (Jvm.Cond.fieldLink "WeekBank" (242 : Nat) "WeekBank$Owner" "limit" "I") ∈ AL := al (tb_2 (List.mem_of_getElem? (i := 9) rfl)) rfl
theorem wd_2_10 : (Jvm.Cond.fieldLink "WeekBank$Owner" (7 : Nat) "WeekBank$Owner" "points" "I") ∈ AL := al (tb_2 (List.mem_of_getElem? (i := 10) rfl)) rfl
theorem wd_2_11 : (Jvm.Cond.fieldLink "WeekBank$Gift" (70 : Nat) "WeekBank$Owner" "points" "I") ∈ AL := al (tb_2 (List.mem_of_getElem? (i := 11) rfl)) rfl
theorem wd_2_12 : (Jvm.Cond.fieldLink "WeekBank" (183 : Nat) "WeekBank$Owner" "points" "I") ∈ AL := al (tb_2 (List.mem_of_getElem? (i := 12) rfl)) rfl
theorem wd_2_13 : (Jvm.Cond.fieldLink "WeekBank$Owner" (13 : Nat) "WeekBank$Owner" "luck" "I") ∈ AL := al (tb_2 (List.mem_of_getElem? (i := 13) rfl)) rfl
theorem wd_2_14 : (Jvm.Cond.fieldLink "WeekBank" (205 : Nat) "WeekBank$Owner" "luck" "I") ∈ AL := al (tb_2 (List.mem_of_getElem? (i := 14) rfl)) rfl
theorem wd_2_15 : (Jvm.Cond.fieldLink "WeekBank$Owner" (16 : Nat) "WeekBank$Owner" "weeksOwned" "I") ∈ AL := al (tb_2 (List.mem_of_getElem? (i := 15) rfl)) rfl
theorem wd_2_16 : (Jvm.Cond.fieldLink "WeekBank$Flat" (41 : Nat) "WeekBank$Owner" "weeksOwned" "I") ∈ AL := al (tb_2 (List.mem_of_getElem? (i := 16) rfl)) rfl
theorem wd_2_17 : (Jvm.Cond.fieldLink "WeekBank" (230 : Nat) "WeekBank$Owner" "weeksOwned" "I") ∈ AL := al (tb_2 (List.mem_of_getElem? (i := 17) rfl)) rfl
theorem wd_2_18 : (Jvm.Cond.fieldLink "WeekBank$Owner" (19 : Nat) "WeekBank$Owner" "isDead" "Z") ∈ AL := al (tb_2 (List.mem_of_getElem? (i := 18) rfl)) rfl
theorem wd_2_19 : (Jvm.Cond.fieldLink "WeekBank" (237 : Nat) "WeekBank$Owner" "isDead" "Z") ∈ AL := al (tb_2 (List.mem_of_getElem? (i := 19) rfl)) rfl
theorem wd_2_20 : (Jvm.Cond.fieldLink "WeekBank$Owner" (23 : Nat) "WeekBank$Owner" "inLine" "Z") ∈ AL := al (tb_2 (List.mem_of_getElem? (i := 20) rfl)) rfl
theorem wd_2_21 : (Jvm.Cond.fieldLink "WeekBank" (193 : Nat) "WeekBank$Owner" "inLine" "Z") ∈ AL := al (tb_2 (List.mem_of_getElem? (i := 21) rfl)) rfl
theorem wd_2_22 : (Jvm.Cond.fieldLink "WeekBank$Owner" (26 : Nat) "WeekBank$Owner" "wish" "LWeekBank$Wish;") ∈ AL := al (tb_2 (List.mem_of_getElem? (i := 22) rfl)) rfl
theorem wd_2_23 : (Jvm.Cond.fieldLink "WeekBank" (164 : Nat) "WeekBank$Owner" "wish" "LWeekBank$Wish;") ∈ AL := al (tb_2 (List.mem_of_getElem? (i := 23) rfl)) rfl
theorem wd_2_24 : (Jvm.Cond.laysFinal "WeekBank$Owner" "WeekBank$Owner" "number" "I") ∈ AL := al (tb_2 (List.mem_of_getElem? (i := 24) rfl)) rfl
theorem wd_2_26 : (Jvm.Cond.laysFinal "WeekBank$Owner" "WeekBank$Owner" "limit" "I") ∈ AL := al (tb_2 (List.mem_of_getElem? (i := 26) rfl)) rfl
theorem wd_2_28 : (Jvm.Cond.lays "WeekBank$Owner" "WeekBank$Owner" "points" "I") ∈ AL := al (tb_2 (List.mem_of_getElem? (i := 28) rfl)) rfl
theorem wd_2_30 : (Jvm.Cond.lays "WeekBank$Owner" "WeekBank$Owner" "luck" "I") ∈ AL := al (tb_2 (List.mem_of_getElem? (i := 30) rfl)) rfl
theorem wd_2_32 : (Jvm.Cond.lays "WeekBank$Owner" "WeekBank$Owner" "weeksOwned" "I") ∈ AL := al (tb_2 (List.mem_of_getElem? (i := 32) rfl)) rfl
theorem wd_2_34 : (Jvm.Cond.lays "WeekBank$Owner" "WeekBank$Owner" "isDead" "Z") ∈ AL := al (tb_2 (List.mem_of_getElem? (i := 34) rfl)) rfl
theorem wd_2_36 : (Jvm.Cond.lays "WeekBank$Owner" "WeekBank$Owner" "inLine" "Z") ∈ AL := al (tb_2 (List.mem_of_getElem? (i := 36) rfl)) rfl
theorem wd_2_38 : (Jvm.Cond.lays "WeekBank$Owner" "WeekBank$Owner" "wish" "LWeekBank$Wish;") ∈ AL := al (tb_2 (List.mem_of_getElem? (i := 38) rfl)) rfl
theorem wt_2_40 : (Jvm.Cond.superclass "WeekBank$Owner" "java/lang/Object") ∈ lw_tbl := tb_2 (List.mem_of_getElem? (i := 40) rfl)
theorem wd_2_41 : (Jvm.Cond.methodLink "WeekBankLaw" (28 : Nat) ({ cls := "WeekBank", name := "own", desc := "(III)Z" } : Jvm.MethodName)) ∈ AL := al (tb_2 (List.mem_of_getElem? (i := 41) rfl)) rfl
theorem wd_2_42 : (Jvm.Cond.instanceMethod ({ cls := "WeekBank", name := "own", desc := "(III)Z" } : Jvm.MethodName)) ∈ AL := al (tb_2 (List.mem_of_getElem? (i := 42) rfl)) rfl
theorem wd_2_43 : (Jvm.Cond.selects "WeekBank" ({ cls := "WeekBank", name := "own", desc := "(III)Z" } : Jvm.MethodName) ({ cls := "WeekBank", name := "own", desc := "(III)Z" } : Jvm.MethodName)) ∈ AL := al (tb_2 (List.mem_of_getElem? (i := 43) rfl)) rfl
theorem wd_2_44 : (Jvm.Cond.code ({ cls := "WeekBank", name := "own", desc := "(III)Z" } : Jvm.MethodName) prog_1_method_4_code (7 : Nat) (Option.some Jvm.ClassFile.FieldType.boolean)) ∈ AL := al (tb_2 (List.mem_of_getElem? (i := 44) rfl)) rfl
theorem wd_2_45 : (Jvm.Cond.methodLink "WeekBank" (84 : Nat) ({ cls := "WeekBank", name := "flatAt", desc := "(I)LWeekBank$Flat;" } : Jvm.MethodName)) ∈ AL := al (tb_2 (List.mem_of_getElem? (i := 45) rfl)) rfl
theorem wd_2_47 : (Jvm.Cond.instanceMethod ({ cls := "WeekBank", name := "flatAt", desc := "(I)LWeekBank$Flat;" } : Jvm.MethodName)) ∈ AL := al (tb_2 (List.mem_of_getElem? (i := 47) rfl)) rfl
theorem wd_2_48 : (Jvm.Cond.code ({ cls := "WeekBank", name := "flatAt", desc := "(I)LWeekBank$Flat;" } : Jvm.MethodName) prog_1_method_30_code (2 : Nat) (Option.some (Jvm.ClassFile.FieldType.object "WeekBank$Flat"))) ∈ AL := al (tb_2 (List.mem_of_getElem? (i := 48) rfl)) rfl
theorem wd_2_49 : (Jvm.Cond.methodLink "WeekBank" (88 : Nat) ({ cls := "WeekBank", name := "livingOwnerAt", desc := "(I)LWeekBank$Owner;" } : Jvm.MethodName)) ∈ AL := al (tb_2 (List.mem_of_getElem? (i := 49) rfl)) rfl
theorem wd_2_51 : (Jvm.Cond.instanceMethod ({ cls := "WeekBank", name := "livingOwnerAt", desc := "(I)LWeekBank$Owner;" } : Jvm.MethodName)) ∈ AL := al (tb_2 (List.mem_of_getElem? (i := 51) rfl)) rfl
theorem wd_2_52 : (Jvm.Cond.code ({ cls := "WeekBank", name := "livingOwnerAt", desc := "(I)LWeekBank$Owner;" } : Jvm.MethodName) prog_1_method_32_code (3 : Nat) (Option.some (Jvm.ClassFile.FieldType.object "WeekBank$Owner"))) ∈ AL := al (tb_2 (List.mem_of_getElem? (i := 52) rfl)) rfl
theorem wd_2_53 : (Jvm.Cond.methodLink "WeekBank" (291 : Nat) ({ cls := "WeekBank", name := "ownerAt", desc := "(I)LWeekBank$Owner;" } : Jvm.MethodName)) ∈ AL := al (tb_2 (List.mem_of_getElem? (i := 53) rfl)) rfl
theorem wd_2_55 : (Jvm.Cond.instanceMethod ({ cls := "WeekBank", name := "ownerAt", desc := "(I)LWeekBank$Owner;" } : Jvm.MethodName)) ∈ AL := al (tb_2 (List.mem_of_getElem? (i := 55) rfl)) rfl
theorem wd_2_56 : (Jvm.Cond.code ({ cls := "WeekBank", name := "ownerAt", desc := "(I)LWeekBank$Owner;" } : Jvm.MethodName) prog_1_method_31_code (2 : Nat) (Option.some (Jvm.ClassFile.FieldType.object "WeekBank$Owner"))) ∈ AL := al (tb_2 (List.mem_of_getElem? (i := 56) rfl)) rfl
theorem wd_2_57 : (Jvm.Cond.methodLink "WeekBank" (92 : Nat) ({ cls := "WeekBank", name := "isWeek", desc := "(I)Z" } : Jvm.MethodName)) ∈ AL := al (tb_2 (List.mem_of_getElem? (i := 57) rfl)) rfl
theorem wd_2_58 : (Jvm.Cond.static ({ cls := "WeekBank", name := "isWeek", desc := "(I)Z" } : Jvm.MethodName)) ∈ AL := al (tb_2 (List.mem_of_getElem? (i := 58) rfl)) rfl
theorem wd_2_59 : (Jvm.Cond.code ({ cls := "WeekBank", name := "isWeek", desc := "(I)Z" } : Jvm.MethodName) prog_1_method_26_code (1 : Nat) (Option.some Jvm.ClassFile.FieldType.boolean)) ∈ AL := al (tb_2 (List.mem_of_getElem? (i := 59) rfl)) rfl
theorem wd_2_60 : (Jvm.Cond.methodLink "WeekBank" (96 : Nat) ({ cls := "WeekBank$Gift", name := "isOut", desc := "()Z" } : Jvm.MethodName)) ∈ AL := al (tb_2 (List.mem_of_getElem? (i := 60) rfl)) rfl
theorem wd_2_61 : (Jvm.Cond.instanceMethod ({ cls := "WeekBank$Gift", name := "isOut", desc := "()Z" } : Jvm.MethodName)) ∈ AL := al (tb_2 (List.mem_of_getElem? (i := 61) rfl)) rfl
theorem wd_2_62 : (Jvm.Cond.selects "WeekBank$Gift" ({ cls := "WeekBank$Gift", name := "isOut", desc := "()Z" } : Jvm.MethodName) ({ cls := "WeekBank$Gift", name := "isOut", desc := "()Z" } : Jvm.MethodName)) ∈ AL := al (tb_2 (List.mem_of_getElem? (i := 62) rfl)) rfl
theorem wd_2_63 : (Jvm.Cond.code ({ cls := "WeekBank$Gift", name := "isOut", desc := "()Z" } : Jvm.MethodName) prog_4_method_3_code (1 : Nat) (Option.some Jvm.ClassFile.FieldType.boolean)) ∈ AL := al (tb_2 (List.mem_of_getElem? (i := 63) rfl)) rfl
theorem wd_2_64 : (Jvm.Cond.methodLink "WeekBank$Gift" (46 : Nat) ({ cls := "WeekBank$Gift", name := "isGot", desc := "()Z" } : Jvm.MethodName)) ∈ AL := al (tb_2 (List.mem_of_getElem? (i := 64) rfl)) rfl
theorem wd_2_65 : (Jvm.Cond.instanceMethod ({ cls := "WeekBank$Gift", name := "isGot", desc := "()Z" } : Jvm.MethodName)) ∈ AL := al (tb_2 (List.mem_of_getElem? (i := 65) rfl)) rfl
theorem wd_2_66 : (Jvm.Cond.selects "WeekBank$Gift" ({ cls := "WeekBank$Gift", name := "isGot", desc := "()Z" } : Jvm.MethodName) ({ cls := "WeekBank$Gift", name := "isGot", desc := "()Z" } : Jvm.MethodName)) ∈ AL := al (tb_2 (List.mem_of_getElem? (i := 66) rfl)) rfl
theorem wd_2_67 : (Jvm.Cond.code ({ cls := "WeekBank$Gift", name := "isGot", desc := "()Z" } : Jvm.MethodName) prog_4_method_2_code (1 : Nat) (Option.some Jvm.ClassFile.FieldType.boolean)) ∈ AL := al (tb_2 (List.mem_of_getElem? (i := 67) rfl)) rfl
theorem wd_2_68 : (Jvm.Cond.methodLink "WeekBank" (100 : Nat) ({ cls := "WeekBank$Flat", name := "passTo", desc := "(ILWeekBank$Owner;)V" } : Jvm.MethodName)) ∈ AL := al (tb_2 (List.mem_of_getElem? (i := 68) rfl)) rfl
theorem wd_2_69 : (Jvm.Cond.instanceMethod ({ cls := "WeekBank$Flat", name := "passTo", desc := "(ILWeekBank$Owner;)V" } : Jvm.MethodName)) ∈ AL := al (tb_2 (List.mem_of_getElem? (i := 69) rfl)) rfl
theorem wd_2_70 : (Jvm.Cond.selects "WeekBank$Flat" ({ cls := "WeekBank$Flat", name := "passTo", desc := "(ILWeekBank$Owner;)V" } : Jvm.MethodName) ({ cls := "WeekBank$Flat", name := "passTo", desc := "(ILWeekBank$Owner;)V" } : Jvm.MethodName)) ∈ AL := al (tb_2 (List.mem_of_getElem? (i := 70) rfl)) rfl
theorem wd_2_71 : (Jvm.Cond.code ({ cls := "WeekBank$Flat", name := "passTo", desc := "(ILWeekBank$Owner;)V" } : Jvm.MethodName) prog_3_method_2_code (4 : Nat) (Option.none : Option Jvm.ClassFile.FieldType)) ∈ AL := al (tb_2 (List.mem_of_getElem? (i := 71) rfl)) rfl
theorem wt_2_72 : (Jvm.Cond.methodLinkNest "WeekBank$Flat" (37 : Nat) ({ cls := "WeekBank", name := "isWeek", desc := "(I)Z" } : Jvm.MethodName) "WeekBank") ∈ lw_tbl := tb_2 (List.mem_of_getElem? (i := 72) rfl)
theorem wd_2_73 : (Jvm.Cond.methodLink "WeekBankLaw" (33 : Nat) ({ cls := "WeekBank", name := "feed", desc := "(IIIII)I" } : Jvm.MethodName)) ∈ AL := al (tb_2 (List.mem_of_getElem? (i := 73) rfl)) rfl
theorem wd_2_74 : (Jvm.Cond.instanceMethod ({ cls := "WeekBank", name := "feed", desc := "(IIIII)I" } : Jvm.MethodName)) ∈ AL := al (tb_2 (List.mem_of_getElem? (i := 74) rfl)) rfl
theorem wd_2_75 : (Jvm.Cond.selects "WeekBank" ({ cls := "WeekBank", name := "feed", desc := "(IIIII)I" } : Jvm.MethodName) ({ cls := "WeekBank", name := "feed", desc := "(IIIII)I" } : Jvm.MethodName)) ∈ AL := al (tb_2 (List.mem_of_getElem? (i := 75) rfl)) rfl
theorem wd_2_76 : (Jvm.Cond.code ({ cls := "WeekBank", name := "feed", desc := "(IIIII)I" } : Jvm.MethodName) prog_1_method_5_code (6 : Nat) (Option.some Jvm.ClassFile.FieldType.int)) ∈ AL := al (tb_2 (List.mem_of_getElem? (i := 76) rfl)) rfl
theorem wd_2_77 : (Jvm.Cond.methodLink "WeekBank" (107 : Nat) ({ cls := "WeekBank$Reader", name := "addBytes", desc := "(I)V" } : Jvm.MethodName)) ∈ AL := al (tb_2 (List.mem_of_getElem? (i := 77) rfl)) rfl
theorem wd_2_78 : (Jvm.Cond.instanceMethod ({ cls := "WeekBank$Reader", name := "addBytes", desc := "(I)V" } : Jvm.MethodName)) ∈ AL := al (tb_2 (List.mem_of_getElem? (i := 78) rfl)) rfl
theorem wd_2_79 : (Jvm.Cond.selects "WeekBank$Reader" ({ cls := "WeekBank$Reader", name := "addBytes", desc := "(I)V" } : Jvm.MethodName) ({ cls := "WeekBank$Reader", name := "addBytes", desc := "(I)V" } : Jvm.MethodName)) ∈ AL := al (tb_2 (List.mem_of_getElem? (i := 79) rfl)) rfl
theorem wd_2_80 : (Jvm.Cond.code ({ cls := "WeekBank$Reader", name := "addBytes", desc := "(I)V" } : Jvm.MethodName) prog_6_method_2_code (3 : Nat) (Option.none : Option Jvm.ClassFile.FieldType)) ∈ AL := al (tb_2 (List.mem_of_getElem? (i := 80) rfl)) rfl
theorem wd_2_81 : (Jvm.Cond.methodLink "WeekBankLaw" (38 : Nat) ({ cls := "WeekBank", name := "end", desc := "(I)I" } : Jvm.MethodName)) ∈ AL := al (tb_2 (List.mem_of_getElem? (i := 81) rfl)) rfl
theorem wd_2_82 : (Jvm.Cond.instanceMethod ({ cls := "WeekBank", name := "end", desc := "(I)I" } : Jvm.MethodName)) ∈ AL := al (tb_2 (List.mem_of_getElem? (i := 82) rfl)) rfl
theorem wd_2_83 : (Jvm.Cond.selects "WeekBank" ({ cls := "WeekBank", name := "end", desc := "(I)I" } : Jvm.MethodName) ({ cls := "WeekBank", name := "end", desc := "(I)I" } : Jvm.MethodName)) ∈ AL := al (tb_2 (List.mem_of_getElem? (i := 83) rfl)) rfl
theorem wd_2_84 : (Jvm.Cond.code ({ cls := "WeekBank", name := "end", desc := "(I)I" } : Jvm.MethodName) prog_1_method_6_code (2 : Nat) (Option.some Jvm.ClassFile.FieldType.int)) ∈ AL := al (tb_2 (List.mem_of_getElem? (i := 84) rfl)) rfl
theorem wd_2_85 : (Jvm.Cond.methodLink "WeekBankLaw" (42 : Nat) ({ cls := "WeekBank", name := "rules", desc := "()I" } : Jvm.MethodName)) ∈ AL := al (tb_2 (List.mem_of_getElem? (i := 85) rfl)) rfl
theorem wd_2_86 : (Jvm.Cond.instanceMethod ({ cls := "WeekBank", name := "rules", desc := "()I" } : Jvm.MethodName)) ∈ AL := al (tb_2 (List.mem_of_getElem? (i := 86) rfl)) rfl
theorem wd_2_87 : (Jvm.Cond.selects "WeekBank" ({ cls := "WeekBank", name := "rules", desc := "()I" } : Jvm.MethodName) ({ cls := "WeekBank", name := "rules", desc := "()I" } : Jvm.MethodName)) ∈ AL := al (tb_2 (List.mem_of_getElem? (i := 87) rfl)) rfl
theorem wd_2_88 : (Jvm.Cond.code ({ cls := "WeekBank", name := "rules", desc := "()I" } : Jvm.MethodName) prog_1_method_7_code (2 : Nat) (Option.some Jvm.ClassFile.FieldType.int)) ∈ AL := al (tb_2 (List.mem_of_getElem? (i := 88) rfl)) rfl
theorem wd_2_89 : (Jvm.Cond.methodLink "WeekBank" (111 : Nat) ({ cls := "WeekBank$Reader", name := "readInto", desc := "(LWeekBank$Rules;)V" } : Jvm.MethodName)) ∈ AL := al (tb_2 (List.mem_of_getElem? (i := 89) rfl)) rfl
theorem wd_2_90 : (Jvm.Cond.instanceMethod ({ cls := "WeekBank$Reader", name := "readInto", desc := "(LWeekBank$Rules;)V" } : Jvm.MethodName)) ∈ AL := al (tb_2 (List.mem_of_getElem? (i := 90) rfl)) rfl
theorem wd_2_91 : (Jvm.Cond.selects "WeekBank$Reader" ({ cls := "WeekBank$Reader", name := "readInto", desc := "(LWeekBank$Rules;)V" } : Jvm.MethodName) ({ cls := "WeekBank$Reader", name := "readInto", desc := "(LWeekBank$Rules;)V" } : Jvm.MethodName)) ∈ AL := al (tb_2 (List.mem_of_getElem? (i := 91) rfl)) rfl
theorem wd_2_92 : (Jvm.Cond.code ({ cls := "WeekBank$Reader", name := "readInto", desc := "(LWeekBank$Rules;)V" } : Jvm.MethodName) prog_6_method_3_code (3 : Nat) (Option.none : Option Jvm.ClassFile.FieldType)) ∈ AL := al (tb_2 (List.mem_of_getElem? (i := 92) rfl)) rfl
theorem wd_2_93 : (Jvm.Cond.methodLink "WeekBank$Reader" (37 : Nat) ({ cls := "WeekBank$Rules", name := "clear", desc := "()V" } : Jvm.MethodName)) ∈ AL := al (tb_2 (List.mem_of_getElem? (i := 93) rfl)) rfl
theorem wd_2_94 : (Jvm.Cond.instanceMethod ({ cls := "WeekBank$Rules", name := "clear", desc := "()V" } : Jvm.MethodName)) ∈ AL := al (tb_2 (List.mem_of_getElem? (i := 94) rfl)) rfl
theorem wd_2_95 : (Jvm.Cond.selects "WeekBank$Rules" ({ cls := "WeekBank$Rules", name := "clear", desc := "()V" } : Jvm.MethodName) ({ cls := "WeekBank$Rules", name := "clear", desc := "()V" } : Jvm.MethodName)) ∈ AL := al (tb_2 (List.mem_of_getElem? (i := 95) rfl)) rfl
theorem wd_2_96 : (Jvm.Cond.code ({ cls := "WeekBank$Rules", name := "clear", desc := "()V" } : Jvm.MethodName) prog_8_method_2_code (1 : Nat) (Option.none : Option Jvm.ClassFile.FieldType)) ∈ AL := al (tb_2 (List.mem_of_getElem? (i := 96) rfl)) rfl
theorem wd_2_97 : (Jvm.Cond.methodLink "WeekBank$Reader" (42 : Nat) ({ cls := "WeekBank$Reader", name := "readToken", desc := "()V" } : Jvm.MethodName)) ∈ AL := al (tb_2 (List.mem_of_getElem? (i := 97) rfl)) rfl
theorem wd_2_99 : (Jvm.Cond.instanceMethod ({ cls := "WeekBank$Reader", name := "readToken", desc := "()V" } : Jvm.MethodName)) ∈ AL := al (tb_2 (List.mem_of_getElem? (i := 99) rfl)) rfl
theorem wd_2_100 : (Jvm.Cond.code ({ cls := "WeekBank$Reader", name := "readToken", desc := "()V" } : Jvm.MethodName) prog_6_method_11_code (1 : Nat) (Option.none : Option Jvm.ClassFile.FieldType)) ∈ AL := al (tb_2 (List.mem_of_getElem? (i := 100) rfl)) rfl
theorem wd_2_101 : (Jvm.Cond.methodLink "WeekBank$Reader" (106 : Nat) ({ cls := "WeekBank$Reader", name := "isBlank", desc := "(I)Z" } : Jvm.MethodName)) ∈ AL := al (tb_2 (List.mem_of_getElem? (i := 101) rfl)) rfl
theorem wd_2_102 : (Jvm.Cond.static ({ cls := "WeekBank$Reader", name := "isBlank", desc := "(I)Z" } : Jvm.MethodName)) ∈ AL := al (tb_2 (List.mem_of_getElem? (i := 102) rfl)) rfl
theorem wd_2_103 : (Jvm.Cond.code ({ cls := "WeekBank$Reader", name := "isBlank", desc := "(I)Z" } : Jvm.MethodName) prog_6_method_15_code (1 : Nat) (Option.some Jvm.ClassFile.FieldType.boolean)) ∈ AL := al (tb_2 (List.mem_of_getElem? (i := 103) rfl)) rfl
theorem wd_2_104 : (Jvm.Cond.methodLink "WeekBank$Reader" (110 : Nat) ({ cls := "WeekBank$Reader", name := "isLetter", desc := "(I)Z" } : Jvm.MethodName)) ∈ AL := al (tb_2 (List.mem_of_getElem? (i := 104) rfl)) rfl
theorem wd_2_105 : (Jvm.Cond.static ({ cls := "WeekBank$Reader", name := "isLetter", desc := "(I)Z" } : Jvm.MethodName)) ∈ AL := al (tb_2 (List.mem_of_getElem? (i := 105) rfl)) rfl
theorem wd_2_106 : (Jvm.Cond.code ({ cls := "WeekBank$Reader", name := "isLetter", desc := "(I)Z" } : Jvm.MethodName) prog_6_method_16_code (1 : Nat) (Option.some Jvm.ClassFile.FieldType.boolean)) ∈ AL := al (tb_2 (List.mem_of_getElem? (i := 106) rfl)) rfl
theorem wd_2_107 : (Jvm.Cond.methodLink "WeekBank$Reader" (113 : Nat) ({ cls := "WeekBank$Reader", name := "skipLetters", desc := "()V" } : Jvm.MethodName)) ∈ AL := al (tb_2 (List.mem_of_getElem? (i := 107) rfl)) rfl
theorem wd_2_109 : (Jvm.Cond.instanceMethod ({ cls := "WeekBank$Reader", name := "skipLetters", desc := "()V" } : Jvm.MethodName)) ∈ AL := al (tb_2 (List.mem_of_getElem? (i := 109) rfl)) rfl
theorem wd_2_110 : (Jvm.Cond.code ({ cls := "WeekBank$Reader", name := "skipLetters", desc := "()V" } : Jvm.MethodName) prog_6_method_12_code (1 : Nat) (Option.none : Option Jvm.ClassFile.FieldType)) ∈ AL := al (tb_2 (List.mem_of_getElem? (i := 110) rfl)) rfl
theorem wd_2_111 : (Jvm.Cond.methodLink "WeekBank$Reader" (116 : Nat) ({ cls := "WeekBank$Reader", name := "isDigit", desc := "(I)Z" } : Jvm.MethodName)) ∈ AL := al (tb_2 (List.mem_of_getElem? (i := 111) rfl)) rfl
theorem wd_2_112 : (Jvm.Cond.static ({ cls := "WeekBank$Reader", name := "isDigit", desc := "(I)Z" } : Jvm.MethodName)) ∈ AL := al (tb_2 (List.mem_of_getElem? (i := 112) rfl)) rfl
theorem wd_2_113 : (Jvm.Cond.code ({ cls := "WeekBank$Reader", name := "isDigit", desc := "(I)Z" } : Jvm.MethodName) prog_6_method_17_code (1 : Nat) (Option.some Jvm.ClassFile.FieldType.boolean)) ∈ AL := al (tb_2 (List.mem_of_getElem? (i := 113) rfl)) rfl
theorem wd_2_114 : (Jvm.Cond.methodLink "WeekBank$Reader" (119 : Nat) ({ cls := "WeekBank$Reader", name := "readDigits", desc := "()V" } : Jvm.MethodName)) ∈ AL := al (tb_2 (List.mem_of_getElem? (i := 114) rfl)) rfl
theorem wd_2_116 : (Jvm.Cond.instanceMethod ({ cls := "WeekBank$Reader", name := "readDigits", desc := "()V" } : Jvm.MethodName)) ∈ AL := al (tb_2 (List.mem_of_getElem? (i := 116) rfl)) rfl
theorem wd_2_117 : (Jvm.Cond.code ({ cls := "WeekBank$Reader", name := "readDigits", desc := "()V" } : Jvm.MethodName) prog_6_method_13_code (1 : Nat) (Option.none : Option Jvm.ClassFile.FieldType)) ∈ AL := al (tb_2 (List.mem_of_getElem? (i := 117) rfl)) rfl
theorem wd_2_118 : (Jvm.Cond.methodLink "WeekBank$Reader" (45 : Nat) ({ cls := "WeekBank$Reader", name := "readStatement", desc := "(LWeekBank$Rules;)V" } : Jvm.MethodName)) ∈ AL := al (tb_2 (List.mem_of_getElem? (i := 118) rfl)) rfl
theorem wd_2_120 : (Jvm.Cond.instanceMethod ({ cls := "WeekBank$Reader", name := "readStatement", desc := "(LWeekBank$Rules;)V" } : Jvm.MethodName)) ∈ AL := al (tb_2 (List.mem_of_getElem? (i := 120) rfl)) rfl
theorem wd_2_121 : (Jvm.Cond.code ({ cls := "WeekBank$Reader", name := "readStatement", desc := "(LWeekBank$Rules;)V" } : Jvm.MethodName) prog_6_method_4_code (3 : Nat) (Option.none : Option Jvm.ClassFile.FieldType)) ∈ AL := al (tb_2 (List.mem_of_getElem? (i := 121) rfl)) rfl
theorem wd_2_122 : (Jvm.Cond.methodLink "WeekBank$Reader" (49 : Nat) ({ cls := "WeekBank$Reader", name := "statementKind", desc := "()I" } : Jvm.MethodName)) ∈ AL := al (tb_2 (List.mem_of_getElem? (i := 122) rfl)) rfl
theorem wd_2_124 : (Jvm.Cond.instanceMethod ({ cls := "WeekBank$Reader", name := "statementKind", desc := "()I" } : Jvm.MethodName)) ∈ AL := al (tb_2 (List.mem_of_getElem? (i := 124) rfl)) rfl
theorem wd_2_125 : (Jvm.Cond.code ({ cls := "WeekBank$Reader", name := "statementKind", desc := "()I" } : Jvm.MethodName) prog_6_method_5_code (1 : Nat) (Option.some Jvm.ClassFile.FieldType.int)) ∈ AL := al (tb_2 (List.mem_of_getElem? (i := 125) rfl)) rfl
theorem wt_2_126 : (Jvm.Cond.stringRef "WeekBank$Reader" (67 : Nat) "season") ∈ lw_tbl := tb_2 (List.mem_of_getElem? (i := 126) rfl)
theorem wd_2_127 : (Jvm.Cond.methodLink "WeekBank$Reader" (69 : Nat) ({ cls := "WeekBank$Reader", name := "isWord", desc := "(Ljava/lang/String;)Z" } : Jvm.MethodName)) ∈ AL := al (tb_2 (List.mem_of_getElem? (i := 127) rfl)) rfl
theorem wd_2_129 : (Jvm.Cond.instanceMethod ({ cls := "WeekBank$Reader", name := "isWord", desc := "(Ljava/lang/String;)Z" } : Jvm.MethodName)) ∈ AL := al (tb_2 (List.mem_of_getElem? (i := 129) rfl)) rfl
theorem wd_2_130 : (Jvm.Cond.code ({ cls := "WeekBank$Reader", name := "isWord", desc := "(Ljava/lang/String;)Z" } : Jvm.MethodName) prog_6_method_14_code (3 : Nat) (Option.some Jvm.ClassFile.FieldType.boolean)) ∈ AL := al (tb_2 (List.mem_of_getElem? (i := 130) rfl)) rfl
theorem wd_2_131 : (Jvm.Cond.methodLink "WeekBank$Reader" (122 : Nat) ({ cls := "java/lang/String", name := "length", desc := "()I" } : Jvm.MethodName)) ∈ AL := al (tb_2 (List.mem_of_getElem? (i := 131) rfl)) rfl
theorem wd_2_132 : (Jvm.Cond.instanceMethod ({ cls := "java/lang/String", name := "length", desc := "()I" } : Jvm.MethodName)) ∈ AL := al (tb_2 (List.mem_of_getElem? (i := 132) rfl)) rfl
theorem wd_2_133 : (Jvm.Cond.selects "java/lang/String" ({ cls := "java/lang/String", name := "length", desc := "()I" } : Jvm.MethodName) ({ cls := "java/lang/String", name := "length", desc := "()I" } : Jvm.MethodName)) ∈ AL := al (tb_2 (List.mem_of_getElem? (i := 133) rfl)) rfl
theorem wd_2_134 : (Jvm.Cond.code ({ cls := "java/lang/String", name := "length", desc := "()I" } : Jvm.MethodName) prog_16_method_54_code (1 : Nat) (Option.some Jvm.ClassFile.FieldType.int)) ∈ AL := al (tb_2 (List.mem_of_getElem? (i := 134) rfl)) rfl
theorem wd_2_135 : (Jvm.Cond.methodLink "java/lang/String" (335 : Nat) ({ cls := "java/lang/String", name := "coder", desc := "()B" } : Jvm.MethodName)) ∈ AL := al (tb_2 (List.mem_of_getElem? (i := 135) rfl)) rfl
theorem wd_2_136 : (Jvm.Cond.instanceMethod ({ cls := "java/lang/String", name := "coder", desc := "()B" } : Jvm.MethodName)) ∈ AL := al (tb_2 (List.mem_of_getElem? (i := 136) rfl)) rfl
theorem wd_2_137 : (Jvm.Cond.selects "java/lang/String" ({ cls := "java/lang/String", name := "coder", desc := "()B" } : Jvm.MethodName) ({ cls := "java/lang/String", name := "coder", desc := "()B" } : Jvm.MethodName)) ∈ AL := al (tb_2 (List.mem_of_getElem? (i := 137) rfl)) rfl
theorem wd_2_138 : (Jvm.Cond.code ({ cls := "java/lang/String", name := "coder", desc := "()B" } : Jvm.MethodName) prog_16_method_152_code (1 : Nat) (Option.some Jvm.ClassFile.FieldType.byte)) ∈ AL := al (tb_2 (List.mem_of_getElem? (i := 138) rfl)) rfl
theorem wd_2_139 : (Jvm.Cond.fieldLink "java/lang/String" (38 : Nat) "java/lang/String" "COMPACT_STRINGS" "Z") ∈ AL := al (tb_2 (List.mem_of_getElem? (i := 139) rfl)) rfl
theorem wt_2_140 : (Jvm.Cond.laysStatic "java/lang/String" "COMPACT_STRINGS" "Z") ∈ lw_tbl := tb_2 (List.mem_of_getElem? (i := 140) rfl)
theorem wd_2_141 : (Jvm.Cond.methodLink "WeekBank$Reader" (126 : Nat) ({ cls := "java/lang/String", name := "charAt", desc := "(I)C" } : Jvm.MethodName)) ∈ AL := al (tb_2 (List.mem_of_getElem? (i := 141) rfl)) rfl
theorem wd_2_142 : (Jvm.Cond.instanceMethod ({ cls := "java/lang/String", name := "charAt", desc := "(I)C" } : Jvm.MethodName)) ∈ AL := al (tb_2 (List.mem_of_getElem? (i := 142) rfl)) rfl
theorem wd_2_143 : (Jvm.Cond.selects "java/lang/String" ({ cls := "java/lang/String", name := "charAt", desc := "(I)C" } : Jvm.MethodName) ({ cls := "java/lang/String", name := "charAt", desc := "(I)C" } : Jvm.MethodName)) ∈ AL := al (tb_2 (List.mem_of_getElem? (i := 143) rfl)) rfl
theorem wd_2_144 : (Jvm.Cond.code ({ cls := "java/lang/String", name := "charAt", desc := "(I)C" } : Jvm.MethodName) prog_16_method_56_code (2 : Nat) (Option.some Jvm.ClassFile.FieldType.char)) ∈ AL := al (tb_2 (List.mem_of_getElem? (i := 144) rfl)) rfl
theorem wd_2_145 : (Jvm.Cond.methodLink "java/lang/String" (492 : Nat) ({ cls := "java/lang/String", name := "isLatin1", desc := "()Z" } : Jvm.MethodName)) ∈ AL := al (tb_2 (List.mem_of_getElem? (i := 145) rfl)) rfl
theorem wd_2_146 : (Jvm.Cond.instanceMethod ({ cls := "java/lang/String", name := "isLatin1", desc := "()Z" } : Jvm.MethodName)) ∈ AL := al (tb_2 (List.mem_of_getElem? (i := 146) rfl)) rfl
theorem wd_2_147 : (Jvm.Cond.selects "java/lang/String" ({ cls := "java/lang/String", name := "isLatin1", desc := "()Z" } : Jvm.MethodName) ({ cls := "java/lang/String", name := "isLatin1", desc := "()Z" } : Jvm.MethodName)) ∈ AL := al (tb_2 (List.mem_of_getElem? (i := 147) rfl)) rfl
theorem wd_2_148 : (Jvm.Cond.code ({ cls := "java/lang/String", name := "isLatin1", desc := "()Z" } : Jvm.MethodName) prog_16_method_154_code (1 : Nat) (Option.some Jvm.ClassFile.FieldType.boolean)) ∈ AL := al (tb_2 (List.mem_of_getElem? (i := 148) rfl)) rfl
theorem wd_2_149 : (Jvm.Cond.methodLink "java/lang/String" (495 : Nat) ({ cls := "java/lang/StringLatin1", name := "charAt", desc := "([BI)C" } : Jvm.MethodName)) ∈ AL := al (tb_2 (List.mem_of_getElem? (i := 149) rfl)) rfl
theorem wd_2_150 : (Jvm.Cond.static ({ cls := "java/lang/StringLatin1", name := "charAt", desc := "([BI)C" } : Jvm.MethodName)) ∈ AL := al (tb_2 (List.mem_of_getElem? (i := 150) rfl)) rfl
theorem wd_2_151 : (Jvm.Cond.code ({ cls := "java/lang/StringLatin1", name := "charAt", desc := "([BI)C" } : Jvm.MethodName) prog_17_method_2_code (2 : Nat) (Option.some Jvm.ClassFile.FieldType.char)) ∈ AL := al (tb_2 (List.mem_of_getElem? (i := 151) rfl)) rfl
theorem wd_2_152 : (Jvm.Cond.methodLink "java/lang/StringLatin1" (9 : Nat) ({ cls := "java/lang/String", name := "checkIndex", desc := "(II)V" } : Jvm.MethodName)) ∈ AL := al (tb_2 (List.mem_of_getElem? (i := 152) rfl)) rfl
theorem wd_2_153 : (Jvm.Cond.static ({ cls := "java/lang/String", name := "checkIndex", desc := "(II)V" } : Jvm.MethodName)) ∈ AL := al (tb_2 (List.mem_of_getElem? (i := 153) rfl)) rfl
theorem wd_2_154 : (Jvm.Cond.code ({ cls := "java/lang/String", name := "checkIndex", desc := "(II)V" } : Jvm.MethodName) prog_16_method_155_code (2 : Nat) (Option.none : Option Jvm.ClassFile.FieldType)) ∈ AL := al (tb_2 (List.mem_of_getElem? (i := 154) rfl)) rfl
theorem wd_2_155 : (Jvm.Cond.fieldLink "java/lang/String" (1053 : Nat) "jdk/internal/util/Preconditions" "SIOOBE_FORMATTER" "Ljava/util/function/BiFunction;") ∈ AL := al (tb_2 (List.mem_of_getElem? (i := 155) rfl)) rfl
theorem wt_2_156 : (Jvm.Cond.laysStatic "jdk/internal/util/Preconditions" "SIOOBE_FORMATTER" "Ljava/util/function/BiFunction;") ∈ lw_tbl := tb_2 (List.mem_of_getElem? (i := 156) rfl)
theorem wd_2_157 : (Jvm.Cond.methodLink "java/lang/String" (1059 : Nat) ({ cls := "jdk/internal/util/Preconditions", name := "checkIndex", desc := "(IILjava/util/function/BiFunction;)I" } : Jvm.MethodName)) ∈ AL := al (tb_2 (List.mem_of_getElem? (i := 157) rfl)) rfl
theorem wd_2_158 : (Jvm.Cond.static ({ cls := "jdk/internal/util/Preconditions", name := "checkIndex", desc := "(IILjava/util/function/BiFunction;)I" } : Jvm.MethodName)) ∈ AL := al (tb_2 (List.mem_of_getElem? (i := 158) rfl)) rfl
theorem wd_2_159 : (Jvm.Cond.code ({ cls := "jdk/internal/util/Preconditions", name := "checkIndex", desc := "(IILjava/util/function/BiFunction;)I" } : Jvm.MethodName) prog_22_method_11_code (3 : Nat) (Option.some Jvm.ClassFile.FieldType.int)) ∈ AL := al (tb_2 (List.mem_of_getElem? (i := 159) rfl)) rfl
theorem wd_2_160 : (Jvm.Cond.methodLink "java/lang/String" (498 : Nat) ({ cls := "java/lang/StringUTF16", name := "charAt", desc := "([BI)C" } : Jvm.MethodName)) ∈ AL := al (tb_2 (List.mem_of_getElem? (i := 160) rfl)) rfl
theorem wd_2_161 : (Jvm.Cond.static ({ cls := "java/lang/StringUTF16", name := "charAt", desc := "([BI)C" } : Jvm.MethodName)) ∈ AL := al (tb_2 (List.mem_of_getElem? (i := 161) rfl)) rfl
theorem wd_2_162 : (Jvm.Cond.code ({ cls := "java/lang/StringUTF16", name := "charAt", desc := "([BI)C" } : Jvm.MethodName) prog_18_method_83_code (2 : Nat) (Option.some Jvm.ClassFile.FieldType.char)) ∈ AL := al (tb_2 (List.mem_of_getElem? (i := 162) rfl)) rfl
theorem wd_2_163 : (Jvm.Cond.methodLink "java/lang/StringUTF16" (67 : Nat) ({ cls := "java/lang/StringUTF16", name := "checkIndex", desc := "(I[B)V" } : Jvm.MethodName)) ∈ AL := al (tb_2 (List.mem_of_getElem? (i := 163) rfl)) rfl
theorem wd_2_164 : (Jvm.Cond.static ({ cls := "java/lang/StringUTF16", name := "checkIndex", desc := "(I[B)V" } : Jvm.MethodName)) ∈ AL := al (tb_2 (List.mem_of_getElem? (i := 164) rfl)) rfl
theorem wd_2_165 : (Jvm.Cond.code ({ cls := "java/lang/StringUTF16", name := "checkIndex", desc := "(I[B)V" } : Jvm.MethodName) prog_18_method_91_code (2 : Nat) (Option.none : Option Jvm.ClassFile.FieldType)) ∈ AL := al (tb_2 (List.mem_of_getElem? (i := 165) rfl)) rfl
theorem wd_2_166 : (Jvm.Cond.methodLink "java/lang/StringUTF16" (48 : Nat) ({ cls := "java/lang/StringUTF16", name := "length", desc := "([B)I" } : Jvm.MethodName)) ∈ AL := al (tb_2 (List.mem_of_getElem? (i := 166) rfl)) rfl
theorem wd_2_167 : (Jvm.Cond.static ({ cls := "java/lang/StringUTF16", name := "length", desc := "([B)I" } : Jvm.MethodName)) ∈ AL := al (tb_2 (List.mem_of_getElem? (i := 167) rfl)) rfl
theorem wd_2_168 : (Jvm.Cond.code ({ cls := "java/lang/StringUTF16", name := "length", desc := "([B)I" } : Jvm.MethodName) prog_18_method_6_code (1 : Nat) (Option.some Jvm.ClassFile.FieldType.int)) ∈ AL := al (tb_2 (List.mem_of_getElem? (i := 168) rfl)) rfl
theorem wd_2_169 : (Jvm.Cond.methodLink "java/lang/StringUTF16" (414 : Nat) ({ cls := "java/lang/String", name := "checkIndex", desc := "(II)V" } : Jvm.MethodName)) ∈ AL := al (tb_2 (List.mem_of_getElem? (i := 169) rfl)) rfl
theorem wd_2_170 : (Jvm.Cond.methodLink "java/lang/StringUTF16" (71 : Nat) ({ cls := "java/lang/StringUTF16", name := "getChar", desc := "([BI)C" } : Jvm.MethodName)) ∈ AL := al (tb_2 (List.mem_of_getElem? (i := 170) rfl)) rfl
theorem wd_2_171 : (Jvm.Cond.static ({ cls := "java/lang/StringUTF16", name := "getChar", desc := "([BI)C" } : Jvm.MethodName)) ∈ AL := al (tb_2 (List.mem_of_getElem? (i := 171) rfl)) rfl
theorem wd_2_172 : (Jvm.Cond.code ({ cls := "java/lang/StringUTF16", name := "getChar", desc := "([BI)C" } : Jvm.MethodName) prog_18_method_5_code (2 : Nat) (Option.some Jvm.ClassFile.FieldType.char)) ∈ AL := al (tb_2 (List.mem_of_getElem? (i := 172) rfl)) rfl
theorem wd_2_173 : (Jvm.Cond.fieldLink "java/lang/StringUTF16" (44 : Nat) "java/lang/StringUTF16" "$assertionsDisabled" "Z") ∈ AL := al (tb_2 (List.mem_of_getElem? (i := 173) rfl)) rfl
theorem wt_2_174 : (Jvm.Cond.laysStatic "java/lang/StringUTF16" "$assertionsDisabled" "Z") ∈ lw_tbl := tb_2 (List.mem_of_getElem? (i := 174) rfl)
theorem wd_2_175 : (Jvm.Cond.fieldLink "java/lang/StringUTF16" (59 : Nat) "java/lang/StringUTF16" "HI_BYTE_SHIFT" "I") ∈ AL := al (tb_2 (List.mem_of_getElem? (i := 175) rfl)) rfl
theorem wt_2_176 : (Jvm.Cond.laysStatic "java/lang/StringUTF16" "HI_BYTE_SHIFT" "I") ∈ lw_tbl := tb_2 (List.mem_of_getElem? (i := 176) rfl)
theorem wd_2_177 : (Jvm.Cond.fieldLink "java/lang/StringUTF16" (63 : Nat) "java/lang/StringUTF16" "LO_BYTE_SHIFT" "I") ∈ AL := al (tb_2 (List.mem_of_getElem? (i := 177) rfl)) rfl
theorem wt_2_178 : (Jvm.Cond.laysStatic "java/lang/StringUTF16" "LO_BYTE_SHIFT" "I") ∈ lw_tbl := tb_2 (List.mem_of_getElem? (i := 178) rfl)
theorem wt_2_179 : (Jvm.Cond.stringRef "WeekBank$Reader" (73 : Nat) "size") ∈ lw_tbl := tb_2 (List.mem_of_getElem? (i := 179) rfl)
theorem wt_2_180 : (Jvm.Cond.stringRef "WeekBank$Reader" (75 : Nat) "early") ∈ lw_tbl := tb_2 (List.mem_of_getElem? (i := 180) rfl)
theorem wt_2_181 : (Jvm.Cond.stringRef "WeekBank$Reader" (77 : Nat) "heirs") ∈ lw_tbl := tb_2 (List.mem_of_getElem? (i := 181) rfl)
theorem wd_2_182 : (Jvm.Cond.methodLink "WeekBank$Reader" (53 : Nat) ({ cls := "WeekBank$Reader", name := "blame", desc := "(I)V" } : Jvm.MethodName)) ∈ AL := al (tb_2 (List.mem_of_getElem? (i := 182) rfl)) rfl
theorem wd_2_184 : (Jvm.Cond.instanceMethod ({ cls := "WeekBank$Reader", name := "blame", desc := "(I)V" } : Jvm.MethodName)) ∈ AL := al (tb_2 (List.mem_of_getElem? (i := 184) rfl)) rfl
theorem wd_2_185 : (Jvm.Cond.code ({ cls := "WeekBank$Reader", name := "blame", desc := "(I)V" } : Jvm.MethodName) prog_6_method_10_code (2 : Nat) (Option.none : Option Jvm.ClassFile.FieldType)) ∈ AL := al (tb_2 (List.mem_of_getElem? (i := 185) rfl)) rfl
theorem wd_2_186 : (Jvm.Cond.methodLink "WeekBank$Reader" (60 : Nat) ({ cls := "WeekBank$Reader", name := "readRest", desc := "(LWeekBank$Rules;I)V" } : Jvm.MethodName)) ∈ AL := al (tb_2 (List.mem_of_getElem? (i := 186) rfl)) rfl
theorem wd_2_188 : (Jvm.Cond.instanceMethod ({ cls := "WeekBank$Reader", name := "readRest", desc := "(LWeekBank$Rules;I)V" } : Jvm.MethodName)) ∈ AL := al (tb_2 (List.mem_of_getElem? (i := 188) rfl)) rfl
theorem wd_2_189 : (Jvm.Cond.code ({ cls := "WeekBank$Reader", name := "readRest", desc := "(LWeekBank$Rules;I)V" } : Jvm.MethodName) prog_6_method_6_code (7 : Nat) (Option.none : Option Jvm.ClassFile.FieldType)) ∈ AL := al (tb_2 (List.mem_of_getElem? (i := 189) rfl)) rfl
theorem wd_2_190 : (Jvm.Cond.methodLink "WeekBank$Reader" (79 : Nat) ({ cls := "WeekBank$Reader", name := "expectNumber", desc := "(II)I" } : Jvm.MethodName)) ∈ AL := al (tb_2 (List.mem_of_getElem? (i := 190) rfl)) rfl
theorem wd_2_192 : (Jvm.Cond.instanceMethod ({ cls := "WeekBank$Reader", name := "expectNumber", desc := "(II)I" } : Jvm.MethodName)) ∈ AL := al (tb_2 (List.mem_of_getElem? (i := 192) rfl)) rfl
theorem wd_2_193 : (Jvm.Cond.code ({ cls := "WeekBank$Reader", name := "expectNumber", desc := "(II)I" } : Jvm.MethodName) prog_6_method_7_code (4 : Nat) (Option.some Jvm.ClassFile.FieldType.int)) ∈ AL := al (tb_2 (List.mem_of_getElem? (i := 193) rfl)) rfl
theorem wd_2_194 : (Jvm.Cond.methodLink "WeekBank$Reader" (83 : Nat) ({ cls := "WeekBank$Rules", name := "setSeason", desc := "(III)V" } : Jvm.MethodName)) ∈ AL := al (tb_2 (List.mem_of_getElem? (i := 194) rfl)) rfl
theorem wd_2_195 : (Jvm.Cond.instanceMethod ({ cls := "WeekBank$Rules", name := "setSeason", desc := "(III)V" } : Jvm.MethodName)) ∈ AL := al (tb_2 (List.mem_of_getElem? (i := 195) rfl)) rfl
theorem wd_2_196 : (Jvm.Cond.selects "WeekBank$Rules" ({ cls := "WeekBank$Rules", name := "setSeason", desc := "(III)V" } : Jvm.MethodName) ({ cls := "WeekBank$Rules", name := "setSeason", desc := "(III)V" } : Jvm.MethodName)) ∈ AL := al (tb_2 (List.mem_of_getElem? (i := 196) rfl)) rfl
theorem wd_2_197 : (Jvm.Cond.code ({ cls := "WeekBank$Rules", name := "setSeason", desc := "(III)V" } : Jvm.MethodName) prog_8_method_3_code (5 : Nat) (Option.none : Option Jvm.ClassFile.FieldType)) ∈ AL := al (tb_2 (List.mem_of_getElem? (i := 197) rfl)) rfl
theorem wd_2_198 : (Jvm.Cond.methodLink "WeekBank$Rules" (35 : Nat) ({ cls := "java/lang/Math", name := "max", desc := "(II)I" } : Jvm.MethodName)) ∈ AL := al (tb_2 (List.mem_of_getElem? (i := 198) rfl)) rfl
theorem wd_2_199 : (Jvm.Cond.static ({ cls := "java/lang/Math", name := "max", desc := "(II)I" } : Jvm.MethodName)) ∈ AL := al (tb_2 (List.mem_of_getElem? (i := 199) rfl)) rfl
theorem wd_2_200 : (Jvm.Cond.code ({ cls := "java/lang/Math", name := "max", desc := "(II)I" } : Jvm.MethodName) prog_14_method_65_code (2 : Nat) (Option.some Jvm.ClassFile.FieldType.int)) ∈ AL := al (tb_2 (List.mem_of_getElem? (i := 200) rfl)) rfl
theorem wd_2_201 : (Jvm.Cond.methodLink "WeekBank$Reader" (87 : Nat) ({ cls := "WeekBank$Rules", name := "setSize", desc := "(II)V" } : Jvm.MethodName)) ∈ AL := al (tb_2 (List.mem_of_getElem? (i := 201) rfl)) rfl
theorem wd_2_202 : (Jvm.Cond.instanceMethod ({ cls := "WeekBank$Rules", name := "setSize", desc := "(II)V" } : Jvm.MethodName)) ∈ AL := al (tb_2 (List.mem_of_getElem? (i := 202) rfl)) rfl
theorem wd_2_203 : (Jvm.Cond.selects "WeekBank$Rules" ({ cls := "WeekBank$Rules", name := "setSize", desc := "(II)V" } : Jvm.MethodName) ({ cls := "WeekBank$Rules", name := "setSize", desc := "(II)V" } : Jvm.MethodName)) ∈ AL := al (tb_2 (List.mem_of_getElem? (i := 203) rfl)) rfl
theorem wd_2_204 : (Jvm.Cond.code ({ cls := "WeekBank$Rules", name := "setSize", desc := "(II)V" } : Jvm.MethodName) prog_8_method_4_code (3 : Nat) (Option.none : Option Jvm.ClassFile.FieldType)) ∈ AL := al (tb_2 (List.mem_of_getElem? (i := 204) rfl)) rfl
theorem wt_2_205 : (Jvm.Cond.methodLinkNest "WeekBank$Rules" (41 : Nat) ({ cls := "WeekBank", name := "isSize", desc := "(I)Z" } : Jvm.MethodName) "WeekBank") ∈ lw_tbl := tb_2 (List.mem_of_getElem? (i := 205) rfl)
theorem wd_2_206 : (Jvm.Cond.methodLink "WeekBank$Reader" (91 : Nat) ({ cls := "WeekBank$Rules", name := "setEarly", desc := "(II)V" } : Jvm.MethodName)) ∈ AL := al (tb_2 (List.mem_of_getElem? (i := 206) rfl)) rfl
theorem wd_2_207 : (Jvm.Cond.instanceMethod ({ cls := "WeekBank$Rules", name := "setEarly", desc := "(II)V" } : Jvm.MethodName)) ∈ AL := al (tb_2 (List.mem_of_getElem? (i := 207) rfl)) rfl
theorem wd_2_208 : (Jvm.Cond.selects "WeekBank$Rules" ({ cls := "WeekBank$Rules", name := "setEarly", desc := "(II)V" } : Jvm.MethodName) ({ cls := "WeekBank$Rules", name := "setEarly", desc := "(II)V" } : Jvm.MethodName)) ∈ AL := al (tb_2 (List.mem_of_getElem? (i := 208) rfl)) rfl
theorem wd_2_209 : (Jvm.Cond.code ({ cls := "WeekBank$Rules", name := "setEarly", desc := "(II)V" } : Jvm.MethodName) prog_8_method_5_code (3 : Nat) (Option.none : Option Jvm.ClassFile.FieldType)) ∈ AL := al (tb_2 (List.mem_of_getElem? (i := 209) rfl)) rfl
theorem wt_2_210 : (Jvm.Cond.methodLinkNest "WeekBank$Rules" (45 : Nat) ({ cls := "WeekBank", name := "isWeek", desc := "(I)Z" } : Jvm.MethodName) "WeekBank") ∈ lw_tbl := tb_2 (List.mem_of_getElem? (i := 210) rfl)
theorem wd_2_211 : (Jvm.Cond.methodLink "WeekBank$Reader" (94 : Nat) ({ cls := "WeekBank$Reader", name := "expectBound", desc := "()Z" } : Jvm.MethodName)) ∈ AL := al (tb_2 (List.mem_of_getElem? (i := 211) rfl)) rfl
theorem wd_2_213 : (Jvm.Cond.instanceMethod ({ cls := "WeekBank$Reader", name := "expectBound", desc := "()Z" } : Jvm.MethodName)) ∈ AL := al (tb_2 (List.mem_of_getElem? (i := 213) rfl)) rfl
theorem wd_2_214 : (Jvm.Cond.code ({ cls := "WeekBank$Reader", name := "expectBound", desc := "()Z" } : Jvm.MethodName) prog_6_method_8_code (2 : Nat) (Option.some Jvm.ClassFile.FieldType.boolean)) ∈ AL := al (tb_2 (List.mem_of_getElem? (i := 214) rfl)) rfl
theorem wt_2_215 : (Jvm.Cond.stringRef "WeekBank$Reader" (102 : Nat) "bound") ∈ lw_tbl := tb_2 (List.mem_of_getElem? (i := 215) rfl)
theorem wt_2_216 : (Jvm.Cond.stringRef "WeekBank$Reader" (104 : Nat) "free") ∈ lw_tbl := tb_2 (List.mem_of_getElem? (i := 216) rfl)
theorem wd_2_217 : (Jvm.Cond.methodLink "WeekBank$Reader" (64 : Nat) ({ cls := "WeekBank$Reader", name := "expectSign", desc := "()V" } : Jvm.MethodName)) ∈ AL := al (tb_2 (List.mem_of_getElem? (i := 217) rfl)) rfl
theorem wd_2_219 : (Jvm.Cond.instanceMethod ({ cls := "WeekBank$Reader", name := "expectSign", desc := "()V" } : Jvm.MethodName)) ∈ AL := al (tb_2 (List.mem_of_getElem? (i := 219) rfl)) rfl
theorem wd_2_220 : (Jvm.Cond.code ({ cls := "WeekBank$Reader", name := "expectSign", desc := "()V" } : Jvm.MethodName) prog_6_method_9_code (1 : Nat) (Option.none : Option Jvm.ClassFile.FieldType)) ∈ AL := al (tb_2 (List.mem_of_getElem? (i := 220) rfl)) rfl
theorem wd_2_221 : (Jvm.Cond.arrayClass Jvm.ClassFile.FieldType.byte) ∈ AL := al (tb_2 (List.mem_of_getElem? (i := 221) rfl)) rfl
theorem wd_2_222 : (Jvm.Cond.methodLink "WeekBankLaw" (47 : Nat) ({ cls := "WeekBank", name := "place", desc := "()I" } : Jvm.MethodName)) ∈ AL := al (tb_2 (List.mem_of_getElem? (i := 222) rfl)) rfl
theorem wd_2_223 : (Jvm.Cond.instanceMethod ({ cls := "WeekBank", name := "place", desc := "()I" } : Jvm.MethodName)) ∈ AL := al (tb_2 (List.mem_of_getElem? (i := 223) rfl)) rfl
theorem wd_2_224 : (Jvm.Cond.selects "WeekBank" ({ cls := "WeekBank", name := "place", desc := "()I" } : Jvm.MethodName) ({ cls := "WeekBank", name := "place", desc := "()I" } : Jvm.MethodName)) ∈ AL := al (tb_2 (List.mem_of_getElem? (i := 224) rfl)) rfl
theorem wd_2_225 : (Jvm.Cond.code ({ cls := "WeekBank", name := "place", desc := "()I" } : Jvm.MethodName) prog_1_method_8_code (1 : Nat) (Option.some Jvm.ClassFile.FieldType.int)) ∈ AL := al (tb_2 (List.mem_of_getElem? (i := 225) rfl)) rfl
theorem wd_2_226 : (Jvm.Cond.methodLink "WeekBankLaw" (51 : Nat) ({ cls := "WeekBank", name := "worth", desc := "(II)I" } : Jvm.MethodName)) ∈ AL := al (tb_2 (List.mem_of_getElem? (i := 226) rfl)) rfl
theorem wd_2_227 : (Jvm.Cond.instanceMethod ({ cls := "WeekBank", name := "worth", desc := "(II)I" } : Jvm.MethodName)) ∈ AL := al (tb_2 (List.mem_of_getElem? (i := 227) rfl)) rfl
theorem wd_2_228 : (Jvm.Cond.selects "WeekBank" ({ cls := "WeekBank", name := "worth", desc := "(II)I" } : Jvm.MethodName) ({ cls := "WeekBank", name := "worth", desc := "(II)I" } : Jvm.MethodName)) ∈ AL := al (tb_2 (List.mem_of_getElem? (i := 228) rfl)) rfl
theorem wd_2_229 : (Jvm.Cond.code ({ cls := "WeekBank", name := "worth", desc := "(II)I" } : Jvm.MethodName) prog_1_method_9_code (4 : Nat) (Option.some Jvm.ClassFile.FieldType.int)) ∈ AL := al (tb_2 (List.mem_of_getElem? (i := 229) rfl)) rfl
theorem wd_2_230 : (Jvm.Cond.methodLink "WeekBank" (127 : Nat) ({ cls := "WeekBank$Rules", name := "worthOf", desc := "(III)I" } : Jvm.MethodName)) ∈ AL := al (tb_2 (List.mem_of_getElem? (i := 230) rfl)) rfl
theorem wd_2_231 : (Jvm.Cond.instanceMethod ({ cls := "WeekBank$Rules", name := "worthOf", desc := "(III)I" } : Jvm.MethodName)) ∈ AL := al (tb_2 (List.mem_of_getElem? (i := 231) rfl)) rfl
theorem wd_2_232 : (Jvm.Cond.selects "WeekBank$Rules" ({ cls := "WeekBank$Rules", name := "worthOf", desc := "(III)I" } : Jvm.MethodName) ({ cls := "WeekBank$Rules", name := "worthOf", desc := "(III)I" } : Jvm.MethodName)) ∈ AL := al (tb_2 (List.mem_of_getElem? (i := 232) rfl)) rfl
theorem wd_2_233 : (Jvm.Cond.code ({ cls := "WeekBank$Rules", name := "worthOf", desc := "(III)I" } : Jvm.MethodName) prog_8_method_6_code (4 : Nat) (Option.some Jvm.ClassFile.FieldType.int)) ∈ AL := al (tb_2 (List.mem_of_getElem? (i := 233) rfl)) rfl
theorem wd_2_234 : (Jvm.Cond.methodLink "WeekBank$Rules" (48 : Nat) ({ cls := "WeekBank$Rules", name := "earlyOf", desc := "(I)I" } : Jvm.MethodName)) ∈ AL := al (tb_2 (List.mem_of_getElem? (i := 234) rfl)) rfl
theorem wd_2_236 : (Jvm.Cond.instanceMethod ({ cls := "WeekBank$Rules", name := "earlyOf", desc := "(I)I" } : Jvm.MethodName)) ∈ AL := al (tb_2 (List.mem_of_getElem? (i := 236) rfl)) rfl
theorem wd_2_237 : (Jvm.Cond.code ({ cls := "WeekBank$Rules", name := "earlyOf", desc := "(I)I" } : Jvm.MethodName) prog_8_method_7_code (3 : Nat) (Option.some Jvm.ClassFile.FieldType.int)) ∈ AL := al (tb_2 (List.mem_of_getElem? (i := 237) rfl)) rfl
theorem wd_2_238 : (Jvm.Cond.methodLink "WeekBank$Rules" (52 : Nat) ({ cls := "java/lang/Math", name := "min", desc := "(II)I" } : Jvm.MethodName)) ∈ AL := al (tb_2 (List.mem_of_getElem? (i := 238) rfl)) rfl
theorem wd_2_239 : (Jvm.Cond.static ({ cls := "java/lang/Math", name := "min", desc := "(II)I" } : Jvm.MethodName)) ∈ AL := al (tb_2 (List.mem_of_getElem? (i := 239) rfl)) rfl
theorem wd_3_0 : (Jvm.Cond.code ({ cls := "java/lang/Math", name := "min", desc := "(II)I" } : Jvm.MethodName) prog_14_method_69_code (2 : Nat) (Option.some Jvm.ClassFile.FieldType.int)) ∈ AL := al (tb_3 (List.mem_of_getElem? (i := 0) rfl)) rfl
theorem wd_3_1 : (Jvm.Cond.methodLink "WeekBankLaw" (55 : Nat) ({ cls := "WeekBank", name := "give", desc := "(III)I" } : Jvm.MethodName)) ∈ AL := al (tb_3 (List.mem_of_getElem? (i := 1) rfl)) rfl
theorem wd_3_2 : (Jvm.Cond.instanceMethod ({ cls := "WeekBank", name := "give", desc := "(III)I" } : Jvm.MethodName)) ∈ AL := al (tb_3 (List.mem_of_getElem? (i := 2) rfl)) rfl
theorem wd_3_3 : (Jvm.Cond.selects "WeekBank" ({ cls := "WeekBank", name := "give", desc := "(III)I" } : Jvm.MethodName) ({ cls := "WeekBank", name := "give", desc := "(III)I" } : Jvm.MethodName)) ∈ AL := al (tb_3 (List.mem_of_getElem? (i := 3) rfl)) rfl
theorem wd_3_4 : (Jvm.Cond.code ({ cls := "WeekBank", name := "give", desc := "(III)I" } : Jvm.MethodName) prog_1_method_10_code (7 : Nat) (Option.some Jvm.ClassFile.FieldType.int)) ∈ AL := al (tb_3 (List.mem_of_getElem? (i := 4) rfl)) rfl
theorem wd_3_5 : (Jvm.Cond.methodLink "WeekBank" (139 : Nat) ({ cls := "WeekBank", name := "countGifts", desc := "(I)I" } : Jvm.MethodName)) ∈ AL := al (tb_3 (List.mem_of_getElem? (i := 5) rfl)) rfl
theorem wd_3_7 : (Jvm.Cond.instanceMethod ({ cls := "WeekBank", name := "countGifts", desc := "(I)I" } : Jvm.MethodName)) ∈ AL := al (tb_3 (List.mem_of_getElem? (i := 7) rfl)) rfl
theorem wd_3_8 : (Jvm.Cond.code ({ cls := "WeekBank", name := "countGifts", desc := "(I)I" } : Jvm.MethodName) prog_1_method_36_code (4 : Nat) (Option.some Jvm.ClassFile.FieldType.int)) ∈ AL := al (tb_3 (List.mem_of_getElem? (i := 8) rfl)) rfl
theorem wd_3_9 : (Jvm.Cond.methodLink "WeekBank" (143 : Nat) ({ cls := "WeekBank", name := "addGift", desc := "(LWeekBank$Owner;LWeekBank$Flat;I)I" } : Jvm.MethodName)) ∈ AL := al (tb_3 (List.mem_of_getElem? (i := 9) rfl)) rfl
theorem wd_3_11 : (Jvm.Cond.instanceMethod ({ cls := "WeekBank", name := "addGift", desc := "(LWeekBank$Owner;LWeekBank$Flat;I)I" } : Jvm.MethodName)) ∈ AL := al (tb_3 (List.mem_of_getElem? (i := 11) rfl)) rfl
theorem wd_3_12 : (Jvm.Cond.code ({ cls := "WeekBank", name := "addGift", desc := "(LWeekBank$Owner;LWeekBank$Flat;I)I" } : Jvm.MethodName) prog_1_method_35_code (5 : Nat) (Option.some Jvm.ClassFile.FieldType.int)) ∈ AL := al (tb_3 (List.mem_of_getElem? (i := 12) rfl)) rfl
theorem wd_3_13 : (Jvm.Cond.instantiable "WeekBank$Gift" (10 : Nat)) ∈ AL := al (tb_3 (List.mem_of_getElem? (i := 13) rfl)) rfl
theorem wd_3_14 : (Jvm.Cond.methodLink "WeekBank" (297 : Nat) ({ cls := "WeekBank$Gift", name := "<init>", desc := "(ILWeekBank$Owner;LWeekBank$Flat;I)V" } : Jvm.MethodName)) ∈ AL := al (tb_3 (List.mem_of_getElem? (i := 14) rfl)) rfl
theorem wd_3_15 : (Jvm.Cond.instanceMethod ({ cls := "WeekBank$Gift", name := "<init>", desc := "(ILWeekBank$Owner;LWeekBank$Flat;I)V" } : Jvm.MethodName)) ∈ AL := al (tb_3 (List.mem_of_getElem? (i := 15) rfl)) rfl
theorem wd_3_16 : (Jvm.Cond.code ({ cls := "WeekBank$Gift", name := "<init>", desc := "(ILWeekBank$Owner;LWeekBank$Flat;I)V" } : Jvm.MethodName) prog_4_method_1_code (5 : Nat) (Option.none : Option Jvm.ClassFile.FieldType)) ∈ AL := al (tb_3 (List.mem_of_getElem? (i := 16) rfl)) rfl
theorem wd_3_17 : (Jvm.Cond.methodLink "WeekBank$Gift" (3 : Nat) ({ cls := "java/lang/Object", name := "<init>", desc := "()V" } : Jvm.MethodName)) ∈ AL := al (tb_3 (List.mem_of_getElem? (i := 17) rfl)) rfl
theorem wd_3_18 : (Jvm.Cond.fieldLink "WeekBank$Gift" (33 : Nat) "WeekBank$Gift" "number" "I") ∈ AL := al (tb_3 (List.mem_of_getElem? (i := 18) rfl)) rfl
theorem wd_3_19 : (Jvm.Cond.fieldLink "WeekBank" (288 : Nat) "WeekBank$Gift" "number" "I") ∈ AL := al (tb_3 (List.mem_of_getElem? (i := 19) rfl)) rfl
theorem wd_3_20 : (Jvm.Cond.fieldLink "WeekBank$Gift" (36 : Nat) "WeekBank$Gift" "owner" "LWeekBank$Owner;") ∈ AL := al (tb_3 (List.mem_of_getElem? (i := 20) rfl)) rfl
theorem wd_3_21 : (Jvm.Cond.fieldLink "WeekBank$RingSearch" (77 : Nat) "WeekBank$Gift" "owner" "LWeekBank$Owner;") ∈ AL := al (tb_3 (List.mem_of_getElem? (i := 21) rfl)) rfl
theorem wd_3_22 : (Jvm.Cond.fieldLink "WeekBank" (179 : Nat) "WeekBank$Gift" "owner" "LWeekBank$Owner;") ∈ AL := al (tb_3 (List.mem_of_getElem? (i := 22) rfl)) rfl
theorem wd_3_23 : (Jvm.Cond.fieldLink "WeekBank$Gift" (39 : Nat) "WeekBank$Gift" "flat" "LWeekBank$Flat;") ∈ AL := al (tb_3 (List.mem_of_getElem? (i := 23) rfl)) rfl
theorem wd_3_24 : (Jvm.Cond.fieldLink "WeekBank" (208 : Nat) "WeekBank$Gift" "flat" "LWeekBank$Flat;") ∈ AL := al (tb_3 (List.mem_of_getElem? (i := 24) rfl)) rfl
theorem wd_3_25 : (Jvm.Cond.fieldLink "WeekBank$Gift" (43 : Nat) "WeekBank$Gift" "week" "I") ∈ AL := al (tb_3 (List.mem_of_getElem? (i := 25) rfl)) rfl
theorem wd_3_26 : (Jvm.Cond.fieldLink "WeekBank" (212 : Nat) "WeekBank$Gift" "week" "I") ∈ AL := al (tb_3 (List.mem_of_getElem? (i := 26) rfl)) rfl
theorem wd_3_27 : (Jvm.Cond.fieldLink "WeekBank$Gift" (9 : Nat) "WeekBank$Gift" "year" "I") ∈ AL := al (tb_3 (List.mem_of_getElem? (i := 27) rfl)) rfl
theorem wd_3_28 : (Jvm.Cond.fieldLink "WeekBank" (215 : Nat) "WeekBank$Gift" "year" "I") ∈ AL := al (tb_3 (List.mem_of_getElem? (i := 28) rfl)) rfl
theorem wd_3_29 : (Jvm.Cond.fieldLink "WeekBank$Gift" (15 : Nat) "WeekBank$Gift" "worth" "I") ∈ AL := al (tb_3 (List.mem_of_getElem? (i := 29) rfl)) rfl
theorem wd_3_30 : (Jvm.Cond.fieldLink "WeekBank" (186 : Nat) "WeekBank$Gift" "worth" "I") ∈ AL := al (tb_3 (List.mem_of_getElem? (i := 30) rfl)) rfl
theorem wd_3_31 : (Jvm.Cond.fieldLink "WeekBank$RingSearch" (114 : Nat) "WeekBank$Gift" "worth" "I") ∈ AL := al (tb_3 (List.mem_of_getElem? (i := 31) rfl)) rfl
theorem wd_3_32 : (Jvm.Cond.fieldLink "WeekBank$Gift" (18 : Nat) "WeekBank$Gift" "state" "I") ∈ AL := al (tb_3 (List.mem_of_getElem? (i := 32) rfl)) rfl
theorem wd_3_33 : (Jvm.Cond.fieldLink "WeekBank$RingSearch" (70 : Nat) "WeekBank$Gift" "state" "I") ∈ AL := al (tb_3 (List.mem_of_getElem? (i := 33) rfl)) rfl
theorem wd_3_34 : (Jvm.Cond.fieldLink "WeekBank" (136 : Nat) "WeekBank$Gift" "state" "I") ∈ AL := al (tb_3 (List.mem_of_getElem? (i := 34) rfl)) rfl
theorem wd_3_35 : (Jvm.Cond.fieldLink "WeekBank$Gift" (21 : Nat) "WeekBank$Gift" "wish" "LWeekBank$Wish;") ∈ AL := al (tb_3 (List.mem_of_getElem? (i := 35) rfl)) rfl
theorem wd_3_36 : (Jvm.Cond.fieldLink "WeekBank$RingSearch" (84 : Nat) "WeekBank$Gift" "wish" "LWeekBank$Wish;") ∈ AL := al (tb_3 (List.mem_of_getElem? (i := 36) rfl)) rfl
theorem wd_3_37 : (Jvm.Cond.fieldLink "WeekBank" (160 : Nat) "WeekBank$Gift" "wish" "LWeekBank$Wish;") ∈ AL := al (tb_3 (List.mem_of_getElem? (i := 37) rfl)) rfl
theorem wd_3_38 : (Jvm.Cond.fieldLink "WeekBank$Gift" (25 : Nat) "WeekBank$Gift" "got" "LWeekBank$Gift;") ∈ AL := al (tb_3 (List.mem_of_getElem? (i := 38) rfl)) rfl
theorem wd_3_39 : (Jvm.Cond.fieldLink "WeekBank$RingSearch" (73 : Nat) "WeekBank$Gift" "got" "LWeekBank$Gift;") ∈ AL := al (tb_3 (List.mem_of_getElem? (i := 39) rfl)) rfl
theorem wd_3_40 : (Jvm.Cond.fieldLink "WeekBank" (284 : Nat) "WeekBank$Gift" "got" "LWeekBank$Gift;") ∈ AL := al (tb_3 (List.mem_of_getElem? (i := 40) rfl)) rfl
theorem wd_3_41 : (Jvm.Cond.fieldLink "WeekBank$Gift" (29 : Nat) "WeekBank$Gift" "getter" "LWeekBank$Owner;") ∈ AL := al (tb_3 (List.mem_of_getElem? (i := 41) rfl)) rfl
theorem wd_3_42 : (Jvm.Cond.fieldLink "WeekBank$RingSearch" (81 : Nat) "WeekBank$Gift" "getter" "LWeekBank$Owner;") ∈ AL := al (tb_3 (List.mem_of_getElem? (i := 42) rfl)) rfl
theorem wd_3_43 : (Jvm.Cond.fieldLink "WeekBank" (266 : Nat) "WeekBank$Gift" "getter" "LWeekBank$Owner;") ∈ AL := al (tb_3 (List.mem_of_getElem? (i := 43) rfl)) rfl
theorem wd_3_44 : (Jvm.Cond.laysFinal "WeekBank$Gift" "WeekBank$Gift" "number" "I") ∈ AL := al (tb_3 (List.mem_of_getElem? (i := 44) rfl)) rfl
theorem wd_3_46 : (Jvm.Cond.laysFinal "WeekBank$Gift" "WeekBank$Gift" "owner" "LWeekBank$Owner;") ∈ AL := al (tb_3 (List.mem_of_getElem? (i := 46) rfl)) rfl
theorem wd_3_48 : (Jvm.Cond.laysFinal "WeekBank$Gift" "WeekBank$Gift" "flat" "LWeekBank$Flat;") ∈ AL := al (tb_3 (List.mem_of_getElem? (i := 48) rfl)) rfl
theorem wd_3_50 : (Jvm.Cond.laysFinal "WeekBank$Gift" "WeekBank$Gift" "week" "I") ∈ AL := al (tb_3 (List.mem_of_getElem? (i := 50) rfl)) rfl
theorem wd_3_52 : (Jvm.Cond.lays "WeekBank$Gift" "WeekBank$Gift" "year" "I") ∈ AL := al (tb_3 (List.mem_of_getElem? (i := 52) rfl)) rfl
theorem wd_3_54 : (Jvm.Cond.lays "WeekBank$Gift" "WeekBank$Gift" "worth" "I") ∈ AL := al (tb_3 (List.mem_of_getElem? (i := 54) rfl)) rfl
theorem wd_3_56 : (Jvm.Cond.lays "WeekBank$Gift" "WeekBank$Gift" "state" "I") ∈ AL := al (tb_3 (List.mem_of_getElem? (i := 56) rfl)) rfl
theorem wd_3_58 : (Jvm.Cond.lays "WeekBank$Gift" "WeekBank$Gift" "wish" "LWeekBank$Wish;") ∈ AL := al (tb_3 (List.mem_of_getElem? (i := 58) rfl)) rfl
theorem wd_3_60 : (Jvm.Cond.lays "WeekBank$Gift" "WeekBank$Gift" "got" "LWeekBank$Gift;") ∈ AL := al (tb_3 (List.mem_of_getElem? (i := 60) rfl)) rfl
theorem wd_3_62 : (Jvm.Cond.lays "WeekBank$Gift" "WeekBank$Gift" "getter" "LWeekBank$Owner;") ∈ AL := al (tb_3 (List.mem_of_getElem? (i := 62) rfl)) rfl
theorem wt_3_64 : (Jvm.Cond.superclass "WeekBank$Gift" "java/lang/Object") ∈ lw_tbl := tb_3 (List.mem_of_getElem? (i := 64) rfl)
theorem wd_3_65 : (Jvm.Cond.methodLink "WeekBankLaw" (60 : Nat) ({ cls := "WeekBank", name := "wish", desc := "(IIIII)Z" } : Jvm.MethodName)) ∈ AL := al (tb_3 (List.mem_of_getElem? (i := 65) rfl)) rfl
theorem wd_3_66 : (Jvm.Cond.instanceMethod ({ cls := "WeekBank", name := "wish", desc := "(IIIII)Z" } : Jvm.MethodName)) ∈ AL := al (tb_3 (List.mem_of_getElem? (i := 66) rfl)) rfl
theorem wd_3_67 : (Jvm.Cond.selects "WeekBank" ({ cls := "WeekBank", name := "wish", desc := "(IIIII)Z" } : Jvm.MethodName) ({ cls := "WeekBank", name := "wish", desc := "(IIIII)Z" } : Jvm.MethodName)) ∈ AL := al (tb_3 (List.mem_of_getElem? (i := 67) rfl)) rfl
theorem wd_3_68 : (Jvm.Cond.code ({ cls := "WeekBank", name := "wish", desc := "(IIIII)Z" } : Jvm.MethodName) prog_1_method_11_code (7 : Nat) (Option.some Jvm.ClassFile.FieldType.boolean)) ∈ AL := al (tb_3 (List.mem_of_getElem? (i := 68) rfl)) rfl
theorem wd_3_69 : (Jvm.Cond.methodLink "WeekBank" (147 : Nat) ({ cls := "WeekBank", name := "giftThatIs", desc := "(II)LWeekBank$Gift;" } : Jvm.MethodName)) ∈ AL := al (tb_3 (List.mem_of_getElem? (i := 69) rfl)) rfl
theorem wd_3_71 : (Jvm.Cond.instanceMethod ({ cls := "WeekBank", name := "giftThatIs", desc := "(II)LWeekBank$Gift;" } : Jvm.MethodName)) ∈ AL := al (tb_3 (List.mem_of_getElem? (i := 71) rfl)) rfl
theorem wd_3_72 : (Jvm.Cond.code ({ cls := "WeekBank", name := "giftThatIs", desc := "(II)LWeekBank$Gift;" } : Jvm.MethodName) prog_1_method_34_code (4 : Nat) (Option.some (Jvm.ClassFile.FieldType.object "WeekBank$Gift"))) ∈ AL := al (tb_3 (List.mem_of_getElem? (i := 72) rfl)) rfl
theorem wd_3_73 : (Jvm.Cond.methodLink "WeekBank" (269 : Nat) ({ cls := "WeekBank", name := "giftAt", desc := "(I)LWeekBank$Gift;" } : Jvm.MethodName)) ∈ AL := al (tb_3 (List.mem_of_getElem? (i := 73) rfl)) rfl
theorem wd_3_75 : (Jvm.Cond.instanceMethod ({ cls := "WeekBank", name := "giftAt", desc := "(I)LWeekBank$Gift;" } : Jvm.MethodName)) ∈ AL := al (tb_3 (List.mem_of_getElem? (i := 75) rfl)) rfl
theorem wd_3_76 : (Jvm.Cond.code ({ cls := "WeekBank", name := "giftAt", desc := "(I)LWeekBank$Gift;" } : Jvm.MethodName) prog_1_method_33_code (2 : Nat) (Option.some (Jvm.ClassFile.FieldType.object "WeekBank$Gift"))) ∈ AL := al (tb_3 (List.mem_of_getElem? (i := 76) rfl)) rfl
theorem wd_3_77 : (Jvm.Cond.methodLink "WeekBank" (151 : Nat) ({ cls := "WeekBank", name := "canBeWished", desc := "(IIII)Z" } : Jvm.MethodName)) ∈ AL := al (tb_3 (List.mem_of_getElem? (i := 77) rfl)) rfl
theorem wd_3_78 : (Jvm.Cond.static ({ cls := "WeekBank", name := "canBeWished", desc := "(IIII)Z" } : Jvm.MethodName)) ∈ AL := al (tb_3 (List.mem_of_getElem? (i := 78) rfl)) rfl
theorem wd_3_79 : (Jvm.Cond.code ({ cls := "WeekBank", name := "canBeWished", desc := "(IIII)Z" } : Jvm.MethodName) prog_1_method_28_code (5 : Nat) (Option.some Jvm.ClassFile.FieldType.boolean)) ∈ AL := al (tb_3 (List.mem_of_getElem? (i := 79) rfl)) rfl
theorem wd_3_80 : (Jvm.Cond.classLink "WeekBank" (155 : Nat) "WeekBank$Wish") ∈ AL := al (tb_3 (List.mem_of_getElem? (i := 80) rfl)) rfl
theorem wd_3_81 : (Jvm.Cond.instantiable "WeekBank$Wish" (4 : Nat)) ∈ AL := al (tb_3 (List.mem_of_getElem? (i := 81) rfl)) rfl
theorem wd_3_82 : (Jvm.Cond.methodLink "WeekBank" (157 : Nat) ({ cls := "WeekBank$Wish", name := "<init>", desc := "(IIII)V" } : Jvm.MethodName)) ∈ AL := al (tb_3 (List.mem_of_getElem? (i := 82) rfl)) rfl
theorem wd_3_83 : (Jvm.Cond.instanceMethod ({ cls := "WeekBank$Wish", name := "<init>", desc := "(IIII)V" } : Jvm.MethodName)) ∈ AL := al (tb_3 (List.mem_of_getElem? (i := 83) rfl)) rfl
theorem wd_3_84 : (Jvm.Cond.code ({ cls := "WeekBank$Wish", name := "<init>", desc := "(IIII)V" } : Jvm.MethodName) prog_9_method_1_code (5 : Nat) (Option.none : Option Jvm.ClassFile.FieldType)) ∈ AL := al (tb_3 (List.mem_of_getElem? (i := 84) rfl)) rfl
theorem wd_3_85 : (Jvm.Cond.methodLink "WeekBank$Wish" (1 : Nat) ({ cls := "java/lang/Object", name := "<init>", desc := "()V" } : Jvm.MethodName)) ∈ AL := al (tb_3 (List.mem_of_getElem? (i := 85) rfl)) rfl
theorem wd_3_86 : (Jvm.Cond.fieldLink "WeekBank$Wish" (7 : Nat) "WeekBank$Wish" "town" "I") ∈ AL := al (tb_3 (List.mem_of_getElem? (i := 86) rfl)) rfl
theorem wd_3_87 : (Jvm.Cond.fieldLink "WeekBank$Gift" (50 : Nat) "WeekBank$Wish" "town" "I") ∈ AL := al (tb_3 (List.mem_of_getElem? (i := 87) rfl)) rfl
theorem wd_3_88 : (Jvm.Cond.fieldLink "WeekBank$Wish" (13 : Nat) "WeekBank$Wish" "from" "I") ∈ AL := al (tb_3 (List.mem_of_getElem? (i := 88) rfl)) rfl
theorem wd_3_89 : (Jvm.Cond.fieldLink "WeekBank$Gift" (58 : Nat) "WeekBank$Wish" "from" "I") ∈ AL := al (tb_3 (List.mem_of_getElem? (i := 89) rfl)) rfl
theorem wd_3_90 : (Jvm.Cond.fieldLink "WeekBank$Wish" (16 : Nat) "WeekBank$Wish" "to" "I") ∈ AL := al (tb_3 (List.mem_of_getElem? (i := 90) rfl)) rfl
theorem wd_3_91 : (Jvm.Cond.fieldLink "WeekBank$Gift" (61 : Nat) "WeekBank$Wish" "to" "I") ∈ AL := al (tb_3 (List.mem_of_getElem? (i := 91) rfl)) rfl
theorem wd_3_92 : (Jvm.Cond.fieldLink "WeekBank$Wish" (19 : Nat) "WeekBank$Wish" "leastSize" "I") ∈ AL := al (tb_3 (List.mem_of_getElem? (i := 92) rfl)) rfl
theorem wd_3_93 : (Jvm.Cond.fieldLink "WeekBank$Gift" (67 : Nat) "WeekBank$Wish" "leastSize" "I") ∈ AL := al (tb_3 (List.mem_of_getElem? (i := 93) rfl)) rfl
theorem wd_3_94 : (Jvm.Cond.laysFinal "WeekBank$Wish" "WeekBank$Wish" "town" "I") ∈ AL := al (tb_3 (List.mem_of_getElem? (i := 94) rfl)) rfl
theorem wd_3_96 : (Jvm.Cond.laysFinal "WeekBank$Wish" "WeekBank$Wish" "from" "I") ∈ AL := al (tb_3 (List.mem_of_getElem? (i := 96) rfl)) rfl
theorem wd_3_98 : (Jvm.Cond.laysFinal "WeekBank$Wish" "WeekBank$Wish" "to" "I") ∈ AL := al (tb_3 (List.mem_of_getElem? (i := 98) rfl)) rfl
theorem wd_3_100 : (Jvm.Cond.laysFinal "WeekBank$Wish" "WeekBank$Wish" "leastSize" "I") ∈ AL := al (tb_3 (List.mem_of_getElem? (i := 100) rfl)) rfl
theorem wt_3_102 : (Jvm.Cond.superclass "WeekBank$Wish" "java/lang/Object") ∈ lw_tbl := tb_3 (List.mem_of_getElem? (i := 102) rfl)
theorem wd_3_103 : (Jvm.Cond.methodLink "WeekBankLaw" (65 : Nat) ({ cls := "WeekBank", name := "rushWish", desc := "(IIIII)Z" } : Jvm.MethodName)) ∈ AL := al (tb_3 (List.mem_of_getElem? (i := 103) rfl)) rfl
theorem wd_3_104 : (Jvm.Cond.instanceMethod ({ cls := "WeekBank", name := "rushWish", desc := "(IIIII)Z" } : Jvm.MethodName)) ∈ AL := al (tb_3 (List.mem_of_getElem? (i := 104) rfl)) rfl
theorem wd_3_105 : (Jvm.Cond.selects "WeekBank" ({ cls := "WeekBank", name := "rushWish", desc := "(IIIII)Z" } : Jvm.MethodName) ({ cls := "WeekBank", name := "rushWish", desc := "(IIIII)Z" } : Jvm.MethodName)) ∈ AL := al (tb_3 (List.mem_of_getElem? (i := 105) rfl)) rfl
theorem wd_3_106 : (Jvm.Cond.code ({ cls := "WeekBank", name := "rushWish", desc := "(IIIII)Z" } : Jvm.MethodName) prog_1_method_12_code (7 : Nat) (Option.some Jvm.ClassFile.FieldType.boolean)) ∈ AL := al (tb_3 (List.mem_of_getElem? (i := 106) rfl)) rfl
theorem wd_3_107 : (Jvm.Cond.methodLink "WeekBankLaw" (69 : Nat) ({ cls := "WeekBank", name := "rings", desc := "(I)I" } : Jvm.MethodName)) ∈ AL := al (tb_3 (List.mem_of_getElem? (i := 107) rfl)) rfl
theorem wd_3_108 : (Jvm.Cond.instanceMethod ({ cls := "WeekBank", name := "rings", desc := "(I)I" } : Jvm.MethodName)) ∈ AL := al (tb_3 (List.mem_of_getElem? (i := 108) rfl)) rfl
theorem wd_3_109 : (Jvm.Cond.selects "WeekBank" ({ cls := "WeekBank", name := "rings", desc := "(I)I" } : Jvm.MethodName) ({ cls := "WeekBank", name := "rings", desc := "(I)I" } : Jvm.MethodName)) ∈ AL := al (tb_3 (List.mem_of_getElem? (i := 109) rfl)) rfl
theorem wd_3_110 : (Jvm.Cond.code ({ cls := "WeekBank", name := "rings", desc := "(I)I" } : Jvm.MethodName) prog_1_method_13_code (3 : Nat) (Option.some Jvm.ClassFile.FieldType.int)) ∈ AL := al (tb_3 (List.mem_of_getElem? (i := 110) rfl)) rfl
theorem wd_3_111 : (Jvm.Cond.methodLink "WeekBank" (165 : Nat) ({ cls := "WeekBank$RingSearch", name := "clear", desc := "()V" } : Jvm.MethodName)) ∈ AL := al (tb_3 (List.mem_of_getElem? (i := 111) rfl)) rfl
theorem wd_3_112 : (Jvm.Cond.instanceMethod ({ cls := "WeekBank$RingSearch", name := "clear", desc := "()V" } : Jvm.MethodName)) ∈ AL := al (tb_3 (List.mem_of_getElem? (i := 112) rfl)) rfl
theorem wd_3_113 : (Jvm.Cond.selects "WeekBank$RingSearch" ({ cls := "WeekBank$RingSearch", name := "clear", desc := "()V" } : Jvm.MethodName) ({ cls := "WeekBank$RingSearch", name := "clear", desc := "()V" } : Jvm.MethodName)) ∈ AL := al (tb_3 (List.mem_of_getElem? (i := 113) rfl)) rfl
theorem wd_3_114 : (Jvm.Cond.code ({ cls := "WeekBank$RingSearch", name := "clear", desc := "()V" } : Jvm.MethodName) prog_7_method_2_code (1 : Nat) (Option.none : Option Jvm.ClassFile.FieldType)) ∈ AL := al (tb_3 (List.mem_of_getElem? (i := 114) rfl)) rfl
theorem wd_3_115 : (Jvm.Cond.methodLink "WeekBank" (168 : Nat) ({ cls := "WeekBank$RingSearch", name := "add", desc := "(LWeekBank$Gift;)V" } : Jvm.MethodName)) ∈ AL := al (tb_3 (List.mem_of_getElem? (i := 115) rfl)) rfl
theorem wd_3_116 : (Jvm.Cond.instanceMethod ({ cls := "WeekBank$RingSearch", name := "add", desc := "(LWeekBank$Gift;)V" } : Jvm.MethodName)) ∈ AL := al (tb_3 (List.mem_of_getElem? (i := 116) rfl)) rfl
theorem wd_3_117 : (Jvm.Cond.selects "WeekBank$RingSearch" ({ cls := "WeekBank$RingSearch", name := "add", desc := "(LWeekBank$Gift;)V" } : Jvm.MethodName) ({ cls := "WeekBank$RingSearch", name := "add", desc := "(LWeekBank$Gift;)V" } : Jvm.MethodName)) ∈ AL := al (tb_3 (List.mem_of_getElem? (i := 117) rfl)) rfl
theorem wd_3_118 : (Jvm.Cond.code ({ cls := "WeekBank$RingSearch", name := "add", desc := "(LWeekBank$Gift;)V" } : Jvm.MethodName) prog_7_method_3_code (2 : Nat) (Option.none : Option Jvm.ClassFile.FieldType)) ∈ AL := al (tb_3 (List.mem_of_getElem? (i := 118) rfl)) rfl
theorem wd_3_119 : (Jvm.Cond.methodLink "WeekBank" (172 : Nat) ({ cls := "WeekBank$RingSearch", name := "findBest", desc := "(I)V" } : Jvm.MethodName)) ∈ AL := al (tb_3 (List.mem_of_getElem? (i := 119) rfl)) rfl
theorem wd_3_120 : (Jvm.Cond.instanceMethod ({ cls := "WeekBank$RingSearch", name := "findBest", desc := "(I)V" } : Jvm.MethodName)) ∈ AL := al (tb_3 (List.mem_of_getElem? (i := 120) rfl)) rfl
theorem wd_3_121 : (Jvm.Cond.selects "WeekBank$RingSearch" ({ cls := "WeekBank$RingSearch", name := "findBest", desc := "(I)V" } : Jvm.MethodName) ({ cls := "WeekBank$RingSearch", name := "findBest", desc := "(I)V" } : Jvm.MethodName)) ∈ AL := al (tb_3 (List.mem_of_getElem? (i := 121) rfl)) rfl
theorem wd_3_122 : (Jvm.Cond.code ({ cls := "WeekBank$RingSearch", name := "findBest", desc := "(I)V" } : Jvm.MethodName) prog_7_method_4_code (4 : Nat) (Option.none : Option Jvm.ClassFile.FieldType)) ∈ AL := al (tb_3 (List.mem_of_getElem? (i := 122) rfl)) rfl
theorem wd_3_123 : (Jvm.Cond.methodLink "WeekBank$RingSearch" (37 : Nat) ({ cls := "WeekBank$RingSearch", name := "findSuiting", desc := "()V" } : Jvm.MethodName)) ∈ AL := al (tb_3 (List.mem_of_getElem? (i := 123) rfl)) rfl
theorem wd_3_125 : (Jvm.Cond.instanceMethod ({ cls := "WeekBank$RingSearch", name := "findSuiting", desc := "()V" } : Jvm.MethodName)) ∈ AL := al (tb_3 (List.mem_of_getElem? (i := 125) rfl)) rfl
theorem wd_3_126 : (Jvm.Cond.code ({ cls := "WeekBank$RingSearch", name := "findSuiting", desc := "()V" } : Jvm.MethodName) prog_7_method_10_code (3 : Nat) (Option.none : Option Jvm.ClassFile.FieldType)) ∈ AL := al (tb_3 (List.mem_of_getElem? (i := 126) rfl)) rfl
theorem wd_3_127 : (Jvm.Cond.methodLink "WeekBank$RingSearch" (88 : Nat) ({ cls := "WeekBank$Gift", name := "meets", desc := "(LWeekBank$Wish;)Z" } : Jvm.MethodName)) ∈ AL := al (tb_3 (List.mem_of_getElem? (i := 127) rfl)) rfl
theorem wd_3_128 : (Jvm.Cond.instanceMethod ({ cls := "WeekBank$Gift", name := "meets", desc := "(LWeekBank$Wish;)Z" } : Jvm.MethodName)) ∈ AL := al (tb_3 (List.mem_of_getElem? (i := 128) rfl)) rfl
theorem wd_3_129 : (Jvm.Cond.selects "WeekBank$Gift" ({ cls := "WeekBank$Gift", name := "meets", desc := "(LWeekBank$Wish;)Z" } : Jvm.MethodName) ({ cls := "WeekBank$Gift", name := "meets", desc := "(LWeekBank$Wish;)Z" } : Jvm.MethodName)) ∈ AL := al (tb_3 (List.mem_of_getElem? (i := 129) rfl)) rfl
theorem wd_3_130 : (Jvm.Cond.code ({ cls := "WeekBank$Gift", name := "meets", desc := "(LWeekBank$Wish;)Z" } : Jvm.MethodName) prog_4_method_4_code (3 : Nat) (Option.some Jvm.ClassFile.FieldType.boolean)) ∈ AL := al (tb_3 (List.mem_of_getElem? (i := 130) rfl)) rfl
theorem wd_3_131 : (Jvm.Cond.methodLink "WeekBank$RingSearch" (40 : Nat) ({ cls := "WeekBank$RingSearch", name := "forgetBefore", desc := "(I)V" } : Jvm.MethodName)) ∈ AL := al (tb_3 (List.mem_of_getElem? (i := 131) rfl)) rfl
theorem wd_3_133 : (Jvm.Cond.instanceMethod ({ cls := "WeekBank$RingSearch", name := "forgetBefore", desc := "(I)V" } : Jvm.MethodName)) ∈ AL := al (tb_3 (List.mem_of_getElem? (i := 133) rfl)) rfl
theorem wd_3_134 : (Jvm.Cond.code ({ cls := "WeekBank$RingSearch", name := "forgetBefore", desc := "(I)V" } : Jvm.MethodName) prog_7_method_7_code (3 : Nat) (Option.none : Option Jvm.ClassFile.FieldType)) ∈ AL := al (tb_3 (List.mem_of_getElem? (i := 134) rfl)) rfl
theorem wd_3_135 : (Jvm.Cond.constant "WeekBank$RingSearch" (52 : Nat) (2147483647 : Int32)) ∈ AL := al (tb_3 (List.mem_of_getElem? (i := 135) rfl)) rfl
theorem wd_3_136 : (Jvm.Cond.methodLink "WeekBank$RingSearch" (44 : Nat) ({ cls := "WeekBank$RingSearch", name := "goOnFrom", desc := "(II)V" } : Jvm.MethodName)) ∈ AL := al (tb_3 (List.mem_of_getElem? (i := 136) rfl)) rfl
theorem wd_3_138 : (Jvm.Cond.instanceMethod ({ cls := "WeekBank$RingSearch", name := "goOnFrom", desc := "(II)V" } : Jvm.MethodName)) ∈ AL := al (tb_3 (List.mem_of_getElem? (i := 138) rfl)) rfl
theorem wd_3_139 : (Jvm.Cond.code ({ cls := "WeekBank$RingSearch", name := "goOnFrom", desc := "(II)V" } : Jvm.MethodName) prog_7_method_11_code (7 : Nat) (Option.none : Option Jvm.ClassFile.FieldType)) ∈ AL := al (tb_3 (List.mem_of_getElem? (i := 139) rfl)) rfl
theorem wd_3_140 : (Jvm.Cond.methodLink "WeekBank$RingSearch" (92 : Nat) ({ cls := "WeekBank$RingSearch", name := "leastOf", desc := "(I)I" } : Jvm.MethodName)) ∈ AL := al (tb_3 (List.mem_of_getElem? (i := 140) rfl)) rfl
theorem wd_3_141 : (Jvm.Cond.static ({ cls := "WeekBank$RingSearch", name := "leastOf", desc := "(I)I" } : Jvm.MethodName)) ∈ AL := al (tb_3 (List.mem_of_getElem? (i := 141) rfl)) rfl
theorem wd_3_142 : (Jvm.Cond.code ({ cls := "WeekBank$RingSearch", name := "leastOf", desc := "(I)I" } : Jvm.MethodName) prog_7_method_8_code (1 : Nat) (Option.some Jvm.ClassFile.FieldType.int)) ∈ AL := al (tb_3 (List.mem_of_getElem? (i := 142) rfl)) rfl
theorem wd_3_143 : (Jvm.Cond.methodLink "WeekBank$RingSearch" (65 : Nat) ({ cls := "java/lang/Integer", name := "bitCount", desc := "(I)I" } : Jvm.MethodName)) ∈ AL := al (tb_3 (List.mem_of_getElem? (i := 143) rfl)) rfl
theorem wd_3_144 : (Jvm.Cond.static ({ cls := "java/lang/Integer", name := "bitCount", desc := "(I)I" } : Jvm.MethodName)) ∈ AL := al (tb_3 (List.mem_of_getElem? (i := 144) rfl)) rfl
theorem wd_3_145 : (Jvm.Cond.code ({ cls := "java/lang/Integer", name := "bitCount", desc := "(I)I" } : Jvm.MethodName) prog_13_method_49_code (1 : Nat) (Option.some Jvm.ClassFile.FieldType.int)) ∈ AL := al (tb_3 (List.mem_of_getElem? (i := 145) rfl)) rfl
theorem wd_3_146 : (Jvm.Cond.constant "java/lang/Integer" (265 : Nat) (1431655765 : Int32)) ∈ AL := al (tb_3 (List.mem_of_getElem? (i := 146) rfl)) rfl
theorem wd_3_147 : (Jvm.Cond.constant "java/lang/Integer" (266 : Nat) (858993459 : Int32)) ∈ AL := al (tb_3 (List.mem_of_getElem? (i := 147) rfl)) rfl
theorem wd_3_148 : (Jvm.Cond.constant "java/lang/Integer" (267 : Nat) (252645135 : Int32)) ∈ AL := al (tb_3 (List.mem_of_getElem? (i := 148) rfl)) rfl
theorem wd_3_149 : (Jvm.Cond.methodLink "WeekBank$RingSearch" (57 : Nat) ({ cls := "WeekBank$RingSearch", name := "has", desc := "(II)Z" } : Jvm.MethodName)) ∈ AL := al (tb_3 (List.mem_of_getElem? (i := 149) rfl)) rfl
theorem wd_3_150 : (Jvm.Cond.static ({ cls := "WeekBank$RingSearch", name := "has", desc := "(II)Z" } : Jvm.MethodName)) ∈ AL := al (tb_3 (List.mem_of_getElem? (i := 150) rfl)) rfl
theorem wd_3_151 : (Jvm.Cond.code ({ cls := "WeekBank$RingSearch", name := "has", desc := "(II)Z" } : Jvm.MethodName) prog_7_method_9_code (2 : Nat) (Option.some Jvm.ClassFile.FieldType.boolean)) ∈ AL := al (tb_3 (List.mem_of_getElem? (i := 151) rfl)) rfl
theorem wd_3_152 : (Jvm.Cond.fieldLink "WeekBank$RingSearch" (95 : Nat) "WeekBank$RingSearch" "DIGIT_WORTH" "[I") ∈ AL := al (tb_3 (List.mem_of_getElem? (i := 152) rfl)) rfl
theorem wt_3_153 : (Jvm.Cond.laysStatic "WeekBank$RingSearch" "DIGIT_WORTH" "[I") ∈ lw_tbl := tb_3 (List.mem_of_getElem? (i := 153) rfl)
theorem wd_3_154 : (Jvm.Cond.methodLink "WeekBank$RingSearch" (98 : Nat) ({ cls := "java/lang/Math", name := "min", desc := "(II)I" } : Jvm.MethodName)) ∈ AL := al (tb_3 (List.mem_of_getElem? (i := 154) rfl)) rfl
theorem wd_3_155 : (Jvm.Cond.methodLink "WeekBank$RingSearch" (104 : Nat) ({ cls := "WeekBank$RingSearch", name := "lengthen", desc := "(III)V" } : Jvm.MethodName)) ∈ AL := al (tb_3 (List.mem_of_getElem? (i := 155) rfl)) rfl
theorem wd_3_157 : (Jvm.Cond.instanceMethod ({ cls := "WeekBank$RingSearch", name := "lengthen", desc := "(III)V" } : Jvm.MethodName)) ∈ AL := al (tb_3 (List.mem_of_getElem? (i := 157) rfl)) rfl
theorem wd_3_158 : (Jvm.Cond.code ({ cls := "WeekBank$RingSearch", name := "lengthen", desc := "(III)V" } : Jvm.MethodName) prog_7_method_12_code (8 : Nat) (Option.none : Option Jvm.ClassFile.FieldType)) ∈ AL := al (tb_3 (List.mem_of_getElem? (i := 158) rfl)) rfl
theorem wd_3_159 : (Jvm.Cond.methodLink "WeekBank$RingSearch" (48 : Nat) ({ cls := "WeekBank$RingSearch", name := "firstWay", desc := "(I)I" } : Jvm.MethodName)) ∈ AL := al (tb_3 (List.mem_of_getElem? (i := 159) rfl)) rfl
theorem wd_3_161 : (Jvm.Cond.instanceMethod ({ cls := "WeekBank$RingSearch", name := "firstWay", desc := "(I)I" } : Jvm.MethodName)) ∈ AL := al (tb_3 (List.mem_of_getElem? (i := 161) rfl)) rfl
theorem wd_3_162 : (Jvm.Cond.code ({ cls := "WeekBank$RingSearch", name := "firstWay", desc := "(I)I" } : Jvm.MethodName) prog_7_method_13_code (6 : Nat) (Option.some Jvm.ClassFile.FieldType.int)) ∈ AL := al (tb_3 (List.mem_of_getElem? (i := 162) rfl)) rfl
theorem wd_3_163 : (Jvm.Cond.methodLink "WeekBank$RingSearch" (53 : Nat) ({ cls := "WeekBank$RingSearch", name := "isBetter", desc := "(I)Z" } : Jvm.MethodName)) ∈ AL := al (tb_3 (List.mem_of_getElem? (i := 163) rfl)) rfl
theorem wd_3_165 : (Jvm.Cond.instanceMethod ({ cls := "WeekBank$RingSearch", name := "isBetter", desc := "(I)Z" } : Jvm.MethodName)) ∈ AL := al (tb_3 (List.mem_of_getElem? (i := 165) rfl)) rfl
theorem wd_3_166 : (Jvm.Cond.code ({ cls := "WeekBank$RingSearch", name := "isBetter", desc := "(I)Z" } : Jvm.MethodName) prog_7_method_14_code (4 : Nat) (Option.some Jvm.ClassFile.FieldType.boolean)) ∈ AL := al (tb_3 (List.mem_of_getElem? (i := 166) rfl)) rfl
theorem wd_3_167 : (Jvm.Cond.methodLink "WeekBank$RingSearch" (108 : Nat) ({ cls := "WeekBank$RingSearch", name := "sumWorth", desc := "(I)I" } : Jvm.MethodName)) ∈ AL := al (tb_3 (List.mem_of_getElem? (i := 167) rfl)) rfl
theorem wd_3_169 : (Jvm.Cond.instanceMethod ({ cls := "WeekBank$RingSearch", name := "sumWorth", desc := "(I)I" } : Jvm.MethodName)) ∈ AL := al (tb_3 (List.mem_of_getElem? (i := 169) rfl)) rfl
theorem wd_3_170 : (Jvm.Cond.code ({ cls := "WeekBank$RingSearch", name := "sumWorth", desc := "(I)I" } : Jvm.MethodName) prog_7_method_15_code (4 : Nat) (Option.some Jvm.ClassFile.FieldType.int)) ∈ AL := al (tb_3 (List.mem_of_getElem? (i := 170) rfl)) rfl
theorem wd_3_171 : (Jvm.Cond.methodLink "WeekBank$RingSearch" (111 : Nat) ({ cls := "WeekBank$RingSearch", name := "wholeWay", desc := "(I)I" } : Jvm.MethodName)) ∈ AL := al (tb_3 (List.mem_of_getElem? (i := 171) rfl)) rfl
theorem wd_3_173 : (Jvm.Cond.instanceMethod ({ cls := "WeekBank$RingSearch", name := "wholeWay", desc := "(I)I" } : Jvm.MethodName)) ∈ AL := al (tb_3 (List.mem_of_getElem? (i := 173) rfl)) rfl
theorem wd_3_174 : (Jvm.Cond.code ({ cls := "WeekBank$RingSearch", name := "wholeWay", desc := "(I)I" } : Jvm.MethodName) prog_7_method_16_code (4 : Nat) (Option.some Jvm.ClassFile.FieldType.int)) ∈ AL := al (tb_3 (List.mem_of_getElem? (i := 174) rfl)) rfl
theorem wd_3_175 : (Jvm.Cond.methodLink "WeekBank" (175 : Nat) ({ cls := "WeekBank$RingSearch", name := "swapBest", desc := "()I" } : Jvm.MethodName)) ∈ AL := al (tb_3 (List.mem_of_getElem? (i := 175) rfl)) rfl
theorem wd_3_176 : (Jvm.Cond.instanceMethod ({ cls := "WeekBank$RingSearch", name := "swapBest", desc := "()I" } : Jvm.MethodName)) ∈ AL := al (tb_3 (List.mem_of_getElem? (i := 176) rfl)) rfl
theorem wd_3_177 : (Jvm.Cond.selects "WeekBank$RingSearch" ({ cls := "WeekBank$RingSearch", name := "swapBest", desc := "()I" } : Jvm.MethodName) ({ cls := "WeekBank$RingSearch", name := "swapBest", desc := "()I" } : Jvm.MethodName)) ∈ AL := al (tb_3 (List.mem_of_getElem? (i := 177) rfl)) rfl
theorem wd_3_178 : (Jvm.Cond.code ({ cls := "WeekBank$RingSearch", name := "swapBest", desc := "()I" } : Jvm.MethodName) prog_7_method_5_code (3 : Nat) (Option.some Jvm.ClassFile.FieldType.int)) ∈ AL := al (tb_3 (List.mem_of_getElem? (i := 178) rfl)) rfl
theorem wd_3_179 : (Jvm.Cond.methodLink "WeekBank$RingSearch" (61 : Nat) ({ cls := "WeekBank$RingSearch", name := "swap", desc := "(LWeekBank$Gift;I)V" } : Jvm.MethodName)) ∈ AL := al (tb_3 (List.mem_of_getElem? (i := 179) rfl)) rfl
theorem wd_3_181 : (Jvm.Cond.instanceMethod ({ cls := "WeekBank$RingSearch", name := "swap", desc := "(LWeekBank$Gift;I)V" } : Jvm.MethodName)) ∈ AL := al (tb_3 (List.mem_of_getElem? (i := 181) rfl)) rfl
theorem wd_3_182 : (Jvm.Cond.code ({ cls := "WeekBank$RingSearch", name := "swap", desc := "(LWeekBank$Gift;I)V" } : Jvm.MethodName) prog_7_method_6_code (3 : Nat) (Option.none : Option Jvm.ClassFile.FieldType)) ∈ AL := al (tb_3 (List.mem_of_getElem? (i := 182) rfl)) rfl
theorem wd_3_183 : (Jvm.Cond.methodLink "WeekBankLaw" (73 : Nat) ({ cls := "WeekBank", name := "bank", desc := "(I)I" } : Jvm.MethodName)) ∈ AL := al (tb_3 (List.mem_of_getElem? (i := 183) rfl)) rfl
theorem wd_3_184 : (Jvm.Cond.instanceMethod ({ cls := "WeekBank", name := "bank", desc := "(I)I" } : Jvm.MethodName)) ∈ AL := al (tb_3 (List.mem_of_getElem? (i := 184) rfl)) rfl
theorem wd_3_185 : (Jvm.Cond.selects "WeekBank" ({ cls := "WeekBank", name := "bank", desc := "(I)I" } : Jvm.MethodName) ({ cls := "WeekBank", name := "bank", desc := "(I)I" } : Jvm.MethodName)) ∈ AL := al (tb_3 (List.mem_of_getElem? (i := 185) rfl)) rfl
theorem wd_3_186 : (Jvm.Cond.code ({ cls := "WeekBank", name := "bank", desc := "(I)I" } : Jvm.MethodName) prog_1_method_14_code (3 : Nat) (Option.some Jvm.ClassFile.FieldType.int)) ∈ AL := al (tb_3 (List.mem_of_getElem? (i := 186) rfl)) rfl
theorem wd_3_187 : (Jvm.Cond.methodLink "WeekBankLaw" (77 : Nat) ({ cls := "WeekBank", name := "take", desc := "(II)I" } : Jvm.MethodName)) ∈ AL := al (tb_3 (List.mem_of_getElem? (i := 187) rfl)) rfl
theorem wd_3_188 : (Jvm.Cond.instanceMethod ({ cls := "WeekBank", name := "take", desc := "(II)I" } : Jvm.MethodName)) ∈ AL := al (tb_3 (List.mem_of_getElem? (i := 188) rfl)) rfl
theorem wd_3_189 : (Jvm.Cond.selects "WeekBank" ({ cls := "WeekBank", name := "take", desc := "(II)I" } : Jvm.MethodName) ({ cls := "WeekBank", name := "take", desc := "(II)I" } : Jvm.MethodName)) ∈ AL := al (tb_3 (List.mem_of_getElem? (i := 189) rfl)) rfl
theorem wd_3_190 : (Jvm.Cond.code ({ cls := "WeekBank", name := "take", desc := "(II)I" } : Jvm.MethodName) prog_1_method_15_code (5 : Nat) (Option.some Jvm.ClassFile.FieldType.int)) ∈ AL := al (tb_3 (List.mem_of_getElem? (i := 190) rfl)) rfl
theorem wd_3_191 : (Jvm.Cond.methodLink "WeekBank" (189 : Nat) ({ cls := "WeekBank$Gift", name := "goTo", desc := "(LWeekBank$Owner;)V" } : Jvm.MethodName)) ∈ AL := al (tb_3 (List.mem_of_getElem? (i := 191) rfl)) rfl
theorem wd_3_192 : (Jvm.Cond.instanceMethod ({ cls := "WeekBank$Gift", name := "goTo", desc := "(LWeekBank$Owner;)V" } : Jvm.MethodName)) ∈ AL := al (tb_3 (List.mem_of_getElem? (i := 192) rfl)) rfl
theorem wd_3_193 : (Jvm.Cond.selects "WeekBank$Gift" ({ cls := "WeekBank$Gift", name := "goTo", desc := "(LWeekBank$Owner;)V" } : Jvm.MethodName) ({ cls := "WeekBank$Gift", name := "goTo", desc := "(LWeekBank$Owner;)V" } : Jvm.MethodName)) ∈ AL := al (tb_3 (List.mem_of_getElem? (i := 193) rfl)) rfl
theorem wd_3_194 : (Jvm.Cond.code ({ cls := "WeekBank$Gift", name := "goTo", desc := "(LWeekBank$Owner;)V" } : Jvm.MethodName) prog_4_method_5_code (2 : Nat) (Option.none : Option Jvm.ClassFile.FieldType)) ∈ AL := al (tb_3 (List.mem_of_getElem? (i := 194) rfl)) rfl
theorem wd_3_195 : (Jvm.Cond.methodLink "WeekBankLaw" (81 : Nat) ({ cls := "WeekBank", name := "rush", desc := "()I" } : Jvm.MethodName)) ∈ AL := al (tb_3 (List.mem_of_getElem? (i := 195) rfl)) rfl
theorem wd_3_196 : (Jvm.Cond.instanceMethod ({ cls := "WeekBank", name := "rush", desc := "()I" } : Jvm.MethodName)) ∈ AL := al (tb_3 (List.mem_of_getElem? (i := 196) rfl)) rfl
theorem wd_3_197 : (Jvm.Cond.selects "WeekBank" ({ cls := "WeekBank", name := "rush", desc := "()I" } : Jvm.MethodName) ({ cls := "WeekBank", name := "rush", desc := "()I" } : Jvm.MethodName)) ∈ AL := al (tb_3 (List.mem_of_getElem? (i := 197) rfl)) rfl
theorem wd_3_198 : (Jvm.Cond.code ({ cls := "WeekBank", name := "rush", desc := "()I" } : Jvm.MethodName) prog_1_method_16_code (5 : Nat) (Option.some Jvm.ClassFile.FieldType.int)) ∈ AL := al (tb_3 (List.mem_of_getElem? (i := 198) rfl)) rfl
theorem wd_3_199 : (Jvm.Cond.methodLink "WeekBank" (197 : Nat) ({ cls := "WeekBank", name := "firstInLine", desc := "()LWeekBank$Owner;" } : Jvm.MethodName)) ∈ AL := al (tb_3 (List.mem_of_getElem? (i := 199) rfl)) rfl
theorem wd_3_201 : (Jvm.Cond.instanceMethod ({ cls := "WeekBank", name := "firstInLine", desc := "()LWeekBank$Owner;" } : Jvm.MethodName)) ∈ AL := al (tb_3 (List.mem_of_getElem? (i := 201) rfl)) rfl
theorem wd_3_202 : (Jvm.Cond.code ({ cls := "WeekBank", name := "firstInLine", desc := "()LWeekBank$Owner;" } : Jvm.MethodName) prog_1_method_40_code (3 : Nat) (Option.some (Jvm.ClassFile.FieldType.object "WeekBank$Owner"))) ∈ AL := al (tb_3 (List.mem_of_getElem? (i := 202) rfl)) rfl
theorem wd_3_203 : (Jvm.Cond.methodLink "WeekBank" (201 : Nat) ({ cls := "WeekBank", name := "bestBankedFor", desc := "(LWeekBank$Owner;)LWeekBank$Gift;" } : Jvm.MethodName)) ∈ AL := al (tb_3 (List.mem_of_getElem? (i := 203) rfl)) rfl
theorem wd_3_205 : (Jvm.Cond.instanceMethod ({ cls := "WeekBank", name := "bestBankedFor", desc := "(LWeekBank$Owner;)LWeekBank$Gift;" } : Jvm.MethodName)) ∈ AL := al (tb_3 (List.mem_of_getElem? (i := 205) rfl)) rfl
theorem wd_3_206 : (Jvm.Cond.code ({ cls := "WeekBank", name := "bestBankedFor", desc := "(LWeekBank$Owner;)LWeekBank$Gift;" } : Jvm.MethodName) prog_1_method_41_code (6 : Nat) (Option.some (Jvm.ClassFile.FieldType.object "WeekBank$Gift"))) ∈ AL := al (tb_3 (List.mem_of_getElem? (i := 206) rfl)) rfl
theorem wd_3_207 : (Jvm.Cond.methodLink "WeekBank" (300 : Nat) ({ cls := "WeekBank$Gift", name := "meets", desc := "(LWeekBank$Wish;)Z" } : Jvm.MethodName)) ∈ AL := al (tb_3 (List.mem_of_getElem? (i := 207) rfl)) rfl
theorem wd_3_208 : (Jvm.Cond.methodLink "WeekBankLaw" (85 : Nat) ({ cls := "WeekBank", name := "shut", desc := "(III)I" } : Jvm.MethodName)) ∈ AL := al (tb_3 (List.mem_of_getElem? (i := 208) rfl)) rfl
theorem wd_3_209 : (Jvm.Cond.instanceMethod ({ cls := "WeekBank", name := "shut", desc := "(III)I" } : Jvm.MethodName)) ∈ AL := al (tb_3 (List.mem_of_getElem? (i := 209) rfl)) rfl
theorem wd_3_210 : (Jvm.Cond.selects "WeekBank" ({ cls := "WeekBank", name := "shut", desc := "(III)I" } : Jvm.MethodName) ({ cls := "WeekBank", name := "shut", desc := "(III)I" } : Jvm.MethodName)) ∈ AL := al (tb_3 (List.mem_of_getElem? (i := 210) rfl)) rfl
theorem wd_3_211 : (Jvm.Cond.code ({ cls := "WeekBank", name := "shut", desc := "(III)I" } : Jvm.MethodName) prog_1_method_17_code (9 : Nat) (Option.some Jvm.ClassFile.FieldType.int)) ∈ AL := al (tb_3 (List.mem_of_getElem? (i := 211) rfl)) rfl
theorem wd_3_212 : (Jvm.Cond.methodLink "WeekBank" (218 : Nat) ({ cls := "WeekBank$Gift", name := "endByShutting", desc := "()V" } : Jvm.MethodName)) ∈ AL := al (tb_3 (List.mem_of_getElem? (i := 212) rfl)) rfl
theorem wd_3_213 : (Jvm.Cond.instanceMethod ({ cls := "WeekBank$Gift", name := "endByShutting", desc := "()V" } : Jvm.MethodName)) ∈ AL := al (tb_3 (List.mem_of_getElem? (i := 213) rfl)) rfl
theorem wd_3_214 : (Jvm.Cond.selects "WeekBank$Gift" ({ cls := "WeekBank$Gift", name := "endByShutting", desc := "()V" } : Jvm.MethodName) ({ cls := "WeekBank$Gift", name := "endByShutting", desc := "()V" } : Jvm.MethodName)) ∈ AL := al (tb_3 (List.mem_of_getElem? (i := 214) rfl)) rfl
theorem wd_3_215 : (Jvm.Cond.code ({ cls := "WeekBank$Gift", name := "endByShutting", desc := "()V" } : Jvm.MethodName) prog_4_method_6_code (1 : Nat) (Option.none : Option Jvm.ClassFile.FieldType)) ∈ AL := al (tb_3 (List.mem_of_getElem? (i := 215) rfl)) rfl
theorem wd_3_216 : (Jvm.Cond.methodLink "WeekBank$Gift" (75 : Nat) ({ cls := "java/lang/Math", name := "max", desc := "(II)I" } : Jvm.MethodName)) ∈ AL := al (tb_3 (List.mem_of_getElem? (i := 216) rfl)) rfl
theorem wd_3_217 : (Jvm.Cond.methodLink "WeekBankLaw" (89 : Nat) ({ cls := "WeekBank", name := "weeks", desc := "(I)I" } : Jvm.MethodName)) ∈ AL := al (tb_3 (List.mem_of_getElem? (i := 217) rfl)) rfl
theorem wd_3_218 : (Jvm.Cond.instanceMethod ({ cls := "WeekBank", name := "weeks", desc := "(I)I" } : Jvm.MethodName)) ∈ AL := al (tb_3 (List.mem_of_getElem? (i := 218) rfl)) rfl
theorem wd_3_219 : (Jvm.Cond.selects "WeekBank" ({ cls := "WeekBank", name := "weeks", desc := "(I)I" } : Jvm.MethodName) ({ cls := "WeekBank", name := "weeks", desc := "(I)I" } : Jvm.MethodName)) ∈ AL := al (tb_3 (List.mem_of_getElem? (i := 219) rfl)) rfl
theorem wd_3_220 : (Jvm.Cond.code ({ cls := "WeekBank", name := "weeks", desc := "(I)I" } : Jvm.MethodName) prog_1_method_18_code (2 : Nat) (Option.some Jvm.ClassFile.FieldType.int)) ∈ AL := al (tb_3 (List.mem_of_getElem? (i := 220) rfl)) rfl
theorem wd_3_221 : (Jvm.Cond.methodLink "WeekBank" (221 : Nat) ({ cls := "WeekBank", name := "endUnusedGifts", desc := "(I)V" } : Jvm.MethodName)) ∈ AL := al (tb_3 (List.mem_of_getElem? (i := 221) rfl)) rfl
theorem wd_3_223 : (Jvm.Cond.instanceMethod ({ cls := "WeekBank", name := "endUnusedGifts", desc := "(I)V" } : Jvm.MethodName)) ∈ AL := al (tb_3 (List.mem_of_getElem? (i := 223) rfl)) rfl
theorem wd_3_224 : (Jvm.Cond.code ({ cls := "WeekBank", name := "endUnusedGifts", desc := "(I)V" } : Jvm.MethodName) prog_1_method_39_code (5 : Nat) (Option.none : Option Jvm.ClassFile.FieldType)) ∈ AL := al (tb_3 (List.mem_of_getElem? (i := 224) rfl)) rfl
theorem wd_3_225 : (Jvm.Cond.methodLink "WeekBankLaw" (93 : Nat) ({ cls := "WeekBank", name := "year", desc := "()I" } : Jvm.MethodName)) ∈ AL := al (tb_3 (List.mem_of_getElem? (i := 225) rfl)) rfl
theorem wd_3_226 : (Jvm.Cond.instanceMethod ({ cls := "WeekBank", name := "year", desc := "()I" } : Jvm.MethodName)) ∈ AL := al (tb_3 (List.mem_of_getElem? (i := 226) rfl)) rfl
theorem wd_3_227 : (Jvm.Cond.selects "WeekBank" ({ cls := "WeekBank", name := "year", desc := "()I" } : Jvm.MethodName) ({ cls := "WeekBank", name := "year", desc := "()I" } : Jvm.MethodName)) ∈ AL := al (tb_3 (List.mem_of_getElem? (i := 227) rfl)) rfl
theorem wd_3_228 : (Jvm.Cond.code ({ cls := "WeekBank", name := "year", desc := "()I" } : Jvm.MethodName) prog_1_method_19_code (2 : Nat) (Option.some Jvm.ClassFile.FieldType.int)) ∈ AL := al (tb_3 (List.mem_of_getElem? (i := 228) rfl)) rfl
theorem wd_3_229 : (Jvm.Cond.methodLink "WeekBank" (224 : Nat) ({ cls := "WeekBank$Flat", name := "beginYear", desc := "()V" } : Jvm.MethodName)) ∈ AL := al (tb_3 (List.mem_of_getElem? (i := 229) rfl)) rfl
theorem wd_3_230 : (Jvm.Cond.instanceMethod ({ cls := "WeekBank$Flat", name := "beginYear", desc := "()V" } : Jvm.MethodName)) ∈ AL := al (tb_3 (List.mem_of_getElem? (i := 230) rfl)) rfl
theorem wd_3_231 : (Jvm.Cond.selects "WeekBank$Flat" ({ cls := "WeekBank$Flat", name := "beginYear", desc := "()V" } : Jvm.MethodName) ({ cls := "WeekBank$Flat", name := "beginYear", desc := "()V" } : Jvm.MethodName)) ∈ AL := al (tb_3 (List.mem_of_getElem? (i := 231) rfl)) rfl
theorem wd_3_232 : (Jvm.Cond.code ({ cls := "WeekBank$Flat", name := "beginYear", desc := "()V" } : Jvm.MethodName) prog_3_method_3_code (2 : Nat) (Option.none : Option Jvm.ClassFile.FieldType)) ∈ AL := al (tb_3 (List.mem_of_getElem? (i := 232) rfl)) rfl
theorem wd_3_233 : (Jvm.Cond.methodLink "WeekBankLaw" (97 : Nat) ({ cls := "WeekBank", name := "dies", desc := "(IIZ)I" } : Jvm.MethodName)) ∈ AL := al (tb_3 (List.mem_of_getElem? (i := 233) rfl)) rfl
theorem wd_3_234 : (Jvm.Cond.instanceMethod ({ cls := "WeekBank", name := "dies", desc := "(IIZ)I" } : Jvm.MethodName)) ∈ AL := al (tb_3 (List.mem_of_getElem? (i := 234) rfl)) rfl
theorem wd_3_235 : (Jvm.Cond.selects "WeekBank" ({ cls := "WeekBank", name := "dies", desc := "(IIZ)I" } : Jvm.MethodName) ({ cls := "WeekBank", name := "dies", desc := "(IIZ)I" } : Jvm.MethodName)) ∈ AL := al (tb_3 (List.mem_of_getElem? (i := 235) rfl)) rfl
theorem wd_3_236 : (Jvm.Cond.code ({ cls := "WeekBank", name := "dies", desc := "(IIZ)I" } : Jvm.MethodName) prog_1_method_20_code (8 : Nat) (Option.some Jvm.ClassFile.FieldType.int)) ∈ AL := al (tb_3 (List.mem_of_getElem? (i := 236) rfl)) rfl
theorem wd_3_237 : (Jvm.Cond.methodLink "WeekBank" (233 : Nat) ({ cls := "WeekBank", name := "passAllWeeks", desc := "(LWeekBank$Owner;LWeekBank$Owner;)V" } : Jvm.MethodName)) ∈ AL := al (tb_3 (List.mem_of_getElem? (i := 237) rfl)) rfl
theorem wd_3_239 : (Jvm.Cond.instanceMethod ({ cls := "WeekBank", name := "passAllWeeks", desc := "(LWeekBank$Owner;LWeekBank$Owner;)V" } : Jvm.MethodName)) ∈ AL := al (tb_3 (List.mem_of_getElem? (i := 239) rfl)) rfl
theorem wd_4_0 : (Jvm.Cond.code ({ cls := "WeekBank", name := "passAllWeeks", desc := "(LWeekBank$Owner;LWeekBank$Owner;)V" } : Jvm.MethodName) prog_1_method_38_code (5 : Nat) (Option.none : Option Jvm.ClassFile.FieldType)) ∈ AL := al (tb_4 (List.mem_of_getElem? (i := 0) rfl)) rfl
theorem wd_4_1 : (Jvm.Cond.methodLink "WeekBankLaw" (102 : Nat) ({ cls := "WeekBank", name := "fees", desc := "(II)I" } : Jvm.MethodName)) ∈ AL := al (tb_4 (List.mem_of_getElem? (i := 1) rfl)) rfl
theorem wd_4_2 : (Jvm.Cond.instanceMethod ({ cls := "WeekBank", name := "fees", desc := "(II)I" } : Jvm.MethodName)) ∈ AL := al (tb_4 (List.mem_of_getElem? (i := 2) rfl)) rfl
theorem wd_4_3 : (Jvm.Cond.selects "WeekBank" ({ cls := "WeekBank", name := "fees", desc := "(II)I" } : Jvm.MethodName) ({ cls := "WeekBank", name := "fees", desc := "(II)I" } : Jvm.MethodName)) ∈ AL := al (tb_4 (List.mem_of_getElem? (i := 3) rfl)) rfl
theorem wd_4_4 : (Jvm.Cond.code ({ cls := "WeekBank", name := "fees", desc := "(II)I" } : Jvm.MethodName) prog_1_method_21_code (4 : Nat) (Option.some Jvm.ClassFile.FieldType.int)) ∈ AL := al (tb_4 (List.mem_of_getElem? (i := 4) rfl)) rfl
theorem wd_4_5 : (Jvm.Cond.constant "WeekBank" (240 : Nat) (999999 : Int32)) ∈ AL := al (tb_4 (List.mem_of_getElem? (i := 5) rfl)) rfl
theorem wd_4_6 : (Jvm.Cond.methodLink "WeekBank" (241 : Nat) ({ cls := "WeekBank$FeeRounds", name := "clear", desc := "()V" } : Jvm.MethodName)) ∈ AL := al (tb_4 (List.mem_of_getElem? (i := 6) rfl)) rfl
theorem wd_4_7 : (Jvm.Cond.instanceMethod ({ cls := "WeekBank$FeeRounds", name := "clear", desc := "()V" } : Jvm.MethodName)) ∈ AL := al (tb_4 (List.mem_of_getElem? (i := 7) rfl)) rfl
theorem wd_4_8 : (Jvm.Cond.selects "WeekBank$FeeRounds" ({ cls := "WeekBank$FeeRounds", name := "clear", desc := "()V" } : Jvm.MethodName) ({ cls := "WeekBank$FeeRounds", name := "clear", desc := "()V" } : Jvm.MethodName)) ∈ AL := al (tb_4 (List.mem_of_getElem? (i := 8) rfl)) rfl
theorem wd_4_9 : (Jvm.Cond.code ({ cls := "WeekBank$FeeRounds", name := "clear", desc := "()V" } : Jvm.MethodName) prog_2_method_2_code (1 : Nat) (Option.none : Option Jvm.ClassFile.FieldType)) ∈ AL := al (tb_4 (List.mem_of_getElem? (i := 9) rfl)) rfl
theorem wd_4_10 : (Jvm.Cond.methodLink "WeekBank" (245 : Nat) ({ cls := "WeekBank$FeeRounds", name := "add", desc := "(II)V" } : Jvm.MethodName)) ∈ AL := al (tb_4 (List.mem_of_getElem? (i := 10) rfl)) rfl
theorem wd_4_11 : (Jvm.Cond.instanceMethod ({ cls := "WeekBank$FeeRounds", name := "add", desc := "(II)V" } : Jvm.MethodName)) ∈ AL := al (tb_4 (List.mem_of_getElem? (i := 11) rfl)) rfl
theorem wd_4_12 : (Jvm.Cond.selects "WeekBank$FeeRounds" ({ cls := "WeekBank$FeeRounds", name := "add", desc := "(II)V" } : Jvm.MethodName) ({ cls := "WeekBank$FeeRounds", name := "add", desc := "(II)V" } : Jvm.MethodName)) ∈ AL := al (tb_4 (List.mem_of_getElem? (i := 12) rfl)) rfl
theorem wd_4_13 : (Jvm.Cond.code ({ cls := "WeekBank$FeeRounds", name := "add", desc := "(II)V" } : Jvm.MethodName) prog_2_method_3_code (3 : Nat) (Option.none : Option Jvm.ClassFile.FieldType)) ∈ AL := al (tb_4 (List.mem_of_getElem? (i := 13) rfl)) rfl
theorem wd_4_14 : (Jvm.Cond.methodLink "WeekBank" (247 : Nat) ({ cls := "WeekBank$FeeRounds", name := "reckon", desc := "(I)V" } : Jvm.MethodName)) ∈ AL := al (tb_4 (List.mem_of_getElem? (i := 14) rfl)) rfl
theorem wd_4_15 : (Jvm.Cond.instanceMethod ({ cls := "WeekBank$FeeRounds", name := "reckon", desc := "(I)V" } : Jvm.MethodName)) ∈ AL := al (tb_4 (List.mem_of_getElem? (i := 15) rfl)) rfl
theorem wd_4_16 : (Jvm.Cond.selects "WeekBank$FeeRounds" ({ cls := "WeekBank$FeeRounds", name := "reckon", desc := "(I)V" } : Jvm.MethodName) ({ cls := "WeekBank$FeeRounds", name := "reckon", desc := "(I)V" } : Jvm.MethodName)) ∈ AL := al (tb_4 (List.mem_of_getElem? (i := 16) rfl)) rfl
theorem wd_4_17 : (Jvm.Cond.code ({ cls := "WeekBank$FeeRounds", name := "reckon", desc := "(I)V" } : Jvm.MethodName) prog_2_method_4_code (4 : Nat) (Option.none : Option Jvm.ClassFile.FieldType)) ∈ AL := al (tb_4 (List.mem_of_getElem? (i := 17) rfl)) rfl
theorem wd_4_18 : (Jvm.Cond.methodLink "WeekBank$FeeRounds" (32 : Nat) ({ cls := "WeekBank$FeeRounds", name := "countOwned", desc := "()I" } : Jvm.MethodName)) ∈ AL := al (tb_4 (List.mem_of_getElem? (i := 18) rfl)) rfl
theorem wd_4_20 : (Jvm.Cond.instanceMethod ({ cls := "WeekBank$FeeRounds", name := "countOwned", desc := "()I" } : Jvm.MethodName)) ∈ AL := al (tb_4 (List.mem_of_getElem? (i := 20) rfl)) rfl
theorem wd_4_21 : (Jvm.Cond.code ({ cls := "WeekBank$FeeRounds", name := "countOwned", desc := "()I" } : Jvm.MethodName) prog_2_method_6_code (3 : Nat) (Option.some Jvm.ClassFile.FieldType.int)) ∈ AL := al (tb_4 (List.mem_of_getElem? (i := 21) rfl)) rfl
theorem wd_4_22 : (Jvm.Cond.methodLink "WeekBank$FeeRounds" (36 : Nat) ({ cls := "WeekBank$FeeRounds", name := "someLeave", desc := "()Z" } : Jvm.MethodName)) ∈ AL := al (tb_4 (List.mem_of_getElem? (i := 22) rfl)) rfl
theorem wd_4_24 : (Jvm.Cond.instanceMethod ({ cls := "WeekBank$FeeRounds", name := "someLeave", desc := "()Z" } : Jvm.MethodName)) ∈ AL := al (tb_4 (List.mem_of_getElem? (i := 24) rfl)) rfl
theorem wd_4_25 : (Jvm.Cond.code ({ cls := "WeekBank$FeeRounds", name := "someLeave", desc := "()Z" } : Jvm.MethodName) prog_2_method_7_code (3 : Nat) (Option.some Jvm.ClassFile.FieldType.boolean)) ∈ AL := al (tb_4 (List.mem_of_getElem? (i := 25) rfl)) rfl
theorem wd_4_26 : (Jvm.Cond.methodLink "WeekBank" (256 : Nat) ({ cls := "WeekBank$FeeRounds", name := "countStaying", desc := "()I" } : Jvm.MethodName)) ∈ AL := al (tb_4 (List.mem_of_getElem? (i := 26) rfl)) rfl
theorem wd_4_27 : (Jvm.Cond.instanceMethod ({ cls := "WeekBank$FeeRounds", name := "countStaying", desc := "()I" } : Jvm.MethodName)) ∈ AL := al (tb_4 (List.mem_of_getElem? (i := 27) rfl)) rfl
theorem wd_4_28 : (Jvm.Cond.selects "WeekBank$FeeRounds" ({ cls := "WeekBank$FeeRounds", name := "countStaying", desc := "()I" } : Jvm.MethodName) ({ cls := "WeekBank$FeeRounds", name := "countStaying", desc := "()I" } : Jvm.MethodName)) ∈ AL := al (tb_4 (List.mem_of_getElem? (i := 28) rfl)) rfl
theorem wd_4_29 : (Jvm.Cond.code ({ cls := "WeekBank$FeeRounds", name := "countStaying", desc := "()I" } : Jvm.MethodName) prog_2_method_5_code (3 : Nat) (Option.some Jvm.ClassFile.FieldType.int)) ∈ AL := al (tb_4 (List.mem_of_getElem? (i := 29) rfl)) rfl
theorem wd_4_30 : (Jvm.Cond.methodLink "WeekBankLaw" (106 : Nat) ({ cls := "WeekBank", name := "party", desc := "(II)I" } : Jvm.MethodName)) ∈ AL := al (tb_4 (List.mem_of_getElem? (i := 30) rfl)) rfl
theorem wd_4_31 : (Jvm.Cond.instanceMethod ({ cls := "WeekBank", name := "party", desc := "(II)I" } : Jvm.MethodName)) ∈ AL := al (tb_4 (List.mem_of_getElem? (i := 31) rfl)) rfl
theorem wd_4_32 : (Jvm.Cond.selects "WeekBank" ({ cls := "WeekBank", name := "party", desc := "(II)I" } : Jvm.MethodName) ({ cls := "WeekBank", name := "party", desc := "(II)I" } : Jvm.MethodName)) ∈ AL := al (tb_4 (List.mem_of_getElem? (i := 32) rfl)) rfl
theorem wd_4_33 : (Jvm.Cond.code ({ cls := "WeekBank", name := "party", desc := "(II)I" } : Jvm.MethodName) prog_1_method_22_code (5 : Nat) (Option.some Jvm.ClassFile.FieldType.int)) ∈ AL := al (tb_4 (List.mem_of_getElem? (i := 33) rfl)) rfl
theorem wd_4_34 : (Jvm.Cond.methodLink "WeekBank" (259 : Nat) ({ cls := "WeekBank", name := "numberOf", desc := "(LWeekBank$Owner;)I" } : Jvm.MethodName)) ∈ AL := al (tb_4 (List.mem_of_getElem? (i := 34) rfl)) rfl
theorem wd_4_35 : (Jvm.Cond.static ({ cls := "WeekBank", name := "numberOf", desc := "(LWeekBank$Owner;)I" } : Jvm.MethodName)) ∈ AL := al (tb_4 (List.mem_of_getElem? (i := 35) rfl)) rfl
theorem wd_4_36 : (Jvm.Cond.code ({ cls := "WeekBank", name := "numberOf", desc := "(LWeekBank$Owner;)I" } : Jvm.MethodName) prog_1_method_29_code (1 : Nat) (Option.some Jvm.ClassFile.FieldType.int)) ∈ AL := al (tb_4 (List.mem_of_getElem? (i := 36) rfl)) rfl
theorem wd_4_37 : (Jvm.Cond.methodLink "WeekBank" (263 : Nat) ({ cls := "WeekBank$Gift", name := "isGot", desc := "()Z" } : Jvm.MethodName)) ∈ AL := al (tb_4 (List.mem_of_getElem? (i := 37) rfl)) rfl
theorem wd_4_38 : (Jvm.Cond.methodLink "WeekBankLaw" (116 : Nat) ({ cls := "WeekBank", name := "ownerOf", desc := "(II)I" } : Jvm.MethodName)) ∈ AL := al (tb_4 (List.mem_of_getElem? (i := 38) rfl)) rfl
theorem wd_4_39 : (Jvm.Cond.instanceMethod ({ cls := "WeekBank", name := "ownerOf", desc := "(II)I" } : Jvm.MethodName)) ∈ AL := al (tb_4 (List.mem_of_getElem? (i := 39) rfl)) rfl
theorem wd_4_40 : (Jvm.Cond.selects "WeekBank" ({ cls := "WeekBank", name := "ownerOf", desc := "(II)I" } : Jvm.MethodName) ({ cls := "WeekBank", name := "ownerOf", desc := "(II)I" } : Jvm.MethodName)) ∈ AL := al (tb_4 (List.mem_of_getElem? (i := 40) rfl)) rfl
theorem wd_4_41 : (Jvm.Cond.code ({ cls := "WeekBank", name := "ownerOf", desc := "(II)I" } : Jvm.MethodName) prog_1_method_24_code (4 : Nat) (Option.some Jvm.ClassFile.FieldType.int)) ∈ AL := al (tb_4 (List.mem_of_getElem? (i := 41) rfl)) rfl
theorem wd_4_42 : (Jvm.Cond.methodLink "WeekBankLaw" (120 : Nat) ({ cls := "WeekBank", name := "count", desc := "(I)I" } : Jvm.MethodName)) ∈ AL := al (tb_4 (List.mem_of_getElem? (i := 42) rfl)) rfl
theorem wd_4_43 : (Jvm.Cond.instanceMethod ({ cls := "WeekBank", name := "count", desc := "(I)I" } : Jvm.MethodName)) ∈ AL := al (tb_4 (List.mem_of_getElem? (i := 43) rfl)) rfl
theorem wd_4_44 : (Jvm.Cond.selects "WeekBank" ({ cls := "WeekBank", name := "count", desc := "(I)I" } : Jvm.MethodName) ({ cls := "WeekBank", name := "count", desc := "(I)I" } : Jvm.MethodName)) ∈ AL := al (tb_4 (List.mem_of_getElem? (i := 44) rfl)) rfl
theorem wd_4_45 : (Jvm.Cond.code ({ cls := "WeekBank", name := "count", desc := "(I)I" } : Jvm.MethodName) prog_1_method_25_code (2 : Nat) (Option.some Jvm.ClassFile.FieldType.int)) ∈ AL := al (tb_4 (List.mem_of_getElem? (i := 45) rfl)) rfl
theorem wd_4_46 : (Jvm.Cond.methodLink "WeekBank" (294 : Nat) ({ cls := "WeekBank", name := "sumPoints", desc := "()I" } : Jvm.MethodName)) ∈ AL := al (tb_4 (List.mem_of_getElem? (i := 46) rfl)) rfl
theorem wd_4_48 : (Jvm.Cond.instanceMethod ({ cls := "WeekBank", name := "sumPoints", desc := "()I" } : Jvm.MethodName)) ∈ AL := al (tb_4 (List.mem_of_getElem? (i := 48) rfl)) rfl
theorem wd_4_49 : (Jvm.Cond.code ({ cls := "WeekBank", name := "sumPoints", desc := "()I" } : Jvm.MethodName) prog_1_method_37_code (3 : Nat) (Option.some Jvm.ClassFile.FieldType.int)) ∈ AL := al (tb_4 (List.mem_of_getElem? (i := 49) rfl)) rfl
theorem wd_4_50 : (Jvm.Cond.methodLink "WeekBankLaw" (110 : Nat) ({ cls := "WeekBankLaw", name := "of", desc := "(LWeekBank;II[J)I" } : Jvm.MethodName)) ∈ AL := al (tb_4 (List.mem_of_getElem? (i := 50) rfl)) rfl
theorem wd_4_51 : (Jvm.Cond.static ({ cls := "WeekBankLaw", name := "of", desc := "(LWeekBank;II[J)I" } : Jvm.MethodName)) ∈ AL := al (tb_4 (List.mem_of_getElem? (i := 51) rfl)) rfl
theorem wt_4_52 : (Jvm.Cond.codeWith ({ cls := "WeekBankLaw", name := "of", desc := "(LWeekBank;II[J)I" } : Jvm.MethodName) method_3_code (5 : Nat) (Option.some Jvm.ClassFile.FieldType.int) [((0 : Nat), (10 : Nat), (13 : Nat), (13 : Nat))]) ∈ lw_tbl := tb_4 (List.mem_of_getElem? (i := 52) rfl)
theorem wd_4_53 : (Jvm.Cond.classLink "WeekBankLaw" (13 : Nat) "java/util/NoSuchElementException") ∈ AL := al (tb_4 (List.mem_of_getElem? (i := 53) rfl)) rfl
theorem wd_4_54 : (Jvm.Cond.methodLink "WeekBankLaw" (7 : Nat) ({ cls := "WeekBank", name := "of", desc := "(II)I" } : Jvm.MethodName)) ∈ AL := al (tb_4 (List.mem_of_getElem? (i := 54) rfl)) rfl
theorem wd_4_55 : (Jvm.Cond.instanceMethod ({ cls := "WeekBank", name := "of", desc := "(II)I" } : Jvm.MethodName)) ∈ AL := al (tb_4 (List.mem_of_getElem? (i := 55) rfl)) rfl
theorem wd_4_56 : (Jvm.Cond.selects "WeekBank" ({ cls := "WeekBank", name := "of", desc := "(II)I" } : Jvm.MethodName) ({ cls := "WeekBank", name := "of", desc := "(II)I" } : Jvm.MethodName)) ∈ AL := al (tb_4 (List.mem_of_getElem? (i := 56) rfl)) rfl
theorem wd_4_57 : (Jvm.Cond.code ({ cls := "WeekBank", name := "of", desc := "(II)I" } : Jvm.MethodName) prog_1_method_23_code (4 : Nat) (Option.some Jvm.ClassFile.FieldType.int)) ∈ AL := al (tb_4 (List.mem_of_getElem? (i := 57) rfl)) rfl
theorem wd_4_58 : (Jvm.Cond.classLink "WeekBank" (273 : Nat) "java/util/NoSuchElementException") ∈ AL := al (tb_4 (List.mem_of_getElem? (i := 58) rfl)) rfl
theorem wd_4_59 : (Jvm.Cond.instantiable "java/util/NoSuchElementException" (6 : Nat)) ∈ AL := al (tb_4 (List.mem_of_getElem? (i := 59) rfl)) rfl
theorem wt_4_60 : (Jvm.Cond.castable "java/util/NoSuchElementException" "java/util/NoSuchElementException") ∈ lw_tbl := tb_4 (List.mem_of_getElem? (i := 60) rfl)
theorem wt_4_61 : (Jvm.Cond.declares ({ cls := "java/lang/RuntimeException", name := "<init>", desc := "()V" } : Jvm.MethodName)) ∈ lw_tbl := tb_4 (List.mem_of_getElem? (i := 61) rfl)
theorem wt_4_62 : (Jvm.Cond.declares ({ cls := "java/lang/RuntimeException", name := "<init>", desc := "(Ljava/lang/String;)V" } : Jvm.MethodName)) ∈ lw_tbl := tb_4 (List.mem_of_getElem? (i := 62) rfl)
theorem wt_4_63 : (Jvm.Cond.declares ({ cls := "java/lang/Exception", name := "<init>", desc := "()V" } : Jvm.MethodName)) ∈ lw_tbl := tb_4 (List.mem_of_getElem? (i := 63) rfl)
theorem wt_4_64 : (Jvm.Cond.declares ({ cls := "java/lang/Exception", name := "<init>", desc := "(Ljava/lang/String;)V" } : Jvm.MethodName)) ∈ lw_tbl := tb_4 (List.mem_of_getElem? (i := 64) rfl)
theorem wt_4_65 : (Jvm.Cond.declares ({ cls := "java/lang/Throwable", name := "<init>", desc := "()V" } : Jvm.MethodName)) ∈ lw_tbl := tb_4 (List.mem_of_getElem? (i := 65) rfl)
theorem wt_4_66 : (Jvm.Cond.declares ({ cls := "java/lang/Throwable", name := "<init>", desc := "(Ljava/lang/String;)V" } : Jvm.MethodName)) ∈ lw_tbl := tb_4 (List.mem_of_getElem? (i := 66) rfl)
theorem wd_4_67 : (Jvm.Cond.selects "java/util/NoSuchElementException" ({ cls := "java/lang/Throwable", name := "fillInStackTrace", desc := "(I)Ljava/lang/Throwable;" } : Jvm.MethodName) ({ cls := "java/lang/Throwable", name := "fillInStackTrace", desc := "(I)Ljava/lang/Throwable;" } : Jvm.MethodName)) ∈ AL := al (tb_4 (List.mem_of_getElem? (i := 67) rfl)) rfl
theorem wd_4_68 : (Jvm.Cond.selects "java/util/NoSuchElementException" ({ cls := "java/lang/Throwable", name := "fillInStackTrace", desc := "()Ljava/lang/Throwable;" } : Jvm.MethodName) ({ cls := "java/lang/Throwable", name := "fillInStackTrace", desc := "()Ljava/lang/Throwable;" } : Jvm.MethodName)) ∈ AL := al (tb_4 (List.mem_of_getElem? (i := 68) rfl)) rfl
theorem wd_4_69 : (Jvm.Cond.lays "java/util/NoSuchElementException" "java/lang/Throwable" "cause" "Ljava/lang/Throwable;") ∈ AL := al (tb_4 (List.mem_of_getElem? (i := 69) rfl)) rfl
theorem wd_4_70 : (Jvm.Cond.lays "java/lang/Throwable" "java/lang/Throwable" "cause" "Ljava/lang/Throwable;") ∈ AL := al (tb_4 (List.mem_of_getElem? (i := 70) rfl)) rfl
theorem wd_4_71 : (Jvm.Cond.lays "java/util/NoSuchElementException" "java/lang/Throwable" "stackTrace" "[Ljava/lang/StackTraceElement;") ∈ AL := al (tb_4 (List.mem_of_getElem? (i := 71) rfl)) rfl
theorem wd_4_72 : (Jvm.Cond.lays "java/lang/Throwable" "java/lang/Throwable" "stackTrace" "[Ljava/lang/StackTraceElement;") ∈ AL := al (tb_4 (List.mem_of_getElem? (i := 72) rfl)) rfl
theorem wd_4_73 : (Jvm.Cond.lays "java/util/NoSuchElementException" "java/lang/Throwable" "suppressedExceptions" "Ljava/util/List;") ∈ AL := al (tb_4 (List.mem_of_getElem? (i := 73) rfl)) rfl
theorem wd_4_74 : (Jvm.Cond.lays "java/lang/Throwable" "java/lang/Throwable" "suppressedExceptions" "Ljava/util/List;") ∈ AL := al (tb_4 (List.mem_of_getElem? (i := 74) rfl)) rfl
theorem wd_4_75 : (Jvm.Cond.lays "java/util/NoSuchElementException" "java/lang/Throwable" "detailMessage" "Ljava/lang/String;") ∈ AL := al (tb_4 (List.mem_of_getElem? (i := 75) rfl)) rfl
theorem wd_4_76 : (Jvm.Cond.lays "java/lang/Throwable" "java/lang/Throwable" "detailMessage" "Ljava/lang/String;") ∈ AL := al (tb_4 (List.mem_of_getElem? (i := 76) rfl)) rfl
theorem wd_4_77 : (Jvm.Cond.lays "java/util/NoSuchElementException" "java/lang/Throwable" "backtrace" "Ljava/lang/Object;") ∈ AL := al (tb_4 (List.mem_of_getElem? (i := 77) rfl)) rfl
theorem wd_4_78 : (Jvm.Cond.lays "java/lang/Throwable" "java/lang/Throwable" "backtrace" "Ljava/lang/Object;") ∈ AL := al (tb_4 (List.mem_of_getElem? (i := 78) rfl)) rfl
theorem wd_4_79 : (Jvm.Cond.fieldLink "java/lang/Throwable" (198 : Nat) "java/lang/Throwable" "backtrace" "Ljava/lang/Object;") ∈ AL := al (tb_4 (List.mem_of_getElem? (i := 79) rfl)) rfl
theorem wt_4_80 : (Jvm.Cond.superclass "java/lang/Throwable" "java/lang/Object") ∈ lw_tbl := tb_4 (List.mem_of_getElem? (i := 80) rfl)
theorem wd_4_81 : (Jvm.Cond.instanceMethod ({ cls := "java/lang/Throwable", name := "<init>", desc := "()V" } : Jvm.MethodName)) ∈ AL := al (tb_4 (List.mem_of_getElem? (i := 81) rfl)) rfl
theorem wd_4_82 : (Jvm.Cond.code ({ cls := "java/lang/Throwable", name := "<init>", desc := "()V" } : Jvm.MethodName) prog_19_method_1_code (1 : Nat) (Option.none : Option Jvm.ClassFile.FieldType)) ∈ AL := al (tb_4 (List.mem_of_getElem? (i := 82) rfl)) rfl
theorem wd_4_83 : (Jvm.Cond.methodLink "java/lang/Throwable" (1 : Nat) ({ cls := "java/lang/Object", name := "<init>", desc := "()V" } : Jvm.MethodName)) ∈ AL := al (tb_4 (List.mem_of_getElem? (i := 83) rfl)) rfl
theorem wd_4_84 : (Jvm.Cond.fieldLink "java/lang/Throwable" (13 : Nat) "java/lang/Throwable" "UNASSIGNED_STACK" "[Ljava/lang/StackTraceElement;") ∈ AL := al (tb_4 (List.mem_of_getElem? (i := 84) rfl)) rfl
theorem wt_4_85 : (Jvm.Cond.laysStatic "java/lang/Throwable" "UNASSIGNED_STACK" "[Ljava/lang/StackTraceElement;") ∈ lw_tbl := tb_4 (List.mem_of_getElem? (i := 85) rfl)
theorem wd_4_86 : (Jvm.Cond.fieldLink "java/lang/Throwable" (20 : Nat) "java/lang/Throwable" "SUPPRESSED_SENTINEL" "Ljava/util/List;") ∈ AL := al (tb_4 (List.mem_of_getElem? (i := 86) rfl)) rfl
theorem wt_4_87 : (Jvm.Cond.laysStatic "java/lang/Throwable" "SUPPRESSED_SENTINEL" "Ljava/util/List;") ∈ lw_tbl := tb_4 (List.mem_of_getElem? (i := 87) rfl)
theorem wd_4_88 : (Jvm.Cond.methodLink "java/lang/Throwable" (27 : Nat) ({ cls := "java/lang/Throwable", name := "fillInStackTrace", desc := "()Ljava/lang/Throwable;" } : Jvm.MethodName)) ∈ AL := al (tb_4 (List.mem_of_getElem? (i := 88) rfl)) rfl
theorem wd_4_89 : (Jvm.Cond.instanceMethod ({ cls := "java/lang/Throwable", name := "fillInStackTrace", desc := "()Ljava/lang/Throwable;" } : Jvm.MethodName)) ∈ AL := al (tb_4 (List.mem_of_getElem? (i := 89) rfl)) rfl
theorem wt_4_90 : (Jvm.Cond.sameMethod "java/lang/Throwable" "java/lang/Throwable" "fillInStackTrace" "()Ljava/lang/Throwable;") ∈ lw_tbl := tb_4 (List.mem_of_getElem? (i := 90) rfl)
theorem wt_4_91 : (Jvm.Cond.codeSync ({ cls := "java/lang/Throwable", name := "fillInStackTrace", desc := "()Ljava/lang/Throwable;" } : Jvm.MethodName) prog_19_method_18_code (1 : Nat) (Option.some (Jvm.ClassFile.FieldType.object "java/lang/Throwable"))) ∈ lw_tbl := tb_4 (List.mem_of_getElem? (i := 91) rfl)
theorem wd_4_92 : (Jvm.Cond.methodLink "java/lang/Throwable" (202 : Nat) ({ cls := "java/lang/Throwable", name := "fillInStackTrace", desc := "(I)Ljava/lang/Throwable;" } : Jvm.MethodName)) ∈ AL := al (tb_4 (List.mem_of_getElem? (i := 92) rfl)) rfl
theorem wd_4_94 : (Jvm.Cond.instanceMethod ({ cls := "java/lang/Throwable", name := "fillInStackTrace", desc := "(I)Ljava/lang/Throwable;" } : Jvm.MethodName)) ∈ AL := al (tb_4 (List.mem_of_getElem? (i := 94) rfl)) rfl
theorem wd_4_95 : (Jvm.Cond.instantiable "java/lang/Throwable" (6 : Nat)) ∈ AL := al (tb_4 (List.mem_of_getElem? (i := 95) rfl)) rfl
theorem wt_4_96 : (Jvm.Cond.native ({ cls := "java/lang/Throwable", name := "fillInStackTrace", desc := "(I)Ljava/lang/Throwable;" } : Jvm.MethodName)) ∈ lw_tbl := tb_4 (List.mem_of_getElem? (i := 96) rfl)
theorem wt_4_97 : (Jvm.Cond.stringRef "WeekBank" (275 : Nat) "no such gift") ∈ lw_tbl := tb_4 (List.mem_of_getElem? (i := 97) rfl)
theorem wd_4_98 : (Jvm.Cond.methodLink "WeekBank" (277 : Nat) ({ cls := "java/util/NoSuchElementException", name := "<init>", desc := "(Ljava/lang/String;)V" } : Jvm.MethodName)) ∈ AL := al (tb_4 (List.mem_of_getElem? (i := 98) rfl)) rfl
theorem wd_4_99 : (Jvm.Cond.instanceMethod ({ cls := "java/util/NoSuchElementException", name := "<init>", desc := "(Ljava/lang/String;)V" } : Jvm.MethodName)) ∈ AL := al (tb_4 (List.mem_of_getElem? (i := 99) rfl)) rfl
theorem wd_4_100 : (Jvm.Cond.code ({ cls := "java/util/NoSuchElementException", name := "<init>", desc := "(Ljava/lang/String;)V" } : Jvm.MethodName) prog_21_method_4_code (2 : Nat) (Option.none : Option Jvm.ClassFile.FieldType)) ∈ AL := al (tb_4 (List.mem_of_getElem? (i := 100) rfl)) rfl
theorem wd_4_101 : (Jvm.Cond.methodLink "java/util/NoSuchElementException" (13 : Nat) ({ cls := "java/lang/RuntimeException", name := "<init>", desc := "(Ljava/lang/String;)V" } : Jvm.MethodName)) ∈ AL := al (tb_4 (List.mem_of_getElem? (i := 101) rfl)) rfl
theorem wd_4_102 : (Jvm.Cond.instanceMethod ({ cls := "java/lang/RuntimeException", name := "<init>", desc := "(Ljava/lang/String;)V" } : Jvm.MethodName)) ∈ AL := al (tb_4 (List.mem_of_getElem? (i := 102) rfl)) rfl
theorem wd_4_103 : (Jvm.Cond.code ({ cls := "java/lang/RuntimeException", name := "<init>", desc := "(Ljava/lang/String;)V" } : Jvm.MethodName) prog_15_method_2_code (2 : Nat) (Option.none : Option Jvm.ClassFile.FieldType)) ∈ AL := al (tb_4 (List.mem_of_getElem? (i := 103) rfl)) rfl
theorem wd_4_104 : (Jvm.Cond.methodLink "java/lang/RuntimeException" (7 : Nat) ({ cls := "java/lang/Exception", name := "<init>", desc := "(Ljava/lang/String;)V" } : Jvm.MethodName)) ∈ AL := al (tb_4 (List.mem_of_getElem? (i := 104) rfl)) rfl
theorem wd_4_105 : (Jvm.Cond.instanceMethod ({ cls := "java/lang/Exception", name := "<init>", desc := "(Ljava/lang/String;)V" } : Jvm.MethodName)) ∈ AL := al (tb_4 (List.mem_of_getElem? (i := 105) rfl)) rfl
theorem wd_4_106 : (Jvm.Cond.code ({ cls := "java/lang/Exception", name := "<init>", desc := "(Ljava/lang/String;)V" } : Jvm.MethodName) prog_12_method_2_code (2 : Nat) (Option.none : Option Jvm.ClassFile.FieldType)) ∈ AL := al (tb_4 (List.mem_of_getElem? (i := 106) rfl)) rfl
theorem wd_4_107 : (Jvm.Cond.methodLink "java/lang/Exception" (7 : Nat) ({ cls := "java/lang/Throwable", name := "<init>", desc := "(Ljava/lang/String;)V" } : Jvm.MethodName)) ∈ AL := al (tb_4 (List.mem_of_getElem? (i := 107) rfl)) rfl
theorem wd_4_108 : (Jvm.Cond.instanceMethod ({ cls := "java/lang/Throwable", name := "<init>", desc := "(Ljava/lang/String;)V" } : Jvm.MethodName)) ∈ AL := al (tb_4 (List.mem_of_getElem? (i := 108) rfl)) rfl
theorem wd_4_109 : (Jvm.Cond.code ({ cls := "java/lang/Throwable", name := "<init>", desc := "(Ljava/lang/String;)V" } : Jvm.MethodName) prog_19_method_2_code (2 : Nat) (Option.none : Option Jvm.ClassFile.FieldType)) ∈ AL := al (tb_4 (List.mem_of_getElem? (i := 109) rfl)) rfl
theorem wd_4_110 : (Jvm.Cond.fieldLink "java/lang/Throwable" (198 : Nat) "java/lang/Throwable" "backtrace" "Ljava/lang/Object;") ∈ AL := al (tb_4 (List.mem_of_getElem? (i := 110) rfl)) rfl
theorem wd_4_111 : (Jvm.Cond.fieldLink "java/lang/Throwable" (31 : Nat) "java/lang/Throwable" "detailMessage" "Ljava/lang/String;") ∈ AL := al (tb_4 (List.mem_of_getElem? (i := 111) rfl)) rfl
theorem wd_4_112 : (Jvm.Cond.fieldLink "java/lang/Throwable" (7 : Nat) "java/lang/Throwable" "cause" "Ljava/lang/Throwable;") ∈ AL := al (tb_4 (List.mem_of_getElem? (i := 112) rfl)) rfl
theorem wd_4_113 : (Jvm.Cond.fieldLink "java/lang/Throwable" (17 : Nat) "java/lang/Throwable" "stackTrace" "[Ljava/lang/StackTraceElement;") ∈ AL := al (tb_4 (List.mem_of_getElem? (i := 113) rfl)) rfl
theorem wd_4_114 : (Jvm.Cond.fieldLink "java/lang/Throwable" (24 : Nat) "java/lang/Throwable" "suppressedExceptions" "Ljava/util/List;") ∈ AL := al (tb_4 (List.mem_of_getElem? (i := 114) rfl)) rfl
theorem wd_4_119 : (Jvm.Cond.lays "java/util/NoSuchElementException" "java/lang/Throwable" "depth" "I") ∈ AL := al (tb_4 (List.mem_of_getElem? (i := 119) rfl)) rfl
theorem wt_4_122 : (Jvm.Cond.superclass "java/util/NoSuchElementException" "java/lang/RuntimeException") ∈ lw_tbl := tb_4 (List.mem_of_getElem? (i := 122) rfl)
theorem wt_4_123 : (Jvm.Cond.stringRef "WeekBank" (289 : Nat) "nothing of a gift has that number") ∈ lw_tbl := tb_4 (List.mem_of_getElem? (i := 123) rfl)
theorem wd_4_124 : (Jvm.Cond.classLink "WeekBankLaw" (16 : Nat) "WeekBankModel") ∈ AL := al (tb_4 (List.mem_of_getElem? (i := 124) rfl)) rfl
theorem wd_4_125 : (Jvm.Cond.instantiable "WeekBankModel" (47 : Nat)) ∈ AL := al (tb_4 (List.mem_of_getElem? (i := 125) rfl)) rfl
theorem wd_4_126 : (Jvm.Cond.methodLink "WeekBankLaw" (18 : Nat) ({ cls := "WeekBankModel", name := "<init>", desc := "()V" } : Jvm.MethodName)) ∈ AL := al (tb_4 (List.mem_of_getElem? (i := 126) rfl)) rfl
theorem wd_4_127 : (Jvm.Cond.instanceMethod ({ cls := "WeekBankModel", name := "<init>", desc := "()V" } : Jvm.MethodName)) ∈ AL := al (tb_4 (List.mem_of_getElem? (i := 127) rfl)) rfl
theorem wd_4_128 : (Jvm.Cond.code ({ cls := "WeekBankModel", name := "<init>", desc := "()V" } : Jvm.MethodName) prog_11_method_3_code (2 : Nat) (Option.none : Option Jvm.ClassFile.FieldType)) ∈ AL := al (tb_4 (List.mem_of_getElem? (i := 128) rfl)) rfl
theorem wd_4_129 : (Jvm.Cond.methodLink "WeekBankModel" (7 : Nat) ({ cls := "java/lang/Object", name := "<init>", desc := "()V" } : Jvm.MethodName)) ∈ AL := al (tb_4 (List.mem_of_getElem? (i := 129) rfl)) rfl
theorem wd_4_130 : (Jvm.Cond.fieldLink "WeekBankModel" (1 : Nat) "WeekBankModel" "thrown" "I") ∈ AL := al (tb_4 (List.mem_of_getElem? (i := 130) rfl)) rfl
theorem wd_4_131 : (Jvm.Cond.fieldLink "WeekBankModel" (104 : Nat) "WeekBankModel" "flats" "I") ∈ AL := al (tb_4 (List.mem_of_getElem? (i := 131) rfl)) rfl
theorem wd_4_132 : (Jvm.Cond.fieldLink "WeekBankModel" (13 : Nat) "WeekBankModel" "town" "[I") ∈ AL := al (tb_4 (List.mem_of_getElem? (i := 132) rfl)) rfl
theorem wd_4_133 : (Jvm.Cond.fieldLink "WeekBankModel" (17 : Nat) "WeekBankModel" "size" "[I") ∈ AL := al (tb_4 (List.mem_of_getElem? (i := 133) rfl)) rfl
theorem wd_4_134 : (Jvm.Cond.fieldLink "WeekBankModel" (107 : Nat) "WeekBankModel" "owners" "I") ∈ AL := al (tb_4 (List.mem_of_getElem? (i := 134) rfl)) rfl
theorem wd_4_135 : (Jvm.Cond.fieldLink "WeekBankModel" (20 : Nat) "WeekBankModel" "limit" "[I") ∈ AL := al (tb_4 (List.mem_of_getElem? (i := 135) rfl)) rfl
theorem wd_4_136 : (Jvm.Cond.fieldLink "WeekBankModel" (23 : Nat) "WeekBankModel" "points" "[I") ∈ AL := al (tb_4 (List.mem_of_getElem? (i := 136) rfl)) rfl
theorem wd_4_137 : (Jvm.Cond.fieldLink "WeekBankModel" (26 : Nat) "WeekBankModel" "luck" "[I") ∈ AL := al (tb_4 (List.mem_of_getElem? (i := 137) rfl)) rfl
theorem wd_4_138 : (Jvm.Cond.fieldLink "WeekBankModel" (29 : Nat) "WeekBankModel" "isDead" "[Z") ∈ AL := al (tb_4 (List.mem_of_getElem? (i := 138) rfl)) rfl
theorem wd_4_139 : (Jvm.Cond.fieldLink "WeekBankModel" (33 : Nat) "WeekBankModel" "ownerOf" "[I") ∈ AL := al (tb_4 (List.mem_of_getElem? (i := 139) rfl)) rfl
theorem wd_4_140 : (Jvm.Cond.fieldLink "WeekBankModel" (36 : Nat) "WeekBankModel" "isShut" "[Z") ∈ AL := al (tb_4 (List.mem_of_getElem? (i := 140) rfl)) rfl
theorem wd_4_141 : (Jvm.Cond.fieldLink "WeekBankModel" (206 : Nat) "WeekBankModel" "year" "I") ∈ AL := al (tb_4 (List.mem_of_getElem? (i := 141) rfl)) rfl
theorem wd_4_142 : (Jvm.Cond.fieldLink "WeekBankModel" (197 : Nat) "WeekBankModel" "now" "I") ∈ AL := al (tb_4 (List.mem_of_getElem? (i := 142) rfl)) rfl
theorem wd_4_143 : (Jvm.Cond.fieldLink "WeekBankModel" (39 : Nat) "WeekBankModel" "tape" "[B") ∈ AL := al (tb_4 (List.mem_of_getElem? (i := 143) rfl)) rfl
theorem wd_4_144 : (Jvm.Cond.fieldLink "WeekBankModel" (122 : Nat) "WeekBankModel" "taped" "I") ∈ AL := al (tb_4 (List.mem_of_getElem? (i := 144) rfl)) rfl
theorem wd_4_145 : (Jvm.Cond.fieldLink "WeekBankModel" (125 : Nat) "WeekBankModel" "at" "I") ∈ AL := al (tb_4 (List.mem_of_getElem? (i := 145) rfl)) rfl
theorem wd_4_146 : (Jvm.Cond.fieldLink "WeekBankModel" (128 : Nat) "WeekBankModel" "place" "I") ∈ AL := al (tb_4 (List.mem_of_getElem? (i := 146) rfl)) rfl
theorem wd_4_147 : (Jvm.Cond.fieldLink "WeekBankModel" (131 : Nat) "WeekBankModel" "sort" "I") ∈ AL := al (tb_4 (List.mem_of_getElem? (i := 147) rfl)) rfl
theorem wd_4_148 : (Jvm.Cond.fieldLink "WeekBankModel" (144 : Nat) "WeekBankModel" "value" "I") ∈ AL := al (tb_4 (List.mem_of_getElem? (i := 148) rfl)) rfl
theorem wd_4_149 : (Jvm.Cond.fieldLink "WeekBankModel" (157 : Nat) "WeekBankModel" "fault" "I") ∈ AL := al (tb_4 (List.mem_of_getElem? (i := 149) rfl)) rfl
theorem wd_4_150 : (Jvm.Cond.fieldLink "WeekBankModel" (160 : Nat) "WeekBankModel" "faultPlace" "I") ∈ AL := al (tb_4 (List.mem_of_getElem? (i := 150) rfl)) rfl
theorem wd_4_151 : (Jvm.Cond.fieldLink "WeekBankModel" (43 : Nat) "WeekBankModel" "lastPlace" "I") ∈ AL := al (tb_4 (List.mem_of_getElem? (i := 151) rfl)) rfl
theorem wd_4_152 : (Jvm.Cond.fieldLink "WeekBankModel" (194 : Nat) "WeekBankModel" "statements" "I") ∈ AL := al (tb_4 (List.mem_of_getElem? (i := 152) rfl)) rfl
theorem wd_4_153 : (Jvm.Cond.fieldLink "WeekBankModel" (46 : Nat) "WeekBankModel" "statement" "[I") ∈ AL := al (tb_4 (List.mem_of_getElem? (i := 153) rfl)) rfl
theorem wd_4_154 : (Jvm.Cond.fieldLink "WeekBankModel" (181 : Nat) "WeekBankModel" "newStatements" "I") ∈ AL := al (tb_4 (List.mem_of_getElem? (i := 154) rfl)) rfl
theorem wd_4_155 : (Jvm.Cond.fieldLink "WeekBankModel" (49 : Nat) "WeekBankModel" "newStatement" "[I") ∈ AL := al (tb_4 (List.mem_of_getElem? (i := 155) rfl)) rfl
theorem wd_4_156 : (Jvm.Cond.fieldLink "WeekBankModel" (203 : Nat) "WeekBankModel" "gifts" "I") ∈ AL := al (tb_4 (List.mem_of_getElem? (i := 156) rfl)) rfl
theorem wd_4_157 : (Jvm.Cond.fieldLink "WeekBankModel" (52 : Nat) "WeekBankModel" "giver" "[I") ∈ AL := al (tb_4 (List.mem_of_getElem? (i := 157) rfl)) rfl
theorem wd_4_158 : (Jvm.Cond.fieldLink "WeekBankModel" (55 : Nat) "WeekBankModel" "giftFlat" "[I") ∈ AL := al (tb_4 (List.mem_of_getElem? (i := 158) rfl)) rfl
theorem wd_4_159 : (Jvm.Cond.fieldLink "WeekBankModel" (58 : Nat) "WeekBankModel" "giftWeek" "[I") ∈ AL := al (tb_4 (List.mem_of_getElem? (i := 159) rfl)) rfl
theorem wd_4_160 : (Jvm.Cond.fieldLink "WeekBankModel" (61 : Nat) "WeekBankModel" "giftYear" "[I") ∈ AL := al (tb_4 (List.mem_of_getElem? (i := 160) rfl)) rfl
theorem wd_4_161 : (Jvm.Cond.fieldLink "WeekBankModel" (64 : Nat) "WeekBankModel" "worth" "[I") ∈ AL := al (tb_4 (List.mem_of_getElem? (i := 161) rfl)) rfl
theorem wd_4_162 : (Jvm.Cond.fieldLink "WeekBankModel" (67 : Nat) "WeekBankModel" "how" "[I") ∈ AL := al (tb_4 (List.mem_of_getElem? (i := 162) rfl)) rfl
theorem wd_4_163 : (Jvm.Cond.fieldLink "WeekBankModel" (70 : Nat) "WeekBankModel" "got" "[I") ∈ AL := al (tb_4 (List.mem_of_getElem? (i := 163) rfl)) rfl
theorem wd_4_164 : (Jvm.Cond.fieldLink "WeekBankModel" (73 : Nat) "WeekBankModel" "gotBy" "[I") ∈ AL := al (tb_4 (List.mem_of_getElem? (i := 164) rfl)) rfl
theorem wd_4_165 : (Jvm.Cond.fieldLink "WeekBankModel" (76 : Nat) "WeekBankModel" "wish" "[I") ∈ AL := al (tb_4 (List.mem_of_getElem? (i := 165) rfl)) rfl
theorem wd_4_166 : (Jvm.Cond.fieldLink "WeekBankModel" (79 : Nat) "WeekBankModel" "waits" "[I") ∈ AL := al (tb_4 (List.mem_of_getElem? (i := 166) rfl)) rfl
theorem wd_4_167 : (Jvm.Cond.fieldLink "WeekBankModel" (222 : Nat) "WeekBankModel" "waiting" "I") ∈ AL := al (tb_4 (List.mem_of_getElem? (i := 167) rfl)) rfl
theorem wd_4_168 : (Jvm.Cond.fieldLink "WeekBankModel" (82 : Nat) "WeekBankModel" "gets" "[I") ∈ AL := al (tb_4 (List.mem_of_getElem? (i := 168) rfl)) rfl
theorem wd_4_169 : (Jvm.Cond.fieldLink "WeekBankModel" (85 : Nat) "WeekBankModel" "bestGets" "[I") ∈ AL := al (tb_4 (List.mem_of_getElem? (i := 169) rfl)) rfl
theorem wd_4_170 : (Jvm.Cond.fieldLink "WeekBankModel" (88 : Nat) "WeekBankModel" "isGot" "[Z") ∈ AL := al (tb_4 (List.mem_of_getElem? (i := 170) rfl)) rfl
theorem wd_4_171 : (Jvm.Cond.fieldLink "WeekBankModel" (225 : Nat) "WeekBankModel" "bestMany" "I") ∈ AL := al (tb_4 (List.mem_of_getElem? (i := 171) rfl)) rfl
theorem wd_4_172 : (Jvm.Cond.fieldLink "WeekBankModel" (228 : Nat) "WeekBankModel" "bestWorth" "I") ∈ AL := al (tb_4 (List.mem_of_getElem? (i := 172) rfl)) rfl
theorem wd_4_173 : (Jvm.Cond.fieldLink "WeekBankModel" (219 : Nat) "WeekBankModel" "longest" "I") ∈ AL := al (tb_4 (List.mem_of_getElem? (i := 173) rfl)) rfl
theorem wd_4_174 : (Jvm.Cond.fieldLink "WeekBankModel" (91 : Nat) "WeekBankModel" "wasAsked" "[Z") ∈ AL := al (tb_4 (List.mem_of_getElem? (i := 174) rfl)) rfl
theorem wd_4_175 : (Jvm.Cond.fieldLink "WeekBankModel" (94 : Nat) "WeekBankModel" "luckThen" "[I") ∈ AL := al (tb_4 (List.mem_of_getElem? (i := 175) rfl)) rfl
theorem wd_4_176 : (Jvm.Cond.fieldLink "WeekBankModel" (97 : Nat) "WeekBankModel" "stays" "[Z") ∈ AL := al (tb_4 (List.mem_of_getElem? (i := 176) rfl)) rfl
theorem wd_4_177 : (Jvm.Cond.lays "WeekBankModel" "WeekBankModel" "thrown" "I") ∈ AL := al (tb_4 (List.mem_of_getElem? (i := 177) rfl)) rfl
theorem wd_4_179 : (Jvm.Cond.lays "WeekBankModel" "WeekBankModel" "flats" "I") ∈ AL := al (tb_4 (List.mem_of_getElem? (i := 179) rfl)) rfl
theorem wd_4_181 : (Jvm.Cond.laysFinal "WeekBankModel" "WeekBankModel" "town" "[I") ∈ AL := al (tb_4 (List.mem_of_getElem? (i := 181) rfl)) rfl
theorem wd_4_183 : (Jvm.Cond.laysFinal "WeekBankModel" "WeekBankModel" "size" "[I") ∈ AL := al (tb_4 (List.mem_of_getElem? (i := 183) rfl)) rfl
theorem wd_4_185 : (Jvm.Cond.lays "WeekBankModel" "WeekBankModel" "owners" "I") ∈ AL := al (tb_4 (List.mem_of_getElem? (i := 185) rfl)) rfl
theorem wd_4_187 : (Jvm.Cond.laysFinal "WeekBankModel" "WeekBankModel" "limit" "[I") ∈ AL := al (tb_4 (List.mem_of_getElem? (i := 187) rfl)) rfl
theorem wd_4_189 : (Jvm.Cond.laysFinal "WeekBankModel" "WeekBankModel" "points" "[I") ∈ AL := al (tb_4 (List.mem_of_getElem? (i := 189) rfl)) rfl
theorem wd_4_191 : (Jvm.Cond.laysFinal "WeekBankModel" "WeekBankModel" "luck" "[I") ∈ AL := al (tb_4 (List.mem_of_getElem? (i := 191) rfl)) rfl
theorem wd_4_193 : (Jvm.Cond.laysFinal "WeekBankModel" "WeekBankModel" "isDead" "[Z") ∈ AL := al (tb_4 (List.mem_of_getElem? (i := 193) rfl)) rfl
theorem wd_4_195 : (Jvm.Cond.laysFinal "WeekBankModel" "WeekBankModel" "ownerOf" "[I") ∈ AL := al (tb_4 (List.mem_of_getElem? (i := 195) rfl)) rfl
theorem wd_4_197 : (Jvm.Cond.laysFinal "WeekBankModel" "WeekBankModel" "isShut" "[Z") ∈ AL := al (tb_4 (List.mem_of_getElem? (i := 197) rfl)) rfl
theorem wd_4_199 : (Jvm.Cond.lays "WeekBankModel" "WeekBankModel" "year" "I") ∈ AL := al (tb_4 (List.mem_of_getElem? (i := 199) rfl)) rfl
theorem wd_4_201 : (Jvm.Cond.lays "WeekBankModel" "WeekBankModel" "now" "I") ∈ AL := al (tb_4 (List.mem_of_getElem? (i := 201) rfl)) rfl
theorem wd_4_203 : (Jvm.Cond.laysFinal "WeekBankModel" "WeekBankModel" "tape" "[B") ∈ AL := al (tb_4 (List.mem_of_getElem? (i := 203) rfl)) rfl
theorem wd_4_205 : (Jvm.Cond.lays "WeekBankModel" "WeekBankModel" "taped" "I") ∈ AL := al (tb_4 (List.mem_of_getElem? (i := 205) rfl)) rfl
theorem wd_4_207 : (Jvm.Cond.lays "WeekBankModel" "WeekBankModel" "at" "I") ∈ AL := al (tb_4 (List.mem_of_getElem? (i := 207) rfl)) rfl
theorem wd_4_209 : (Jvm.Cond.lays "WeekBankModel" "WeekBankModel" "place" "I") ∈ AL := al (tb_4 (List.mem_of_getElem? (i := 209) rfl)) rfl
theorem wd_4_211 : (Jvm.Cond.lays "WeekBankModel" "WeekBankModel" "sort" "I") ∈ AL := al (tb_4 (List.mem_of_getElem? (i := 211) rfl)) rfl
theorem wd_4_213 : (Jvm.Cond.lays "WeekBankModel" "WeekBankModel" "value" "I") ∈ AL := al (tb_4 (List.mem_of_getElem? (i := 213) rfl)) rfl
theorem wd_4_215 : (Jvm.Cond.lays "WeekBankModel" "WeekBankModel" "fault" "I") ∈ AL := al (tb_4 (List.mem_of_getElem? (i := 215) rfl)) rfl
theorem wd_4_217 : (Jvm.Cond.lays "WeekBankModel" "WeekBankModel" "faultPlace" "I") ∈ AL := al (tb_4 (List.mem_of_getElem? (i := 217) rfl)) rfl
theorem wd_4_219 : (Jvm.Cond.lays "WeekBankModel" "WeekBankModel" "lastPlace" "I") ∈ AL := al (tb_4 (List.mem_of_getElem? (i := 219) rfl)) rfl
theorem wd_4_221 : (Jvm.Cond.lays "WeekBankModel" "WeekBankModel" "statements" "I") ∈ AL := al (tb_4 (List.mem_of_getElem? (i := 221) rfl)) rfl
theorem wd_4_223 : (Jvm.Cond.laysFinal "WeekBankModel" "WeekBankModel" "statement" "[I") ∈ AL := al (tb_4 (List.mem_of_getElem? (i := 223) rfl)) rfl
theorem wd_4_225 : (Jvm.Cond.lays "WeekBankModel" "WeekBankModel" "newStatements" "I") ∈ AL := al (tb_4 (List.mem_of_getElem? (i := 225) rfl)) rfl
theorem wd_4_227 : (Jvm.Cond.laysFinal "WeekBankModel" "WeekBankModel" "newStatement" "[I") ∈ AL := al (tb_4 (List.mem_of_getElem? (i := 227) rfl)) rfl
theorem wd_4_229 : (Jvm.Cond.lays "WeekBankModel" "WeekBankModel" "gifts" "I") ∈ AL := al (tb_4 (List.mem_of_getElem? (i := 229) rfl)) rfl
theorem wd_4_231 : (Jvm.Cond.laysFinal "WeekBankModel" "WeekBankModel" "giver" "[I") ∈ AL := al (tb_4 (List.mem_of_getElem? (i := 231) rfl)) rfl
theorem wd_4_233 : (Jvm.Cond.laysFinal "WeekBankModel" "WeekBankModel" "giftFlat" "[I") ∈ AL := al (tb_4 (List.mem_of_getElem? (i := 233) rfl)) rfl
theorem wd_4_235 : (Jvm.Cond.laysFinal "WeekBankModel" "WeekBankModel" "giftWeek" "[I") ∈ AL := al (tb_4 (List.mem_of_getElem? (i := 235) rfl)) rfl
theorem wd_4_237 : (Jvm.Cond.laysFinal "WeekBankModel" "WeekBankModel" "giftYear" "[I") ∈ AL := al (tb_4 (List.mem_of_getElem? (i := 237) rfl)) rfl
theorem wd_4_239 : (Jvm.Cond.laysFinal "WeekBankModel" "WeekBankModel" "worth" "[I") ∈ AL := al (tb_4 (List.mem_of_getElem? (i := 239) rfl)) rfl
theorem wd_5_1 : (Jvm.Cond.laysFinal "WeekBankModel" "WeekBankModel" "how" "[I") ∈ AL := al (tb_5 (List.mem_of_getElem? (i := 1) rfl)) rfl
theorem wd_5_3 : (Jvm.Cond.laysFinal "WeekBankModel" "WeekBankModel" "got" "[I") ∈ AL := al (tb_5 (List.mem_of_getElem? (i := 3) rfl)) rfl
theorem wd_5_5 : (Jvm.Cond.laysFinal "WeekBankModel" "WeekBankModel" "gotBy" "[I") ∈ AL := al (tb_5 (List.mem_of_getElem? (i := 5) rfl)) rfl
theorem wd_5_7 : (Jvm.Cond.laysFinal "WeekBankModel" "WeekBankModel" "wish" "[I") ∈ AL := al (tb_5 (List.mem_of_getElem? (i := 7) rfl)) rfl
theorem wd_5_9 : (Jvm.Cond.laysFinal "WeekBankModel" "WeekBankModel" "waits" "[I") ∈ AL := al (tb_5 (List.mem_of_getElem? (i := 9) rfl)) rfl
theorem wd_5_11 : (Jvm.Cond.lays "WeekBankModel" "WeekBankModel" "waiting" "I") ∈ AL := al (tb_5 (List.mem_of_getElem? (i := 11) rfl)) rfl
theorem wd_5_13 : (Jvm.Cond.laysFinal "WeekBankModel" "WeekBankModel" "gets" "[I") ∈ AL := al (tb_5 (List.mem_of_getElem? (i := 13) rfl)) rfl
theorem wd_5_15 : (Jvm.Cond.laysFinal "WeekBankModel" "WeekBankModel" "bestGets" "[I") ∈ AL := al (tb_5 (List.mem_of_getElem? (i := 15) rfl)) rfl
theorem wd_5_17 : (Jvm.Cond.laysFinal "WeekBankModel" "WeekBankModel" "isGot" "[Z") ∈ AL := al (tb_5 (List.mem_of_getElem? (i := 17) rfl)) rfl
theorem wd_5_19 : (Jvm.Cond.lays "WeekBankModel" "WeekBankModel" "bestMany" "I") ∈ AL := al (tb_5 (List.mem_of_getElem? (i := 19) rfl)) rfl
theorem wd_5_21 : (Jvm.Cond.lays "WeekBankModel" "WeekBankModel" "bestWorth" "I") ∈ AL := al (tb_5 (List.mem_of_getElem? (i := 21) rfl)) rfl
theorem wd_5_23 : (Jvm.Cond.lays "WeekBankModel" "WeekBankModel" "longest" "I") ∈ AL := al (tb_5 (List.mem_of_getElem? (i := 23) rfl)) rfl
theorem wd_5_25 : (Jvm.Cond.laysFinal "WeekBankModel" "WeekBankModel" "wasAsked" "[Z") ∈ AL := al (tb_5 (List.mem_of_getElem? (i := 25) rfl)) rfl
theorem wd_5_27 : (Jvm.Cond.laysFinal "WeekBankModel" "WeekBankModel" "luckThen" "[I") ∈ AL := al (tb_5 (List.mem_of_getElem? (i := 27) rfl)) rfl
theorem wd_5_29 : (Jvm.Cond.laysFinal "WeekBankModel" "WeekBankModel" "stays" "[Z") ∈ AL := al (tb_5 (List.mem_of_getElem? (i := 29) rfl)) rfl
theorem wt_5_31 : (Jvm.Cond.superclass "WeekBankModel" "java/lang/Object") ∈ lw_tbl := tb_5 (List.mem_of_getElem? (i := 31) rfl)
theorem wd_5_32 : (Jvm.Cond.methodLink "WeekBankLaw" (22 : Nat) ({ cls := "WeekBankModel", name := "flat", desc := "(II)I" } : Jvm.MethodName)) ∈ AL := al (tb_5 (List.mem_of_getElem? (i := 32) rfl)) rfl
theorem wd_5_33 : (Jvm.Cond.instanceMethod ({ cls := "WeekBankModel", name := "flat", desc := "(II)I" } : Jvm.MethodName)) ∈ AL := al (tb_5 (List.mem_of_getElem? (i := 33) rfl)) rfl
theorem wd_5_34 : (Jvm.Cond.selects "WeekBankModel" ({ cls := "WeekBankModel", name := "flat", desc := "(II)I" } : Jvm.MethodName) ({ cls := "WeekBankModel", name := "flat", desc := "(II)I" } : Jvm.MethodName)) ∈ AL := al (tb_5 (List.mem_of_getElem? (i := 34) rfl)) rfl
theorem wd_5_35 : (Jvm.Cond.code ({ cls := "WeekBankModel", name := "flat", desc := "(II)I" } : Jvm.MethodName) prog_11_method_4_code (3 : Nat) (Option.some Jvm.ClassFile.FieldType.int)) ∈ AL := al (tb_5 (List.mem_of_getElem? (i := 35) rfl)) rfl
theorem wd_5_36 : (Jvm.Cond.methodLink "WeekBankModel" (100 : Nat) ({ cls := "WeekBankModel", name := "within", desc := "(III)Z" } : Jvm.MethodName)) ∈ AL := al (tb_5 (List.mem_of_getElem? (i := 36) rfl)) rfl
theorem wd_5_37 : (Jvm.Cond.static ({ cls := "WeekBankModel", name := "within", desc := "(III)Z" } : Jvm.MethodName)) ∈ AL := al (tb_5 (List.mem_of_getElem? (i := 37) rfl)) rfl
theorem wd_5_38 : (Jvm.Cond.code ({ cls := "WeekBankModel", name := "within", desc := "(III)Z" } : Jvm.MethodName) prog_11_method_2_code (3 : Nat) (Option.some Jvm.ClassFile.FieldType.boolean)) ∈ AL := al (tb_5 (List.mem_of_getElem? (i := 38) rfl)) rfl
theorem wd_5_39 : (Jvm.Cond.methodLink "WeekBankLaw" (27 : Nat) ({ cls := "WeekBankModel", name := "owner", desc := "(I)I" } : Jvm.MethodName)) ∈ AL := al (tb_5 (List.mem_of_getElem? (i := 39) rfl)) rfl
theorem wd_5_40 : (Jvm.Cond.instanceMethod ({ cls := "WeekBankModel", name := "owner", desc := "(I)I" } : Jvm.MethodName)) ∈ AL := al (tb_5 (List.mem_of_getElem? (i := 40) rfl)) rfl
theorem wd_5_41 : (Jvm.Cond.selects "WeekBankModel" ({ cls := "WeekBankModel", name := "owner", desc := "(I)I" } : Jvm.MethodName) ({ cls := "WeekBankModel", name := "owner", desc := "(I)I" } : Jvm.MethodName)) ∈ AL := al (tb_5 (List.mem_of_getElem? (i := 41) rfl)) rfl
theorem wd_5_42 : (Jvm.Cond.code ({ cls := "WeekBankModel", name := "owner", desc := "(I)I" } : Jvm.MethodName) prog_11_method_5_code (2 : Nat) (Option.some Jvm.ClassFile.FieldType.int)) ∈ AL := al (tb_5 (List.mem_of_getElem? (i := 42) rfl)) rfl
theorem wd_5_43 : (Jvm.Cond.methodLink "WeekBankLaw" (32 : Nat) ({ cls := "WeekBankModel", name := "own", desc := "(III)Z" } : Jvm.MethodName)) ∈ AL := al (tb_5 (List.mem_of_getElem? (i := 43) rfl)) rfl
theorem wd_5_44 : (Jvm.Cond.instanceMethod ({ cls := "WeekBankModel", name := "own", desc := "(III)Z" } : Jvm.MethodName)) ∈ AL := al (tb_5 (List.mem_of_getElem? (i := 44) rfl)) rfl
theorem wd_5_45 : (Jvm.Cond.selects "WeekBankModel" ({ cls := "WeekBankModel", name := "own", desc := "(III)Z" } : Jvm.MethodName) ({ cls := "WeekBankModel", name := "own", desc := "(III)Z" } : Jvm.MethodName)) ∈ AL := al (tb_5 (List.mem_of_getElem? (i := 45) rfl)) rfl
theorem wd_5_46 : (Jvm.Cond.code ({ cls := "WeekBankModel", name := "own", desc := "(III)Z" } : Jvm.MethodName) prog_11_method_8_code (5 : Nat) (Option.some Jvm.ClassFile.FieldType.boolean)) ∈ AL := al (tb_5 (List.mem_of_getElem? (i := 46) rfl)) rfl
theorem wd_5_47 : (Jvm.Cond.methodLink "WeekBankModel" (110 : Nat) ({ cls := "WeekBankModel", name := "isPlace", desc := "(II)Z" } : Jvm.MethodName)) ∈ AL := al (tb_5 (List.mem_of_getElem? (i := 47) rfl)) rfl
theorem wd_5_49 : (Jvm.Cond.instanceMethod ({ cls := "WeekBankModel", name := "isPlace", desc := "(II)Z" } : Jvm.MethodName)) ∈ AL := al (tb_5 (List.mem_of_getElem? (i := 49) rfl)) rfl
theorem wd_5_50 : (Jvm.Cond.code ({ cls := "WeekBankModel", name := "isPlace", desc := "(II)Z" } : Jvm.MethodName) prog_11_method_6_code (3 : Nat) (Option.some Jvm.ClassFile.FieldType.boolean)) ∈ AL := al (tb_5 (List.mem_of_getElem? (i := 50) rfl)) rfl
theorem wd_5_51 : (Jvm.Cond.methodLink "WeekBankModel" (114 : Nat) ({ cls := "WeekBankModel", name := "isAlive", desc := "(I)Z" } : Jvm.MethodName)) ∈ AL := al (tb_5 (List.mem_of_getElem? (i := 51) rfl)) rfl
theorem wd_5_53 : (Jvm.Cond.instanceMethod ({ cls := "WeekBankModel", name := "isAlive", desc := "(I)Z" } : Jvm.MethodName)) ∈ AL := al (tb_5 (List.mem_of_getElem? (i := 53) rfl)) rfl
theorem wd_5_54 : (Jvm.Cond.code ({ cls := "WeekBankModel", name := "isAlive", desc := "(I)Z" } : Jvm.MethodName) prog_11_method_7_code (2 : Nat) (Option.some Jvm.ClassFile.FieldType.boolean)) ∈ AL := al (tb_5 (List.mem_of_getElem? (i := 54) rfl)) rfl
theorem wd_5_55 : (Jvm.Cond.methodLink "WeekBankModel" (118 : Nat) ({ cls := "WeekBankModel", name := "givenAt", desc := "(II)I" } : Jvm.MethodName)) ∈ AL := al (tb_5 (List.mem_of_getElem? (i := 55) rfl)) rfl
theorem wd_5_57 : (Jvm.Cond.instanceMethod ({ cls := "WeekBankModel", name := "givenAt", desc := "(II)I" } : Jvm.MethodName)) ∈ AL := al (tb_5 (List.mem_of_getElem? (i := 57) rfl)) rfl
theorem wd_5_58 : (Jvm.Cond.code ({ cls := "WeekBankModel", name := "givenAt", desc := "(II)I" } : Jvm.MethodName) prog_11_method_24_code (5 : Nat) (Option.some Jvm.ClassFile.FieldType.int)) ∈ AL := al (tb_5 (List.mem_of_getElem? (i := 58) rfl)) rfl
theorem wd_5_59 : (Jvm.Cond.methodLink "WeekBankLaw" (37 : Nat) ({ cls := "WeekBankModel", name := "feed", desc := "(IIIII)I" } : Jvm.MethodName)) ∈ AL := al (tb_5 (List.mem_of_getElem? (i := 59) rfl)) rfl
theorem wd_5_60 : (Jvm.Cond.instanceMethod ({ cls := "WeekBankModel", name := "feed", desc := "(IIIII)I" } : Jvm.MethodName)) ∈ AL := al (tb_5 (List.mem_of_getElem? (i := 60) rfl)) rfl
theorem wd_5_61 : (Jvm.Cond.selects "WeekBankModel" ({ cls := "WeekBankModel", name := "feed", desc := "(IIIII)I" } : Jvm.MethodName) ({ cls := "WeekBankModel", name := "feed", desc := "(IIIII)I" } : Jvm.MethodName)) ∈ AL := al (tb_5 (List.mem_of_getElem? (i := 61) rfl)) rfl
theorem wd_5_62 : (Jvm.Cond.code ({ cls := "WeekBankModel", name := "feed", desc := "(IIIII)I" } : Jvm.MethodName) prog_11_method_9_code (8 : Nat) (Option.some Jvm.ClassFile.FieldType.int)) ∈ AL := al (tb_5 (List.mem_of_getElem? (i := 62) rfl)) rfl
theorem wd_5_63 : (Jvm.Cond.methodLink "WeekBankLaw" (41 : Nat) ({ cls := "WeekBankModel", name := "end", desc := "(I)I" } : Jvm.MethodName)) ∈ AL := al (tb_5 (List.mem_of_getElem? (i := 63) rfl)) rfl
theorem wd_5_64 : (Jvm.Cond.instanceMethod ({ cls := "WeekBankModel", name := "end", desc := "(I)I" } : Jvm.MethodName)) ∈ AL := al (tb_5 (List.mem_of_getElem? (i := 64) rfl)) rfl
theorem wd_5_65 : (Jvm.Cond.selects "WeekBankModel" ({ cls := "WeekBankModel", name := "end", desc := "(I)I" } : Jvm.MethodName) ({ cls := "WeekBankModel", name := "end", desc := "(I)I" } : Jvm.MethodName)) ∈ AL := al (tb_5 (List.mem_of_getElem? (i := 65) rfl)) rfl
theorem wd_5_66 : (Jvm.Cond.code ({ cls := "WeekBankModel", name := "end", desc := "(I)I" } : Jvm.MethodName) prog_11_method_10_code (2 : Nat) (Option.some Jvm.ClassFile.FieldType.int)) ∈ AL := al (tb_5 (List.mem_of_getElem? (i := 66) rfl)) rfl
theorem wd_5_67 : (Jvm.Cond.methodLink "WeekBankLaw" (46 : Nat) ({ cls := "WeekBankModel", name := "rules", desc := "()I" } : Jvm.MethodName)) ∈ AL := al (tb_5 (List.mem_of_getElem? (i := 67) rfl)) rfl
theorem wd_5_68 : (Jvm.Cond.instanceMethod ({ cls := "WeekBankModel", name := "rules", desc := "()I" } : Jvm.MethodName)) ∈ AL := al (tb_5 (List.mem_of_getElem? (i := 68) rfl)) rfl
theorem wd_5_69 : (Jvm.Cond.selects "WeekBankModel" ({ cls := "WeekBankModel", name := "rules", desc := "()I" } : Jvm.MethodName) ({ cls := "WeekBankModel", name := "rules", desc := "()I" } : Jvm.MethodName)) ∈ AL := al (tb_5 (List.mem_of_getElem? (i := 69) rfl)) rfl
theorem wd_5_70 : (Jvm.Cond.code ({ cls := "WeekBankModel", name := "rules", desc := "()I" } : Jvm.MethodName) prog_11_method_19_code (2 : Nat) (Option.some Jvm.ClassFile.FieldType.int)) ∈ AL := al (tb_5 (List.mem_of_getElem? (i := 70) rfl)) rfl
theorem wd_5_71 : (Jvm.Cond.methodLink "WeekBankModel" (167 : Nat) ({ cls := "WeekBankModel", name := "next", desc := "()V" } : Jvm.MethodName)) ∈ AL := al (tb_5 (List.mem_of_getElem? (i := 71) rfl)) rfl
theorem wd_5_73 : (Jvm.Cond.instanceMethod ({ cls := "WeekBankModel", name := "next", desc := "()V" } : Jvm.MethodName)) ∈ AL := al (tb_5 (List.mem_of_getElem? (i := 73) rfl)) rfl
theorem wd_5_74 : (Jvm.Cond.code ({ cls := "WeekBankModel", name := "next", desc := "()V" } : Jvm.MethodName) prog_11_method_14_code (2 : Nat) (Option.none : Option Jvm.ClassFile.FieldType)) ∈ AL := al (tb_5 (List.mem_of_getElem? (i := 74) rfl)) rfl
theorem wd_5_75 : (Jvm.Cond.methodLink "WeekBankModel" (134 : Nat) ({ cls := "WeekBankModel", name := "isSmall", desc := "(I)Z" } : Jvm.MethodName)) ∈ AL := al (tb_5 (List.mem_of_getElem? (i := 75) rfl)) rfl
theorem wd_5_76 : (Jvm.Cond.static ({ cls := "WeekBankModel", name := "isSmall", desc := "(I)Z" } : Jvm.MethodName)) ∈ AL := al (tb_5 (List.mem_of_getElem? (i := 76) rfl)) rfl
theorem wd_5_77 : (Jvm.Cond.code ({ cls := "WeekBankModel", name := "isSmall", desc := "(I)Z" } : Jvm.MethodName) prog_11_method_12_code (1 : Nat) (Option.some Jvm.ClassFile.FieldType.boolean)) ∈ AL := al (tb_5 (List.mem_of_getElem? (i := 77) rfl)) rfl
theorem wd_5_78 : (Jvm.Cond.methodLink "WeekBankModel" (137 : Nat) ({ cls := "WeekBankModel", name := "see", desc := "(I)I" } : Jvm.MethodName)) ∈ AL := al (tb_5 (List.mem_of_getElem? (i := 78) rfl)) rfl
theorem wd_5_80 : (Jvm.Cond.instanceMethod ({ cls := "WeekBankModel", name := "see", desc := "(I)I" } : Jvm.MethodName)) ∈ AL := al (tb_5 (List.mem_of_getElem? (i := 80) rfl)) rfl
theorem wd_5_81 : (Jvm.Cond.code ({ cls := "WeekBankModel", name := "see", desc := "(I)I" } : Jvm.MethodName) prog_11_method_11_code (2 : Nat) (Option.some Jvm.ClassFile.FieldType.int)) ∈ AL := al (tb_5 (List.mem_of_getElem? (i := 81) rfl)) rfl
theorem wd_5_82 : (Jvm.Cond.methodLink "WeekBankModel" (141 : Nat) ({ cls := "WeekBankModel", name := "isDigit", desc := "(I)Z" } : Jvm.MethodName)) ∈ AL := al (tb_5 (List.mem_of_getElem? (i := 82) rfl)) rfl
theorem wd_5_83 : (Jvm.Cond.static ({ cls := "WeekBankModel", name := "isDigit", desc := "(I)Z" } : Jvm.MethodName)) ∈ AL := al (tb_5 (List.mem_of_getElem? (i := 83) rfl)) rfl
theorem wd_5_84 : (Jvm.Cond.code ({ cls := "WeekBankModel", name := "isDigit", desc := "(I)Z" } : Jvm.MethodName) prog_11_method_13_code (1 : Nat) (Option.some Jvm.ClassFile.FieldType.boolean)) ∈ AL := al (tb_5 (List.mem_of_getElem? (i := 84) rfl)) rfl
theorem wd_5_85 : (Jvm.Cond.methodLink "WeekBankModel" (191 : Nat) ({ cls := "WeekBankModel", name := "readStatement", desc := "()V" } : Jvm.MethodName)) ∈ AL := al (tb_5 (List.mem_of_getElem? (i := 85) rfl)) rfl
theorem wd_5_87 : (Jvm.Cond.instanceMethod ({ cls := "WeekBankModel", name := "readStatement", desc := "()V" } : Jvm.MethodName)) ∈ AL := al (tb_5 (List.mem_of_getElem? (i := 87) rfl)) rfl
theorem wd_5_88 : (Jvm.Cond.code ({ cls := "WeekBankModel", name := "readStatement", desc := "()V" } : Jvm.MethodName) prog_11_method_18_code (3 : Nat) (Option.none : Option Jvm.ClassFile.FieldType)) ∈ AL := al (tb_5 (List.mem_of_getElem? (i := 88) rfl)) rfl
theorem wt_5_89 : (Jvm.Cond.stringRef "WeekBankModel" (170 : Nat) "season") ∈ lw_tbl := tb_5 (List.mem_of_getElem? (i := 89) rfl)
theorem wd_5_90 : (Jvm.Cond.methodLink "WeekBankModel" (172 : Nat) ({ cls := "WeekBankModel", name := "isWord", desc := "(Ljava/lang/String;)Z" } : Jvm.MethodName)) ∈ AL := al (tb_5 (List.mem_of_getElem? (i := 90) rfl)) rfl
theorem wd_5_92 : (Jvm.Cond.instanceMethod ({ cls := "WeekBankModel", name := "isWord", desc := "(Ljava/lang/String;)Z" } : Jvm.MethodName)) ∈ AL := al (tb_5 (List.mem_of_getElem? (i := 92) rfl)) rfl
theorem wd_5_93 : (Jvm.Cond.code ({ cls := "WeekBankModel", name := "isWord", desc := "(Ljava/lang/String;)Z" } : Jvm.MethodName) prog_11_method_15_code (3 : Nat) (Option.some Jvm.ClassFile.FieldType.boolean)) ∈ AL := al (tb_5 (List.mem_of_getElem? (i := 93) rfl)) rfl
theorem wd_5_94 : (Jvm.Cond.methodLink "WeekBankModel" (147 : Nat) ({ cls := "java/lang/String", name := "length", desc := "()I" } : Jvm.MethodName)) ∈ AL := al (tb_5 (List.mem_of_getElem? (i := 94) rfl)) rfl
theorem wd_5_95 : (Jvm.Cond.methodLink "WeekBankModel" (153 : Nat) ({ cls := "java/lang/String", name := "charAt", desc := "(I)C" } : Jvm.MethodName)) ∈ AL := al (tb_5 (List.mem_of_getElem? (i := 95) rfl)) rfl
theorem wt_5_96 : (Jvm.Cond.stringRef "WeekBankModel" (176 : Nat) "size") ∈ lw_tbl := tb_5 (List.mem_of_getElem? (i := 96) rfl)
theorem wt_5_97 : (Jvm.Cond.stringRef "WeekBankModel" (177 : Nat) "early") ∈ lw_tbl := tb_5 (List.mem_of_getElem? (i := 97) rfl)
theorem wt_5_98 : (Jvm.Cond.stringRef "WeekBankModel" (179 : Nat) "heirs") ∈ lw_tbl := tb_5 (List.mem_of_getElem? (i := 98) rfl)
theorem wd_5_99 : (Jvm.Cond.methodLink "WeekBankModel" (163 : Nat) ({ cls := "WeekBankModel", name := "fails", desc := "(I)V" } : Jvm.MethodName)) ∈ AL := al (tb_5 (List.mem_of_getElem? (i := 99) rfl)) rfl
theorem wd_5_101 : (Jvm.Cond.instanceMethod ({ cls := "WeekBankModel", name := "fails", desc := "(I)V" } : Jvm.MethodName)) ∈ AL := al (tb_5 (List.mem_of_getElem? (i := 101) rfl)) rfl
theorem wd_5_102 : (Jvm.Cond.code ({ cls := "WeekBankModel", name := "fails", desc := "(I)V" } : Jvm.MethodName) prog_11_method_16_code (2 : Nat) (Option.none : Option Jvm.ClassFile.FieldType)) ∈ AL := al (tb_5 (List.mem_of_getElem? (i := 102) rfl)) rfl
theorem wt_5_103 : (Jvm.Cond.stringRef "WeekBankModel" (184 : Nat) "bound") ∈ lw_tbl := tb_5 (List.mem_of_getElem? (i := 103) rfl)
theorem wt_5_104 : (Jvm.Cond.stringRef "WeekBankModel" (186 : Nat) "free") ∈ lw_tbl := tb_5 (List.mem_of_getElem? (i := 104) rfl)
theorem wd_5_105 : (Jvm.Cond.methodLink "WeekBankModel" (188 : Nat) ({ cls := "WeekBankModel", name := "number", desc := "(II)I" } : Jvm.MethodName)) ∈ AL := al (tb_5 (List.mem_of_getElem? (i := 105) rfl)) rfl
theorem wd_5_107 : (Jvm.Cond.instanceMethod ({ cls := "WeekBankModel", name := "number", desc := "(II)I" } : Jvm.MethodName)) ∈ AL := al (tb_5 (List.mem_of_getElem? (i := 107) rfl)) rfl
theorem wd_5_108 : (Jvm.Cond.code ({ cls := "WeekBankModel", name := "number", desc := "(II)I" } : Jvm.MethodName) prog_11_method_17_code (4 : Nat) (Option.some Jvm.ClassFile.FieldType.int)) ∈ AL := al (tb_5 (List.mem_of_getElem? (i := 108) rfl)) rfl
theorem wd_5_109 : (Jvm.Cond.methodLink "WeekBankLaw" (50 : Nat) ({ cls := "WeekBankModel", name := "place", desc := "()I" } : Jvm.MethodName)) ∈ AL := al (tb_5 (List.mem_of_getElem? (i := 109) rfl)) rfl
theorem wd_5_110 : (Jvm.Cond.instanceMethod ({ cls := "WeekBankModel", name := "place", desc := "()I" } : Jvm.MethodName)) ∈ AL := al (tb_5 (List.mem_of_getElem? (i := 110) rfl)) rfl
theorem wd_5_111 : (Jvm.Cond.selects "WeekBankModel" ({ cls := "WeekBankModel", name := "place", desc := "()I" } : Jvm.MethodName) ({ cls := "WeekBankModel", name := "place", desc := "()I" } : Jvm.MethodName)) ∈ AL := al (tb_5 (List.mem_of_getElem? (i := 111) rfl)) rfl
theorem wd_5_112 : (Jvm.Cond.code ({ cls := "WeekBankModel", name := "place", desc := "()I" } : Jvm.MethodName) prog_11_method_20_code (1 : Nat) (Option.some Jvm.ClassFile.FieldType.int)) ∈ AL := al (tb_5 (List.mem_of_getElem? (i := 112) rfl)) rfl
theorem wd_5_113 : (Jvm.Cond.methodLink "WeekBankLaw" (54 : Nat) ({ cls := "WeekBankModel", name := "worth", desc := "(II)I" } : Jvm.MethodName)) ∈ AL := al (tb_5 (List.mem_of_getElem? (i := 113) rfl)) rfl
theorem wd_5_114 : (Jvm.Cond.instanceMethod ({ cls := "WeekBankModel", name := "worth", desc := "(II)I" } : Jvm.MethodName)) ∈ AL := al (tb_5 (List.mem_of_getElem? (i := 114) rfl)) rfl
theorem wd_5_115 : (Jvm.Cond.selects "WeekBankModel" ({ cls := "WeekBankModel", name := "worth", desc := "(II)I" } : Jvm.MethodName) ({ cls := "WeekBankModel", name := "worth", desc := "(II)I" } : Jvm.MethodName)) ∈ AL := al (tb_5 (List.mem_of_getElem? (i := 115) rfl)) rfl
theorem wd_5_116 : (Jvm.Cond.code ({ cls := "WeekBankModel", name := "worth", desc := "(II)I" } : Jvm.MethodName) prog_11_method_23_code (3 : Nat) (Option.some Jvm.ClassFile.FieldType.int)) ∈ AL := al (tb_5 (List.mem_of_getElem? (i := 116) rfl)) rfl
theorem wd_5_117 : (Jvm.Cond.methodLink "WeekBankModel" (200 : Nat) ({ cls := "WeekBankModel", name := "worthOf", desc := "(II)I" } : Jvm.MethodName)) ∈ AL := al (tb_5 (List.mem_of_getElem? (i := 117) rfl)) rfl
theorem wd_5_119 : (Jvm.Cond.instanceMethod ({ cls := "WeekBankModel", name := "worthOf", desc := "(II)I" } : Jvm.MethodName)) ∈ AL := al (tb_5 (List.mem_of_getElem? (i := 119) rfl)) rfl
theorem wd_5_120 : (Jvm.Cond.code ({ cls := "WeekBankModel", name := "worthOf", desc := "(II)I" } : Jvm.MethodName) prog_11_method_22_code (10 : Nat) (Option.some Jvm.ClassFile.FieldType.int)) ∈ AL := al (tb_5 (List.mem_of_getElem? (i := 120) rfl)) rfl
theorem wd_5_121 : (Jvm.Cond.methodLink "WeekBankLaw" (59 : Nat) ({ cls := "WeekBankModel", name := "give", desc := "(III)I" } : Jvm.MethodName)) ∈ AL := al (tb_5 (List.mem_of_getElem? (i := 121) rfl)) rfl
theorem wd_5_122 : (Jvm.Cond.instanceMethod ({ cls := "WeekBankModel", name := "give", desc := "(III)I" } : Jvm.MethodName)) ∈ AL := al (tb_5 (List.mem_of_getElem? (i := 122) rfl)) rfl
theorem wd_5_123 : (Jvm.Cond.selects "WeekBankModel" ({ cls := "WeekBankModel", name := "give", desc := "(III)I" } : Jvm.MethodName) ({ cls := "WeekBankModel", name := "give", desc := "(III)I" } : Jvm.MethodName)) ∈ AL := al (tb_5 (List.mem_of_getElem? (i := 123) rfl)) rfl
theorem wd_5_124 : (Jvm.Cond.code ({ cls := "WeekBankModel", name := "give", desc := "(III)I" } : Jvm.MethodName) prog_11_method_26_code (5 : Nat) (Option.some Jvm.ClassFile.FieldType.int)) ∈ AL := al (tb_5 (List.mem_of_getElem? (i := 124) rfl)) rfl
theorem wd_5_125 : (Jvm.Cond.methodLink "WeekBankModel" (209 : Nat) ({ cls := "WeekBankModel", name := "many", desc := "(I)I" } : Jvm.MethodName)) ∈ AL := al (tb_5 (List.mem_of_getElem? (i := 125) rfl)) rfl
theorem wd_5_127 : (Jvm.Cond.instanceMethod ({ cls := "WeekBankModel", name := "many", desc := "(I)I" } : Jvm.MethodName)) ∈ AL := al (tb_5 (List.mem_of_getElem? (i := 127) rfl)) rfl
theorem wd_5_128 : (Jvm.Cond.code ({ cls := "WeekBankModel", name := "many", desc := "(I)I" } : Jvm.MethodName) prog_11_method_25_code (4 : Nat) (Option.some Jvm.ClassFile.FieldType.int)) ∈ AL := al (tb_5 (List.mem_of_getElem? (i := 128) rfl)) rfl
theorem wd_5_129 : (Jvm.Cond.methodLink "WeekBankLaw" (64 : Nat) ({ cls := "WeekBankModel", name := "wish", desc := "(IIIII)Z" } : Jvm.MethodName)) ∈ AL := al (tb_5 (List.mem_of_getElem? (i := 129) rfl)) rfl
theorem wd_5_130 : (Jvm.Cond.instanceMethod ({ cls := "WeekBankModel", name := "wish", desc := "(IIIII)Z" } : Jvm.MethodName)) ∈ AL := al (tb_5 (List.mem_of_getElem? (i := 130) rfl)) rfl
theorem wd_5_131 : (Jvm.Cond.selects "WeekBankModel" ({ cls := "WeekBankModel", name := "wish", desc := "(IIIII)Z" } : Jvm.MethodName) ({ cls := "WeekBankModel", name := "wish", desc := "(IIIII)Z" } : Jvm.MethodName)) ∈ AL := al (tb_5 (List.mem_of_getElem? (i := 131) rfl)) rfl
theorem wd_5_132 : (Jvm.Cond.code ({ cls := "WeekBankModel", name := "wish", desc := "(IIIII)Z" } : Jvm.MethodName) prog_11_method_29_code (6 : Nat) (Option.some Jvm.ClassFile.FieldType.boolean)) ∈ AL := al (tb_5 (List.mem_of_getElem? (i := 132) rfl)) rfl
theorem wd_5_133 : (Jvm.Cond.methodLink "WeekBankModel" (212 : Nat) ({ cls := "WeekBankModel", name := "isGift", desc := "(II)Z" } : Jvm.MethodName)) ∈ AL := al (tb_5 (List.mem_of_getElem? (i := 133) rfl)) rfl
theorem wd_5_135 : (Jvm.Cond.instanceMethod ({ cls := "WeekBankModel", name := "isGift", desc := "(II)Z" } : Jvm.MethodName)) ∈ AL := al (tb_5 (List.mem_of_getElem? (i := 135) rfl)) rfl
theorem wd_5_136 : (Jvm.Cond.code ({ cls := "WeekBankModel", name := "isGift", desc := "(II)Z" } : Jvm.MethodName) prog_11_method_27_code (3 : Nat) (Option.some Jvm.ClassFile.FieldType.boolean)) ∈ AL := al (tb_5 (List.mem_of_getElem? (i := 136) rfl)) rfl
theorem wd_5_137 : (Jvm.Cond.methodLink "WeekBankModel" (215 : Nat) ({ cls := "WeekBankModel", name := "wishes", desc := "(IIIII)Z" } : Jvm.MethodName)) ∈ AL := al (tb_5 (List.mem_of_getElem? (i := 137) rfl)) rfl
theorem wd_5_139 : (Jvm.Cond.instanceMethod ({ cls := "WeekBankModel", name := "wishes", desc := "(IIIII)Z" } : Jvm.MethodName)) ∈ AL := al (tb_5 (List.mem_of_getElem? (i := 139) rfl)) rfl
theorem wd_5_140 : (Jvm.Cond.code ({ cls := "WeekBankModel", name := "wishes", desc := "(IIIII)Z" } : Jvm.MethodName) prog_11_method_28_code (6 : Nat) (Option.some Jvm.ClassFile.FieldType.boolean)) ∈ AL := al (tb_5 (List.mem_of_getElem? (i := 140) rfl)) rfl
theorem wd_5_141 : (Jvm.Cond.methodLink "WeekBankLaw" (68 : Nat) ({ cls := "WeekBankModel", name := "rushWish", desc := "(IIIII)Z" } : Jvm.MethodName)) ∈ AL := al (tb_5 (List.mem_of_getElem? (i := 141) rfl)) rfl
theorem wd_5_142 : (Jvm.Cond.instanceMethod ({ cls := "WeekBankModel", name := "rushWish", desc := "(IIIII)Z" } : Jvm.MethodName)) ∈ AL := al (tb_5 (List.mem_of_getElem? (i := 142) rfl)) rfl
theorem wd_5_143 : (Jvm.Cond.selects "WeekBankModel" ({ cls := "WeekBankModel", name := "rushWish", desc := "(IIIII)Z" } : Jvm.MethodName) ({ cls := "WeekBankModel", name := "rushWish", desc := "(IIIII)Z" } : Jvm.MethodName)) ∈ AL := al (tb_5 (List.mem_of_getElem? (i := 143) rfl)) rfl
theorem wd_5_144 : (Jvm.Cond.code ({ cls := "WeekBankModel", name := "rushWish", desc := "(IIIII)Z" } : Jvm.MethodName) prog_11_method_30_code (6 : Nat) (Option.some Jvm.ClassFile.FieldType.boolean)) ∈ AL := al (tb_5 (List.mem_of_getElem? (i := 144) rfl)) rfl
theorem wd_5_145 : (Jvm.Cond.methodLink "WeekBankLaw" (72 : Nat) ({ cls := "WeekBankModel", name := "rings", desc := "(I)I" } : Jvm.MethodName)) ∈ AL := al (tb_5 (List.mem_of_getElem? (i := 145) rfl)) rfl
theorem wd_5_146 : (Jvm.Cond.instanceMethod ({ cls := "WeekBankModel", name := "rings", desc := "(I)I" } : Jvm.MethodName)) ∈ AL := al (tb_5 (List.mem_of_getElem? (i := 146) rfl)) rfl
theorem wd_5_147 : (Jvm.Cond.selects "WeekBankModel" ({ cls := "WeekBankModel", name := "rings", desc := "(I)I" } : Jvm.MethodName) ({ cls := "WeekBankModel", name := "rings", desc := "(I)I" } : Jvm.MethodName)) ∈ AL := al (tb_5 (List.mem_of_getElem? (i := 147) rfl)) rfl
theorem wd_5_148 : (Jvm.Cond.code ({ cls := "WeekBankModel", name := "rings", desc := "(I)I" } : Jvm.MethodName) prog_11_method_35_code (7 : Nat) (Option.some Jvm.ClassFile.FieldType.int)) ∈ AL := al (tb_5 (List.mem_of_getElem? (i := 148) rfl)) rfl
theorem wd_5_149 : (Jvm.Cond.methodLink "WeekBankModel" (240 : Nat) ({ cls := "WeekBankModel", name := "chooses", desc := "(IIII)V" } : Jvm.MethodName)) ∈ AL := al (tb_5 (List.mem_of_getElem? (i := 149) rfl)) rfl
theorem wd_5_151 : (Jvm.Cond.instanceMethod ({ cls := "WeekBankModel", name := "chooses", desc := "(IIII)V" } : Jvm.MethodName)) ∈ AL := al (tb_5 (List.mem_of_getElem? (i := 151) rfl)) rfl
theorem wd_5_152 : (Jvm.Cond.code ({ cls := "WeekBankModel", name := "chooses", desc := "(IIII)V" } : Jvm.MethodName) prog_11_method_33_code (8 : Nat) (Option.none : Option Jvm.ClassFile.FieldType)) ∈ AL := al (tb_5 (List.mem_of_getElem? (i := 152) rfl)) rfl
theorem wd_5_153 : (Jvm.Cond.methodLink "WeekBankModel" (231 : Nat) ({ cls := "WeekBankModel", name := "meets", desc := "(II)Z" } : Jvm.MethodName)) ∈ AL := al (tb_5 (List.mem_of_getElem? (i := 153) rfl)) rfl
theorem wd_5_155 : (Jvm.Cond.instanceMethod ({ cls := "WeekBankModel", name := "meets", desc := "(II)Z" } : Jvm.MethodName)) ∈ AL := al (tb_5 (List.mem_of_getElem? (i := 155) rfl)) rfl
theorem wd_5_156 : (Jvm.Cond.code ({ cls := "WeekBankModel", name := "meets", desc := "(II)Z" } : Jvm.MethodName) prog_11_method_31_code (4 : Nat) (Option.some Jvm.ClassFile.FieldType.boolean)) ∈ AL := al (tb_5 (List.mem_of_getElem? (i := 156) rfl)) rfl
theorem wd_5_157 : (Jvm.Cond.methodLink "WeekBankModel" (234 : Nat) ({ cls := "WeekBankModel", name := "isShort", desc := "(I)Z" } : Jvm.MethodName)) ∈ AL := al (tb_5 (List.mem_of_getElem? (i := 157) rfl)) rfl
theorem wd_5_159 : (Jvm.Cond.instanceMethod ({ cls := "WeekBankModel", name := "isShort", desc := "(I)Z" } : Jvm.MethodName)) ∈ AL := al (tb_5 (List.mem_of_getElem? (i := 159) rfl)) rfl
theorem wd_5_160 : (Jvm.Cond.code ({ cls := "WeekBankModel", name := "isShort", desc := "(I)Z" } : Jvm.MethodName) prog_11_method_32_code (4 : Nat) (Option.some Jvm.ClassFile.FieldType.boolean)) ∈ AL := al (tb_5 (List.mem_of_getElem? (i := 160) rfl)) rfl
theorem wd_5_161 : (Jvm.Cond.methodLink "WeekBankModel" (237 : Nat) ({ cls := "WeekBankModel", name := "isEven", desc := "(I)Z" } : Jvm.MethodName)) ∈ AL := al (tb_5 (List.mem_of_getElem? (i := 161) rfl)) rfl
theorem wd_5_163 : (Jvm.Cond.instanceMethod ({ cls := "WeekBankModel", name := "isEven", desc := "(I)Z" } : Jvm.MethodName)) ∈ AL := al (tb_5 (List.mem_of_getElem? (i := 163) rfl)) rfl
theorem wd_5_164 : (Jvm.Cond.code ({ cls := "WeekBankModel", name := "isEven", desc := "(I)Z" } : Jvm.MethodName) prog_11_method_34_code (7 : Nat) (Option.some Jvm.ClassFile.FieldType.boolean)) ∈ AL := al (tb_5 (List.mem_of_getElem? (i := 164) rfl)) rfl
theorem wd_5_165 : (Jvm.Cond.methodLink "WeekBankLaw" (76 : Nat) ({ cls := "WeekBankModel", name := "bank", desc := "(I)I" } : Jvm.MethodName)) ∈ AL := al (tb_5 (List.mem_of_getElem? (i := 165) rfl)) rfl
theorem wd_5_166 : (Jvm.Cond.instanceMethod ({ cls := "WeekBankModel", name := "bank", desc := "(I)I" } : Jvm.MethodName)) ∈ AL := al (tb_5 (List.mem_of_getElem? (i := 166) rfl)) rfl
theorem wd_5_167 : (Jvm.Cond.selects "WeekBankModel" ({ cls := "WeekBankModel", name := "bank", desc := "(I)I" } : Jvm.MethodName) ({ cls := "WeekBankModel", name := "bank", desc := "(I)I" } : Jvm.MethodName)) ∈ AL := al (tb_5 (List.mem_of_getElem? (i := 167) rfl)) rfl
theorem wd_5_168 : (Jvm.Cond.code ({ cls := "WeekBankModel", name := "bank", desc := "(I)I" } : Jvm.MethodName) prog_11_method_36_code (2 : Nat) (Option.some Jvm.ClassFile.FieldType.int)) ∈ AL := al (tb_5 (List.mem_of_getElem? (i := 168) rfl)) rfl
theorem wd_5_169 : (Jvm.Cond.methodLink "WeekBankLaw" (80 : Nat) ({ cls := "WeekBankModel", name := "take", desc := "(II)I" } : Jvm.MethodName)) ∈ AL := al (tb_5 (List.mem_of_getElem? (i := 169) rfl)) rfl
theorem wd_5_170 : (Jvm.Cond.instanceMethod ({ cls := "WeekBankModel", name := "take", desc := "(II)I" } : Jvm.MethodName)) ∈ AL := al (tb_5 (List.mem_of_getElem? (i := 170) rfl)) rfl
theorem wd_5_171 : (Jvm.Cond.selects "WeekBankModel" ({ cls := "WeekBankModel", name := "take", desc := "(II)I" } : Jvm.MethodName) ({ cls := "WeekBankModel", name := "take", desc := "(II)I" } : Jvm.MethodName)) ∈ AL := al (tb_5 (List.mem_of_getElem? (i := 171) rfl)) rfl
theorem wd_5_172 : (Jvm.Cond.code ({ cls := "WeekBankModel", name := "take", desc := "(II)I" } : Jvm.MethodName) prog_11_method_38_code (3 : Nat) (Option.some Jvm.ClassFile.FieldType.int)) ∈ AL := al (tb_5 (List.mem_of_getElem? (i := 172) rfl)) rfl
theorem wd_5_173 : (Jvm.Cond.methodLink "WeekBankModel" (244 : Nat) ({ cls := "WeekBankModel", name := "goesTo", desc := "(II)V" } : Jvm.MethodName)) ∈ AL := al (tb_5 (List.mem_of_getElem? (i := 173) rfl)) rfl
theorem wd_5_175 : (Jvm.Cond.instanceMethod ({ cls := "WeekBankModel", name := "goesTo", desc := "(II)V" } : Jvm.MethodName)) ∈ AL := al (tb_5 (List.mem_of_getElem? (i := 175) rfl)) rfl
theorem wd_5_176 : (Jvm.Cond.code ({ cls := "WeekBankModel", name := "goesTo", desc := "(II)V" } : Jvm.MethodName) prog_11_method_37_code (3 : Nat) (Option.none : Option Jvm.ClassFile.FieldType)) ∈ AL := al (tb_5 (List.mem_of_getElem? (i := 176) rfl)) rfl
theorem wd_5_177 : (Jvm.Cond.methodLink "WeekBankLaw" (84 : Nat) ({ cls := "WeekBankModel", name := "rush", desc := "()I" } : Jvm.MethodName)) ∈ AL := al (tb_5 (List.mem_of_getElem? (i := 177) rfl)) rfl
theorem wd_5_178 : (Jvm.Cond.instanceMethod ({ cls := "WeekBankModel", name := "rush", desc := "()I" } : Jvm.MethodName)) ∈ AL := al (tb_5 (List.mem_of_getElem? (i := 178) rfl)) rfl
theorem wd_5_179 : (Jvm.Cond.selects "WeekBankModel" ({ cls := "WeekBankModel", name := "rush", desc := "()I" } : Jvm.MethodName) ({ cls := "WeekBankModel", name := "rush", desc := "()I" } : Jvm.MethodName)) ∈ AL := al (tb_5 (List.mem_of_getElem? (i := 179) rfl)) rfl
theorem wd_5_180 : (Jvm.Cond.code ({ cls := "WeekBankModel", name := "rush", desc := "()I" } : Jvm.MethodName) prog_11_method_40_code (5 : Nat) (Option.some Jvm.ClassFile.FieldType.int)) ∈ AL := al (tb_5 (List.mem_of_getElem? (i := 180) rfl)) rfl
theorem wd_5_181 : (Jvm.Cond.methodLink "WeekBankModel" (248 : Nat) ({ cls := "WeekBankModel", name := "nextInRush", desc := "()I" } : Jvm.MethodName)) ∈ AL := al (tb_5 (List.mem_of_getElem? (i := 181) rfl)) rfl
theorem wd_5_183 : (Jvm.Cond.instanceMethod ({ cls := "WeekBankModel", name := "nextInRush", desc := "()I" } : Jvm.MethodName)) ∈ AL := al (tb_5 (List.mem_of_getElem? (i := 183) rfl)) rfl
theorem wd_5_184 : (Jvm.Cond.code ({ cls := "WeekBankModel", name := "nextInRush", desc := "()I" } : Jvm.MethodName) prog_11_method_39_code (3 : Nat) (Option.some Jvm.ClassFile.FieldType.int)) ∈ AL := al (tb_5 (List.mem_of_getElem? (i := 184) rfl)) rfl
theorem wd_5_185 : (Jvm.Cond.methodLink "WeekBankLaw" (88 : Nat) ({ cls := "WeekBankModel", name := "shut", desc := "(III)I" } : Jvm.MethodName)) ∈ AL := al (tb_5 (List.mem_of_getElem? (i := 185) rfl)) rfl
theorem wd_5_186 : (Jvm.Cond.instanceMethod ({ cls := "WeekBankModel", name := "shut", desc := "(III)I" } : Jvm.MethodName)) ∈ AL := al (tb_5 (List.mem_of_getElem? (i := 186) rfl)) rfl
theorem wd_5_187 : (Jvm.Cond.selects "WeekBankModel" ({ cls := "WeekBankModel", name := "shut", desc := "(III)I" } : Jvm.MethodName) ({ cls := "WeekBankModel", name := "shut", desc := "(III)I" } : Jvm.MethodName)) ∈ AL := al (tb_5 (List.mem_of_getElem? (i := 187) rfl)) rfl
theorem wd_5_188 : (Jvm.Cond.code ({ cls := "WeekBankModel", name := "shut", desc := "(III)I" } : Jvm.MethodName) prog_11_method_41_code (6 : Nat) (Option.some Jvm.ClassFile.FieldType.int)) ∈ AL := al (tb_5 (List.mem_of_getElem? (i := 188) rfl)) rfl
theorem wd_5_189 : (Jvm.Cond.methodLink "WeekBankModel" (251 : Nat) ({ cls := "java/lang/Math", name := "max", desc := "(II)I" } : Jvm.MethodName)) ∈ AL := al (tb_5 (List.mem_of_getElem? (i := 189) rfl)) rfl
theorem wd_5_190 : (Jvm.Cond.methodLink "WeekBankLaw" (92 : Nat) ({ cls := "WeekBankModel", name := "weeks", desc := "(I)I" } : Jvm.MethodName)) ∈ AL := al (tb_5 (List.mem_of_getElem? (i := 190) rfl)) rfl
theorem wd_5_191 : (Jvm.Cond.instanceMethod ({ cls := "WeekBankModel", name := "weeks", desc := "(I)I" } : Jvm.MethodName)) ∈ AL := al (tb_5 (List.mem_of_getElem? (i := 191) rfl)) rfl
theorem wd_5_192 : (Jvm.Cond.selects "WeekBankModel" ({ cls := "WeekBankModel", name := "weeks", desc := "(I)I" } : Jvm.MethodName) ({ cls := "WeekBankModel", name := "weeks", desc := "(I)I" } : Jvm.MethodName)) ∈ AL := al (tb_5 (List.mem_of_getElem? (i := 192) rfl)) rfl
theorem wd_5_193 : (Jvm.Cond.code ({ cls := "WeekBankModel", name := "weeks", desc := "(I)I" } : Jvm.MethodName) prog_11_method_43_code (2 : Nat) (Option.some Jvm.ClassFile.FieldType.int)) ∈ AL := al (tb_5 (List.mem_of_getElem? (i := 193) rfl)) rfl
theorem wd_5_194 : (Jvm.Cond.methodLink "WeekBankModel" (256 : Nat) ({ cls := "WeekBankModel", name := "passes", desc := "(I)V" } : Jvm.MethodName)) ∈ AL := al (tb_5 (List.mem_of_getElem? (i := 194) rfl)) rfl
theorem wd_5_196 : (Jvm.Cond.instanceMethod ({ cls := "WeekBankModel", name := "passes", desc := "(I)V" } : Jvm.MethodName)) ∈ AL := al (tb_5 (List.mem_of_getElem? (i := 196) rfl)) rfl
theorem wd_5_197 : (Jvm.Cond.code ({ cls := "WeekBankModel", name := "passes", desc := "(I)V" } : Jvm.MethodName) prog_11_method_42_code (3 : Nat) (Option.none : Option Jvm.ClassFile.FieldType)) ∈ AL := al (tb_5 (List.mem_of_getElem? (i := 197) rfl)) rfl
theorem wd_5_198 : (Jvm.Cond.methodLink "WeekBankLaw" (96 : Nat) ({ cls := "WeekBankModel", name := "year", desc := "()I" } : Jvm.MethodName)) ∈ AL := al (tb_5 (List.mem_of_getElem? (i := 198) rfl)) rfl
theorem wd_5_199 : (Jvm.Cond.instanceMethod ({ cls := "WeekBankModel", name := "year", desc := "()I" } : Jvm.MethodName)) ∈ AL := al (tb_5 (List.mem_of_getElem? (i := 199) rfl)) rfl
theorem wd_5_200 : (Jvm.Cond.selects "WeekBankModel" ({ cls := "WeekBankModel", name := "year", desc := "()I" } : Jvm.MethodName) ({ cls := "WeekBankModel", name := "year", desc := "()I" } : Jvm.MethodName)) ∈ AL := al (tb_5 (List.mem_of_getElem? (i := 200) rfl)) rfl
theorem wd_5_201 : (Jvm.Cond.code ({ cls := "WeekBankModel", name := "year", desc := "()I" } : Jvm.MethodName) prog_11_method_44_code (2 : Nat) (Option.some Jvm.ClassFile.FieldType.int)) ∈ AL := al (tb_5 (List.mem_of_getElem? (i := 201) rfl)) rfl
theorem wd_5_202 : (Jvm.Cond.methodLink "WeekBankLaw" (101 : Nat) ({ cls := "WeekBankModel", name := "dies", desc := "(IIZ)I" } : Jvm.MethodName)) ∈ AL := al (tb_5 (List.mem_of_getElem? (i := 202) rfl)) rfl
theorem wd_5_203 : (Jvm.Cond.instanceMethod ({ cls := "WeekBankModel", name := "dies", desc := "(IIZ)I" } : Jvm.MethodName)) ∈ AL := al (tb_5 (List.mem_of_getElem? (i := 203) rfl)) rfl
theorem wd_5_204 : (Jvm.Cond.selects "WeekBankModel" ({ cls := "WeekBankModel", name := "dies", desc := "(IIZ)I" } : Jvm.MethodName) ({ cls := "WeekBankModel", name := "dies", desc := "(IIZ)I" } : Jvm.MethodName)) ∈ AL := al (tb_5 (List.mem_of_getElem? (i := 204) rfl)) rfl
theorem wd_5_205 : (Jvm.Cond.code ({ cls := "WeekBankModel", name := "dies", desc := "(IIZ)I" } : Jvm.MethodName) prog_11_method_46_code (7 : Nat) (Option.some Jvm.ClassFile.FieldType.int)) ∈ AL := al (tb_5 (List.mem_of_getElem? (i := 205) rfl)) rfl
theorem wd_5_206 : (Jvm.Cond.methodLink "WeekBankModel" (259 : Nat) ({ cls := "WeekBankModel", name := "isBound", desc := "()Z" } : Jvm.MethodName)) ∈ AL := al (tb_5 (List.mem_of_getElem? (i := 206) rfl)) rfl
theorem wd_5_208 : (Jvm.Cond.instanceMethod ({ cls := "WeekBankModel", name := "isBound", desc := "()Z" } : Jvm.MethodName)) ∈ AL := al (tb_5 (List.mem_of_getElem? (i := 208) rfl)) rfl
theorem wd_5_209 : (Jvm.Cond.code ({ cls := "WeekBankModel", name := "isBound", desc := "()Z" } : Jvm.MethodName) prog_11_method_21_code (3 : Nat) (Option.some Jvm.ClassFile.FieldType.boolean)) ∈ AL := al (tb_5 (List.mem_of_getElem? (i := 209) rfl)) rfl
theorem wd_5_210 : (Jvm.Cond.methodLink "WeekBankLaw" (105 : Nat) ({ cls := "WeekBankModel", name := "fees", desc := "(II)I" } : Jvm.MethodName)) ∈ AL := al (tb_5 (List.mem_of_getElem? (i := 210) rfl)) rfl
theorem wd_5_211 : (Jvm.Cond.instanceMethod ({ cls := "WeekBankModel", name := "fees", desc := "(II)I" } : Jvm.MethodName)) ∈ AL := al (tb_5 (List.mem_of_getElem? (i := 211) rfl)) rfl
theorem wd_5_212 : (Jvm.Cond.selects "WeekBankModel" ({ cls := "WeekBankModel", name := "fees", desc := "(II)I" } : Jvm.MethodName) ({ cls := "WeekBankModel", name := "fees", desc := "(II)I" } : Jvm.MethodName)) ∈ AL := al (tb_5 (List.mem_of_getElem? (i := 212) rfl)) rfl
theorem wd_5_213 : (Jvm.Cond.code ({ cls := "WeekBankModel", name := "fees", desc := "(II)I" } : Jvm.MethodName) prog_11_method_48_code (8 : Nat) (Option.some Jvm.ClassFile.FieldType.int)) ∈ AL := al (tb_5 (List.mem_of_getElem? (i := 213) rfl)) rfl
theorem wd_5_214 : (Jvm.Cond.constant "WeekBankModel" (266 : Nat) (999999 : Int32)) ∈ AL := al (tb_5 (List.mem_of_getElem? (i := 214) rfl)) rfl
theorem wd_5_215 : (Jvm.Cond.methodLink "WeekBankModel" (263 : Nat) ({ cls := "WeekBankModel", name := "owned", desc := "(I)I" } : Jvm.MethodName)) ∈ AL := al (tb_5 (List.mem_of_getElem? (i := 215) rfl)) rfl
theorem wd_5_217 : (Jvm.Cond.instanceMethod ({ cls := "WeekBankModel", name := "owned", desc := "(I)I" } : Jvm.MethodName)) ∈ AL := al (tb_5 (List.mem_of_getElem? (i := 217) rfl)) rfl
theorem wd_5_218 : (Jvm.Cond.code ({ cls := "WeekBankModel", name := "owned", desc := "(I)I" } : Jvm.MethodName) prog_11_method_45_code (4 : Nat) (Option.some Jvm.ClassFile.FieldType.int)) ∈ AL := al (tb_5 (List.mem_of_getElem? (i := 218) rfl)) rfl
theorem wd_5_219 : (Jvm.Cond.methodLink "WeekBankModel" (267 : Nat) ({ cls := "WeekBankModel", name := "weeksThatStay", desc := "()I" } : Jvm.MethodName)) ∈ AL := al (tb_5 (List.mem_of_getElem? (i := 219) rfl)) rfl
theorem wd_5_221 : (Jvm.Cond.instanceMethod ({ cls := "WeekBankModel", name := "weeksThatStay", desc := "()I" } : Jvm.MethodName)) ∈ AL := al (tb_5 (List.mem_of_getElem? (i := 221) rfl)) rfl
theorem wd_5_222 : (Jvm.Cond.code ({ cls := "WeekBankModel", name := "weeksThatStay", desc := "()I" } : Jvm.MethodName) prog_11_method_47_code (3 : Nat) (Option.some Jvm.ClassFile.FieldType.int)) ∈ AL := al (tb_5 (List.mem_of_getElem? (i := 222) rfl)) rfl
theorem wd_5_223 : (Jvm.Cond.methodLink "WeekBankLaw" (109 : Nat) ({ cls := "WeekBankModel", name := "party", desc := "(II)I" } : Jvm.MethodName)) ∈ AL := al (tb_5 (List.mem_of_getElem? (i := 223) rfl)) rfl
theorem wd_5_224 : (Jvm.Cond.instanceMethod ({ cls := "WeekBankModel", name := "party", desc := "(II)I" } : Jvm.MethodName)) ∈ AL := al (tb_5 (List.mem_of_getElem? (i := 224) rfl)) rfl
theorem wd_5_225 : (Jvm.Cond.selects "WeekBankModel" ({ cls := "WeekBankModel", name := "party", desc := "(II)I" } : Jvm.MethodName) ({ cls := "WeekBankModel", name := "party", desc := "(II)I" } : Jvm.MethodName)) ∈ AL := al (tb_5 (List.mem_of_getElem? (i := 225) rfl)) rfl
theorem wd_5_226 : (Jvm.Cond.code ({ cls := "WeekBankModel", name := "party", desc := "(II)I" } : Jvm.MethodName) prog_11_method_49_code (4 : Nat) (Option.some Jvm.ClassFile.FieldType.int)) ∈ AL := al (tb_5 (List.mem_of_getElem? (i := 226) rfl)) rfl
theorem wd_5_227 : (Jvm.Cond.methodLink "WeekBankLaw" (115 : Nat) ({ cls := "WeekBankModel", name := "of", desc := "(II)I" } : Jvm.MethodName)) ∈ AL := al (tb_5 (List.mem_of_getElem? (i := 227) rfl)) rfl
theorem wd_5_228 : (Jvm.Cond.instanceMethod ({ cls := "WeekBankModel", name := "of", desc := "(II)I" } : Jvm.MethodName)) ∈ AL := al (tb_5 (List.mem_of_getElem? (i := 228) rfl)) rfl
theorem wd_5_229 : (Jvm.Cond.selects "WeekBankModel" ({ cls := "WeekBankModel", name := "of", desc := "(II)I" } : Jvm.MethodName) ({ cls := "WeekBankModel", name := "of", desc := "(II)I" } : Jvm.MethodName)) ∈ AL := al (tb_5 (List.mem_of_getElem? (i := 229) rfl)) rfl
theorem wd_5_230 : (Jvm.Cond.code ({ cls := "WeekBankModel", name := "of", desc := "(II)I" } : Jvm.MethodName) prog_11_method_50_code (3 : Nat) (Option.some Jvm.ClassFile.FieldType.int)) ∈ AL := al (tb_5 (List.mem_of_getElem? (i := 230) rfl)) rfl
theorem wd_5_231 : (Jvm.Cond.methodLink "WeekBankLaw" (119 : Nat) ({ cls := "WeekBankModel", name := "ownerOf", desc := "(II)I" } : Jvm.MethodName)) ∈ AL := al (tb_5 (List.mem_of_getElem? (i := 231) rfl)) rfl
theorem wd_5_232 : (Jvm.Cond.instanceMethod ({ cls := "WeekBankModel", name := "ownerOf", desc := "(II)I" } : Jvm.MethodName)) ∈ AL := al (tb_5 (List.mem_of_getElem? (i := 232) rfl)) rfl
theorem wd_5_233 : (Jvm.Cond.selects "WeekBankModel" ({ cls := "WeekBankModel", name := "ownerOf", desc := "(II)I" } : Jvm.MethodName) ({ cls := "WeekBankModel", name := "ownerOf", desc := "(II)I" } : Jvm.MethodName)) ∈ AL := al (tb_5 (List.mem_of_getElem? (i := 233) rfl)) rfl
theorem wd_5_234 : (Jvm.Cond.code ({ cls := "WeekBankModel", name := "ownerOf", desc := "(II)I" } : Jvm.MethodName) prog_11_method_51_code (3 : Nat) (Option.some Jvm.ClassFile.FieldType.int)) ∈ AL := al (tb_5 (List.mem_of_getElem? (i := 234) rfl)) rfl
theorem wd_5_235 : (Jvm.Cond.methodLink "WeekBankLaw" (123 : Nat) ({ cls := "WeekBankModel", name := "count", desc := "(I)I" } : Jvm.MethodName)) ∈ AL := al (tb_5 (List.mem_of_getElem? (i := 235) rfl)) rfl
theorem wd_5_236 : (Jvm.Cond.instanceMethod ({ cls := "WeekBankModel", name := "count", desc := "(I)I" } : Jvm.MethodName)) ∈ AL := al (tb_5 (List.mem_of_getElem? (i := 236) rfl)) rfl
theorem wd_5_237 : (Jvm.Cond.selects "WeekBankModel" ({ cls := "WeekBankModel", name := "count", desc := "(I)I" } : Jvm.MethodName) ({ cls := "WeekBankModel", name := "count", desc := "(I)I" } : Jvm.MethodName)) ∈ AL := al (tb_5 (List.mem_of_getElem? (i := 237) rfl)) rfl
theorem wd_5_238 : (Jvm.Cond.code ({ cls := "WeekBankModel", name := "count", desc := "(I)I" } : Jvm.MethodName) prog_11_method_52_code (4 : Nat) (Option.some Jvm.ClassFile.FieldType.int)) ∈ AL := al (tb_5 (List.mem_of_getElem? (i := 238) rfl)) rfl
theorem wd_5_239 : (Jvm.Cond.arrayClass Jvm.ClassFile.FieldType.long) ∈ AL := al (tb_5 (List.mem_of_getElem? (i := 239) rfl)) rfl
theorem wt_6_0 : (Jvm.Cond.sameMethod "java/lang/Throwable" "java/lang/Throwable" "fillInStackTrace" "(I)Ljava/lang/Throwable;") ∈ lw_tbl := tb_6 (List.mem_of_getElem? (i := 0) rfl)
theorem wt_6_1 : (Jvm.Cond.castable "WeekBank" "java/lang/Object") ∈ lw_tbl := tb_6 (List.mem_of_getElem? (i := 1) rfl)
theorem wt_6_2 : (Jvm.Cond.castable "WeekBank$Reader" "java/lang/Object") ∈ lw_tbl := tb_6 (List.mem_of_getElem? (i := 2) rfl)
theorem wt_6_3 : (Jvm.Cond.castable "WeekBank$Rules" "java/lang/Object") ∈ lw_tbl := tb_6 (List.mem_of_getElem? (i := 3) rfl)
theorem wt_6_4 : (Jvm.Cond.castable "WeekBank$RingSearch" "java/lang/Object") ∈ lw_tbl := tb_6 (List.mem_of_getElem? (i := 4) rfl)
theorem wt_6_5 : (Jvm.Cond.castable "WeekBank$FeeRounds" "java/lang/Object") ∈ lw_tbl := tb_6 (List.mem_of_getElem? (i := 5) rfl)
theorem wt_6_6 : (Jvm.Cond.castable "WeekBankModel" "java/lang/Object") ∈ lw_tbl := tb_6 (List.mem_of_getElem? (i := 6) rfl)
theorem wt_6_7 : (Jvm.Cond.castable "WeekBank$Flat" "java/lang/Object") ∈ lw_tbl := tb_6 (List.mem_of_getElem? (i := 7) rfl)
theorem wt_6_8 : (Jvm.Cond.castable "WeekBank$Owner" "java/lang/Object") ∈ lw_tbl := tb_6 (List.mem_of_getElem? (i := 8) rfl)
theorem wt_6_9 : (Jvm.Cond.castable "WeekBank$Gift" "java/lang/Object") ∈ lw_tbl := tb_6 (List.mem_of_getElem? (i := 9) rfl)
theorem wt_6_10 : (Jvm.Cond.castable "WeekBank$Wish" "java/lang/Object") ∈ lw_tbl := tb_6 (List.mem_of_getElem? (i := 10) rfl)
theorem wt_6_11 : (Jvm.Cond.castable "java/util/NoSuchElementException" "java/lang/Object") ∈ lw_tbl := tb_6 (List.mem_of_getElem? (i := 11) rfl)
theorem wt_6_12 : (Jvm.Cond.castable "java/lang/Throwable" "java/lang/Object") ∈ lw_tbl := tb_6 (List.mem_of_getElem? (i := 12) rfl)
theorem wt_6_13 : (Jvm.Cond.castable "java/lang/String" "java/lang/Object") ∈ lw_tbl := tb_6 (List.mem_of_getElem? (i := 13) rfl)
theorem wd_6_14 : (Jvm.Cond.fieldLink "java/lang/String" (9 : Nat) "java/lang/String" "value" "[B") ∈ AL := al (tb_6 (List.mem_of_getElem? (i := 14) rfl)) rfl
theorem wd_6_15 : (Jvm.Cond.fieldLink "java/lang/String" (15 : Nat) "java/lang/String" "coder" "B") ∈ AL := al (tb_6 (List.mem_of_getElem? (i := 15) rfl)) rfl
theorem ws_0 : Cond.selects (⟨"WeekBank", "flatAt", "(I)LWeekBank$Flat;"⟩ : MethodName).cls ⟨"WeekBank", "flatAt", "(I)LWeekBank$Flat;"⟩ ⟨"WeekBank", "flatAt", "(I)LWeekBank$Flat;"⟩ ∈ AL := al (tb_p (List.mem_of_getElem? (i := 0) rfl)) rfl
theorem ws_1 : Cond.selects (⟨"WeekBank", "livingOwnerAt", "(I)LWeekBank$Owner;"⟩ : MethodName).cls ⟨"WeekBank", "livingOwnerAt", "(I)LWeekBank$Owner;"⟩ ⟨"WeekBank", "livingOwnerAt", "(I)LWeekBank$Owner;"⟩ ∈ AL := al (tb_p (List.mem_of_getElem? (i := 1) rfl)) rfl
theorem ws_2 : Cond.selects (⟨"WeekBank", "ownerAt", "(I)LWeekBank$Owner;"⟩ : MethodName).cls ⟨"WeekBank", "ownerAt", "(I)LWeekBank$Owner;"⟩ ⟨"WeekBank", "ownerAt", "(I)LWeekBank$Owner;"⟩ ∈ AL := al (tb_p (List.mem_of_getElem? (i := 2) rfl)) rfl
theorem ws_3 : Cond.selects (⟨"WeekBank$Reader", "readToken", "()V"⟩ : MethodName).cls ⟨"WeekBank$Reader", "readToken", "()V"⟩ ⟨"WeekBank$Reader", "readToken", "()V"⟩ ∈ AL := al (tb_p (List.mem_of_getElem? (i := 3) rfl)) rfl
theorem ws_4 : Cond.selects (⟨"WeekBank$Reader", "skipLetters", "()V"⟩ : MethodName).cls ⟨"WeekBank$Reader", "skipLetters", "()V"⟩ ⟨"WeekBank$Reader", "skipLetters", "()V"⟩ ∈ AL := al (tb_p (List.mem_of_getElem? (i := 4) rfl)) rfl
theorem ws_5 : Cond.selects (⟨"WeekBank$Reader", "readDigits", "()V"⟩ : MethodName).cls ⟨"WeekBank$Reader", "readDigits", "()V"⟩ ⟨"WeekBank$Reader", "readDigits", "()V"⟩ ∈ AL := al (tb_p (List.mem_of_getElem? (i := 5) rfl)) rfl
theorem ws_6 : Cond.selects (⟨"WeekBank$Reader", "readStatement", "(LWeekBank$Rules;)V"⟩ : MethodName).cls ⟨"WeekBank$Reader", "readStatement", "(LWeekBank$Rules;)V"⟩ ⟨"WeekBank$Reader", "readStatement", "(LWeekBank$Rules;)V"⟩ ∈ AL := al (tb_p (List.mem_of_getElem? (i := 6) rfl)) rfl
theorem ws_7 : Cond.selects (⟨"WeekBank$Reader", "statementKind", "()I"⟩ : MethodName).cls ⟨"WeekBank$Reader", "statementKind", "()I"⟩ ⟨"WeekBank$Reader", "statementKind", "()I"⟩ ∈ AL := al (tb_p (List.mem_of_getElem? (i := 7) rfl)) rfl
theorem ws_8 : Cond.selects (⟨"WeekBank$Reader", "isWord", "(Ljava/lang/String;)Z"⟩ : MethodName).cls ⟨"WeekBank$Reader", "isWord", "(Ljava/lang/String;)Z"⟩ ⟨"WeekBank$Reader", "isWord", "(Ljava/lang/String;)Z"⟩ ∈ AL := al (tb_p (List.mem_of_getElem? (i := 8) rfl)) rfl
theorem ws_9 : Cond.selects (⟨"WeekBank$Reader", "blame", "(I)V"⟩ : MethodName).cls ⟨"WeekBank$Reader", "blame", "(I)V"⟩ ⟨"WeekBank$Reader", "blame", "(I)V"⟩ ∈ AL := al (tb_p (List.mem_of_getElem? (i := 9) rfl)) rfl
theorem ws_10 : Cond.selects (⟨"WeekBank$Reader", "readRest", "(LWeekBank$Rules;I)V"⟩ : MethodName).cls ⟨"WeekBank$Reader", "readRest", "(LWeekBank$Rules;I)V"⟩ ⟨"WeekBank$Reader", "readRest", "(LWeekBank$Rules;I)V"⟩ ∈ AL := al (tb_p (List.mem_of_getElem? (i := 10) rfl)) rfl
theorem ws_11 : Cond.selects (⟨"WeekBank$Reader", "expectNumber", "(II)I"⟩ : MethodName).cls ⟨"WeekBank$Reader", "expectNumber", "(II)I"⟩ ⟨"WeekBank$Reader", "expectNumber", "(II)I"⟩ ∈ AL := al (tb_p (List.mem_of_getElem? (i := 11) rfl)) rfl
theorem ws_12 : Cond.selects (⟨"WeekBank$Reader", "expectBound", "()Z"⟩ : MethodName).cls ⟨"WeekBank$Reader", "expectBound", "()Z"⟩ ⟨"WeekBank$Reader", "expectBound", "()Z"⟩ ∈ AL := al (tb_p (List.mem_of_getElem? (i := 12) rfl)) rfl
theorem ws_13 : Cond.selects (⟨"WeekBank$Reader", "expectSign", "()V"⟩ : MethodName).cls ⟨"WeekBank$Reader", "expectSign", "()V"⟩ ⟨"WeekBank$Reader", "expectSign", "()V"⟩ ∈ AL := al (tb_p (List.mem_of_getElem? (i := 13) rfl)) rfl
theorem ws_14 : Cond.selects (⟨"WeekBank$Rules", "earlyOf", "(I)I"⟩ : MethodName).cls ⟨"WeekBank$Rules", "earlyOf", "(I)I"⟩ ⟨"WeekBank$Rules", "earlyOf", "(I)I"⟩ ∈ AL := al (tb_p (List.mem_of_getElem? (i := 14) rfl)) rfl
theorem ws_15 : Cond.selects (⟨"WeekBank", "countGifts", "(I)I"⟩ : MethodName).cls ⟨"WeekBank", "countGifts", "(I)I"⟩ ⟨"WeekBank", "countGifts", "(I)I"⟩ ∈ AL := al (tb_p (List.mem_of_getElem? (i := 15) rfl)) rfl
theorem ws_16 : Cond.selects (⟨"WeekBank", "addGift", "(LWeekBank$Owner;LWeekBank$Flat;I)I"⟩ : MethodName).cls ⟨"WeekBank", "addGift", "(LWeekBank$Owner;LWeekBank$Flat;I)I"⟩ ⟨"WeekBank", "addGift", "(LWeekBank$Owner;LWeekBank$Flat;I)I"⟩ ∈ AL := al (tb_p (List.mem_of_getElem? (i := 16) rfl)) rfl
theorem ws_17 : Cond.selects (⟨"WeekBank", "giftThatIs", "(II)LWeekBank$Gift;"⟩ : MethodName).cls ⟨"WeekBank", "giftThatIs", "(II)LWeekBank$Gift;"⟩ ⟨"WeekBank", "giftThatIs", "(II)LWeekBank$Gift;"⟩ ∈ AL := al (tb_p (List.mem_of_getElem? (i := 17) rfl)) rfl
theorem ws_18 : Cond.selects (⟨"WeekBank", "giftAt", "(I)LWeekBank$Gift;"⟩ : MethodName).cls ⟨"WeekBank", "giftAt", "(I)LWeekBank$Gift;"⟩ ⟨"WeekBank", "giftAt", "(I)LWeekBank$Gift;"⟩ ∈ AL := al (tb_p (List.mem_of_getElem? (i := 18) rfl)) rfl
theorem ws_19 : Cond.selects (⟨"WeekBank$RingSearch", "findSuiting", "()V"⟩ : MethodName).cls ⟨"WeekBank$RingSearch", "findSuiting", "()V"⟩ ⟨"WeekBank$RingSearch", "findSuiting", "()V"⟩ ∈ AL := al (tb_p (List.mem_of_getElem? (i := 19) rfl)) rfl
theorem ws_20 : Cond.selects (⟨"WeekBank$RingSearch", "forgetBefore", "(I)V"⟩ : MethodName).cls ⟨"WeekBank$RingSearch", "forgetBefore", "(I)V"⟩ ⟨"WeekBank$RingSearch", "forgetBefore", "(I)V"⟩ ∈ AL := al (tb_p (List.mem_of_getElem? (i := 20) rfl)) rfl
theorem ws_21 : Cond.selects (⟨"WeekBank$RingSearch", "goOnFrom", "(II)V"⟩ : MethodName).cls ⟨"WeekBank$RingSearch", "goOnFrom", "(II)V"⟩ ⟨"WeekBank$RingSearch", "goOnFrom", "(II)V"⟩ ∈ AL := al (tb_p (List.mem_of_getElem? (i := 21) rfl)) rfl
theorem ws_22 : Cond.selects (⟨"WeekBank$RingSearch", "lengthen", "(III)V"⟩ : MethodName).cls ⟨"WeekBank$RingSearch", "lengthen", "(III)V"⟩ ⟨"WeekBank$RingSearch", "lengthen", "(III)V"⟩ ∈ AL := al (tb_p (List.mem_of_getElem? (i := 22) rfl)) rfl
theorem ws_23 : Cond.selects (⟨"WeekBank$RingSearch", "firstWay", "(I)I"⟩ : MethodName).cls ⟨"WeekBank$RingSearch", "firstWay", "(I)I"⟩ ⟨"WeekBank$RingSearch", "firstWay", "(I)I"⟩ ∈ AL := al (tb_p (List.mem_of_getElem? (i := 23) rfl)) rfl
theorem ws_24 : Cond.selects (⟨"WeekBank$RingSearch", "isBetter", "(I)Z"⟩ : MethodName).cls ⟨"WeekBank$RingSearch", "isBetter", "(I)Z"⟩ ⟨"WeekBank$RingSearch", "isBetter", "(I)Z"⟩ ∈ AL := al (tb_p (List.mem_of_getElem? (i := 24) rfl)) rfl
theorem ws_25 : Cond.selects (⟨"WeekBank$RingSearch", "sumWorth", "(I)I"⟩ : MethodName).cls ⟨"WeekBank$RingSearch", "sumWorth", "(I)I"⟩ ⟨"WeekBank$RingSearch", "sumWorth", "(I)I"⟩ ∈ AL := al (tb_p (List.mem_of_getElem? (i := 25) rfl)) rfl
theorem ws_26 : Cond.selects (⟨"WeekBank$RingSearch", "wholeWay", "(I)I"⟩ : MethodName).cls ⟨"WeekBank$RingSearch", "wholeWay", "(I)I"⟩ ⟨"WeekBank$RingSearch", "wholeWay", "(I)I"⟩ ∈ AL := al (tb_p (List.mem_of_getElem? (i := 26) rfl)) rfl
theorem ws_27 : Cond.selects (⟨"WeekBank$RingSearch", "swap", "(LWeekBank$Gift;I)V"⟩ : MethodName).cls ⟨"WeekBank$RingSearch", "swap", "(LWeekBank$Gift;I)V"⟩ ⟨"WeekBank$RingSearch", "swap", "(LWeekBank$Gift;I)V"⟩ ∈ AL := al (tb_p (List.mem_of_getElem? (i := 27) rfl)) rfl
theorem ws_28 : Cond.selects (⟨"WeekBank", "firstInLine", "()LWeekBank$Owner;"⟩ : MethodName).cls ⟨"WeekBank", "firstInLine", "()LWeekBank$Owner;"⟩ ⟨"WeekBank", "firstInLine", "()LWeekBank$Owner;"⟩ ∈ AL := al (tb_p (List.mem_of_getElem? (i := 28) rfl)) rfl
theorem ws_29 : Cond.selects (⟨"WeekBank", "bestBankedFor", "(LWeekBank$Owner;)LWeekBank$Gift;"⟩ : MethodName).cls ⟨"WeekBank", "bestBankedFor", "(LWeekBank$Owner;)LWeekBank$Gift;"⟩ ⟨"WeekBank", "bestBankedFor", "(LWeekBank$Owner;)LWeekBank$Gift;"⟩ ∈ AL := al (tb_p (List.mem_of_getElem? (i := 29) rfl)) rfl
theorem ws_30 : Cond.selects (⟨"WeekBank", "endUnusedGifts", "(I)V"⟩ : MethodName).cls ⟨"WeekBank", "endUnusedGifts", "(I)V"⟩ ⟨"WeekBank", "endUnusedGifts", "(I)V"⟩ ∈ AL := al (tb_p (List.mem_of_getElem? (i := 30) rfl)) rfl
theorem ws_31 : Cond.selects (⟨"WeekBank", "passAllWeeks", "(LWeekBank$Owner;LWeekBank$Owner;)V"⟩ : MethodName).cls ⟨"WeekBank", "passAllWeeks", "(LWeekBank$Owner;LWeekBank$Owner;)V"⟩ ⟨"WeekBank", "passAllWeeks", "(LWeekBank$Owner;LWeekBank$Owner;)V"⟩ ∈ AL := al (tb_p (List.mem_of_getElem? (i := 31) rfl)) rfl
theorem ws_32 : Cond.selects (⟨"WeekBank$FeeRounds", "countOwned", "()I"⟩ : MethodName).cls ⟨"WeekBank$FeeRounds", "countOwned", "()I"⟩ ⟨"WeekBank$FeeRounds", "countOwned", "()I"⟩ ∈ AL := al (tb_p (List.mem_of_getElem? (i := 32) rfl)) rfl
theorem ws_33 : Cond.selects (⟨"WeekBank$FeeRounds", "someLeave", "()Z"⟩ : MethodName).cls ⟨"WeekBank$FeeRounds", "someLeave", "()Z"⟩ ⟨"WeekBank$FeeRounds", "someLeave", "()Z"⟩ ∈ AL := al (tb_p (List.mem_of_getElem? (i := 33) rfl)) rfl
theorem ws_34 : Cond.selects (⟨"WeekBank", "sumPoints", "()I"⟩ : MethodName).cls ⟨"WeekBank", "sumPoints", "()I"⟩ ⟨"WeekBank", "sumPoints", "()I"⟩ ∈ AL := al (tb_p (List.mem_of_getElem? (i := 34) rfl)) rfl
theorem ws_35 : Cond.selects (⟨"java/lang/Throwable", "fillInStackTrace", "(I)Ljava/lang/Throwable;"⟩ : MethodName).cls ⟨"java/lang/Throwable", "fillInStackTrace", "(I)Ljava/lang/Throwable;"⟩ ⟨"java/lang/Throwable", "fillInStackTrace", "(I)Ljava/lang/Throwable;"⟩ ∈ AL := al (tb_p (List.mem_of_getElem? (i := 35) rfl)) rfl
theorem ws_36 : Cond.selects (⟨"WeekBankModel", "isPlace", "(II)Z"⟩ : MethodName).cls ⟨"WeekBankModel", "isPlace", "(II)Z"⟩ ⟨"WeekBankModel", "isPlace", "(II)Z"⟩ ∈ AL := al (tb_p (List.mem_of_getElem? (i := 36) rfl)) rfl
theorem ws_37 : Cond.selects (⟨"WeekBankModel", "isAlive", "(I)Z"⟩ : MethodName).cls ⟨"WeekBankModel", "isAlive", "(I)Z"⟩ ⟨"WeekBankModel", "isAlive", "(I)Z"⟩ ∈ AL := al (tb_p (List.mem_of_getElem? (i := 37) rfl)) rfl
theorem ws_38 : Cond.selects (⟨"WeekBankModel", "givenAt", "(II)I"⟩ : MethodName).cls ⟨"WeekBankModel", "givenAt", "(II)I"⟩ ⟨"WeekBankModel", "givenAt", "(II)I"⟩ ∈ AL := al (tb_p (List.mem_of_getElem? (i := 38) rfl)) rfl
theorem ws_39 : Cond.selects (⟨"WeekBankModel", "next", "()V"⟩ : MethodName).cls ⟨"WeekBankModel", "next", "()V"⟩ ⟨"WeekBankModel", "next", "()V"⟩ ∈ AL := al (tb_p (List.mem_of_getElem? (i := 39) rfl)) rfl
theorem ws_40 : Cond.selects (⟨"WeekBankModel", "see", "(I)I"⟩ : MethodName).cls ⟨"WeekBankModel", "see", "(I)I"⟩ ⟨"WeekBankModel", "see", "(I)I"⟩ ∈ AL := al (tb_p (List.mem_of_getElem? (i := 40) rfl)) rfl
theorem ws_41 : Cond.selects (⟨"WeekBankModel", "readStatement", "()V"⟩ : MethodName).cls ⟨"WeekBankModel", "readStatement", "()V"⟩ ⟨"WeekBankModel", "readStatement", "()V"⟩ ∈ AL := al (tb_p (List.mem_of_getElem? (i := 41) rfl)) rfl
theorem ws_42 : Cond.selects (⟨"WeekBankModel", "isWord", "(Ljava/lang/String;)Z"⟩ : MethodName).cls ⟨"WeekBankModel", "isWord", "(Ljava/lang/String;)Z"⟩ ⟨"WeekBankModel", "isWord", "(Ljava/lang/String;)Z"⟩ ∈ AL := al (tb_p (List.mem_of_getElem? (i := 42) rfl)) rfl
theorem ws_43 : Cond.selects (⟨"WeekBankModel", "fails", "(I)V"⟩ : MethodName).cls ⟨"WeekBankModel", "fails", "(I)V"⟩ ⟨"WeekBankModel", "fails", "(I)V"⟩ ∈ AL := al (tb_p (List.mem_of_getElem? (i := 43) rfl)) rfl
theorem ws_44 : Cond.selects (⟨"WeekBankModel", "number", "(II)I"⟩ : MethodName).cls ⟨"WeekBankModel", "number", "(II)I"⟩ ⟨"WeekBankModel", "number", "(II)I"⟩ ∈ AL := al (tb_p (List.mem_of_getElem? (i := 44) rfl)) rfl
theorem ws_45 : Cond.selects (⟨"WeekBankModel", "worthOf", "(II)I"⟩ : MethodName).cls ⟨"WeekBankModel", "worthOf", "(II)I"⟩ ⟨"WeekBankModel", "worthOf", "(II)I"⟩ ∈ AL := al (tb_p (List.mem_of_getElem? (i := 45) rfl)) rfl
theorem ws_46 : Cond.selects (⟨"WeekBankModel", "many", "(I)I"⟩ : MethodName).cls ⟨"WeekBankModel", "many", "(I)I"⟩ ⟨"WeekBankModel", "many", "(I)I"⟩ ∈ AL := al (tb_p (List.mem_of_getElem? (i := 46) rfl)) rfl
theorem ws_47 : Cond.selects (⟨"WeekBankModel", "isGift", "(II)Z"⟩ : MethodName).cls ⟨"WeekBankModel", "isGift", "(II)Z"⟩ ⟨"WeekBankModel", "isGift", "(II)Z"⟩ ∈ AL := al (tb_p (List.mem_of_getElem? (i := 47) rfl)) rfl
theorem ws_48 : Cond.selects (⟨"WeekBankModel", "wishes", "(IIIII)Z"⟩ : MethodName).cls ⟨"WeekBankModel", "wishes", "(IIIII)Z"⟩ ⟨"WeekBankModel", "wishes", "(IIIII)Z"⟩ ∈ AL := al (tb_p (List.mem_of_getElem? (i := 48) rfl)) rfl
theorem ws_49 : Cond.selects (⟨"WeekBankModel", "chooses", "(IIII)V"⟩ : MethodName).cls ⟨"WeekBankModel", "chooses", "(IIII)V"⟩ ⟨"WeekBankModel", "chooses", "(IIII)V"⟩ ∈ AL := al (tb_p (List.mem_of_getElem? (i := 49) rfl)) rfl
theorem ws_50 : Cond.selects (⟨"WeekBankModel", "meets", "(II)Z"⟩ : MethodName).cls ⟨"WeekBankModel", "meets", "(II)Z"⟩ ⟨"WeekBankModel", "meets", "(II)Z"⟩ ∈ AL := al (tb_p (List.mem_of_getElem? (i := 50) rfl)) rfl
theorem ws_51 : Cond.selects (⟨"WeekBankModel", "isShort", "(I)Z"⟩ : MethodName).cls ⟨"WeekBankModel", "isShort", "(I)Z"⟩ ⟨"WeekBankModel", "isShort", "(I)Z"⟩ ∈ AL := al (tb_p (List.mem_of_getElem? (i := 51) rfl)) rfl
theorem ws_52 : Cond.selects (⟨"WeekBankModel", "isEven", "(I)Z"⟩ : MethodName).cls ⟨"WeekBankModel", "isEven", "(I)Z"⟩ ⟨"WeekBankModel", "isEven", "(I)Z"⟩ ∈ AL := al (tb_p (List.mem_of_getElem? (i := 52) rfl)) rfl
theorem ws_53 : Cond.selects (⟨"WeekBankModel", "goesTo", "(II)V"⟩ : MethodName).cls ⟨"WeekBankModel", "goesTo", "(II)V"⟩ ⟨"WeekBankModel", "goesTo", "(II)V"⟩ ∈ AL := al (tb_p (List.mem_of_getElem? (i := 53) rfl)) rfl
theorem ws_54 : Cond.selects (⟨"WeekBankModel", "nextInRush", "()I"⟩ : MethodName).cls ⟨"WeekBankModel", "nextInRush", "()I"⟩ ⟨"WeekBankModel", "nextInRush", "()I"⟩ ∈ AL := al (tb_p (List.mem_of_getElem? (i := 54) rfl)) rfl
theorem ws_55 : Cond.selects (⟨"WeekBankModel", "passes", "(I)V"⟩ : MethodName).cls ⟨"WeekBankModel", "passes", "(I)V"⟩ ⟨"WeekBankModel", "passes", "(I)V"⟩ ∈ AL := al (tb_p (List.mem_of_getElem? (i := 55) rfl)) rfl
theorem ws_56 : Cond.selects (⟨"WeekBankModel", "isBound", "()Z"⟩ : MethodName).cls ⟨"WeekBankModel", "isBound", "()Z"⟩ ⟨"WeekBankModel", "isBound", "()Z"⟩ ∈ AL := al (tb_p (List.mem_of_getElem? (i := 56) rfl)) rfl
theorem ws_57 : Cond.selects (⟨"WeekBankModel", "owned", "(I)I"⟩ : MethodName).cls ⟨"WeekBankModel", "owned", "(I)I"⟩ ⟨"WeekBankModel", "owned", "(I)I"⟩ ∈ AL := al (tb_p (List.mem_of_getElem? (i := 57) rfl)) rfl
theorem ws_58 : Cond.selects (⟨"WeekBankModel", "weeksThatStay", "()I"⟩ : MethodName).cls ⟨"WeekBankModel", "weeksThatStay", "()I"⟩ ⟨"WeekBankModel", "weeksThatStay", "()I"⟩ ∈ AL := al (tb_p (List.mem_of_getElem? (i := 58) rfl)) rfl
