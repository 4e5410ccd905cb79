/-! what the claim gives of the start -/
theorem in_nr {ws : List Cond} (ps : List Nat) (h : ws = ps.filterMap (fun i => (flatC (Cond.and given_1 narrow_1))[i]?)) : ∀ w ∈ ws, w ∈ flatC (Cond.and given_1 narrow_1) := by
  intro w hw
  rw [h] at hw
  obtain ⟨i, -, hi⟩ := List.mem_filterMap.mp hw
  exact List.mem_of_getElem? hi
def wA9 : List Cond := [.arrayClass .int, .arrayClass .boolean, .arrayClass .long, .arrayClass .double, .arrayOver (.object "Perforatum$Paper"), .arrayOver (.object "Perforatum$Valve"), .arrayOver (.object "PerforatumModel$Valve"), .arrayOver (.object "java/lang/Object"), .arrayOver (.array .boolean)]
set_option maxRecDepth 20000 in
theorem in_A9 : ∀ w ∈ wA9, w ∈ lw_tbl := in_pl [109, 1120, 1665, 1666, 89, 145, 1080, 1258, 1199] (by decide +kernel)
def wC9 : List Cond := [.instantiable RJ0 4, .instantiable RJx00060 6, .instantiable RJx35411 4, .instantiable RJx4a65c 3, .instantiable RX0 4, .instantiable RX1 1, .instantiable RX2 13, .instantiable RX3 5, .instantiable RX4 7, .instantiable RX5 11, .instantiable RX6 10, .instantiable RX7 10, .instantiable RX8 18]
set_option maxRecDepth 20000 in
theorem in_C9 : ∀ w ∈ wC9, w ∈ lw_tbl := in_pl [520, 502, 1360, 1051, 91, 277, 111, 117, 147, 175, 81, 1081, 1045] (by decide +kernel)
set_option maxRecDepth 20000 in
theorem in_Jx00060 : ∀ w ∈ u_ws RJx00060 TJx00060 6, w ∈ lw_tbl := in_pl [509, 510, 511, 512, 513, 514] (by decide +kernel)
def wS9 : List Cond := [.laysStatic "java/lang/Throwable" "UNASSIGNED_STACK" "[Ljava/lang/StackTraceElement;", .initialized "java/lang/Throwable", .laysStatic "java/lang/Throwable" "SUPPRESSED_SENTINEL" "Ljava/util/List;", .laysStatic "java/util/ArrayList" "DEFAULTCAPACITY_EMPTY_ELEMENTDATA" "[Ljava/lang/Object;", .initialized "java/util/ArrayList", .laysStatic "java/lang/String" "COMPACT_STRINGS" "Z", .initialized "java/lang/String", .declares ⟨"java/lang/Object", "getClass", "()Ljava/lang/Class;"⟩]
set_option maxRecDepth 20000 in
theorem in_S9 : ∀ w ∈ wS9, w ∈ lw_tbl := in_pl [449, 58, 451, 1063, 56, 1456, 68, 1691] (by decide +kernel)
set_option maxRecDepth 20000 in
theorem in_xbc : ∀ w ∈ xbc.map (fun q => Cond.castable q.1 q.2), w ∈ lw_tbl := in_pl [636, 664, 424, 552, 1024, 536] (by decide +kernel)
def wD9 : List Cond := [.instanceMethod ⟨"java/util/NoSuchElementException", "<init>", "(Ljava/lang/String;)V"⟩, (Jvm.Cond.code ({ cls := "java/util/NoSuchElementException", name := "<init>", desc := "(Ljava/lang/String;)V" } : Jvm.MethodName) prog_42_method_4_code (2 : Nat) (Option.none : Option Jvm.ClassFile.FieldType)), .instanceMethod ⟨"java/lang/UnsupportedOperationException", "<init>", "(Ljava/lang/String;)V"⟩, (Jvm.Cond.code ({ cls := "java/lang/UnsupportedOperationException", name := "<init>", desc := "(Ljava/lang/String;)V" } : Jvm.MethodName) prog_31_method_2_code (2 : Nat) (Option.none : Option Jvm.ClassFile.FieldType)), .instanceMethod ⟨"java/lang/IllegalStateException", "<init>", "(Ljava/lang/String;)V"⟩, (Jvm.Cond.code ({ cls := "java/lang/IllegalStateException", name := "<init>", desc := "(Ljava/lang/String;)V" } : Jvm.MethodName) prog_20_method_2_code (2 : Nat) (Option.none : Option Jvm.ClassFile.FieldType)), .instanceMethod ⟨"java/lang/IllegalArgumentException", "<init>", "(Ljava/lang/String;)V"⟩, (Jvm.Cond.code ({ cls := "java/lang/IllegalArgumentException", name := "<init>", desc := "(Ljava/lang/String;)V" } : Jvm.MethodName) prog_19_method_2_code (2 : Nat) (Option.none : Option Jvm.ClassFile.FieldType)), .instanceMethod ⟨"java/lang/ArithmeticException", "<init>", "(Ljava/lang/String;)V"⟩, (Jvm.Cond.code ({ cls := "java/lang/ArithmeticException", name := "<init>", desc := "(Ljava/lang/String;)V" } : Jvm.MethodName) prog_12_method_2_code (2 : Nat) (Option.none : Option Jvm.ClassFile.FieldType)), .instanceMethod ⟨"java/lang/IndexOutOfBoundsException", "<init>", "(Ljava/lang/String;)V"⟩, (Jvm.Cond.code ({ cls := "java/lang/IndexOutOfBoundsException", name := "<init>", desc := "(Ljava/lang/String;)V" } : Jvm.MethodName) prog_21_method_2_code (2 : Nat) (Option.none : Option Jvm.ClassFile.FieldType)), .instanceMethod ⟨"java/lang/RuntimeException", "<init>", "(Ljava/lang/String;)V"⟩, (Jvm.Cond.code ({ cls := "java/lang/RuntimeException", name := "<init>", desc := "(Ljava/lang/String;)V" } : Jvm.MethodName) prog_25_method_2_code (2 : Nat) (Option.none : Option Jvm.ClassFile.FieldType)), .instanceMethod ⟨"java/lang/Exception", "<init>", "(Ljava/lang/String;)V"⟩, (Jvm.Cond.code ({ cls := "java/lang/Exception", name := "<init>", desc := "(Ljava/lang/String;)V" } : Jvm.MethodName) prog_18_method_2_code (2 : Nat) (Option.none : Option Jvm.ClassFile.FieldType)), .instanceMethod ⟨"java/lang/Throwable", "<init>", "(Ljava/lang/String;)V"⟩, (Jvm.Cond.code ({ cls := "java/lang/Throwable", name := "<init>", desc := "(Ljava/lang/String;)V" } : Jvm.MethodName) prog_30_method_2_code (2 : Nat) (Option.none : Option Jvm.ClassFile.FieldType))]
set_option maxRecDepth 20000 in
theorem in_D9 : ∀ w ∈ wD9, w ∈ lw_tbl := in_pl [645, 646, 673, 674, 469, 470, 561, 562, 1014, 1015, 506, 507, 472, 473, 475, 476, 478, 479] (by decide +kernel)
set_option maxRecDepth 20000 in
theorem in_xs : ∀ w ∈ xstr.map (fun q => Cond.stringRef "Perforatum" q.1 q.2), w ∈ lw_tbl := in_pl [643, 671, 682, 722, 730, 768, 780, 792, 971, 973, 985, 1031, 559, 543, 827, 467] (by decide +kernel)
set_option maxRecDepth 20000 in
theorem in_f1 : ∀ w ∈ zFw.map (fun q => Cond.declares q.2.1), w ∈ lw_tbl := in_pl [1187, 1203, 1284, 1353, 1420, 1632, 1381, 1391] (by decide +kernel)
set_option maxRecDepth 20000 in
theorem in_f2 : ∀ w ∈ zFw.map (fun q => Cond.interfaceMethod q.2.1.cls q.2.1.cls q.2.1.name q.2.1.desc), w ∈ lw_tbl := in_pl [1186, 1202, 1283, 1352, 1419, 1631, 1380, 1390] (by decide +kernel)
set_option maxRecDepth 20000 in
theorem in_f3 : ∀ w ∈ zFw.map (fun q => Cond.publicMethod q.2.2), w ∈ lw_tbl := in_pl [1192, 1207, 1288, 1357, 1424, 1636, 1386, 1395] (by decide +kernel)
set_option maxRecDepth 20000 in
theorem in_f4 : ∀ w ∈ zFw.map (fun q => Cond.unhidden q.1 q.2.1.name q.2.1.desc), w ∈ lw_tbl := in_pl [1190, 1205, 1286, 1355, 1422, 1634, 1384, 1393] (by decide +kernel)
set_option maxRecDepth 20000 in
theorem in_f5 : ∀ w ∈ zFw.map (fun q => Cond.castable q.1 q.2.1.cls), w ∈ lw_tbl := in_pl [1188, 1188, 1188, 1188, 1188, 1188, 1382, 1382] (by decide +kernel)
set_option maxRecDepth 20000 in
theorem in_ca : ∀ w ∈ zCa.map (fun q => Cond.castable q.1 q.2), w ∈ lw_tbl := in_pl [1693, 1698, 1330] (by decide +kernel)
def wN9 : List Cond := [.methodLinkNest "PerforatumModel" 47 yX7_init "PerforatumModel", .methodLinkNest "Perforatum" 17 yX0_init "Perforatum", .methodLinkNest "Perforatum" 57 yX1_init "Perforatum", .methodLinkNest "Perforatum$Player" 11 yX3_init "Perforatum", .methodLinkNest "Perforatum$Player" 26 yX4_init "Perforatum", zFN]
set_option maxRecDepth 20000 in
theorem in_N9 : ∀ w ∈ wN9, w ∈ lw_tbl := in_pl [1082, 92, 278, 118, 148, 1066] (by decide +kernel)
def wR9 : List Cond := [.stringRef "PerforatumModel" 125 "flp", .stringRef "PerforatumModel" 145 "glpk", .stringRef "PerforatumModel" 222 "noflv"]
set_option maxRecDepth 20000 in
theorem in_R9 : ∀ w ∈ wR9, w ∈ lw_tbl := in_pl [1442, 1548, 1624] (by decide +kernel)
def ncp : List (String × String) := [("java/util/NoSuchElementException", "java/lang/UnsupportedOperationException"), ("java/util/NoSuchElementException", "java/lang/IllegalStateException"), ("java/util/NoSuchElementException", "java/lang/IllegalArgumentException"), ("java/util/NoSuchElementException", "java/lang/ArithmeticException"), ("java/util/NoSuchElementException", "java/lang/IndexOutOfBoundsException"), ("java/lang/UnsupportedOperationException", "java/util/NoSuchElementException"), ("java/lang/UnsupportedOperationException", "java/lang/IllegalStateException"), ("java/lang/UnsupportedOperationException", "java/lang/IllegalArgumentException"), ("java/lang/UnsupportedOperationException", "java/lang/ArithmeticException"), ("java/lang/UnsupportedOperationException", "java/lang/IndexOutOfBoundsException"), ("java/lang/IllegalStateException", "java/util/NoSuchElementException"), ("java/lang/IllegalStateException", "java/lang/UnsupportedOperationException"), ("java/lang/IllegalStateException", "java/lang/IllegalArgumentException"), ("java/lang/IllegalStateException", "java/lang/ArithmeticException"), ("java/lang/IllegalStateException", "java/lang/IndexOutOfBoundsException"), ("java/lang/IllegalArgumentException", "java/util/NoSuchElementException"), ("java/lang/IllegalArgumentException", "java/lang/UnsupportedOperationException"), ("java/lang/IllegalArgumentException", "java/lang/IllegalStateException"), ("java/lang/IllegalArgumentException", "java/lang/ArithmeticException"), ("java/lang/IllegalArgumentException", "java/lang/IndexOutOfBoundsException"), ("java/lang/ArithmeticException", "java/util/NoSuchElementException"), ("java/lang/ArithmeticException", "java/lang/UnsupportedOperationException"), ("java/lang/ArithmeticException", "java/lang/IllegalStateException"), ("java/lang/ArithmeticException", "java/lang/IllegalArgumentException"), ("java/lang/ArithmeticException", "java/lang/IndexOutOfBoundsException"), ("java/lang/IndexOutOfBoundsException", "java/util/NoSuchElementException"), ("java/lang/IndexOutOfBoundsException", "java/lang/UnsupportedOperationException"), ("java/lang/IndexOutOfBoundsException", "java/lang/IllegalStateException"), ("java/lang/IndexOutOfBoundsException", "java/lang/IllegalArgumentException"), ("java/lang/IndexOutOfBoundsException", "java/lang/ArithmeticException")]
set_option maxRecDepth 20000 in
theorem in_nc : ∀ w ∈ ncp.map (fun q => Cond.not (Cond.castable q.1 q.2)), w ∈ flatC (Cond.and given_1 narrow_1) := in_nr [96, 28, 61, 113, 44, 79, 29, 62, 114, 45, 75, 92, 58, 109, 42, 78, 95, 27, 112, 43, 81, 98, 31, 64, 47, 77, 94, 26, 60, 111] (by decide +kernel)
def wG9 : List Cond := [.isRef (.static "java/lang/Throwable" "UNASSIGNED_STACK" "[Ljava/lang/StackTraceElement;"), .isRef (.static "java/lang/Throwable" "SUPPRESSED_SENTINEL" "Ljava/util/List;"), .arrayOf (.static "java/util/ArrayList" "DEFAULTCAPACITY_EMPTY_ELEMENTDATA" "[Ljava/lang/Object;") (.object "java/lang/Object"), .eq (.length (.static "java/util/ArrayList" "DEFAULTCAPACITY_EMPTY_ELEMENTDATA" "[Ljava/lang/Object;")) (.int 0), .eq (.static "java/lang/String" "COMPACT_STRINGS" "Z") (.int 1), .isRef (.mirror "[Ljava/lang/Object;")]
set_option maxRecDepth 20000 in
theorem in_G9 : ∀ w ∈ wG9, w ∈ flatC (Cond.and given_1 narrow_1) := in_nr [4, 5, 7, 9, 10, 173] (by decide +kernel)
def wV9 : List Cond := [.exactly (.string "PerforatumModel" 125) "java/lang/String", .eq (.field (.string "PerforatumModel" 125) "java/lang/String" "coder" "B") (.int 0), .arrayOf (.field (.string "PerforatumModel" 125) "java/lang/String" "value" "[B") .byte, .eq (.length (.field (.string "PerforatumModel" 125) "java/lang/String" "value" "[B")) (.int 3), .eq (.elem (.field (.string "PerforatumModel" 125) "java/lang/String" "value" "[B") (.int 0)) (.int 102), .eq (.elem (.field (.string "PerforatumModel" 125) "java/lang/String" "value" "[B") (.int 1)) (.int 108), .eq (.elem (.field (.string "PerforatumModel" 125) "java/lang/String" "value" "[B") (.int 2)) (.int 112), .exactly (.string "PerforatumModel" 145) "java/lang/String", .eq (.field (.string "PerforatumModel" 145) "java/lang/String" "coder" "B") (.int 0), .arrayOf (.field (.string "PerforatumModel" 145) "java/lang/String" "value" "[B") .byte, .eq (.length (.field (.string "PerforatumModel" 145) "java/lang/String" "value" "[B")) (.int 4), .eq (.elem (.field (.string "PerforatumModel" 145) "java/lang/String" "value" "[B") (.int 0)) (.int 103), .eq (.elem (.field (.string "PerforatumModel" 145) "java/lang/String" "value" "[B") (.int 1)) (.int 108), .eq (.elem (.field (.string "PerforatumModel" 145) "java/lang/String" "value" "[B") (.int 2)) (.int 112), .eq (.elem (.field (.string "PerforatumModel" 145) "java/lang/String" "value" "[B") (.int 3)) (.int 107), .exactly (.string "PerforatumModel" 222) "java/lang/String", .eq (.field (.string "PerforatumModel" 222) "java/lang/String" "coder" "B") (.int 0), .arrayOf (.field (.string "PerforatumModel" 222) "java/lang/String" "value" "[B") .byte, .eq (.length (.field (.string "PerforatumModel" 222) "java/lang/String" "value" "[B")) (.int 5), .eq (.elem (.field (.string "PerforatumModel" 222) "java/lang/String" "value" "[B") (.int 0)) (.int 110), .eq (.elem (.field (.string "PerforatumModel" 222) "java/lang/String" "value" "[B") (.int 1)) (.int 111), .eq (.elem (.field (.string "PerforatumModel" 222) "java/lang/String" "value" "[B") (.int 2)) (.int 102), .eq (.elem (.field (.string "PerforatumModel" 222) "java/lang/String" "value" "[B") (.int 3)) (.int 108), .eq (.elem (.field (.string "PerforatumModel" 222) "java/lang/String" "value" "[B") (.int 4)) (.int 118), .not (.eq (.string "PerforatumModel" 125) (.string "PerforatumModel" 145)), .not (.eq (.string "PerforatumModel" 125) (.string "PerforatumModel" 222)), .not (.eq (.string "PerforatumModel" 145) (.string "PerforatumModel" 222))]
set_option maxRecDepth 20000 in
theorem in_V9 : ∀ w ∈ wV9, w ∈ flatC (Cond.and given_1 narrow_1) := in_nr [714, 715, 716, 717, 718, 719, 720, 737, 738, 739, 740, 741, 742, 743, 744, 762, 763, 764, 765, 766, 767, 768, 769, 770, 761, 787, 788] (by decide +kernel)
theorem decl_of {args : Array Value} {s : State} {x : MethodName} {bytes : ByteArray} {n : Nat} {ret : Option FieldType} (h1 : (Cond.instanceMethod x).before args s = true) (h2 : (Cond.code x bytes n ret).before args s = true) : (Cond.declares x).before args s = true := by
  obtain ⟨m, meth, hn, hm, hs, -⟩ := Cond.instanceMethod_spec h1
  obtain ⟨meth2, c, hm2, -, -, -, -, -, -, hd⟩ := Cond.code_spec hn h2
  cases hm.symm.trans hm2
  simp [Cond.before, Cond.holds, Cond.value, hn, hm, hs, hd]
theorem ao_1 {args : Array Value} {s : State} {ty : FieldType} (h : (Cond.arrayClass ty).before args s = true) : ∃ c, ArrOfT s c ty ∧ s.vm.findClass ("[" ++ ty.toString) = some c := by
  obtain ⟨c, k, comp, h1, h2, h3⟩ := Cond.arrayClass_spec h
  exact ⟨c, fun n z => ⟨(fun k h => by cases h), k, h2, comp, h3⟩, h1⟩
theorem ao_2 {args : Array Value} {s : State} {C : String} (h : (Cond.arrayOver (.object C)).before args s = true) : ∃ c, ArrOfT s c (.object C) ∧ va_RA s c (.object C) := by
  obtain ⟨comp, c, k, h1, -, h2, h3, h4⟩ := Cond.arrayOver_spec h
  exact ⟨c, fun n z => ⟨(fun k h => by cases h), k, h2, comp, h3⟩, k, comp, h2, h3, h1, h4⟩
theorem ao_3 {args : Array Value} {s : State} {t : FieldType} (h : (Cond.arrayOver (.array t)).before args s = true) : ∃ c, ArrOfT s c (.array t) ∧ s.vm.findClass ("[" ++ (FieldType.array t).toString) = some c := by
  obtain ⟨comp, c, k, h1, -, h2, h3, h4⟩ := arrayOverA_spec h
  exact ⟨c, fun n z => ⟨(fun k h => by cases h), k, h2, comp, h3⟩, h4⟩
section STA
variable {s : State} {args : Array Value}
theorem sta_cl (hts : ∀ w ∈ lw_tbl, w.before args s = true) : ∀ q ∈ vwCl, ∃ (cC : ClassId) (iS : Nat → Nat), u_Kn s q.1 q.2.1 q.2.2 cC iS := by
  have hc : ∀ w ∈ wC9, w.before args s = true := fun w h => hts w (in_C9 w h)
  have hl : ∀ w ∈ wsL_law, w.before args s = true := fun w h => hts w (in_law w h)
  exact List.forall_mem_cons.mpr ⟨u_known hl (fun w h => (gt_wsJ00 w h).1) (hc _ (List.mem_of_getElem? (i := 0) rfl)), List.forall_mem_cons.mpr ⟨u_known hts in_Jx00060 (hc _ (List.mem_of_getElem? (i := 1) rfl)), List.forall_mem_cons.mpr ⟨u_known hl (fun w h => (gt_wsJx354110 w h).1) (hc _ (List.mem_of_getElem? (i := 2) rfl)), List.forall_mem_cons.mpr ⟨u_known hl (fun w h => (gt_wsJx4a65c0 w h).1) (hc _ (List.mem_of_getElem? (i := 3) rfl)), List.forall_mem_cons.mpr ⟨u_known hl (fun w h => (gt_wsX00 w h).1) (hc _ (List.mem_of_getElem? (i := 4) rfl)), List.forall_mem_cons.mpr ⟨u_known hl (fun w h => (gt_wsX10 w h).1) (hc _ (List.mem_of_getElem? (i := 5) rfl)), List.forall_mem_cons.mpr ⟨u_known hl (fun w h => (gt_wsX20 w h).1) (hc _ (List.mem_of_getElem? (i := 6) rfl)), List.forall_mem_cons.mpr ⟨u_known hl (fun w h => (gt_wsX30 w h).1) (hc _ (List.mem_of_getElem? (i := 7) rfl)), List.forall_mem_cons.mpr ⟨u_known hl (fun w h => (gt_wsX40 w h).1) (hc _ (List.mem_of_getElem? (i := 8) rfl)), List.forall_mem_cons.mpr ⟨u_known hl (fun w h => (gt_wsX50 w h).1) (hc _ (List.mem_of_getElem? (i := 9) rfl)), List.forall_mem_cons.mpr ⟨u_known hl (fun w h => (gt_wsX60 w h).1) (hc _ (List.mem_of_getElem? (i := 10) rfl)), List.forall_mem_cons.mpr ⟨u_known hl (fun w h => (gt_wsX70 w h).1) (hc _ (List.mem_of_getElem? (i := 11) rfl)), List.forall_mem_cons.mpr ⟨u_known hl (fun w h => (gt_wsX80 w h).1) (hc _ (List.mem_of_getElem? (i := 12) rfl)), fun _ h => absurd h List.not_mem_nil⟩⟩⟩⟩⟩⟩⟩⟩⟩⟩⟩⟩⟩
theorem sta_K (hts : ∀ w ∈ lw_tbl, w.before args s = true) : ∃ (D : va_G) (dT : Nat → ClassId), va_K D vwCl (tyL dT) s := by
  have hA : ∀ w ∈ wA9, w.before args s = true := fun w h => hts w (in_A9 w h)
  have hc := sta_cl hts
  have hc2 : ∀ c : Nat, ∃ z : ClassId × (Nat → Nat), ∀ q, vwCl[c]? = some q → u_Kn s q.1 q.2.1 q.2.2 z.1 z.2 := by
    intro c
    cases h : vwCl[c]? with
    | none => exact ⟨(0, fun _ => 0), fun q e => by cases e⟩
    | some q => obtain ⟨cC, iS, hk⟩ := hc q (List.mem_of_getElem? h); exact ⟨(cC, iS), fun q' e => by cases e; exact hk⟩
  obtain ⟨z, hz⟩ := Classical.axiomOfChoice hc2
  obtain ⟨c0, a0, b0⟩ := ao_1 (hA _ (List.mem_of_getElem? (i := 0) rfl))
  obtain ⟨c1, a1, b1⟩ := ao_1 (hA _ (List.mem_of_getElem? (i := 1) rfl))
  obtain ⟨c7, a7, b7⟩ := ao_1 (hA _ (List.mem_of_getElem? (i := 2) rfl))
  obtain ⟨c8, a8, b8⟩ := ao_1 (hA _ (List.mem_of_getElem? (i := 3) rfl))
  obtain ⟨c2, a2, b2⟩ := ao_2 (hA _ (List.mem_of_getElem? (i := 4) rfl))
  obtain ⟨c3, a3, b3⟩ := ao_2 (hA _ (List.mem_of_getElem? (i := 5) rfl))
  obtain ⟨c4, a4, b4⟩ := ao_2 (hA _ (List.mem_of_getElem? (i := 6) rfl))
  obtain ⟨c5, a5, b5⟩ := ao_2 (hA _ (List.mem_of_getElem? (i := 7) rfl))
  obtain ⟨c6, a6, b6⟩ := ao_3 (hA _ (List.mem_of_getElem? (i := 8) rfl))
  refine ⟨(fun c => (z c).1, fun c => (z c).2), fun k => ([c0, c1, c2, c3, c4, c5, c6, c7, c8]).getD (k - 20) 0, fun c q hq => hz c q hq, fun k q hk => ?_⟩
  have hq : ∀ q ∈ ([(c0, .int), (c1, .boolean), (c2, .object "Perforatum$Paper"), (c3, .object "Perforatum$Valve"), (c4, .object "PerforatumModel$Valve"), (c5, .object "java/lang/Object"), (c6, .array .boolean), (c7, .long), (c8, .double)] : List (ClassId × FieldType)), ArrOfT s q.1 q.2 ∧ va_RA s q.1 q.2 :=
    List.forall_mem_cons.mpr ⟨⟨a0, b0⟩, List.forall_mem_cons.mpr ⟨⟨a1, b1⟩, List.forall_mem_cons.mpr ⟨⟨a2, b2⟩, List.forall_mem_cons.mpr ⟨⟨a3, b3⟩, List.forall_mem_cons.mpr ⟨⟨a4, b4⟩, List.forall_mem_cons.mpr ⟨⟨a5, b5⟩, List.forall_mem_cons.mpr ⟨⟨a6, b6⟩, List.forall_mem_cons.mpr ⟨⟨a7, b7⟩, List.forall_mem_cons.mpr ⟨⟨a8, b8⟩, fun _ h => absurd h List.not_mem_nil⟩⟩⟩⟩⟩⟩⟩⟩⟩
  exact hq q (List.mem_of_getElem? hk)
theorem sta_NC (hs : ∀ w ∈ flatC (Cond.and given_1 narrow_1), w.before args s = true) : NC s := by
  have hp : ∀ E ∈ exs, ∀ F ∈ exs, E ≠ F → (E, F) ∈ ncp := by decide +kernel
  intro E hE F hF hn
  exact va_Nc.of (hs _ (in_nc _ (List.mem_map_of_mem (f := fun q : String × String => Cond.not (Cond.castable q.1 q.2)) (hp E hE F hF hn))))
theorem sta_XB (hts : ∀ w ∈ lw_tbl, w.before args s = true) (hs : ∀ w ∈ flatC (Cond.and given_1 narrow_1), w.before args s = true) : XB (fun q => s.heap.size ≤ q) s s.heap := by
  have hA : ∀ a : Nat, a < s.heap.size → ¬ (fun q : Nat => s.heap.size ≤ q) a := fun a h => Nat.not_le.mpr h
  have hS : ∀ w ∈ wS9, w.before args s = true := fun w h => hts w (in_S9 w h)
  have hG : ∀ w ∈ wG9, w.before args s = true := fun w h => hs w (in_G9 w h)
  have hD : ∀ w ∈ wD9, w.before args s = true := fun w h => hts w (in_D9 w h)
  refine ⟨vx_Zqof (hS _ (List.mem_of_getElem? (i := 0) rfl)) (hS _ (List.mem_of_getElem? (i := 1) rfl)) (hG _ (List.mem_of_getElem? (i := 0) rfl)) hA, vx_Zqof (hS _ (List.mem_of_getElem? (i := 2) rfl)) (hS _ (List.mem_of_getElem? (i := 1) rfl)) (hG _ (List.mem_of_getElem? (i := 1) rfl)) hA, fun q hq => va_Nw.of rfl (hts _ (in_xbc _ (List.mem_map_of_mem (f := fun q : String × String => Cond.castable q.1 q.2) hq))), ?_, fun q hq => hts _ (in_xs _ (List.mem_map_of_mem (f := fun q : Nat × String => Cond.stringRef "Perforatum" q.1 q.2) hq))⟩
  exact List.forall_mem_cons.mpr ⟨va_any rfl (decl_of (hD _ (List.mem_of_getElem? (i := 0) rfl)) (hD _ (List.mem_of_getElem? (i := 1) rfl))), List.forall_mem_cons.mpr ⟨va_any rfl (decl_of (hD _ (List.mem_of_getElem? (i := 2) rfl)) (hD _ (List.mem_of_getElem? (i := 3) rfl))), List.forall_mem_cons.mpr ⟨va_any rfl (decl_of (hD _ (List.mem_of_getElem? (i := 4) rfl)) (hD _ (List.mem_of_getElem? (i := 5) rfl))), List.forall_mem_cons.mpr ⟨va_any rfl (decl_of (hD _ (List.mem_of_getElem? (i := 6) rfl)) (hD _ (List.mem_of_getElem? (i := 7) rfl))), List.forall_mem_cons.mpr ⟨va_any rfl (decl_of (hD _ (List.mem_of_getElem? (i := 8) rfl)) (hD _ (List.mem_of_getElem? (i := 9) rfl))), List.forall_mem_cons.mpr ⟨va_any rfl (decl_of (hD _ (List.mem_of_getElem? (i := 10) rfl)) (hD _ (List.mem_of_getElem? (i := 11) rfl))), List.forall_mem_cons.mpr ⟨va_any rfl (decl_of (hD _ (List.mem_of_getElem? (i := 12) rfl)) (hD _ (List.mem_of_getElem? (i := 13) rfl))), List.forall_mem_cons.mpr ⟨va_any rfl (decl_of (hD _ (List.mem_of_getElem? (i := 14) rfl)) (hD _ (List.mem_of_getElem? (i := 15) rfl))), List.forall_mem_cons.mpr ⟨va_any rfl (decl_of (hD _ (List.mem_of_getElem? (i := 16) rfl)) (hD _ (List.mem_of_getElem? (i := 17) rfl))), fun _ h => absurd h List.not_mem_nil⟩⟩⟩⟩⟩⟩⟩⟩⟩
def zT (i : Nat) : Term := .string "PerforatumModel" (zSt.getD i (0, "")).1
theorem lt3 {i : Nat} (h : i < 3) : i = 0 ∨ i = 1 ∨ i = 2 := by omega
theorem sta_vk (hs : ∀ w ∈ flatC (Cond.and given_1 narrow_1), w.before args s = true) : ∃ adK adV : Nat → Nat, vk_S 3 zLen zByt adK adV (fun q => s.heap.size ≤ q) s s.heap ∧ ∀ i : Nat, i < 3 → (zT i).eval args s none [] s = some (.ref (adK i)) := by
  have hV : ∀ w ∈ wV9, w.before args s = true := fun w h => hs w (in_V9 w h)
  refine vk_Sof (args := args) (tm := zT) ?_ ?_ ?_ ?_ ?_ ?_ ?_ (fun a h => Nat.not_le.mpr h)
  · intro i hi; rcases lt3 hi with rfl | rfl | rfl <;> decide
  · intro i hi; rcases lt3 hi with rfl | rfl | rfl
    · exact hV _ (List.mem_of_getElem? (i := 0) rfl)
    · exact hV _ (List.mem_of_getElem? (i := 7) rfl)
    · exact hV _ (List.mem_of_getElem? (i := 15) rfl)
  · intro i hi; rcases lt3 hi with rfl | rfl | rfl
    · exact hV _ (List.mem_of_getElem? (i := 1) rfl)
    · exact hV _ (List.mem_of_getElem? (i := 8) rfl)
    · exact hV _ (List.mem_of_getElem? (i := 16) rfl)
  · intro i hi; rcases lt3 hi with rfl | rfl | rfl
    · exact hV _ (List.mem_of_getElem? (i := 2) rfl)
    · exact hV _ (List.mem_of_getElem? (i := 9) rfl)
    · exact hV _ (List.mem_of_getElem? (i := 17) rfl)
  · intro i hi; rcases lt3 hi with rfl | rfl | rfl
    · exact hV _ (List.mem_of_getElem? (i := 3) rfl)
    · exact hV _ (List.mem_of_getElem? (i := 10) rfl)
    · exact hV _ (List.mem_of_getElem? (i := 18) rfl)
  · intro i hi j hj; rcases lt3 hi with rfl | rfl | rfl
    · have hj2 : j < 3 := hj
      rcases (show j = 0 ∨ j = 1 ∨ j = 2 by omega) with rfl | rfl | rfl
      · exact hV _ (List.mem_of_getElem? (i := 4) rfl)
      · exact hV _ (List.mem_of_getElem? (i := 5) rfl)
      · exact hV _ (List.mem_of_getElem? (i := 6) rfl)
    · have hj2 : j < 4 := hj
      rcases (show j = 0 ∨ j = 1 ∨ j = 2 ∨ j = 3 by omega) with rfl | rfl | rfl | rfl
      · exact hV _ (List.mem_of_getElem? (i := 11) rfl)
      · exact hV _ (List.mem_of_getElem? (i := 12) rfl)
      · exact hV _ (List.mem_of_getElem? (i := 13) rfl)
      · exact hV _ (List.mem_of_getElem? (i := 14) rfl)
    · have hj2 : j < 5 := hj
      rcases (show j = 0 ∨ j = 1 ∨ j = 2 ∨ j = 3 ∨ j = 4 by omega) with rfl | rfl | rfl | rfl | rfl
      · exact hV _ (List.mem_of_getElem? (i := 19) rfl)
      · exact hV _ (List.mem_of_getElem? (i := 20) rfl)
      · exact hV _ (List.mem_of_getElem? (i := 21) rfl)
      · exact hV _ (List.mem_of_getElem? (i := 22) rfl)
      · exact hV _ (List.mem_of_getElem? (i := 23) rfl)
  · intro i j hi hj hn
    rcases lt3 hi with rfl | rfl | rfl <;> rcases lt3 hj with rfl | rfl | rfl
    · exact absurd rfl hn
    · exact Or.inl (hV _ (List.mem_of_getElem? (i := 24) rfl))
    · exact Or.inl (hV _ (List.mem_of_getElem? (i := 25) rfl))
    · exact Or.inr (hV _ (List.mem_of_getElem? (i := 24) rfl))
    · exact absurd rfl hn
    · exact Or.inl (hV _ (List.mem_of_getElem? (i := 26) rfl))
    · exact Or.inr (hV _ (List.mem_of_getElem? (i := 25) rfl))
    · exact Or.inr (hV _ (List.mem_of_getElem? (i := 26) rfl))
    · exact absurd rfl hn
theorem sta_xw (hts : ∀ w ∈ lw_tbl, w.before args s = true) : xcw s := by
  have hA : ∀ w ∈ wA9, w.before args s = true := fun w h => hts w (in_A9 w h)
  have hN : ∀ w ∈ wN9, w.before args s = true := fun w h => hts w (in_N9 w h)
  exact ⟨List.forall_mem_cons.mpr ⟨va_AO.of (hA _ (List.mem_of_getElem? (i := 4) rfl)), List.forall_mem_cons.mpr ⟨va_AO.of (hA _ (List.mem_of_getElem? (i := 5) rfl)), fun _ h => absurd h List.not_mem_nil⟩⟩, List.forall_mem_cons.mpr ⟨va_Nw.of rfl (hN _ (List.mem_of_getElem? (i := 1) rfl)), List.forall_mem_cons.mpr ⟨va_Nw.of rfl (hN _ (List.mem_of_getElem? (i := 2) rfl)), List.forall_mem_cons.mpr ⟨va_Nw.of rfl (hN _ (List.mem_of_getElem? (i := 3) rfl)), List.forall_mem_cons.mpr ⟨va_Nw.of rfl (hN _ (List.mem_of_getElem? (i := 4) rfl)), fun _ h => absurd h List.not_mem_nil⟩⟩⟩⟩⟩
theorem sta_XM (hts : ∀ w ∈ lw_tbl, w.before args s = true) (hs : ∀ w ∈ flatC (Cond.and given_1 narrow_1), w.before args s = true) : ∃ Z : ZT, XM Z (fun q => s.heap.size ≤ q) s s.heap := by
  have hA : ∀ a : Nat, a < s.heap.size → ¬ (fun q : Nat => s.heap.size ≤ q) a := fun a h => Nat.not_le.mpr h
  have hS : ∀ w ∈ wS9, w.before args s = true := fun w h => hts w (in_S9 w h)
  have hG : ∀ w ∈ wG9, w.before args s = true := fun w h => hs w (in_G9 w h)
  have hA9 : ∀ w ∈ wA9, w.before args s = true := fun w h => hts w (in_A9 w h)
  have hN : ∀ w ∈ wN9, w.before args s = true := fun w h => hts w (in_N9 w h)
  have hR : ∀ w ∈ wR9, w.before args s = true := fun w h => hts w (in_R9 w h)
  obtain ⟨t, ht, hT⟩ := va_Tof (f := fun _ => .null) (N := 0) (by decide) (hG _ (List.mem_of_getElem? (i := 2) rfl)) (va_eqt (hG _ (List.mem_of_getElem? (i := 3) rfl))) (fun j hj => absurd hj (Nat.not_lt_zero j)) hA
  obtain ⟨adK, adV, hK, hE⟩ := sta_vk hs
  obtain ⟨mi, hM⟩ := va_Mi.of (hG _ (List.mem_of_getElem? (i := 5) rfl))
  refine ⟨(t, adK, adV, mi), va_Zof (hS _ (List.mem_of_getElem? (i := 3) rfl)) (hS _ (List.mem_of_getElem? (i := 4) rfl)) ht hA, hT, va_Zof (hS _ (List.mem_of_getElem? (i := 5) rfl)) (hS _ (List.mem_of_getElem? (i := 6) rfl)) (va_eqt (hG _ (List.mem_of_getElem? (i := 4) rfl))) hA, hK, fun q hq => ?_, fun q hq => va_Nw.of rfl (hts _ (in_ca _ (List.mem_map_of_mem (f := fun q : String × String => Cond.castable q.1 q.2) hq))), List.forall_mem_cons.mpr ⟨va_Nw.of rfl (hN _ (List.mem_of_getElem? (i := 0) rfl)), fun _ h => absurd h List.not_mem_nil⟩, List.forall_mem_cons.mpr ⟨va_AO.of (hA9 _ (List.mem_of_getElem? (i := 6) rfl)), List.forall_mem_cons.mpr ⟨va_AO.of (hA9 _ (List.mem_of_getElem? (i := 7) rfl)), fun _ h => absurd h List.not_mem_nil⟩⟩, hA9 _ (List.mem_of_getElem? (i := 8) rfl), hM, va_Dc.of (hS _ (List.mem_of_getElem? (i := 7) rfl)), fun i hi => ?_, va_Nw.of rfl (hN _ (List.mem_of_getElem? (i := 5) rfl))⟩
  · exact va_Fw.of (hts _ (in_f1 _ (List.mem_map_of_mem (f := fun q : String × MethodName × MethodName => Cond.declares q.2.1) hq))) (hts _ (in_f2 _ (List.mem_map_of_mem (f := fun q : String × MethodName × MethodName => Cond.interfaceMethod q.2.1.cls q.2.1.cls q.2.1.name q.2.1.desc) hq))) (hts _ (in_f3 _ (List.mem_map_of_mem (f := fun q : String × MethodName × MethodName => Cond.publicMethod q.2.2) hq))) (hts _ (in_f4 _ (List.mem_map_of_mem (f := fun q : String × MethodName × MethodName => Cond.unhidden q.1 q.2.1.name q.2.1.desc) hq))) (hts _ (in_f5 _ (List.mem_map_of_mem (f := fun q : String × MethodName × MethodName => Cond.castable q.1 q.2.1.cls) hq)))
  · have he := hE i hi
    rcases lt3 hi with rfl | rfl | rfl
    · exact vk_R.of (hR _ (List.mem_of_getElem? (i := 0) rfl)) he
    · exact vk_R.of (hR _ (List.mem_of_getElem? (i := 1) rfl)) he
    · exact vk_R.of (hR _ (List.mem_of_getElem? (i := 2) rfl)) he
end STA
